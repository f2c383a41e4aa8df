def f_GL_within (a : Int32) (b : Int32) (d : Int32) : Int32 :=
  if a < b then
    0
  else
    if d < a then
      0
    else
      1
set_option maxRecDepth 100000 in
set_option maxHeartbeats 4000000 in
theorem c_GL_within {l : Launch} {D : va_G} {cl : List vw_C} {tys : List (ClassId × FieldType)} {n : Nat} {ad : Nat → Nat} {g : Nat → va_E} (a : Int32) (b : Int32) (d : Int32) : RI l y_GL_within (mws y_GL_within b_GL_within 3 (some .boolean)) ({ frames := 0, cells := 0, slots := 0, locals := 0 } : Room) D cl tys n ad (g) [.int a, .int b, .int d] (f_GL_within a b d) (g) := by
  refine RI_of (cc := b_GL_within) (maxL := 3) (ret := (some .boolean)) (by decide) (Nat.le_of_ble_eq_true rfl) ?_
  intro p e s m args below meth c ls C hK hP hS hl
  obtain ⟨⟨hx, hb, hml, hown, hts⟩, hr, hlocks, hN⟩ := id C
  have hown : s.vm.findClass R_GL = some m.cls := hown
  have hr : meth.sig.returnType = (some .boolean) := hr
  have hl : lv_has ls 3 [(0, .int a), (1, .int b), (2, .int d)] := hl
  refine lv_iload_n (pc := 0) hx hb d_GL_within_0 rfl (lv_at hl 0 rfl) ?_
  refine lv_iload_n (pc := 1) hx hb d_GL_within_1 rfl (lv_at hl 1 rfl) ?_
  refine lv_icmp_lt (tgt := 14) (pc := 2) hx hb d_GL_within_2 (by decide) (fun c_1 => ?_) (fun c_1 => ?_)
  · refine lv_iconst (v := 0) (pc := 14) hx hb d_GL_within_14 (by decide) ?_
    have e9 : f_GL_within a b d = 0 := by unfold f_GL_within; rw [if_pos c_1]
    exact rg_zret (pc := 15) hx hb hr hlocks rfl hP hS ⟨e9.symm, rfl⟩ d_GL_within_15
  · refine lv_iload_n (pc := 5) hx hb d_GL_within_5 rfl (lv_at hl 0 rfl) ?_
    refine lv_iload_n (pc := 6) hx hb d_GL_within_6 rfl (lv_at hl 2 rfl) ?_
    refine lv_icmp_gt (tgt := 14) (pc := 7) hx hb d_GL_within_7 (by decide) (fun c_2 => ?_) (fun c_2 => ?_)
    · refine lv_iconst (v := 0) (pc := 14) hx hb d_GL_within_14 (by decide) ?_
      have e9 : f_GL_within a b d = 0 := by unfold f_GL_within; rw [if_neg c_1, if_pos c_2]
      exact rg_zret (pc := 15) hx hb hr hlocks rfl hP hS ⟨e9.symm, rfl⟩ d_GL_within_15
    · refine lv_iconst (v := 1) (pc := 10) hx hb d_GL_within_10 (by decide) ?_
      refine lv_goto (tgt := 15) (pc := 11) hx hb d_GL_within_11 (by decide) ?_
      have e9 : f_GL_within a b d = 1 := by unfold f_GL_within; rw [if_neg c_1, if_neg c_2]
      exact rg_zret (pc := 15) hx hb hr hlocks rfl hP hS ⟨e9.symm, rfl⟩ d_GL_within_15

def f_GL_thousandths (a : Int64) (b : Int32) : Int64 :=
  (a * b.toInt64) / 1000
set_option maxRecDepth 100000 in
set_option maxHeartbeats 4000000 in
theorem c_GL_thousandths {l : Launch} {D : va_G} {cl : List vw_C} {tys : List (ClassId × FieldType)} {n : Nat} {ad : Nat → Nat} {g : Nat → va_E} (a : Int64) (b : Int32) : RL l y_GL_thousandths (mws y_GL_thousandths b_GL_thousandths 3 (some .long)) ({ frames := 0, cells := 0, slots := 0, locals := 0 } : Room) D cl tys n ad (g) [.long a, .int b] (f_GL_thousandths a b) (g) := by
  refine RL_of (cc := b_GL_thousandths) (maxL := 3) (ret := (some .long)) (by decide) (Nat.le_of_ble_eq_true rfl) ?_
  intro p e s m args below meth c ls C hK hP hS hl
  obtain ⟨⟨hx, hb, hml, hown, hts⟩, hr, hlocks, hN⟩ := id C
  have hown : s.vm.findClass R_GL = some m.cls := hown
  have hr : meth.sig.returnType = (some .long) := hr
  have hl : lv_has ls 3 [(0, .long a), (2, .int b)] := hl
  refine lv_lload_n (pc := 0) hx hb d_GL_thousandths_0 rfl (lv_at hl 0 rfl) ?_
  refine lv_iload_n (pc := 1) hx hb d_GL_thousandths_1 rfl (lv_at hl 1 rfl) ?_
  refine lv_i2l (pc := 2) hx hb d_GL_thousandths_2 rfl ?_
  refine lv_lmul (pc := 3) hx hb d_GL_thousandths_3 ?_
  refine lv_ldc2 (v := 1000) (pc := 4) hx hb hown (hts _ wd_358) d_GL_thousandths_4 ?_
  refine lv_ldiv (pc := 7) hx hb d_GL_thousandths_7 (by decide) ?_
  have e9 : f_GL_thousandths a b = (a * b.toInt64) / 1000 := rfl
  exact rg_lret (pc := 8) hx hb hr hlocks hP hS ⟨e9.symm, rfl⟩ d_GL_thousandths_8

def f_Zo_add (Z : Nat) (st : xS) (j : Nat) (a : Int64) (b : Int64) (d : Int64) : xS :=
  xp_za (xp_zf (xp_zw st j ((xs_zw st j) + a)) j ((xs_zf (xp_zw st j ((xs_zw st j) + a)) j) + b)) j ((xs_za (xp_zf (xp_zw st j ((xs_zw st j) + a)) j ((xs_zf (xp_zw st j ((xs_zw st j) + a)) j) + b)) j) + d)
set_option maxRecDepth 100000 in
set_option maxHeartbeats 4000000 in
theorem c_Zo_add {l : Launch} {D : va_G} {cA : Nat → ClassId} {Z : Nat} {ad : Nat → Nat} (hR : rD (36 + Z) ad) (hZ : 1 ≤ Z ∧ Z ≤ 6) (st : xS) (j : Nat) (hj : j < Z) (a : Int64) (b : Int64) (d : Int64) : RV l y_Zo_add (mws y_Zo_add b_Zo_add 7 none) ({ frames := 0, cells := 0, slots := 0, locals := 0 } : Room) D clG (tyX cA) (36 + Z) ad (xgx Z ad cA (st)) [.ref (ad (36 + j)), .long a, .long b, .long d] (xgx Z ad cA (f_Zo_add Z st j a b d)) := by
  refine RV_of (cc := b_Zo_add) (maxL := 7) (ret := none) (by decide) (Nat.le_of_ble_eq_true rfl) ?_
  intro p e s m args below meth c ls C hK hP hS hl
  obtain ⟨⟨hx, hb, hml, hown, hts⟩, hr, hlocks, hN⟩ := id C
  have hown : s.vm.findClass R_Zo = some m.cls := hown
  have hr : meth.sig.returnType = none := hr
  have hl : lv_has ls 7 [(0, .ref (ad (36 + j))), (1, .long a), (3, .long b), (5, .long d)] := hl
  refine lv_aload_n (pc := 0) hx hb d_Zo_add_0 rfl (lv_at hl 0 rfl) ?_
  refine lv_dup (pc := 1) hx hb d_Zo_add_1 rfl ?_
  refine rg_get (C := R_Zo) (T := T_Zo) (N := 5) (v := .long (xs_zw st j)) (pc := 2) hx hb hts i_Zo hown hK hP (36 + j) (by omega) (xgx_Zone (j := j) (by omega)) rfl 0 (by decide) (hts _ wd_120) rfl d_Zo_add_2 ?_
  refine lv_lload_n (pc := 5) hx hb d_Zo_add_5 rfl (lv_at hl 1 rfl) ?_
  refine lv_ladd (pc := 6) hx hb d_Zo_add_6 ?_
  refine rg_put (C := R_Zo) (T := T_Zo) (N := 5) (pc := 7) hx hb hts i_Zo t_Zo t_Zo_ok n_Zo hown hK hR hP hS (36 + j) (by omega) (xgx_Zone (j := j) (by omega)) rfl 0 (by decide) (hts _ wd_120) rfl rfl rfl (Nat.le_of_ble_eq_true rfl) d_Zo_add_7 (xgx_Zone_zw (j := j) (by omega) ((xs_zw st j) + a)) (fun H locs hP hS => ?_)
  refine lv_aload_n (pc := 10) hx hb d_Zo_add_10 rfl (lv_at hl 0 rfl) ?_
  refine lv_dup (pc := 11) hx hb d_Zo_add_11 rfl ?_
  refine rg_get (C := R_Zo) (T := T_Zo) (N := 5) (v := .long (xs_zf (xp_zw st j ((xs_zw st j) + a)) j)) (pc := 12) hx hb hts i_Zo hown hK hP (36 + j) (by omega) (xgx_Zone (j := j) (by omega)) rfl 1 (by decide) (hts _ wd_123) rfl d_Zo_add_12 ?_
  refine lv_lload_n (pc := 15) hx hb d_Zo_add_15 rfl (lv_at hl 2 rfl) ?_
  refine lv_ladd (pc := 16) hx hb d_Zo_add_16 ?_
  refine rg_put (C := R_Zo) (T := T_Zo) (N := 5) (pc := 17) hx hb hts i_Zo t_Zo t_Zo_ok n_Zo hown hK hR hP hS (36 + j) (by omega) (xgx_Zone (j := j) (by omega)) rfl 1 (by decide) (hts _ wd_123) rfl rfl rfl (Nat.le_of_ble_eq_true rfl) d_Zo_add_17 (xgx_Zone_zf (j := j) (by omega) ((xs_zf (xp_zw st j ((xs_zw st j) + a)) j) + b)) (fun H locs hP hS => ?_)
  refine lv_aload_n (pc := 20) hx hb d_Zo_add_20 rfl (lv_at hl 0 rfl) ?_
  refine lv_dup (pc := 21) hx hb d_Zo_add_21 rfl ?_
  refine rg_get (C := R_Zo) (T := T_Zo) (N := 5) (v := .long (xs_za (xp_zf (xp_zw st j ((xs_zw st j) + a)) j ((xs_zf (xp_zw st j ((xs_zw st j) + a)) j) + b)) j)) (pc := 22) hx hb hts i_Zo hown hK hP (36 + j) (by omega) (xgx_Zone (j := j) (by omega)) rfl 2 (by decide) (hts _ wd_126) rfl d_Zo_add_22 ?_
  refine lv_lload (pc := 25) hx hb d_Zo_add_25 (lv_at hl 3 rfl) ?_
  refine lv_ladd (pc := 27) hx hb d_Zo_add_27 ?_
  refine rg_put (C := R_Zo) (T := T_Zo) (N := 5) (pc := 28) hx hb hts i_Zo t_Zo t_Zo_ok n_Zo hown hK hR hP hS (36 + j) (by omega) (xgx_Zone (j := j) (by omega)) rfl 2 (by decide) (hts _ wd_126) rfl rfl rfl (Nat.le_of_ble_eq_true rfl) d_Zo_add_28 (xgx_Zone_za (j := j) (by omega) ((xs_za (xp_zf (xp_zw st j ((xs_zw st j) + a)) j ((xs_zf (xp_zw st j ((xs_zw st j) + a)) j) + b)) j) + d)) (fun H locs hP hS => ?_)
  have e9 : f_Zo_add Z st j a b d = xp_za (xp_zf (xp_zw st j ((xs_zw st j) + a)) j ((xs_zf (xp_zw st j ((xs_zw st j) + a)) j) + b)) j ((xs_za (xp_zf (xp_zw st j ((xs_zw st j) + a)) j ((xs_zf (xp_zw st j ((xs_zw st j) + a)) j) + b)) j) + d) := rfl
  exact rg_vret (pc := 31) hx hb hr hlocks hP hS (by rw [e9]) d_Zo_add_31

def f_Fu_spendOnDrying (Z : Nat) (st : xS) (a : Int64) : xS :=
  xp_yA (xp_he st ((xs_he st) - a)) ((xs_yA (xp_he st ((xs_he st) - a))) + a)
set_option maxRecDepth 100000 in
set_option maxHeartbeats 4000000 in
theorem c_Fu_spendOnDrying {l : Launch} {D : va_G} {cA : Nat → ClassId} {Z : Nat} {ad : Nat → Nat} (hR : rD (36 + Z) ad) (hZ : 1 ≤ Z ∧ Z ≤ 6) (st : xS) (a : Int64) : RV l y_Fu_spendOnDrying (mws y_Fu_spendOnDrying b_Fu_spendOnDrying 3 none) ({ frames := 0, cells := 0, slots := 0, locals := 0 } : Room) D clG (tyX cA) (36 + Z) ad (xgx Z ad cA (st)) [.ref (ad 3), .long a] (xgx Z ad cA (f_Fu_spendOnDrying Z st a)) := by
  refine RV_of (cc := b_Fu_spendOnDrying) (maxL := 3) (ret := none) (by decide) (Nat.le_of_ble_eq_true rfl) ?_
  intro p e s m args below meth c ls C hK hP hS hl
  obtain ⟨⟨hx, hb, hml, hown, hts⟩, hr, hlocks, hN⟩ := id C
  have hown : s.vm.findClass R_Fu = some m.cls := hown
  have hr : meth.sig.returnType = none := hr
  have hl : lv_has ls 3 [(0, .ref (ad 3)), (1, .long a)] := hl
  refine lv_aload_n (pc := 0) hx hb d_Fu_spendOnDrying_0 rfl (lv_at hl 0 rfl) ?_
  refine lv_dup (pc := 1) hx hb d_Fu_spendOnDrying_1 rfl ?_
  refine rg_get (C := R_Fu) (T := T_Fu) (N := 11) (v := .long (xs_he st)) (pc := 2) hx hb hts i_Fu hown hK hP 3 (by omega) xgx_furn rfl 0 (by decide) (hts _ wd_29) rfl d_Fu_spendOnDrying_2 ?_
  refine lv_lload_n (pc := 5) hx hb d_Fu_spendOnDrying_5 rfl (lv_at hl 1 rfl) ?_
  refine lv_lsub (pc := 6) hx hb d_Fu_spendOnDrying_6 ?_
  refine rg_put (C := R_Fu) (T := T_Fu) (N := 11) (pc := 7) hx hb hts i_Fu t_Fu t_Fu_ok n_Fu hown hK hR hP hS 3 (by omega) xgx_furn rfl 0 (by decide) (hts _ wd_29) rfl rfl rfl (Nat.le_of_ble_eq_true rfl) d_Fu_spendOnDrying_7 (xgx_furn_he ((xs_he st) - a)) (fun H locs hP hS => ?_)
  refine lv_aload_n (pc := 10) hx hb d_Fu_spendOnDrying_10 rfl (lv_at hl 0 rfl) ?_
  refine lv_dup (pc := 11) hx hb d_Fu_spendOnDrying_11 rfl ?_
  refine rg_get (C := R_Fu) (T := T_Fu) (N := 11) (v := .long (xs_yA (xp_he st ((xs_he st) - a)))) (pc := 12) hx hb hts i_Fu hown hK hP 3 (by omega) xgx_furn rfl 10 (by decide) (hts _ wd_47) rfl d_Fu_spendOnDrying_12 ?_
  refine lv_lload_n (pc := 15) hx hb d_Fu_spendOnDrying_15 rfl (lv_at hl 1 rfl) ?_
  refine lv_ladd (pc := 16) hx hb d_Fu_spendOnDrying_16 ?_
  refine rg_put (C := R_Fu) (T := T_Fu) (N := 11) (pc := 17) hx hb hts i_Fu t_Fu t_Fu_ok n_Fu hown hK hR hP hS 3 (by omega) xgx_furn rfl 10 (by decide) (hts _ wd_47) rfl rfl rfl (Nat.le_of_ble_eq_true rfl) d_Fu_spendOnDrying_17 (xgx_furn_yA ((xs_yA (xp_he st ((xs_he st) - a))) + a)) (fun H locs hP hS => ?_)
  have e9 : f_Fu_spendOnDrying Z st a = xp_yA (xp_he st ((xs_he st) - a)) ((xs_yA (xp_he st ((xs_he st) - a))) + a) := rfl
  exact rg_vret (pc := 20) hx hb hr hlocks hP hS (by rw [e9]) d_Fu_spendOnDrying_20

def f_Zo_dry (Z : Nat) (st : xS) (j : Nat) : Int64 × xS :=
  ((if ((xs_he st) / 2500) < (f_GL_thousandths (xs_zw st j) (xs_zd st j)) then ((xs_he st) / 2500) else (f_GL_thousandths (xs_zw st j) (xs_zd st j))), f_Fu_spendOnDrying Z (xp_zw st j ((xs_zw st j) - (if ((xs_he st) / 2500) < (f_GL_thousandths (xs_zw st j) (xs_zd st j)) then ((xs_he st) / 2500) else (f_GL_thousandths (xs_zw st j) (xs_zd st j))))) ((if ((xs_he st) / 2500) < (f_GL_thousandths (xs_zw st j) (xs_zd st j)) then ((xs_he st) / 2500) else (f_GL_thousandths (xs_zw st j) (xs_zd st j))) * 2500))
set_option maxRecDepth 100000 in
set_option maxHeartbeats 4000000 in
theorem c_Zo_dry {l : Launch} {D : va_G} {cA : Nat → ClassId} {Z : Nat} {ad : Nat → Nat} (hR : rD (36 + Z) ad) (hZ : 1 ≤ Z ∧ Z ≤ 6) (st : xS) (j : Nat) (hj : j < Z) : RL l y_Zo_dry (mws y_Zo_dry b_Zo_dry 4 (some .long)) ({ frames := 1, cells := 0, slots := 0, locals := 23 } : Room) D clG (tyX cA) (36 + Z) ad (xgx Z ad cA (st)) [.ref (ad (36 + j)), .ref (ad 3)] (f_Zo_dry Z st j).1 (xgx Z ad cA ((f_Zo_dry Z st j).2)) := by
  refine RL_of (cc := b_Zo_dry) (maxL := 4) (ret := (some .long)) (by decide) (Nat.le_of_ble_eq_true rfl) ?_
  intro p e s m args below meth c ls C hK hP hS hl
  obtain ⟨⟨hx, hb, hml, hown, hts⟩, hr, hlocks, hN⟩ := id C
  have hown : s.vm.findClass R_Zo = some m.cls := hown
  have hr : meth.sig.returnType = (some .long) := hr
  have hl : lv_has ls 4 [(0, .ref (ad (36 + j))), (1, .ref (ad 3))] := hl
  refine lv_aload_n (pc := 0) hx hb d_Zo_dry_0 rfl (lv_at hl 0 rfl) ?_
  refine rg_get (C := R_Zo) (T := T_Zo) (N := 5) (v := .long (xs_zw st j)) (pc := 1) hx hb hts i_Zo hown hK hP (36 + j) (by omega) (xgx_Zone (j := j) (by omega)) rfl 0 (by decide) (hts _ wd_120) rfl d_Zo_dry_1 ?_
  refine lv_aload_n (pc := 4) hx hb d_Zo_dry_4 rfl (lv_at hl 0 rfl) ?_
  refine rg_get (C := R_Zo) (T := T_Zo) (N := 5) (v := .int (xs_zd st j)) (pc := 5) hx hb hts i_Zo hown hK hP (36 + j) (by omega) (xgx_Zone (j := j) (by omega)) rfl 4 (by decide) (hts _ wd_132) rfl d_Zo_dry_5 ?_
  refine rg_cl (pc := 8) (va_runSN (As := [.long (xs_zw st j), .int (xs_zd st j)]) (rest := []) ⟨hx, hb, hml, hown, hts⟩ (c_GL_thousandths (l := l) (xs_zw st j) (xs_zd st j) _) ⟨va_cnB 2 hts (gd_c wd_357) rfl rfl rfl (wn_Zo_28 hN) (hts _ wd_1) hd_GL_thousandths ⟨Nat.le_of_ble_eq_true rfl, Nat.le_of_ble_eq_true rfl⟩, hts _ wd_356, trivial⟩ ⟨rPc_blind _ _ _ _ _ _ _ _, rPc_at _ hP hK hN⟩ rfl rfl hl.1 rfl (lv_room (Nat.le_of_ble_eq_true rfl)) d_Zo_dry_8 ⟨Nat.zero_le _, Nat.zero_le _⟩) hS (fun H locs hP hS => ?_)
  refine lv_aload_n (pc := 11) hx hb d_Zo_dry_11 rfl (lv_at hl 1 rfl) ?_
  refine rg_get (C := R_Fu) (T := T_Fu) (N := 11) (v := .long (xs_he st)) (pc := 12) hx hb hts i_Fu hown hK hP 3 (by omega) xgx_furn rfl 0 (by decide) (hts _ wd_30) rfl d_Zo_dry_12 ?_
  refine lv_ldc2 (v := 2500) (pc := 15) hx hb hown (hts _ wd_378) d_Zo_dry_15 ?_
  refine lv_ldiv (pc := 18) hx hb d_Zo_dry_18 (by decide) ?_
  refine va_mmin_long (pc := 19) hx hb (hml.trans hl.1.symm) hown (hts _ wd_379) (hts _ wd_380) (hts _ wd_10) (hts _ wd_381) (Nat.le_of_ble_eq_true rfl) (Nat.le_of_ble_eq_true rfl) (Nat.zero_le _) (Nat.zero_le _) d_Zo_dry_19 ?_
  refine lv_lstore_n (lv' := [(2, .long ((if ((xs_he st) / 2500) < (f_GL_thousandths (xs_zw st j) (xs_zd st j)) then ((xs_he st) / 2500) else (f_GL_thousandths (xs_zw st j) (xs_zd st j))))), (0, .ref (ad (36 + j))), (1, .ref (ad 3))]) (pc := 22) hx hb d_Zo_dry_22 rfl hl (by decide) rfl (fun ls hl => ?_)
  refine lv_aload_n (pc := 23) hx hb d_Zo_dry_23 rfl (lv_at hl 1 rfl) ?_
  refine lv_dup (pc := 24) hx hb d_Zo_dry_24 rfl ?_
  refine rg_get (C := R_Zo) (T := T_Zo) (N := 5) (v := .long (xs_zw st j)) (pc := 25) hx hb hts i_Zo hown hK hP (36 + j) (by omega) (xgx_Zone (j := j) (by omega)) rfl 0 (by decide) (hts _ wd_120) rfl d_Zo_dry_25 ?_
  refine lv_lload_n (pc := 28) hx hb d_Zo_dry_28 rfl (lv_at hl 0 rfl) ?_
  refine lv_lsub (pc := 29) hx hb d_Zo_dry_29 ?_
  refine rg_put (C := R_Zo) (T := T_Zo) (N := 5) (pc := 30) hx hb hts i_Zo t_Zo t_Zo_ok n_Zo hown hK hR hP hS (36 + j) (by omega) (xgx_Zone (j := j) (by omega)) rfl 0 (by decide) (hts _ wd_120) rfl rfl rfl (Nat.le_of_ble_eq_true rfl) d_Zo_dry_30 (xgx_Zone_zw (j := j) (by omega) ((xs_zw st j) - (if ((xs_he st) / 2500) < (f_GL_thousandths (xs_zw st j) (xs_zd st j)) then ((xs_he st) / 2500) else (f_GL_thousandths (xs_zw st j) (xs_zd st j))))) (fun H locs hP hS => ?_)
  refine lv_aload_n (pc := 33) hx hb d_Zo_dry_33 rfl (lv_at hl 2 rfl) ?_
  refine lv_lload_n (pc := 34) hx hb d_Zo_dry_34 rfl (lv_at hl 0 rfl) ?_
  refine lv_ldc2 (v := 2500) (pc := 35) hx hb hown (hts _ wd_378) d_Zo_dry_35 ?_
  refine lv_lmul (pc := 38) hx hb d_Zo_dry_38 ?_
  refine rg_cv (pc := 39) (va_runV (As := [.long ((if ((xs_he st) / 2500) < (f_GL_thousandths (xs_zw st j) (xs_zd st j)) then ((xs_he st) / 2500) else (f_GL_thousandths (xs_zw st j) (xs_zd st j))) * 2500)]) (rest := []) ⟨hx, hb, hml, hown, hts⟩ (c_Fu_spendOnDrying (l := l) hR hZ (xp_zw st j ((xs_zw st j) - (if ((xs_he st) / 2500) < (f_GL_thousandths (xs_zw st j) (xs_zd st j)) then ((xs_he st) / 2500) else (f_GL_thousandths (xs_zw st j) (xs_zd st j))))) ((if ((xs_he st) / 2500) < (f_GL_thousandths (xs_zw st j) (xs_zd st j)) then ((xs_he st) / 2500) else (f_GL_thousandths (xs_zw st j) (xs_zd st j))) * 2500) _) ⟨callB_of 1 hts (gd_c wd_385) rfl rfl rfl (hts _ wd_2) (hts _ wd_382) hd_Fu_spendOnDrying ⟨Nat.le_of_ble_eq_true rfl, Nat.le_of_ble_eq_true rfl⟩, hts _ wd_383, hts _ wd_384⟩ ⟨rPc_blind _ _ _ _ _ _ _ _, rg_rec hK hP 3 (by omega) xgx_furn rfl, rPc_at _ hP hK hN⟩ rfl rfl hl.1 rfl (lv_room (Nat.le_of_ble_eq_true rfl)) d_Zo_dry_39 ⟨Nat.zero_le _, Nat.zero_le _⟩) hS (fun H locs hP hS => ?_)
  refine lv_lload_n (pc := 42) hx hb d_Zo_dry_42 rfl (lv_at hl 0 rfl) ?_
  have e9 : f_Zo_dry Z st j = ((if ((xs_he st) / 2500) < (f_GL_thousandths (xs_zw st j) (xs_zd st j)) then ((xs_he st) / 2500) else (f_GL_thousandths (xs_zw st j) (xs_zd st j))), f_Fu_spendOnDrying Z (xp_zw st j ((xs_zw st j) - (if ((xs_he st) / 2500) < (f_GL_thousandths (xs_zw st j) (xs_zd st j)) then ((xs_he st) / 2500) else (f_GL_thousandths (xs_zw st j) (xs_zd st j))))) ((if ((xs_he st) / 2500) < (f_GL_thousandths (xs_zw st j) (xs_zd st j)) then ((xs_he st) / 2500) else (f_GL_thousandths (xs_zw st j) (xs_zd st j))) * 2500)) := rfl
  exact rg_lret (pc := 43) hx hb hr hlocks hP hS ⟨by rw [e9], by rw [e9]⟩ d_Zo_dry_43
