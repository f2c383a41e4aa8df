def lp_feed (Z : Nat) : Nat → Nat → xS → xS
  | 0, _, st => st
  | n + 1, j, st =>
    lp_feed Z n (j + 1) (xp_kg (f_Zo_add Z st 0 (f_GL_thousandths (xs_kg st j) (xs_kw st j)) (((xs_kg st j) - (f_GL_thousandths (xs_kg st j) (xs_kw st j))) - (f_GL_thousandths (xs_kg st j) (xs_ka st j))) (f_GL_thousandths (xs_kg st j) (xs_ka st j))) j 0)
set_option maxRecDepth 100000 in
set_option maxHeartbeats 4000000 in
theorem lp_feed_ok {p : Program} {l : Launch} {e : Env} {s : State} {m : MethodId} {args : Array Value} {below : List Frame} {meth : Method} {c : Code} {D : va_G} {cA : Nat → ClassId} {Z : Nat} {ad : Nat → Nat} {Q : State → Prop} (hR : rD (36 + Z) ad) (hZ : 1 ≤ Z ∧ Z ≤ 6) (C : Cx p s m args meth c b_GL_feedGrate 9 R_GL none) (hK : va_K D clG (tyX cA) s) : ∀ (n : Nat) (j : Nat) (st : xS) (H : Heap) (locs : List Loc) (ls : Array Slot), j + n = 4 → va_P D clG (pw (36 + Z) ad (xgx Z ad cA (st))) H → va_S (rA (36 + Z) ad s.heap.size) s.heap H locs → lv_has ls 9 [(0, .ref (ad 0)), (1, .ref (ad 1)), (2, .int (nI 4)), (3, .int (nI j))] → (∀ (H : Heap) (locs : List Loc) (ls : Array Slot), va_P D clG (pw (36 + Z) ad (xgx Z ad cA ((lp_feed Z n j st)))) H → va_S (rA (36 + Z) ad s.heap.size) s.heap H locs → lv_has ls 9 [(0, .ref (ad 0)), (1, .ref (ad 1)), (2, .int (nI 4)), (3, .int (nI 4))] → W p l e ({ frames := 1, cells := 0, slots := 0, locals := 26 } : Room) s m args below meth c H locs 0 0 Q (F0 m 89 ls [])) → W p l e ({ frames := 1, cells := 0, slots := 0, locals := 26 } : Room) s m args below meth c H locs 0 0 Q (F0 m 10 ls []) := by
  obtain ⟨⟨hx, hb, hml, hown, hts⟩, hr, hlocks, hN⟩ := id C
  have hown : s.vm.findClass R_GL = some m.cls := hown
  have hr : meth.sig.returnType = none := hr
  intro n
  induction n with
  | zero =>
    intro j st H locs ls hn hP hS hl hk
    have hj9 : j = 4 := by omega
    refine lv_iload_n (pc := 10) hx hb d_GL_feedGrate_10 rfl (lv_at hl 3 rfl) ?_
    refine lv_iload_n (pc := 11) hx hb d_GL_feedGrate_11 rfl (lv_at hl 2 rfl) ?_
    refine lv_icmp_ge (tgt := 89) (pc := 12) hx hb d_GL_feedGrate_12 (by decide) (fun c_1 => ?_) (fun c_1 => absurd (by rw [hj9]; exact Int32.le_refl _) c_1)
    exact hk H locs ls hP hS (by rw [hj9] at hl; exact lv_sub hl [0, 1, 2, 3] rfl)
  | succ n ih =>
    intro j st H locs ls hn hP hS hl hk
    refine lv_iload_n (pc := 10) hx hb d_GL_feedGrate_10 rfl (lv_at hl 3 rfl) ?_
    refine lv_iload_n (pc := 11) hx hb d_GL_feedGrate_11 rfl (lv_at hl 2 rfl) ?_
    refine lv_icmp_ge (tgt := 89) (pc := 12) hx hb d_GL_feedGrate_12 (by decide) (fun c_1 => absurd c_1 (nI_ge (b := 4) (by omega) (by omega))) (fun c_1 => ?_)
    refine lv_aload_n (pc := 15) hx hb d_GL_feedGrate_15 rfl (lv_at hl 1 rfl) ?_
    refine lv_iload_n (pc := 16) hx hb d_GL_feedGrate_16 rfl (lv_at hl 3 rfl) ?_
    refine rg_aldq (pc := 17) hx hb hK hP 1 (by omega) 1 xgx_kindsA rfl j (by omega) (by omega) rfl rfl d_GL_feedGrate_17 ?_
    refine lv_astore (lv' := [(4, .ref (ad (12 + j))), (0, .ref (ad 0)), (1, .ref (ad 1)), (2, .int (nI 4)), (3, .int (nI j))]) (pc := 18) hx hb d_GL_feedGrate_18 hl (by decide) rfl (fun ls hl => ?_)
    refine lv_aload (pc := 20) hx hb d_GL_feedGrate_20 (lv_at hl 0 rfl) ?_
    refine rg_get (C := R_Ki) (T := T_Ki) (N := 3) (v := .long (xs_kg st j)) (pc := 22) hx hb hts i_Ki hown hK hP (12 + j) (by omega) (xgx_Kind (j := j) (by omega)) rfl 2 (by decide) (hts _ wd_193) rfl d_GL_feedGrate_22 ?_
    refine lv_aload (pc := 25) hx hb d_GL_feedGrate_25 (lv_at hl 0 rfl) ?_
    refine rg_get (C := R_Ki) (T := T_Ki) (N := 3) (v := .int (xs_kw st j)) (pc := 27) hx hb hts i_Ki hown hK hP (12 + j) (by omega) (xgx_Kind (j := j) (by omega)) rfl 0 (by decide) (hts _ wd_188) rfl d_GL_feedGrate_27 ?_
    refine rg_cl (pc := 30) (va_runS (As := [.long (xs_kg st j), .int (xs_kw st j)]) (rest := []) ⟨hx, hb, hml, hown, hts⟩ (c_GL_thousandths (l := l) (xs_kg st j) (xs_kw st j) _) ⟨callB_of 2 hts (gd_c wd_357) rfl rfl rfl (hts _ wd_1) (hts _ wd_367) hd_GL_thousandths ⟨Nat.le_of_ble_eq_true rfl, Nat.le_of_ble_eq_true rfl⟩, hts _ wd_356⟩ ⟨rPc_blind _ _ _ _ _ _ _ _, rPc_at _ hP hK hN⟩ rfl rfl hl.1 rfl (lv_room (Nat.le_of_ble_eq_true rfl)) d_GL_feedGrate_30 ⟨Nat.zero_le _, Nat.zero_le _⟩) hS (fun H locs hP hS => ?_)
    refine lv_lstore (lv' := [(5, .long (f_GL_thousandths (xs_kg st j) (xs_kw st j))), (4, .ref (ad (12 + j))), (0, .ref (ad 0)), (1, .ref (ad 1)), (2, .int (nI 4)), (3, .int (nI j))]) (pc := 33) hx hb d_GL_feedGrate_33 hl (by decide) rfl (fun ls hl => ?_)
    refine lv_aload (pc := 35) hx hb d_GL_feedGrate_35 (lv_at hl 1 rfl) ?_
    refine rg_get (C := R_Ki) (T := T_Ki) (N := 3) (v := .long (xs_kg st j)) (pc := 37) hx hb hts i_Ki hown hK hP (12 + j) (by omega) (xgx_Kind (j := j) (by omega)) rfl 2 (by decide) (hts _ wd_193) rfl d_GL_feedGrate_37 ?_
    refine lv_aload (pc := 40) hx hb d_GL_feedGrate_40 (lv_at hl 1 rfl) ?_
    refine rg_get (C := R_Ki) (T := T_Ki) (N := 3) (v := .int (xs_ka st j)) (pc := 42) hx hb hts i_Ki hown hK hP (12 + j) (by omega) (xgx_Kind (j := j) (by omega)) rfl 1 (by decide) (hts _ wd_190) rfl d_GL_feedGrate_42 ?_
    refine rg_cl (pc := 45) (va_runS (As := [.long (xs_kg st j), .int (xs_ka st j)]) (rest := []) ⟨hx, hb, hml, hown, hts⟩ (c_GL_thousandths (l := l) (xs_kg st j) (xs_ka st j) _) ⟨callB_of 2 hts (gd_c wd_357) rfl rfl rfl (hts _ wd_1) (hts _ wd_367) hd_GL_thousandths ⟨Nat.le_of_ble_eq_true rfl, Nat.le_of_ble_eq_true rfl⟩, hts _ wd_356⟩ ⟨rPc_blind _ _ _ _ _ _ _ _, rPc_at _ hP hK hN⟩ rfl rfl hl.1 rfl (lv_room (Nat.le_of_ble_eq_true rfl)) d_GL_feedGrate_45 ⟨Nat.zero_le _, Nat.zero_le _⟩) hS (fun H locs hP hS => ?_)
    refine lv_lstore (lv' := [(7, .long (f_GL_thousandths (xs_kg st j) (xs_ka st j))), (5, .long (f_GL_thousandths (xs_kg st j) (xs_kw st j))), (4, .ref (ad (12 + j))), (0, .ref (ad 0)), (1, .ref (ad 1)), (2, .int (nI 4)), (3, .int (nI j))]) (pc := 48) hx hb d_GL_feedGrate_48 hl (by decide) rfl (fun ls hl => ?_)
    refine lv_aload_n (pc := 50) hx hb d_GL_feedGrate_50 rfl (lv_at hl 3 rfl) ?_
    refine rg_get (C := R_GL) (T := T_GL) (N := 9) (v := .ref (ad 10)) (pc := 51) hx hb hts i_GL hown hK hP 0 (by omega) xgx_X rfl 2 (by decide) (hts _ wd_240) rfl d_GL_feedGrate_51 ?_
    refine rg_get (C := R_Gr) (T := T_Gr) (N := 9) (v := .ref (ad 11)) (pc := 54) hx hb hts i_Gr hown hK hP 10 (by omega) xgx_grate rfl 0 (by decide) (hts _ wd_146) rfl d_GL_feedGrate_54 ?_
    refine lv_iconst (v := 0) (pc := 57) hx hb d_GL_feedGrate_57 (by decide) ?_
    refine rg_aldq (pc := 58) hx hb hK hP 11 (by omega) 3 xgx_zonesA rfl 0 (by omega) (by omega) rfl rfl d_GL_feedGrate_58 ?_
    refine lv_lload (pc := 59) hx hb d_GL_feedGrate_59 (lv_at hl 1 rfl) ?_
    refine lv_aload (pc := 61) hx hb d_GL_feedGrate_61 (lv_at hl 2 rfl) ?_
    refine rg_get (C := R_Ki) (T := T_Ki) (N := 3) (v := .long (xs_kg st j)) (pc := 63) hx hb hts i_Ki hown hK hP (12 + j) (by omega) (xgx_Kind (j := j) (by omega)) rfl 2 (by decide) (hts _ wd_193) rfl d_GL_feedGrate_63 ?_
    refine lv_lload (pc := 66) hx hb d_GL_feedGrate_66 (lv_at hl 1 rfl) ?_
    refine lv_lsub (pc := 68) hx hb d_GL_feedGrate_68 ?_
    refine lv_lload (pc := 69) hx hb d_GL_feedGrate_69 (lv_at hl 0 rfl) ?_
    refine lv_lsub (pc := 71) hx hb d_GL_feedGrate_71 ?_
    refine lv_lload (pc := 72) hx hb d_GL_feedGrate_72 (lv_at hl 0 rfl) ?_
    refine rg_cv (pc := 74) (va_runV (As := [.long (f_GL_thousandths (xs_kg st j) (xs_kw st j)), .long (((xs_kg st j) - (f_GL_thousandths (xs_kg st j) (xs_kw st j))) - (f_GL_thousandths (xs_kg st j) (xs_ka st j))), .long (f_GL_thousandths (xs_kg st j) (xs_ka st j))]) (rest := []) ⟨hx, hb, hml, hown, hts⟩ (c_Zo_add (l := l) hR hZ st 0 (by omega) (f_GL_thousandths (xs_kg st j) (xs_kw st j)) (((xs_kg st j) - (f_GL_thousandths (xs_kg st j) (xs_kw st j))) - (f_GL_thousandths (xs_kg st j) (xs_ka st j))) (f_GL_thousandths (xs_kg st j) (xs_ka st j)) _) ⟨callB_of 3 hts (gd_c wd_362) rfl rfl rfl (hts _ wd_5) (hts _ wd_368) hd_Zo_add ⟨Nat.le_of_ble_eq_true rfl, Nat.le_of_ble_eq_true rfl⟩, hts _ wd_360, hts _ wd_361⟩ ⟨rPc_blind _ _ _ _ _ _ _ _, rg_rec hK hP (36 + 0) (by omega) (xgx_Zone (j := 0) (by omega)) rfl, rPc_at _ hP hK hN⟩ rfl rfl hl.1 rfl (lv_room (Nat.le_of_ble_eq_true rfl)) d_GL_feedGrate_74 ⟨Nat.zero_le _, Nat.zero_le _⟩) hS (fun H locs hP hS => ?_)
    refine lv_aload (pc := 77) hx hb d_GL_feedGrate_77 (lv_at hl 2 rfl) ?_
    refine lv_lconst (v := 0) (pc := 79) hx hb d_GL_feedGrate_79 (by decide) ?_
    refine rg_put (C := R_Ki) (T := T_Ki) (N := 3) (pc := 80) hx hb hts i_Ki t_Ki t_Ki_ok n_Ki hown hK hR hP hS (12 + j) (by omega) (xgx_Kind (j := j) (by omega)) rfl 2 (by decide) (hts _ wd_193) rfl rfl rfl (Nat.le_of_ble_eq_true rfl) d_GL_feedGrate_80 (xgx_Kind_kg (j := j) (by omega) 0) (fun H locs hP hS => ?_)
    refine lv_iinc (v := nI (j + 1)) (lv' := [(3, .int (nI (j + 1))), (7, .long (f_GL_thousandths (xs_kg st j) (xs_ka st j))), (5, .long (f_GL_thousandths (xs_kg st j) (xs_kw st j))), (4, .ref (ad (12 + j))), (0, .ref (ad 0)), (1, .ref (ad 1)), (2, .int (nI 4))]) (pc := 83) hx hb d_GL_feedGrate_83 hl (k := 6) rfl (nI_1 _) (by decide) rfl (fun ls hl => ?_)
    refine lv_goto (tgt := 10) (pc := 86) hx hb d_GL_feedGrate_86 (by decide) ?_
    have hk9 := hk
    unfold lp_feed at hk9
    exact ih (j + 1) (xp_kg (f_Zo_add Z st 0 (f_GL_thousandths (xs_kg st j) (xs_kw st j)) (((xs_kg st j) - (f_GL_thousandths (xs_kg st j) (xs_kw st j))) - (f_GL_thousandths (xs_kg st j) (xs_ka st j))) (f_GL_thousandths (xs_kg st j) (xs_ka st j))) j 0) _ _ ls (by omega) hP hS (lv_sub hl [4, 5, 6, 0] rfl) hk9
def f_GL_feedGrate (Z : Nat) (st : xS) : xS :=
  (lp_feed Z 4 0 st)
set_option maxRecDepth 100000 in
set_option maxHeartbeats 4000000 in
theorem c_GL_feedGrate {l : Launch} {D : va_G} {cA : Nat → ClassId} {Z : Nat} {ad : Nat → Nat} (hR : rD (36 + Z) ad) (hZ : 1 ≤ Z ∧ Z ≤ 6) (st : xS) : RV l y_GL_feedGrate (mws y_GL_feedGrate b_GL_feedGrate 9 none) ({ frames := 1, cells := 0, slots := 0, locals := 26 } : Room) D clG (tyX cA) (36 + Z) ad (xgx Z ad cA (st)) [.ref (ad 0)] (xgx Z ad cA (f_GL_feedGrate Z st)) := by
  refine RV_of (cc := b_GL_feedGrate) (maxL := 9) (ret := none) (by decide) (Nat.le_of_ble_eq_true rfl) ?_
  intro p e s m args below meth c ls C hK hP hS hl
  obtain ⟨⟨hx, hb, hml, hown, hts⟩, hr, hlocks, hN⟩ := id C
  have hown : s.vm.findClass R_GL = some m.cls := hown
  have hr : meth.sig.returnType = none := hr
  have hl : lv_has ls 9 [(0, .ref (ad 0))] := hl
  refine lv_aload_n (pc := 0) hx hb d_GL_feedGrate_0 rfl (lv_at hl 0 rfl) ?_
  refine rg_get (C := R_GL) (T := T_GL) (N := 9) (v := .ref (ad 1)) (pc := 1) hx hb hts i_GL hown hK hP 0 (by omega) xgx_X rfl 0 (by decide) (hts _ wd_238) rfl d_GL_feedGrate_1 ?_
  refine lv_astore_n (lv' := [(1, .ref (ad 1)), (0, .ref (ad 0))]) (pc := 4) hx hb d_GL_feedGrate_4 rfl hl (by decide) rfl (fun ls hl => ?_)
  refine lv_aload_n (pc := 5) hx hb d_GL_feedGrate_5 rfl (lv_at hl 0 rfl) ?_
  refine rg_alen (v := nI 4) (pc := 6) hx hb hK hP 1 (by omega) 1 xgx_kindsA rfl rfl d_GL_feedGrate_6 ?_
  refine lv_istore_n (lv' := [(2, .int (nI 4)), (1, .ref (ad 1)), (0, .ref (ad 0))]) (pc := 7) hx hb d_GL_feedGrate_7 rfl hl (by decide) rfl (fun ls hl => ?_)
  refine lv_iconst (v := 0) (pc := 8) hx hb d_GL_feedGrate_8 (by decide) ?_
  refine lv_istore_n (lv' := [(3, .int 0), (2, .int (nI 4)), (1, .ref (ad 1)), (0, .ref (ad 0))]) (pc := 9) hx hb d_GL_feedGrate_9 rfl hl (by decide) rfl (fun ls hl => ?_)
  refine lp_feed_ok hR hZ C hK 4 0 st _ _ ls (by omega) hP hS (lv_sub hl [3, 2, 1, 0] rfl) (fun H locs ls hP hS hl => ?_)
  have e9 : f_GL_feedGrate Z st = (lp_feed Z 4 0 st) := rfl
  exact rg_vret (pc := 89) hx hb hr hlocks hP hS (by rw [e9]) d_GL_feedGrate_89

def f_GL_obeyControllers (Z : Nat) (st : xS) : xS :=
  if (b2i (xs_ct st 0)) = 0 then
    if (b2i (xs_ct st 1)) = 0 then
      st
    else
      xp_mv (f_Ct_look Z st 1 (xs_ox st)) (if 1000 < (xs_co (f_Ct_look Z st 1 (xs_ox st)) 1) then 1000 else (xs_co (f_Ct_look Z st 1 (xs_ox st)) 1))
  else
    if (b2i (xs_ct (f_Gr_blow Z (f_Ct_look Z st 0 (xs_sm st)) (xs_co (f_Ct_look Z st 0 (xs_sm st)) 0)) 1)) = 0 then
      f_Gr_blow Z (f_Ct_look Z st 0 (xs_sm st)) (xs_co (f_Ct_look Z st 0 (xs_sm st)) 0)
    else
      xp_mv (f_Ct_look Z (f_Gr_blow Z (f_Ct_look Z st 0 (xs_sm st)) (xs_co (f_Ct_look Z st 0 (xs_sm st)) 0)) 1 (xs_ox (f_Gr_blow Z (f_Ct_look Z st 0 (xs_sm st)) (xs_co (f_Ct_look Z st 0 (xs_sm st)) 0)))) (if 1000 < (xs_co (f_Ct_look Z (f_Gr_blow Z (f_Ct_look Z st 0 (xs_sm st)) (xs_co (f_Ct_look Z st 0 (xs_sm st)) 0)) 1 (xs_ox (f_Gr_blow Z (f_Ct_look Z st 0 (xs_sm st)) (xs_co (f_Ct_look Z st 0 (xs_sm st)) 0)))) 1) then 1000 else (xs_co (f_Ct_look Z (f_Gr_blow Z (f_Ct_look Z st 0 (xs_sm st)) (xs_co (f_Ct_look Z st 0 (xs_sm st)) 0)) 1 (xs_ox (f_Gr_blow Z (f_Ct_look Z st 0 (xs_sm st)) (xs_co (f_Ct_look Z st 0 (xs_sm st)) 0)))) 1))
set_option maxRecDepth 100000 in
set_option maxHeartbeats 4000000 in
theorem c_GL_obeyControllers {l : Launch} {D : va_G} {cA : Nat → ClassId} {Z : Nat} {ad : Nat → Nat} (hR : rD (36 + Z) ad) (hZ : 1 ≤ Z ∧ Z ≤ 6) (st : xS) : RV l y_GL_obeyControllers (mws y_GL_obeyControllers b_GL_obeyControllers 3 none) ({ frames := 3, cells := 0, slots := 0, locals := 72 } : Room) D clG (tyX cA) (36 + Z) ad (xgx Z ad cA (st)) [.ref (ad 0)] (xgx Z ad cA (f_GL_obeyControllers Z st)) := by
  refine RV_of (cc := b_GL_obeyControllers) (maxL := 3) (ret := none) (by decide) (Nat.le_of_ble_eq_true rfl) ?_
  intro p e s m args below meth c ls C hK hP hS hl
  obtain ⟨⟨hx, hb, hml, hown, hts⟩, hr, hlocks, hN⟩ := id C
  have hown : s.vm.findClass R_GL = some m.cls := hown
  have hr : meth.sig.returnType = none := hr
  have hl : lv_has ls 3 [(0, .ref (ad 0))] := hl
  refine lv_aload_n (pc := 0) hx hb d_GL_obeyControllers_0 rfl (lv_at hl 0 rfl) ?_
  refine rg_get (C := R_GL) (T := T_GL) (N := 9) (v := .ref (ad 4)) (pc := 1) hx hb hts i_GL hown hK hP 0 (by omega) xgx_X rfl 4 (by decide) (hts _ wd_242) rfl d_GL_obeyControllers_1 ?_
  refine lv_iconst (v := 0) (pc := 4) hx hb d_GL_obeyControllers_4 (by decide) ?_
  refine rg_aldq (pc := 5) hx hb hK hP 4 (by omega) 4 xgx_ctrlA rfl 0 (by omega) (by omega) rfl rfl d_GL_obeyControllers_5 ?_
  refine lv_astore_n (lv' := [(1, .ref (ad (28 + 0))), (0, .ref (ad 0))]) (pc := 6) hx hb d_GL_obeyControllers_6 rfl hl (by decide) rfl (fun ls hl => ?_)
  refine lv_aload_n (pc := 7) hx hb d_GL_obeyControllers_7 rfl (lv_at hl 0 rfl) ?_
  refine rg_get (C := R_Ct) (T := T_Ct) (N := 6) (v := .int (b2i (xs_ct st 0))) (pc := 8) hx hb hts i_Ct hown hK hP (28 + 0) (by omega) (xgx_Ctrl (j := 0) (by omega)) rfl 0 (by decide) (hts _ wd_218) rfl d_GL_obeyControllers_8 ?_
  refine lv_if_eq (tgt := 36) (pc := 11) hx hb d_GL_obeyControllers_11 (by decide) (fun c_1 => ?_) (fun c_1 => ?_)
  · refine lv_aload_n (pc := 36) hx hb d_GL_obeyControllers_36 rfl (lv_at hl 1 rfl) ?_
    refine rg_get (C := R_GL) (T := T_GL) (N := 9) (v := .ref (ad 4)) (pc := 37) hx hb hts i_GL hown hK hP 0 (by omega) xgx_X rfl 4 (by decide) (hts _ wd_242) rfl d_GL_obeyControllers_37 ?_
    refine lv_iconst (v := 1) (pc := 40) hx hb d_GL_obeyControllers_40 (by decide) ?_
    refine rg_aldq (pc := 41) hx hb hK hP 4 (by omega) 4 xgx_ctrlA rfl 1 (by omega) (by omega) rfl rfl d_GL_obeyControllers_41 ?_
    refine lv_astore_n (lv' := [(2, .ref (ad (28 + 1))), (1, .ref (ad (28 + 0))), (0, .ref (ad 0))]) (pc := 42) hx hb d_GL_obeyControllers_42 rfl hl (by decide) rfl (fun ls hl => ?_)
    refine lv_aload_n (pc := 43) hx hb d_GL_obeyControllers_43 rfl (lv_at hl 0 rfl) ?_
    refine rg_get (C := R_Ct) (T := T_Ct) (N := 6) (v := .int (b2i (xs_ct st 1))) (pc := 44) hx hb hts i_Ct hown hK hP (28 + 1) (by omega) (xgx_Ctrl (j := 1) (by omega)) rfl 0 (by decide) (hts _ wd_218) rfl d_GL_obeyControllers_44 ?_
    refine lv_if_eq (tgt := 78) (pc := 47) hx hb d_GL_obeyControllers_47 (by decide) (fun c_2 => ?_) (fun c_2 => ?_)
    · have e9 : f_GL_obeyControllers Z st = st := by unfold f_GL_obeyControllers; rw [if_pos c_1, if_pos c_2]
      exact rg_vret (pc := 78) hx hb hr hlocks hP hS (by rw [e9]) d_GL_obeyControllers_78
    · refine lv_aload_n (pc := 50) hx hb d_GL_obeyControllers_50 rfl (lv_at hl 0 rfl) ?_
      refine lv_aload_n (pc := 51) hx hb d_GL_obeyControllers_51 rfl (lv_at hl 2 rfl) ?_
      refine rg_get (C := R_GL) (T := T_GL) (N := 9) (v := .ref (ad 10)) (pc := 52) hx hb hts i_GL hown hK hP 0 (by omega) xgx_X rfl 2 (by decide) (hts _ wd_240) rfl d_GL_obeyControllers_52 ?_
      refine rg_get (C := R_Gr) (T := T_Gr) (N := 9) (v := .long (xs_ox st)) (pc := 55) hx hb hts i_Gr hown hK hP 10 (by omega) xgx_grate rfl 2 (by decide) (hts _ wd_150) rfl d_GL_obeyControllers_55 ?_
      refine rg_cv (pc := 58) (va_runV (As := [.long (xs_ox st)]) (rest := []) ⟨hx, hb, hml, hown, hts⟩ (c_Ct_look (l := l) hR hZ st 1 (by omega) (xs_ox st) _) ⟨callB_of 1 hts (gd_c wd_412) rfl rfl rfl (hts _ wd_8) (hts _ wd_409) hd_Ct_look ⟨Nat.le_of_ble_eq_true rfl, Nat.le_of_ble_eq_true rfl⟩, hts _ wd_410, hts _ wd_411⟩ ⟨rPc_blind _ _ _ _ _ _ _ _, rg_rec hK hP (28 + 1) (by omega) (xgx_Ctrl (j := 1) (by omega)) rfl, rPc_at _ hP hK hN⟩ rfl rfl hl.1 rfl (lv_room (Nat.le_of_ble_eq_true rfl)) d_GL_obeyControllers_58 ⟨Nat.zero_le _, Nat.zero_le _⟩) hS (fun H locs hP hS => ?_)
      refine lv_aload_n (pc := 61) hx hb d_GL_obeyControllers_61 rfl (lv_at hl 2 rfl) ?_
      refine rg_get (C := R_GL) (T := T_GL) (N := 9) (v := .ref (ad 10)) (pc := 62) hx hb hts i_GL hown hK hP 0 (by omega) xgx_X rfl 2 (by decide) (hts _ wd_240) rfl d_GL_obeyControllers_62 ?_
      refine lv_aload_n (pc := 65) hx hb d_GL_obeyControllers_65 rfl (lv_at hl 0 rfl) ?_
      refine rg_get (C := R_Ct) (T := T_Ct) (N := 6) (v := .int (xs_co (f_Ct_look Z st 1 (xs_ox st)) 1)) (pc := 66) hx hb hts i_Ct hown hK hP (28 + 1) (by omega) (xgx_Ctrl (j := 1) (by omega)) rfl 1 (by decide) (hts _ wd_220) rfl d_GL_obeyControllers_66 ?_
      refine lv_sipush (v := 1000) (pc := 69) hx hb d_GL_obeyControllers_69 (by decide) ?_
      refine va_mmin (pc := 72) hx hb (hml.trans hl.1.symm) hown (hts _ wd_431) (hts _ wd_300) (hts _ wd_10) (hts _ wd_301) (Nat.le_of_ble_eq_true rfl) (Nat.le_of_ble_eq_true rfl) (Nat.zero_le _) (Nat.zero_le _) d_GL_obeyControllers_72 ?_
      refine rg_put (C := R_Gr) (T := T_Gr) (N := 9) (pc := 75) hx hb hts i_Gr t_Gr t_Gr_ok n_Gr hown hK hR hP hS 10 (by omega) xgx_grate rfl 1 (by decide) (hts _ wd_148) rfl rfl rfl (Nat.le_of_ble_eq_true rfl) d_GL_obeyControllers_75 (xgx_grate_mv (if 1000 < (xs_co (f_Ct_look Z st 1 (xs_ox st)) 1) then 1000 else (xs_co (f_Ct_look Z st 1 (xs_ox st)) 1))) (fun H locs hP hS => ?_)
      have e9 : f_GL_obeyControllers Z st = xp_mv (f_Ct_look Z st 1 (xs_ox st)) (if 1000 < (xs_co (f_Ct_look Z st 1 (xs_ox st)) 1) then 1000 else (xs_co (f_Ct_look Z st 1 (xs_ox st)) 1)) := by unfold f_GL_obeyControllers; rw [if_pos c_1, if_neg c_2]
      exact rg_vret (pc := 78) hx hb hr hlocks hP hS (by rw [e9]) d_GL_obeyControllers_78
  · refine lv_aload_n (pc := 14) hx hb d_GL_obeyControllers_14 rfl (lv_at hl 0 rfl) ?_
    refine lv_aload_n (pc := 15) hx hb d_GL_obeyControllers_15 rfl (lv_at hl 1 rfl) ?_
    refine rg_get (C := R_GL) (T := T_GL) (N := 9) (v := .ref (ad 3)) (pc := 16) hx hb hts i_GL hown hK hP 0 (by omega) xgx_X rfl 3 (by decide) (hts _ wd_241) rfl d_GL_obeyControllers_16 ?_
    refine rg_get (C := R_Fu) (T := T_Fu) (N := 11) (v := .long (xs_sm st)) (pc := 19) hx hb hts i_Fu hown hK hP 3 (by omega) xgx_furn rfl 2 (by decide) (hts _ wd_35) rfl d_GL_obeyControllers_19 ?_
    refine rg_cv (pc := 22) (va_runV (As := [.long (xs_sm st)]) (rest := []) ⟨hx, hb, hml, hown, hts⟩ (c_Ct_look (l := l) hR hZ st 0 (by omega) (xs_sm st) _) ⟨callB_of 1 hts (gd_c wd_412) rfl rfl rfl (hts _ wd_8) (hts _ wd_409) hd_Ct_look ⟨Nat.le_of_ble_eq_true rfl, Nat.le_of_ble_eq_true rfl⟩, hts _ wd_410, hts _ wd_411⟩ ⟨rPc_blind _ _ _ _ _ _ _ _, rg_rec hK hP (28 + 0) (by omega) (xgx_Ctrl (j := 0) (by omega)) rfl, rPc_at _ hP hK hN⟩ rfl rfl hl.1 rfl (lv_room (Nat.le_of_ble_eq_true rfl)) d_GL_obeyControllers_22 ⟨Nat.zero_le _, Nat.zero_le _⟩) hS (fun H locs hP hS => ?_)
    refine lv_aload_n (pc := 25) hx hb d_GL_obeyControllers_25 rfl (lv_at hl 1 rfl) ?_
    refine rg_get (C := R_GL) (T := T_GL) (N := 9) (v := .ref (ad 10)) (pc := 26) hx hb hts i_GL hown hK hP 0 (by omega) xgx_X rfl 2 (by decide) (hts _ wd_240) rfl d_GL_obeyControllers_26 ?_
    refine lv_aload_n (pc := 29) hx hb d_GL_obeyControllers_29 rfl (lv_at hl 0 rfl) ?_
    refine rg_get (C := R_Ct) (T := T_Ct) (N := 6) (v := .int (xs_co (f_Ct_look Z st 0 (xs_sm st)) 0)) (pc := 30) hx hb hts i_Ct hown hK hP (28 + 0) (by omega) (xgx_Ctrl (j := 0) (by omega)) rfl 1 (by decide) (hts _ wd_220) rfl d_GL_obeyControllers_30 ?_
    refine rg_cv (pc := 33) (va_runV (As := [.int (xs_co (f_Ct_look Z st 0 (xs_sm st)) 0)]) (rest := []) ⟨hx, hb, hml, hown, hts⟩ (c_Gr_blow (l := l) hR hZ (f_Ct_look Z st 0 (xs_sm st)) (xs_co (f_Ct_look Z st 0 (xs_sm st)) 0) _) ⟨callB_of 1 hts (gd_c wd_430) rfl rfl rfl (hts _ wd_4) (hts _ wd_427) hd_Gr_blow ⟨Nat.le_of_ble_eq_true rfl, Nat.le_of_ble_eq_true rfl⟩, hts _ wd_428, hts _ wd_429⟩ ⟨rPc_blind _ _ _ _ _ _ _ _, rg_rec hK hP 10 (by omega) xgx_grate rfl, rPc_at _ hP hK hN⟩ rfl rfl hl.1 rfl (lv_room (Nat.le_of_ble_eq_true rfl)) d_GL_obeyControllers_33 ⟨Nat.zero_le _, Nat.zero_le _⟩) hS (fun H locs hP hS => ?_)
    refine lv_aload_n (pc := 36) hx hb d_GL_obeyControllers_36 rfl (lv_at hl 1 rfl) ?_
    refine rg_get (C := R_GL) (T := T_GL) (N := 9) (v := .ref (ad 4)) (pc := 37) hx hb hts i_GL hown hK hP 0 (by omega) xgx_X rfl 4 (by decide) (hts _ wd_242) rfl d_GL_obeyControllers_37 ?_
    refine lv_iconst (v := 1) (pc := 40) hx hb d_GL_obeyControllers_40 (by decide) ?_
    refine rg_aldq (pc := 41) hx hb hK hP 4 (by omega) 4 xgx_ctrlA rfl 1 (by omega) (by omega) rfl rfl d_GL_obeyControllers_41 ?_
    refine lv_astore_n (lv' := [(2, .ref (ad (28 + 1))), (1, .ref (ad (28 + 0))), (0, .ref (ad 0))]) (pc := 42) hx hb d_GL_obeyControllers_42 rfl hl (by decide) rfl (fun ls hl => ?_)
    refine lv_aload_n (pc := 43) hx hb d_GL_obeyControllers_43 rfl (lv_at hl 0 rfl) ?_
    refine rg_get (C := R_Ct) (T := T_Ct) (N := 6) (v := .int (b2i (xs_ct (f_Gr_blow Z (f_Ct_look Z st 0 (xs_sm st)) (xs_co (f_Ct_look Z st 0 (xs_sm st)) 0)) 1))) (pc := 44) hx hb hts i_Ct hown hK hP (28 + 1) (by omega) (xgx_Ctrl (j := 1) (by omega)) rfl 0 (by decide) (hts _ wd_218) rfl d_GL_obeyControllers_44 ?_
    refine lv_if_eq (tgt := 78) (pc := 47) hx hb d_GL_obeyControllers_47 (by decide) (fun c_3 => ?_) (fun c_3 => ?_)
    · have e9 : f_GL_obeyControllers Z st = f_Gr_blow Z (f_Ct_look Z st 0 (xs_sm st)) (xs_co (f_Ct_look Z st 0 (xs_sm st)) 0) := by unfold f_GL_obeyControllers; rw [if_neg c_1, if_pos c_3]
      exact rg_vret (pc := 78) hx hb hr hlocks hP hS (by rw [e9]) d_GL_obeyControllers_78
    · refine lv_aload_n (pc := 50) hx hb d_GL_obeyControllers_50 rfl (lv_at hl 0 rfl) ?_
      refine lv_aload_n (pc := 51) hx hb d_GL_obeyControllers_51 rfl (lv_at hl 2 rfl) ?_
      refine rg_get (C := R_GL) (T := T_GL) (N := 9) (v := .ref (ad 10)) (pc := 52) hx hb hts i_GL hown hK hP 0 (by omega) xgx_X rfl 2 (by decide) (hts _ wd_240) rfl d_GL_obeyControllers_52 ?_
      refine rg_get (C := R_Gr) (T := T_Gr) (N := 9) (v := .long (xs_ox (f_Gr_blow Z (f_Ct_look Z st 0 (xs_sm st)) (xs_co (f_Ct_look Z st 0 (xs_sm st)) 0)))) (pc := 55) hx hb hts i_Gr hown hK hP 10 (by omega) xgx_grate rfl 2 (by decide) (hts _ wd_150) rfl d_GL_obeyControllers_55 ?_
      refine rg_cv (pc := 58) (va_runV (As := [.long (xs_ox (f_Gr_blow Z (f_Ct_look Z st 0 (xs_sm st)) (xs_co (f_Ct_look Z st 0 (xs_sm st)) 0)))]) (rest := []) ⟨hx, hb, hml, hown, hts⟩ (c_Ct_look (l := l) hR hZ (f_Gr_blow Z (f_Ct_look Z st 0 (xs_sm st)) (xs_co (f_Ct_look Z st 0 (xs_sm st)) 0)) 1 (by omega) (xs_ox (f_Gr_blow Z (f_Ct_look Z st 0 (xs_sm st)) (xs_co (f_Ct_look Z st 0 (xs_sm st)) 0))) _) ⟨callB_of 1 hts (gd_c wd_412) rfl rfl rfl (hts _ wd_8) (hts _ wd_409) hd_Ct_look ⟨Nat.le_of_ble_eq_true rfl, Nat.le_of_ble_eq_true rfl⟩, hts _ wd_410, hts _ wd_411⟩ ⟨rPc_blind _ _ _ _ _ _ _ _, rg_rec hK hP (28 + 1) (by omega) (xgx_Ctrl (j := 1) (by omega)) rfl, rPc_at _ hP hK hN⟩ rfl rfl hl.1 rfl (lv_room (Nat.le_of_ble_eq_true rfl)) d_GL_obeyControllers_58 ⟨Nat.zero_le _, Nat.zero_le _⟩) hS (fun H locs hP hS => ?_)
      refine lv_aload_n (pc := 61) hx hb d_GL_obeyControllers_61 rfl (lv_at hl 2 rfl) ?_
      refine rg_get (C := R_GL) (T := T_GL) (N := 9) (v := .ref (ad 10)) (pc := 62) hx hb hts i_GL hown hK hP 0 (by omega) xgx_X rfl 2 (by decide) (hts _ wd_240) rfl d_GL_obeyControllers_62 ?_
      refine lv_aload_n (pc := 65) hx hb d_GL_obeyControllers_65 rfl (lv_at hl 0 rfl) ?_
      refine rg_get (C := R_Ct) (T := T_Ct) (N := 6) (v := .int (xs_co (f_Ct_look Z (f_Gr_blow Z (f_Ct_look Z st 0 (xs_sm st)) (xs_co (f_Ct_look Z st 0 (xs_sm st)) 0)) 1 (xs_ox (f_Gr_blow Z (f_Ct_look Z st 0 (xs_sm st)) (xs_co (f_Ct_look Z st 0 (xs_sm st)) 0)))) 1)) (pc := 66) hx hb hts i_Ct hown hK hP (28 + 1) (by omega) (xgx_Ctrl (j := 1) (by omega)) rfl 1 (by decide) (hts _ wd_220) rfl d_GL_obeyControllers_66 ?_
      refine lv_sipush (v := 1000) (pc := 69) hx hb d_GL_obeyControllers_69 (by decide) ?_
      refine va_mmin (pc := 72) hx hb (hml.trans hl.1.symm) hown (hts _ wd_431) (hts _ wd_300) (hts _ wd_10) (hts _ wd_301) (Nat.le_of_ble_eq_true rfl) (Nat.le_of_ble_eq_true rfl) (Nat.zero_le _) (Nat.zero_le _) d_GL_obeyControllers_72 ?_
      refine rg_put (C := R_Gr) (T := T_Gr) (N := 9) (pc := 75) hx hb hts i_Gr t_Gr t_Gr_ok n_Gr hown hK hR hP hS 10 (by omega) xgx_grate rfl 1 (by decide) (hts _ wd_148) rfl rfl rfl (Nat.le_of_ble_eq_true rfl) d_GL_obeyControllers_75 (xgx_grate_mv (if 1000 < (xs_co (f_Ct_look Z (f_Gr_blow Z (f_Ct_look Z st 0 (xs_sm st)) (xs_co (f_Ct_look Z st 0 (xs_sm st)) 0)) 1 (xs_ox (f_Gr_blow Z (f_Ct_look Z st 0 (xs_sm st)) (xs_co (f_Ct_look Z st 0 (xs_sm st)) 0)))) 1) then 1000 else (xs_co (f_Ct_look Z (f_Gr_blow Z (f_Ct_look Z st 0 (xs_sm st)) (xs_co (f_Ct_look Z st 0 (xs_sm st)) 0)) 1 (xs_ox (f_Gr_blow Z (f_Ct_look Z st 0 (xs_sm st)) (xs_co (f_Ct_look Z st 0 (xs_sm st)) 0)))) 1))) (fun H locs hP hS => ?_)
      have e9 : f_GL_obeyControllers Z st = xp_mv (f_Ct_look Z (f_Gr_blow Z (f_Ct_look Z st 0 (xs_sm st)) (xs_co (f_Ct_look Z st 0 (xs_sm st)) 0)) 1 (xs_ox (f_Gr_blow Z (f_Ct_look Z st 0 (xs_sm st)) (xs_co (f_Ct_look Z st 0 (xs_sm st)) 0)))) (if 1000 < (xs_co (f_Ct_look Z (f_Gr_blow Z (f_Ct_look Z st 0 (xs_sm st)) (xs_co (f_Ct_look Z st 0 (xs_sm st)) 0)) 1 (xs_ox (f_Gr_blow Z (f_Ct_look Z st 0 (xs_sm st)) (xs_co (f_Ct_look Z st 0 (xs_sm st)) 0)))) 1) then 1000 else (xs_co (f_Ct_look Z (f_Gr_blow Z (f_Ct_look Z st 0 (xs_sm st)) (xs_co (f_Ct_look Z st 0 (xs_sm st)) 0)) 1 (xs_ox (f_Gr_blow Z (f_Ct_look Z st 0 (xs_sm st)) (xs_co (f_Ct_look Z st 0 (xs_sm st)) 0)))) 1)) := by unfold f_GL_obeyControllers; rw [if_neg c_1, if_neg c_3]
      exact rg_vret (pc := 78) hx hb hr hlocks hP hS (by rw [e9]) d_GL_obeyControllers_78

def lp_inCells (Z : Nat) : Nat → Nat → Int64 → xS → Int64
  | 0, _, sm, _ => sm
  | n + 1, j, sm, st =>
    lp_inCells Z n (j + 1) (sm + ((f_Ce_total Z st j).toInt64)) st
set_option maxRecDepth 100000 in
set_option maxHeartbeats 4000000 in
theorem lp_inCells_ok {p : Program} {l : Launch} {e : Env} {s : State} {m : MethodId} {args : Array Value} {below : List Frame} {meth : Method} {c : Code} {D : va_G} {cA : Nat → ClassId} {Z : Nat} {ad : Nat → Nat} {Q : State → Prop} (hR : rD (36 + Z) ad) (hZ : 1 ≤ Z ∧ Z ≤ 6) (C : Cx p s m args meth c b_GL_inCells 7 R_GL (some .long)) (hK : va_K D clG (tyX cA) s) : ∀ (n : Nat) (j : Nat) (sm : Int64) (st : xS) (H : Heap) (locs : List Loc) (ls : Array Slot), j + n = 6 → va_P D clG (pw (36 + Z) ad (xgx Z ad cA (st))) H → va_S (rA (36 + Z) ad s.heap.size) s.heap H locs → lv_has ls 7 [(0, .ref (ad 0)), (1, .long sm), (3, .ref (ad 2)), (4, .int (nI 6)), (5, .int (nI j))] → (∀ (H : Heap) (locs : List Loc) (ls : Array Slot), va_P D clG (pw (36 + Z) ad (xgx Z ad cA (st))) H → va_S (rA (36 + Z) ad s.heap.size) s.heap H locs → lv_has ls 7 [(0, .ref (ad 0)), (1, .long ((lp_inCells Z n j sm st))), (3, .ref (ad 2)), (4, .int (nI 6)), (5, .int (nI 6))] → W p l e ({ frames := 1, cells := 0, slots := 0, locals := 22 } : Room) s m args below meth c H locs 0 0 Q (F0 m 42 ls [])) → W p l e ({ frames := 1, cells := 0, slots := 0, locals := 22 } : Room) s m args below meth c H locs 0 0 Q (F0 m 14 ls []) := by
  obtain ⟨⟨hx, hb, hml, hown, hts⟩, hr, hlocks, hN⟩ := id C
  have hown : s.vm.findClass R_GL = some m.cls := hown
  have hr : meth.sig.returnType = (some .long) := hr
  intro n
  induction n with
  | zero =>
    intro j sm st H locs ls hn hP hS hl hk
    have hj9 : j = 6 := by omega
    refine lv_iload (pc := 14) hx hb d_GL_inCells_14 (lv_at hl 4 rfl) ?_
    refine lv_iload (pc := 16) hx hb d_GL_inCells_16 (lv_at hl 3 rfl) ?_
    refine lv_icmp_ge (tgt := 42) (pc := 18) hx hb d_GL_inCells_18 (by decide) (fun c_1 => ?_) (fun c_1 => absurd (by rw [hj9]; exact Int32.le_refl _) c_1)
    exact hk H locs ls hP hS (by rw [hj9] at hl; exact lv_sub hl [0, 1, 2, 3, 4] rfl)
  | succ n ih =>
    intro j sm st H locs ls hn hP hS hl hk
    refine lv_iload (pc := 14) hx hb d_GL_inCells_14 (lv_at hl 4 rfl) ?_
    refine lv_iload (pc := 16) hx hb d_GL_inCells_16 (lv_at hl 3 rfl) ?_
    refine lv_icmp_ge (tgt := 42) (pc := 18) hx hb d_GL_inCells_18 (by decide) (fun c_1 => absurd c_1 (nI_ge (b := 6) (by omega) (by omega))) (fun c_1 => ?_)
    refine lv_aload_n (pc := 21) hx hb d_GL_inCells_21 rfl (lv_at hl 2 rfl) ?_
    refine lv_iload (pc := 22) hx hb d_GL_inCells_22 (lv_at hl 4 rfl) ?_
    refine rg_aldq (pc := 24) hx hb hK hP 2 (by omega) 2 xgx_cellsA rfl j (by omega) (by omega) rfl rfl d_GL_inCells_24 ?_
    refine lv_astore (lv' := [(6, .ref (ad (16 + j))), (0, .ref (ad 0)), (1, .long sm), (3, .ref (ad 2)), (4, .int (nI 6)), (5, .int (nI j))]) (pc := 25) hx hb d_GL_inCells_25 hl (by decide) rfl (fun ls hl => ?_)
    refine lv_lload_n (pc := 27) hx hb d_GL_inCells_27 rfl (lv_at hl 2 rfl) ?_
    refine lv_aload (pc := 28) hx hb d_GL_inCells_28 (lv_at hl 0 rfl) ?_
    refine rg_ci (pc := 30) (va_runV (As := []) (rest := [.long sm]) ⟨hx, hb, hml, hown, hts⟩ (c_Ce_total (l := l) hR hZ st j (by omega) _) ⟨callB_of 0 hts (gd_c wd_285) rfl rfl rfl (hts _ wd_7) (hts _ wd_282) hd_Ce_total ⟨Nat.le_of_ble_eq_true rfl, Nat.le_of_ble_eq_true rfl⟩, hts _ wd_283, hts _ wd_284⟩ ⟨rPc_blind _ _ _ _ _ _ _ _, rg_rec hK hP (16 + j) (by omega) (xgx_Cell (j := j) (by omega)) rfl, rPc_at _ hP hK hN⟩ rfl rfl hl.1 rfl (lv_room (Nat.le_of_ble_eq_true rfl)) d_GL_inCells_30 ⟨Nat.zero_le _, Nat.zero_le _⟩) hS (fun H locs hP hS => ?_)
    refine lv_i2l (pc := 33) hx hb d_GL_inCells_33 rfl ?_
    refine lv_ladd (pc := 34) hx hb d_GL_inCells_34 ?_
    refine lv_lstore_n (lv' := [(1, .long (sm + ((f_Ce_total Z st j).toInt64))), (6, .ref (ad (16 + j))), (0, .ref (ad 0)), (3, .ref (ad 2)), (4, .int (nI 6)), (5, .int (nI j))]) (pc := 35) hx hb d_GL_inCells_35 rfl hl (by decide) rfl (fun ls hl => ?_)
    refine lv_iinc (v := nI (j + 1)) (lv' := [(5, .int (nI (j + 1))), (1, .long (sm + ((f_Ce_total Z st j).toInt64))), (6, .ref (ad (16 + j))), (0, .ref (ad 0)), (3, .ref (ad 2)), (4, .int (nI 6))]) (pc := 36) hx hb d_GL_inCells_36 hl (k := 5) rfl (nI_1 _) (by decide) rfl (fun ls hl => ?_)
    refine lv_goto (tgt := 14) (pc := 39) hx hb d_GL_inCells_39 (by decide) ?_
    have hk9 := hk
    unfold lp_inCells at hk9
    exact ih (j + 1) (sm + ((f_Ce_total Z st j).toInt64)) st _ _ ls (by omega) hP hS (lv_sub hl [3, 1, 4, 5, 0] rfl) hk9
def f_GL_inCells (Z : Nat) (st : xS) : Int64 :=
  (lp_inCells Z 6 0 0 st)
set_option maxRecDepth 100000 in
set_option maxHeartbeats 4000000 in
theorem c_GL_inCells {l : Launch} {D : va_G} {cA : Nat → ClassId} {Z : Nat} {ad : Nat → Nat} (hR : rD (36 + Z) ad) (hZ : 1 ≤ Z ∧ Z ≤ 6) (st : xS) : RL l y_GL_inCells (mws y_GL_inCells b_GL_inCells 7 (some .long)) ({ frames := 1, cells := 0, slots := 0, locals := 22 } : Room) D clG (tyX cA) (36 + Z) ad (xgx Z ad cA (st)) [.ref (ad 0)] (f_GL_inCells Z st) (xgx Z ad cA (st)) := by
  refine RL_of (cc := b_GL_inCells) (maxL := 7) (ret := (some .long)) (by decide) (Nat.le_of_ble_eq_true rfl) ?_
  intro p e s m args below meth c ls C hK hP hS hl
  obtain ⟨⟨hx, hb, hml, hown, hts⟩, hr, hlocks, hN⟩ := id C
  have hown : s.vm.findClass R_GL = some m.cls := hown
  have hr : meth.sig.returnType = (some .long) := hr
  have hl : lv_has ls 7 [(0, .ref (ad 0))] := hl
  refine lv_lconst (v := 0) (pc := 0) hx hb d_GL_inCells_0 (by decide) ?_
  refine lv_lstore_n (lv' := [(1, .long 0), (0, .ref (ad 0))]) (pc := 1) hx hb d_GL_inCells_1 rfl hl (by decide) rfl (fun ls hl => ?_)
  refine lv_aload_n (pc := 2) hx hb d_GL_inCells_2 rfl (lv_at hl 1 rfl) ?_
  refine rg_get (C := R_GL) (T := T_GL) (N := 9) (v := .ref (ad 2)) (pc := 3) hx hb hts i_GL hown hK hP 0 (by omega) xgx_X rfl 1 (by decide) (hts _ wd_239) rfl d_GL_inCells_3 ?_
  refine lv_astore_n (lv' := [(3, .ref (ad 2)), (1, .long 0), (0, .ref (ad 0))]) (pc := 6) hx hb d_GL_inCells_6 rfl hl (by decide) rfl (fun ls hl => ?_)
  refine lv_aload_n (pc := 7) hx hb d_GL_inCells_7 rfl (lv_at hl 0 rfl) ?_
  refine rg_alen (v := nI 6) (pc := 8) hx hb hK hP 2 (by omega) 2 xgx_cellsA rfl rfl d_GL_inCells_8 ?_
  refine lv_istore (lv' := [(4, .int (nI 6)), (3, .ref (ad 2)), (1, .long 0), (0, .ref (ad 0))]) (pc := 9) hx hb d_GL_inCells_9 hl (by decide) rfl (fun ls hl => ?_)
  refine lv_iconst (v := 0) (pc := 11) hx hb d_GL_inCells_11 (by decide) ?_
  refine lv_istore (lv' := [(5, .int 0), (4, .int (nI 6)), (3, .ref (ad 2)), (1, .long 0), (0, .ref (ad 0))]) (pc := 12) hx hb d_GL_inCells_12 hl (by decide) rfl (fun ls hl => ?_)
  refine lp_inCells_ok hR hZ C hK 6 0 0 st _ _ ls (by omega) hP hS (lv_sub hl [4, 3, 2, 1, 0] rfl) (fun H locs ls hP hS hl => ?_)
  refine lv_lload_n (pc := 42) hx hb d_GL_inCells_42 rfl (lv_at hl 1 rfl) ?_
  have e9 : f_GL_inCells Z st = (lp_inCells Z 6 0 0 st) := rfl
  exact rg_lret (pc := 43) hx hb hr hlocks hP hS ⟨e9.symm, rfl⟩ d_GL_inCells_43

def lp_grabbed (Z : Nat) : Nat → Nat → Int64 → xS → Int64
  | 0, _, sm, _ => sm
  | n + 1, j, sm, st =>
    lp_grabbed Z n (j + 1) (sm + (xs_kg st j)) st
set_option maxRecDepth 100000 in
set_option maxHeartbeats 4000000 in
theorem lp_grabbed_ok {p : Program} {l : Launch} {e : Env} {s : State} {m : MethodId} {args : Array Value} {below : List Frame} {meth : Method} {c : Code} {D : va_G} {cA : Nat → ClassId} {Z : Nat} {ad : Nat → Nat} {Q : State → Prop} (hR : rD (36 + Z) ad) (hZ : 1 ≤ Z ∧ Z ≤ 6) (C : Cx p s m args meth c b_GL_grabbed 7 R_GL (some .long)) (hK : va_K D clG (tyX cA) s) : ∀ (n : Nat) (j : Nat) (sm : Int64) (st : xS) (H : Heap) (locs : List Loc) (ls : Array Slot), j + n = 4 → va_P D clG (pw (36 + Z) ad (xgx Z ad cA (st))) H → va_S (rA (36 + Z) ad s.heap.size) s.heap H locs → lv_has ls 7 [(0, .ref (ad 0)), (1, .long sm), (3, .ref (ad 1)), (4, .int (nI 4)), (5, .int (nI j))] → (∀ (H : Heap) (locs : List Loc) (ls : Array Slot), va_P D clG (pw (36 + Z) ad (xgx Z ad cA (st))) H → va_S (rA (36 + Z) ad s.heap.size) s.heap H locs → lv_has ls 7 [(0, .ref (ad 0)), (1, .long ((lp_grabbed Z n j sm st))), (3, .ref (ad 1)), (4, .int (nI 4)), (5, .int (nI 4))] → W p l e ({ frames := 0, cells := 0, slots := 0, locals := 0 } : Room) s m args below meth c H locs 0 0 Q (F0 m 41 ls [])) → W p l e ({ frames := 0, cells := 0, slots := 0, locals := 0 } : Room) s m args below meth c H locs 0 0 Q (F0 m 14 ls []) := by
  obtain ⟨⟨hx, hb, hml, hown, hts⟩, hr, hlocks, hN⟩ := id C
  have hown : s.vm.findClass R_GL = some m.cls := hown
  have hr : meth.sig.returnType = (some .long) := hr
  intro n
  induction n with
  | zero =>
    intro j sm st H locs ls hn hP hS hl hk
    have hj9 : j = 4 := by omega
    refine lv_iload (pc := 14) hx hb d_GL_grabbed_14 (lv_at hl 4 rfl) ?_
    refine lv_iload (pc := 16) hx hb d_GL_grabbed_16 (lv_at hl 3 rfl) ?_
    refine lv_icmp_ge (tgt := 41) (pc := 18) hx hb d_GL_grabbed_18 (by decide) (fun c_1 => ?_) (fun c_1 => absurd (by rw [hj9]; exact Int32.le_refl _) c_1)
    exact hk H locs ls hP hS (by rw [hj9] at hl; exact lv_sub hl [0, 1, 2, 3, 4] rfl)
  | succ n ih =>
    intro j sm st H locs ls hn hP hS hl hk
    refine lv_iload (pc := 14) hx hb d_GL_grabbed_14 (lv_at hl 4 rfl) ?_
    refine lv_iload (pc := 16) hx hb d_GL_grabbed_16 (lv_at hl 3 rfl) ?_
    refine lv_icmp_ge (tgt := 41) (pc := 18) hx hb d_GL_grabbed_18 (by decide) (fun c_1 => absurd c_1 (nI_ge (b := 4) (by omega) (by omega))) (fun c_1 => ?_)
    refine lv_aload_n (pc := 21) hx hb d_GL_grabbed_21 rfl (lv_at hl 2 rfl) ?_
    refine lv_iload (pc := 22) hx hb d_GL_grabbed_22 (lv_at hl 4 rfl) ?_
    refine rg_aldq (pc := 24) hx hb hK hP 1 (by omega) 1 xgx_kindsA rfl j (by omega) (by omega) rfl rfl d_GL_grabbed_24 ?_
    refine lv_astore (lv' := [(6, .ref (ad (12 + j))), (0, .ref (ad 0)), (1, .long sm), (3, .ref (ad 1)), (4, .int (nI 4)), (5, .int (nI j))]) (pc := 25) hx hb d_GL_grabbed_25 hl (by decide) rfl (fun ls hl => ?_)
    refine lv_lload_n (pc := 27) hx hb d_GL_grabbed_27 rfl (lv_at hl 2 rfl) ?_
    refine lv_aload (pc := 28) hx hb d_GL_grabbed_28 (lv_at hl 0 rfl) ?_
    refine rg_get (C := R_Ki) (T := T_Ki) (N := 3) (v := .long (xs_kg st j)) (pc := 30) hx hb hts i_Ki hown hK hP (12 + j) (by omega) (xgx_Kind (j := j) (by omega)) rfl 2 (by decide) (hts _ wd_193) rfl d_GL_grabbed_30 ?_
    refine lv_ladd (pc := 33) hx hb d_GL_grabbed_33 ?_
    refine lv_lstore_n (lv' := [(1, .long (sm + (xs_kg st j))), (6, .ref (ad (12 + j))), (0, .ref (ad 0)), (3, .ref (ad 1)), (4, .int (nI 4)), (5, .int (nI j))]) (pc := 34) hx hb d_GL_grabbed_34 rfl hl (by decide) rfl (fun ls hl => ?_)
    refine lv_iinc (v := nI (j + 1)) (lv' := [(5, .int (nI (j + 1))), (1, .long (sm + (xs_kg st j))), (6, .ref (ad (12 + j))), (0, .ref (ad 0)), (3, .ref (ad 1)), (4, .int (nI 4))]) (pc := 35) hx hb d_GL_grabbed_35 hl (k := 5) rfl (nI_1 _) (by decide) rfl (fun ls hl => ?_)
    refine lv_goto (tgt := 14) (pc := 38) hx hb d_GL_grabbed_38 (by decide) ?_
    have hk9 := hk
    unfold lp_grabbed at hk9
    exact ih (j + 1) (sm + (xs_kg st j)) st _ _ ls (by omega) hP hS (lv_sub hl [3, 1, 4, 5, 0] rfl) hk9
def f_GL_grabbed (Z : Nat) (st : xS) : Int64 :=
  (lp_grabbed Z 4 0 0 st)
set_option maxRecDepth 100000 in
set_option maxHeartbeats 4000000 in
theorem c_GL_grabbed {l : Launch} {D : va_G} {cA : Nat → ClassId} {Z : Nat} {ad : Nat → Nat} (hR : rD (36 + Z) ad) (hZ : 1 ≤ Z ∧ Z ≤ 6) (st : xS) : RL l y_GL_grabbed (mws y_GL_grabbed b_GL_grabbed 7 (some .long)) ({ frames := 0, cells := 0, slots := 0, locals := 0 } : Room) D clG (tyX cA) (36 + Z) ad (xgx Z ad cA (st)) [.ref (ad 0)] (f_GL_grabbed Z st) (xgx Z ad cA (st)) := by
  refine RL_of (cc := b_GL_grabbed) (maxL := 7) (ret := (some .long)) (by decide) (Nat.le_of_ble_eq_true rfl) ?_
  intro p e s m args below meth c ls C hK hP hS hl
  obtain ⟨⟨hx, hb, hml, hown, hts⟩, hr, hlocks, hN⟩ := id C
  have hown : s.vm.findClass R_GL = some m.cls := hown
  have hr : meth.sig.returnType = (some .long) := hr
  have hl : lv_has ls 7 [(0, .ref (ad 0))] := hl
  refine lv_lconst (v := 0) (pc := 0) hx hb d_GL_grabbed_0 (by decide) ?_
  refine lv_lstore_n (lv' := [(1, .long 0), (0, .ref (ad 0))]) (pc := 1) hx hb d_GL_grabbed_1 rfl hl (by decide) rfl (fun ls hl => ?_)
  refine lv_aload_n (pc := 2) hx hb d_GL_grabbed_2 rfl (lv_at hl 1 rfl) ?_
  refine rg_get (C := R_GL) (T := T_GL) (N := 9) (v := .ref (ad 1)) (pc := 3) hx hb hts i_GL hown hK hP 0 (by omega) xgx_X rfl 0 (by decide) (hts _ wd_238) rfl d_GL_grabbed_3 ?_
  refine lv_astore_n (lv' := [(3, .ref (ad 1)), (1, .long 0), (0, .ref (ad 0))]) (pc := 6) hx hb d_GL_grabbed_6 rfl hl (by decide) rfl (fun ls hl => ?_)
  refine lv_aload_n (pc := 7) hx hb d_GL_grabbed_7 rfl (lv_at hl 0 rfl) ?_
  refine rg_alen (v := nI 4) (pc := 8) hx hb hK hP 1 (by omega) 1 xgx_kindsA rfl rfl d_GL_grabbed_8 ?_
  refine lv_istore (lv' := [(4, .int (nI 4)), (3, .ref (ad 1)), (1, .long 0), (0, .ref (ad 0))]) (pc := 9) hx hb d_GL_grabbed_9 hl (by decide) rfl (fun ls hl => ?_)
  refine lv_iconst (v := 0) (pc := 11) hx hb d_GL_grabbed_11 (by decide) ?_
  refine lv_istore (lv' := [(5, .int 0), (4, .int (nI 4)), (3, .ref (ad 1)), (1, .long 0), (0, .ref (ad 0))]) (pc := 12) hx hb d_GL_grabbed_12 hl (by decide) rfl (fun ls hl => ?_)
  refine lp_grabbed_ok hR hZ C hK 4 0 0 st _ _ ls (by omega) hP hS (lv_sub hl [4, 3, 2, 1, 0] rfl) (fun H locs ls hP hS hl => ?_)
  refine lv_lload_n (pc := 41) hx hb d_GL_grabbed_41 rfl (lv_at hl 1 rfl) ?_
  have e9 : f_GL_grabbed Z st = (lp_grabbed Z 4 0 0 st) := rfl
  exact rg_lret (pc := 42) hx hb hr hlocks hP hS ⟨e9.symm, rfl⟩ d_GL_grabbed_42

def f_GL_passMinute (Z : Nat) (st : xS) : xS :=
  f_GL_obeyControllers Z (f_Fu_makeSteam Z (f_Fu_fireBurner Z (f_Gr_dryAndBurn Z (f_GL_feedGrate Z (f_Gr_moveOn Z st)))))
set_option maxRecDepth 100000 in
set_option maxHeartbeats 4000000 in
theorem c_GL_passMinute {l : Launch} {D : va_G} {cA : Nat → ClassId} {Z : Nat} {ad : Nat → Nat} (hR : rD (36 + Z) ad) (hZ : 1 ≤ Z ∧ Z ≤ 6) (st : xS) : RV l y_GL_passMinute (mws y_GL_passMinute b_GL_passMinute 1 none) ({ frames := 4, cells := 0, slots := 0, locals := 94 } : Room) D clG (tyX cA) (36 + Z) ad (xgx Z ad cA (st)) [.ref (ad 0)] (xgx Z ad cA (f_GL_passMinute Z st)) := by
  refine RV_of (cc := b_GL_passMinute) (maxL := 1) (ret := none) (by decide) (Nat.le_of_ble_eq_true rfl) ?_
  intro p e s m args below meth c ls C hK hP hS hl
  obtain ⟨⟨hx, hb, hml, hown, hts⟩, hr, hlocks, hN⟩ := id C
  have hown : s.vm.findClass R_GL = some m.cls := hown
  have hr : meth.sig.returnType = none := hr
  have hl : lv_has ls 1 [(0, .ref (ad 0))] := hl
  refine lv_aload_n (pc := 0) hx hb d_GL_passMinute_0 rfl (lv_at hl 0 rfl) ?_
  refine rg_get (C := R_GL) (T := T_GL) (N := 9) (v := .ref (ad 10)) (pc := 1) hx hb hts i_GL hown hK hP 0 (by omega) xgx_X rfl 2 (by decide) (hts _ wd_240) rfl d_GL_passMinute_1 ?_
  refine rg_cv (pc := 4) (va_runV (As := []) (rest := []) ⟨hx, hb, hml, hown, hts⟩ (c_Gr_moveOn (l := l) hR hZ st  _) ⟨callB_of 0 hts (gd_c wd_354) rfl rfl rfl (hts _ wd_4) (hts _ wd_351) hd_Gr_moveOn ⟨Nat.le_of_ble_eq_true rfl, Nat.le_of_ble_eq_true rfl⟩, hts _ wd_352, hts _ wd_353⟩ ⟨rPc_blind _ _ _ _ _ _ _ _, rg_rec hK hP 10 (by omega) xgx_grate rfl, rPc_at _ hP hK hN⟩ rfl rfl hl.1 rfl (lv_room (Nat.le_of_ble_eq_true rfl)) d_GL_passMinute_4 ⟨Nat.zero_le _, Nat.zero_le _⟩) hS (fun H locs hP hS => ?_)
  refine lv_aload_n (pc := 7) hx hb d_GL_passMinute_7 rfl (lv_at hl 0 rfl) ?_
  refine rg_cv (pc := 8) (va_runV (As := []) (rest := []) ⟨hx, hb, hml, hown, hts⟩ (c_GL_feedGrate (l := l) hR hZ (f_Gr_moveOn Z st)  _) ⟨callB_of 0 hts (gd_c wd_366) rfl rfl rfl (hts _ wd_1) (hts _ wd_363) hd_GL_feedGrate ⟨Nat.le_of_ble_eq_true rfl, Nat.le_of_ble_eq_true rfl⟩, hts _ wd_365, hts _ wp_2⟩ ⟨rPc_blind _ _ _ _ _ _ _ _, rg_rec hK hP 0 (by omega) xgx_X rfl, rPc_at _ hP hK hN⟩ rfl rfl hl.1 rfl (lv_room (Nat.le_of_ble_eq_true rfl)) d_GL_passMinute_8 ⟨Nat.zero_le _, Nat.zero_le _⟩) hS (fun H locs hP hS => ?_)
  refine lv_aload_n (pc := 11) hx hb d_GL_passMinute_11 rfl (lv_at hl 0 rfl) ?_
  refine rg_get (C := R_GL) (T := T_GL) (N := 9) (v := .ref (ad 10)) (pc := 12) hx hb hts i_GL hown hK hP 0 (by omega) xgx_X rfl 2 (by decide) (hts _ wd_240) rfl d_GL_passMinute_12 ?_
  refine lv_aload_n (pc := 15) hx hb d_GL_passMinute_15 rfl (lv_at hl 0 rfl) ?_
  refine rg_get (C := R_GL) (T := T_GL) (N := 9) (v := .ref (ad 3)) (pc := 16) hx hb hts i_GL hown hK hP 0 (by omega) xgx_X rfl 3 (by decide) (hts _ wd_241) rfl d_GL_passMinute_16 ?_
  refine rg_cv (pc := 19) (va_runV (As := [.ref (ad 3)]) (rest := []) ⟨hx, hb, hml, hown, hts⟩ (c_Gr_dryAndBurn (l := l) hR hZ (f_GL_feedGrate Z (f_Gr_moveOn Z st))  _) ⟨callB_of 1 hts (gd_c wd_372) rfl rfl rfl (hts _ wd_4) (hts _ wd_369) hd_Gr_dryAndBurn ⟨Nat.le_of_ble_eq_true rfl, Nat.le_of_ble_eq_true rfl⟩, hts _ wd_370, hts _ wd_371⟩ ⟨rPc_blind _ _ _ _ _ _ _ _, rg_rec hK hP 10 (by omega) xgx_grate rfl, rPc_at _ hP hK hN⟩ rfl rfl hl.1 rfl (lv_room (Nat.le_of_ble_eq_true rfl)) d_GL_passMinute_19 ⟨Nat.zero_le _, Nat.zero_le _⟩) hS (fun H locs hP hS => ?_)
  refine lv_aload_n (pc := 22) hx hb d_GL_passMinute_22 rfl (lv_at hl 0 rfl) ?_
  refine rg_get (C := R_GL) (T := T_GL) (N := 9) (v := .ref (ad 3)) (pc := 23) hx hb hts i_GL hown hK hP 0 (by omega) xgx_X rfl 3 (by decide) (hts _ wd_241) rfl d_GL_passMinute_23 ?_
  refine rg_cv (pc := 26) (va_runV (As := []) (rest := []) ⟨hx, hb, hml, hown, hts⟩ (c_Fu_fireBurner (l := l) hR hZ (f_Gr_dryAndBurn Z (f_GL_feedGrate Z (f_Gr_moveOn Z st)))  _) ⟨callB_of 0 hts (gd_c wd_399) rfl rfl rfl (hts _ wd_2) (hts _ wd_396) hd_Fu_fireBurner ⟨Nat.le_of_ble_eq_true rfl, Nat.le_of_ble_eq_true rfl⟩, hts _ wd_397, hts _ wd_398⟩ ⟨rPc_blind _ _ _ _ _ _ _ _, rg_rec hK hP 3 (by omega) xgx_furn rfl, rPc_at _ hP hK hN⟩ rfl rfl hl.1 rfl (lv_room (Nat.le_of_ble_eq_true rfl)) d_GL_passMinute_26 ⟨Nat.zero_le _, Nat.zero_le _⟩) hS (fun H locs hP hS => ?_)
  refine lv_aload_n (pc := 29) hx hb d_GL_passMinute_29 rfl (lv_at hl 0 rfl) ?_
  refine rg_get (C := R_GL) (T := T_GL) (N := 9) (v := .ref (ad 3)) (pc := 30) hx hb hts i_GL hown hK hP 0 (by omega) xgx_X rfl 3 (by decide) (hts _ wd_241) rfl d_GL_passMinute_30 ?_
  refine rg_cv (pc := 33) (va_runV (As := []) (rest := []) ⟨hx, hb, hml, hown, hts⟩ (c_Fu_makeSteam (l := l) hR hZ (f_Fu_fireBurner Z (f_Gr_dryAndBurn Z (f_GL_feedGrate Z (f_Gr_moveOn Z st))))  _) ⟨callB_of 0 hts (gd_c wd_403) rfl rfl rfl (hts _ wd_2) (hts _ wd_400) hd_Fu_makeSteam ⟨Nat.le_of_ble_eq_true rfl, Nat.le_of_ble_eq_true rfl⟩, hts _ wd_401, hts _ wd_402⟩ ⟨rPc_blind _ _ _ _ _ _ _ _, rg_rec hK hP 3 (by omega) xgx_furn rfl, rPc_at _ hP hK hN⟩ rfl rfl hl.1 rfl (lv_room (Nat.le_of_ble_eq_true rfl)) d_GL_passMinute_33 ⟨Nat.zero_le _, Nat.zero_le _⟩) hS (fun H locs hP hS => ?_)
  refine lv_aload_n (pc := 36) hx hb d_GL_passMinute_36 rfl (lv_at hl 0 rfl) ?_
  refine rg_cv (pc := 37) (va_runV (As := []) (rest := []) ⟨hx, hb, hml, hown, hts⟩ (c_GL_obeyControllers (l := l) hR hZ (f_Fu_makeSteam Z (f_Fu_fireBurner Z (f_Gr_dryAndBurn Z (f_GL_feedGrate Z (f_Gr_moveOn Z st)))))  _) ⟨callB_of 0 hts (gd_c wd_408) rfl rfl rfl (hts _ wd_1) (hts _ wd_405) hd_GL_obeyControllers ⟨Nat.le_of_ble_eq_true rfl, Nat.le_of_ble_eq_true rfl⟩, hts _ wd_407, hts _ wp_3⟩ ⟨rPc_blind _ _ _ _ _ _ _ _, rg_rec hK hP 0 (by omega) xgx_X rfl, rPc_at _ hP hK hN⟩ rfl rfl hl.1 rfl (lv_room (Nat.le_of_ble_eq_true rfl)) d_GL_passMinute_37 ⟨Nat.zero_le _, Nat.zero_le _⟩) hS (fun H locs hP hS => ?_)
  have e9 : f_GL_passMinute Z st = f_GL_obeyControllers Z (f_Fu_makeSteam Z (f_Fu_fireBurner Z (f_Gr_dryAndBurn Z (f_GL_feedGrate Z (f_Gr_moveOn Z st))))) := rfl
  exact rg_vret (pc := 40) hx hb hr hlocks hP hS (by rw [e9]) d_GL_passMinute_40
