def f_Fu_tellBurner (Z : Nat) (st : xS) (a : Int32) (b : Int32) : xS :=
  xp_bh (xp_bl (xp_bt st true) a) b
set_option maxRecDepth 100000 in
set_option maxHeartbeats 4000000 in
theorem c_Fu_tellBurner {l : Launch} {D : va_G} {cA : Nat → ClassId} {Z : Nat} {ad : Nat → Nat} (hR : rD (36 + Z) ad) (hZ : 1 ≤ Z ∧ Z ≤ 6) (st : xS) (a : Int32) (b : Int32) : RV l y_Fu_tellBurner (mws y_Fu_tellBurner b_Fu_tellBurner 3 none) ({ frames := 0, cells := 0, slots := 0, locals := 0 } : Room) D clG (tyX cA) (36 + Z) ad (xgx Z ad cA (st)) [.ref (ad 3), .int a, .int b] (xgx Z ad cA (f_Fu_tellBurner Z st a b)) := by
  refine RV_of (cc := b_Fu_tellBurner) (maxL := 3) (ret := none) (by decide) (Nat.le_of_ble_eq_true rfl) ?_
  intro p e s m args below meth c ls C hK hP hS hl
  obtain ⟨⟨hx, hb, hml, hown, hts⟩, hr, hlocks, hN⟩ := id C
  have hown : s.vm.findClass R_Fu = some m.cls := hown
  have hr : meth.sig.returnType = none := hr
  have hl : lv_has ls 3 [(0, .ref (ad 3)), (1, .int a), (2, .int b)] := hl
  refine lv_aload_n (pc := 0) hx hb d_Fu_tellBurner_0 rfl (lv_at hl 0 rfl) ?_
  refine lv_iconst (v := 1) (pc := 1) hx hb d_Fu_tellBurner_1 (by decide) ?_
  refine rg_put (C := R_Fu) (T := T_Fu) (N := 11) (pc := 2) hx hb hts i_Fu t_Fu t_Fu_ok n_Fu hown hK hR hP hS 3 (by omega) xgx_furn rfl 3 (by decide) (hts _ wd_36) rfl rfl rfl (Nat.le_of_ble_eq_true rfl) d_Fu_tellBurner_2 (xgx_furn_bt true) (fun H locs hP hS => ?_)
  refine lv_aload_n (pc := 5) hx hb d_Fu_tellBurner_5 rfl (lv_at hl 0 rfl) ?_
  refine lv_iload_n (pc := 6) hx hb d_Fu_tellBurner_6 rfl (lv_at hl 1 rfl) ?_
  refine rg_put (C := R_Fu) (T := T_Fu) (N := 11) (pc := 7) hx hb hts i_Fu t_Fu t_Fu_ok n_Fu hown hK hR hP hS 3 (by omega) xgx_furn rfl 5 (by decide) (hts _ wd_39) rfl rfl rfl (Nat.le_of_ble_eq_true rfl) d_Fu_tellBurner_7 (xgx_furn_bl a) (fun H locs hP hS => ?_)
  refine lv_aload_n (pc := 10) hx hb d_Fu_tellBurner_10 rfl (lv_at hl 0 rfl) ?_
  refine lv_iload_n (pc := 11) hx hb d_Fu_tellBurner_11 rfl (lv_at hl 2 rfl) ?_
  refine rg_put (C := R_Fu) (T := T_Fu) (N := 11) (pc := 12) hx hb hts i_Fu t_Fu t_Fu_ok n_Fu hown hK hR hP hS 3 (by omega) xgx_furn rfl 6 (by decide) (hts _ wd_40) rfl rfl rfl (Nat.le_of_ble_eq_true rfl) d_Fu_tellBurner_12 (xgx_furn_bh b) (fun H locs hP hS => ?_)
  have e9 : f_Fu_tellBurner Z st a b = xp_bh (xp_bl (xp_bt st true) a) b := rfl
  exact rg_vret (pc := 15) hx hb hr hlocks hP hS (by rw [e9]) d_Fu_tellBurner_15

def f_Fu_spendOnDrying (Z : Nat) (st : xS) (a : Int64) : xS :=
  xp_yA (xp_he st ((xs_he st) - a)) ((xs_yA (xp_he st ((xs_he st) - a))) + a)
set_option maxRecDepth 100000 in
set_option maxHeartbeats 4000000 in
theorem c_Fu_spendOnDrying {l : Launch} {D : va_G} {cA : Nat → ClassId} {Z : Nat} {ad : Nat → Nat} (hR : rD (36 + Z) ad) (hZ : 1 ≤ Z ∧ Z ≤ 6) (st : xS) (a : Int64) : RV l y_Fu_spendOnDrying (mws y_Fu_spendOnDrying b_Fu_spendOnDrying 3 none) ({ frames := 0, cells := 0, slots := 0, locals := 0 } : Room) D clG (tyX cA) (36 + Z) ad (xgx Z ad cA (st)) [.ref (ad 3), .long a] (xgx Z ad cA (f_Fu_spendOnDrying Z st a)) := by
  refine RV_of (cc := b_Fu_spendOnDrying) (maxL := 3) (ret := none) (by decide) (Nat.le_of_ble_eq_true rfl) ?_
  intro p e s m args below meth c ls C hK hP hS hl
  obtain ⟨⟨hx, hb, hml, hown, hts⟩, hr, hlocks, hN⟩ := id C
  have hown : s.vm.findClass R_Fu = some m.cls := hown
  have hr : meth.sig.returnType = none := hr
  have hl : lv_has ls 3 [(0, .ref (ad 3)), (1, .long a)] := hl
  refine lv_aload_n (pc := 0) hx hb d_Fu_spendOnDrying_0 rfl (lv_at hl 0 rfl) ?_
  refine lv_dup (pc := 1) hx hb d_Fu_spendOnDrying_1 rfl ?_
  refine rg_get (C := R_Fu) (T := T_Fu) (N := 11) (v := .long (xs_he st)) (pc := 2) hx hb hts i_Fu hown hK hP 3 (by omega) xgx_furn rfl 0 (by decide) (hts _ wd_29) rfl d_Fu_spendOnDrying_2 ?_
  refine lv_lload_n (pc := 5) hx hb d_Fu_spendOnDrying_5 rfl (lv_at hl 1 rfl) ?_
  refine lv_lsub (pc := 6) hx hb d_Fu_spendOnDrying_6 ?_
  refine rg_put (C := R_Fu) (T := T_Fu) (N := 11) (pc := 7) hx hb hts i_Fu t_Fu t_Fu_ok n_Fu hown hK hR hP hS 3 (by omega) xgx_furn rfl 0 (by decide) (hts _ wd_29) rfl rfl rfl (Nat.le_of_ble_eq_true rfl) d_Fu_spendOnDrying_7 (xgx_furn_he ((xs_he st) - a)) (fun H locs hP hS => ?_)
  refine lv_aload_n (pc := 10) hx hb d_Fu_spendOnDrying_10 rfl (lv_at hl 0 rfl) ?_
  refine lv_dup (pc := 11) hx hb d_Fu_spendOnDrying_11 rfl ?_
  refine rg_get (C := R_Fu) (T := T_Fu) (N := 11) (v := .long (xs_yA (xp_he st ((xs_he st) - a)))) (pc := 12) hx hb hts i_Fu hown hK hP 3 (by omega) xgx_furn rfl 10 (by decide) (hts _ wd_47) rfl d_Fu_spendOnDrying_12 ?_
  refine lv_lload_n (pc := 15) hx hb d_Fu_spendOnDrying_15 rfl (lv_at hl 1 rfl) ?_
  refine lv_ladd (pc := 16) hx hb d_Fu_spendOnDrying_16 ?_
  refine rg_put (C := R_Fu) (T := T_Fu) (N := 11) (pc := 17) hx hb hts i_Fu t_Fu t_Fu_ok n_Fu hown hK hR hP hS 3 (by omega) xgx_furn rfl 10 (by decide) (hts _ wd_47) rfl rfl rfl (Nat.le_of_ble_eq_true rfl) d_Fu_spendOnDrying_17 (xgx_furn_yA ((xs_yA (xp_he st ((xs_he st) - a))) + a)) (fun H locs hP hS => ?_)
  have e9 : f_Fu_spendOnDrying Z st a = xp_yA (xp_he st ((xs_he st) - a)) ((xs_yA (xp_he st ((xs_he st) - a))) + a) := rfl
  exact rg_vret (pc := 20) hx hb hr hlocks hP hS (by rw [e9]) d_Fu_spendOnDrying_20

def f_Fu_takeFromFuel (Z : Nat) (st : xS) (a : Int64) : xS :=
  xp_fA (xp_he st ((xs_he st) + a)) ((xs_fA (xp_he st ((xs_he st) + a))) + a)
set_option maxRecDepth 100000 in
set_option maxHeartbeats 4000000 in
theorem c_Fu_takeFromFuel {l : Launch} {D : va_G} {cA : Nat → ClassId} {Z : Nat} {ad : Nat → Nat} (hR : rD (36 + Z) ad) (hZ : 1 ≤ Z ∧ Z ≤ 6) (st : xS) (a : Int64) : RV l y_Fu_takeFromFuel (mws y_Fu_takeFromFuel b_Fu_takeFromFuel 3 none) ({ frames := 0, cells := 0, slots := 0, locals := 0 } : Room) D clG (tyX cA) (36 + Z) ad (xgx Z ad cA (st)) [.ref (ad 3), .long a] (xgx Z ad cA (f_Fu_takeFromFuel Z st a)) := by
  refine RV_of (cc := b_Fu_takeFromFuel) (maxL := 3) (ret := none) (by decide) (Nat.le_of_ble_eq_true rfl) ?_
  intro p e s m args below meth c ls C hK hP hS hl
  obtain ⟨⟨hx, hb, hml, hown, hts⟩, hr, hlocks, hN⟩ := id C
  have hown : s.vm.findClass R_Fu = some m.cls := hown
  have hr : meth.sig.returnType = none := hr
  have hl : lv_has ls 3 [(0, .ref (ad 3)), (1, .long a)] := hl
  refine lv_aload_n (pc := 0) hx hb d_Fu_takeFromFuel_0 rfl (lv_at hl 0 rfl) ?_
  refine lv_dup (pc := 1) hx hb d_Fu_takeFromFuel_1 rfl ?_
  refine rg_get (C := R_Fu) (T := T_Fu) (N := 11) (v := .long (xs_he st)) (pc := 2) hx hb hts i_Fu hown hK hP 3 (by omega) xgx_furn rfl 0 (by decide) (hts _ wd_29) rfl d_Fu_takeFromFuel_2 ?_
  refine lv_lload_n (pc := 5) hx hb d_Fu_takeFromFuel_5 rfl (lv_at hl 1 rfl) ?_
  refine lv_ladd (pc := 6) hx hb d_Fu_takeFromFuel_6 ?_
  refine rg_put (C := R_Fu) (T := T_Fu) (N := 11) (pc := 7) hx hb hts i_Fu t_Fu t_Fu_ok n_Fu hown hK hR hP hS 3 (by omega) xgx_furn rfl 0 (by decide) (hts _ wd_29) rfl rfl rfl (Nat.le_of_ble_eq_true rfl) d_Fu_takeFromFuel_7 (xgx_furn_he ((xs_he st) + a)) (fun H locs hP hS => ?_)
  refine lv_aload_n (pc := 10) hx hb d_Fu_takeFromFuel_10 rfl (lv_at hl 0 rfl) ?_
  refine lv_dup (pc := 11) hx hb d_Fu_takeFromFuel_11 rfl ?_
  refine rg_get (C := R_Fu) (T := T_Fu) (N := 11) (v := .long (xs_fA (xp_he st ((xs_he st) + a)))) (pc := 12) hx hb hts i_Fu hown hK hP 3 (by omega) xgx_furn rfl 7 (by decide) (hts _ wd_41) rfl d_Fu_takeFromFuel_12 ?_
  refine lv_lload_n (pc := 15) hx hb d_Fu_takeFromFuel_15 rfl (lv_at hl 1 rfl) ?_
  refine lv_ladd (pc := 16) hx hb d_Fu_takeFromFuel_16 ?_
  refine rg_put (C := R_Fu) (T := T_Fu) (N := 11) (pc := 17) hx hb hts i_Fu t_Fu t_Fu_ok n_Fu hown hK hR hP hS 3 (by omega) xgx_furn rfl 7 (by decide) (hts _ wd_41) rfl rfl rfl (Nat.le_of_ble_eq_true rfl) d_Fu_takeFromFuel_17 (xgx_furn_fA ((xs_fA (xp_he st ((xs_he st) + a))) + a)) (fun H locs hP hS => ?_)
  have e9 : f_Fu_takeFromFuel Z st a = xp_fA (xp_he st ((xs_he st) + a)) ((xs_fA (xp_he st ((xs_he st) + a))) + a) := rfl
  exact rg_vret (pc := 20) hx hb hr hlocks hP hS (by rw [e9]) d_Fu_takeFromFuel_20

def f_Fu_fireBurner (Z : Nat) (st : xS) : xS :=
  if (b2i (xs_bt st)) = 0 then
    if (b2i (xs_bb (xp_bb st false))) = 0 then
      xp_bb st false
    else
      xp_nA (xp_he (xp_bb st false) ((xs_he (xp_bb st false)) + ((xs_bh (xp_bb st false)).toInt64))) ((xs_nA (xp_he (xp_bb st false) ((xs_he (xp_bb st false)) + ((xs_bh (xp_bb st false)).toInt64)))) + ((xs_bh (xp_he (xp_bb st false) ((xs_he (xp_bb st false)) + ((xs_bh (xp_bb st false)).toInt64)))).toInt64))
  else
    if 0 ≤ (lg_cmp (xs_he st) ((xs_bl st).toInt64)) then
      if (b2i (xs_bb (xp_bb st false))) = 0 then
        xp_bb st false
      else
        xp_nA (xp_he (xp_bb st false) ((xs_he (xp_bb st false)) + ((xs_bh (xp_bb st false)).toInt64))) ((xs_nA (xp_he (xp_bb st false) ((xs_he (xp_bb st false)) + ((xs_bh (xp_bb st false)).toInt64)))) + ((xs_bh (xp_he (xp_bb st false) ((xs_he (xp_bb st false)) + ((xs_bh (xp_bb st false)).toInt64)))).toInt64))
    else
      if (b2i (xs_bb (xp_bb st true))) = 0 then
        xp_bb st true
      else
        xp_nA (xp_he (xp_bb st true) ((xs_he (xp_bb st true)) + ((xs_bh (xp_bb st true)).toInt64))) ((xs_nA (xp_he (xp_bb st true) ((xs_he (xp_bb st true)) + ((xs_bh (xp_bb st true)).toInt64)))) + ((xs_bh (xp_he (xp_bb st true) ((xs_he (xp_bb st true)) + ((xs_bh (xp_bb st true)).toInt64)))).toInt64))
set_option maxRecDepth 100000 in
set_option maxHeartbeats 4000000 in
theorem c_Fu_fireBurner {l : Launch} {D : va_G} {cA : Nat → ClassId} {Z : Nat} {ad : Nat → Nat} (hR : rD (36 + Z) ad) (hZ : 1 ≤ Z ∧ Z ≤ 6) (st : xS) : RV l y_Fu_fireBurner (mws y_Fu_fireBurner b_Fu_fireBurner 1 none) ({ frames := 0, cells := 0, slots := 0, locals := 0 } : Room) D clG (tyX cA) (36 + Z) ad (xgx Z ad cA (st)) [.ref (ad 3)] (xgx Z ad cA (f_Fu_fireBurner Z st)) := by
  refine RV_of (cc := b_Fu_fireBurner) (maxL := 1) (ret := none) (by decide) (Nat.le_of_ble_eq_true rfl) ?_
  intro p e s m args below meth c ls C hK hP hS hl
  obtain ⟨⟨hx, hb, hml, hown, hts⟩, hr, hlocks, hN⟩ := id C
  have hown : s.vm.findClass R_Fu = some m.cls := hown
  have hr : meth.sig.returnType = none := hr
  have hl : lv_has ls 1 [(0, .ref (ad 3))] := hl
  refine lv_aload_n (pc := 0) hx hb d_Fu_fireBurner_0 rfl (lv_at hl 0 rfl) ?_
  refine lv_aload_n (pc := 1) hx hb d_Fu_fireBurner_1 rfl (lv_at hl 0 rfl) ?_
  refine rg_get (C := R_Fu) (T := T_Fu) (N := 11) (v := .int (b2i (xs_bt st))) (pc := 2) hx hb hts i_Fu hown hK hP 3 (by omega) xgx_furn rfl 3 (by decide) (hts _ wd_36) rfl d_Fu_fireBurner_2 ?_
  refine lv_if_eq (tgt := 25) (pc := 5) hx hb d_Fu_fireBurner_5 (by decide) (fun c_1 => ?_) (fun c_1 => ?_)
  · refine lv_iconst (v := 0) (pc := 25) hx hb d_Fu_fireBurner_25 (by decide) ?_
    refine rg_put (C := R_Fu) (T := T_Fu) (N := 11) (pc := 26) hx hb hts i_Fu t_Fu t_Fu_ok n_Fu hown hK hR hP hS 3 (by omega) xgx_furn rfl 4 (by decide) (hts _ wd_37) rfl rfl rfl (Nat.le_of_ble_eq_true rfl) d_Fu_fireBurner_26 (xgx_furn_bb false) (fun H locs hP hS => ?_)
    refine lv_aload_n (pc := 29) hx hb d_Fu_fireBurner_29 rfl (lv_at hl 0 rfl) ?_
    refine rg_get (C := R_Fu) (T := T_Fu) (N := 11) (v := .int (b2i (xs_bb (xp_bb st false)))) (pc := 30) hx hb hts i_Fu hown hK hP 3 (by omega) xgx_furn rfl 4 (by decide) (hts _ wd_37) rfl d_Fu_fireBurner_30 ?_
    refine lv_if_eq (tgt := 64) (pc := 33) hx hb d_Fu_fireBurner_33 (by decide) (fun c_2 => ?_) (fun c_2 => ?_)
    · have e9 : f_Fu_fireBurner Z st = xp_bb st false := by unfold f_Fu_fireBurner; rw [if_pos c_1, if_pos c_2]
      exact rg_vret (pc := 64) hx hb hr hlocks hP hS (by rw [e9]) d_Fu_fireBurner_64
    · refine lv_aload_n (pc := 36) hx hb d_Fu_fireBurner_36 rfl (lv_at hl 0 rfl) ?_
      refine lv_dup (pc := 37) hx hb d_Fu_fireBurner_37 rfl ?_
      refine rg_get (C := R_Fu) (T := T_Fu) (N := 11) (v := .long (xs_he (xp_bb st false))) (pc := 38) hx hb hts i_Fu hown hK hP 3 (by omega) xgx_furn rfl 0 (by decide) (hts _ wd_29) rfl d_Fu_fireBurner_38 ?_
      refine lv_aload_n (pc := 41) hx hb d_Fu_fireBurner_41 rfl (lv_at hl 0 rfl) ?_
      refine rg_get (C := R_Fu) (T := T_Fu) (N := 11) (v := .int (xs_bh (xp_bb st false))) (pc := 42) hx hb hts i_Fu hown hK hP 3 (by omega) xgx_furn rfl 6 (by decide) (hts _ wd_40) rfl d_Fu_fireBurner_42 ?_
      refine lv_i2l (pc := 45) hx hb d_Fu_fireBurner_45 rfl ?_
      refine lv_ladd (pc := 46) hx hb d_Fu_fireBurner_46 ?_
      refine rg_put (C := R_Fu) (T := T_Fu) (N := 11) (pc := 47) hx hb hts i_Fu t_Fu t_Fu_ok n_Fu hown hK hR hP hS 3 (by omega) xgx_furn rfl 0 (by decide) (hts _ wd_29) rfl rfl rfl (Nat.le_of_ble_eq_true rfl) d_Fu_fireBurner_47 (xgx_furn_he ((xs_he (xp_bb st false)) + ((xs_bh (xp_bb st false)).toInt64))) (fun H locs hP hS => ?_)
      refine lv_aload_n (pc := 50) hx hb d_Fu_fireBurner_50 rfl (lv_at hl 0 rfl) ?_
      refine lv_dup (pc := 51) hx hb d_Fu_fireBurner_51 rfl ?_
      refine rg_get (C := R_Fu) (T := T_Fu) (N := 11) (v := .long (xs_nA (xp_he (xp_bb st false) ((xs_he (xp_bb st false)) + ((xs_bh (xp_bb st false)).toInt64))))) (pc := 52) hx hb hts i_Fu hown hK hP 3 (by omega) xgx_furn rfl 8 (by decide) (hts _ wd_43) rfl d_Fu_fireBurner_52 ?_
      refine lv_aload_n (pc := 55) hx hb d_Fu_fireBurner_55 rfl (lv_at hl 0 rfl) ?_
      refine rg_get (C := R_Fu) (T := T_Fu) (N := 11) (v := .int (xs_bh (xp_he (xp_bb st false) ((xs_he (xp_bb st false)) + ((xs_bh (xp_bb st false)).toInt64))))) (pc := 56) hx hb hts i_Fu hown hK hP 3 (by omega) xgx_furn rfl 6 (by decide) (hts _ wd_40) rfl d_Fu_fireBurner_56 ?_
      refine lv_i2l (pc := 59) hx hb d_Fu_fireBurner_59 rfl ?_
      refine lv_ladd (pc := 60) hx hb d_Fu_fireBurner_60 ?_
      refine rg_put (C := R_Fu) (T := T_Fu) (N := 11) (pc := 61) hx hb hts i_Fu t_Fu t_Fu_ok n_Fu hown hK hR hP hS 3 (by omega) xgx_furn rfl 8 (by decide) (hts _ wd_43) rfl rfl rfl (Nat.le_of_ble_eq_true rfl) d_Fu_fireBurner_61 (xgx_furn_nA ((xs_nA (xp_he (xp_bb st false) ((xs_he (xp_bb st false)) + ((xs_bh (xp_bb st false)).toInt64)))) + ((xs_bh (xp_he (xp_bb st false) ((xs_he (xp_bb st false)) + ((xs_bh (xp_bb st false)).toInt64)))).toInt64))) (fun H locs hP hS => ?_)
      have e9 : f_Fu_fireBurner Z st = xp_nA (xp_he (xp_bb st false) ((xs_he (xp_bb st false)) + ((xs_bh (xp_bb st false)).toInt64))) ((xs_nA (xp_he (xp_bb st false) ((xs_he (xp_bb st false)) + ((xs_bh (xp_bb st false)).toInt64)))) + ((xs_bh (xp_he (xp_bb st false) ((xs_he (xp_bb st false)) + ((xs_bh (xp_bb st false)).toInt64)))).toInt64)) := by unfold f_Fu_fireBurner; rw [if_pos c_1, if_neg c_2]
      exact rg_vret (pc := 64) hx hb hr hlocks hP hS (by rw [e9]) d_Fu_fireBurner_64
  · refine lv_aload_n (pc := 8) hx hb d_Fu_fireBurner_8 rfl (lv_at hl 0 rfl) ?_
    refine rg_get (C := R_Fu) (T := T_Fu) (N := 11) (v := .long (xs_he st)) (pc := 9) hx hb hts i_Fu hown hK hP 3 (by omega) xgx_furn rfl 0 (by decide) (hts _ wd_29) rfl d_Fu_fireBurner_9 ?_
    refine lv_aload_n (pc := 12) hx hb d_Fu_fireBurner_12 rfl (lv_at hl 0 rfl) ?_
    refine rg_get (C := R_Fu) (T := T_Fu) (N := 11) (v := .int (xs_bl st)) (pc := 13) hx hb hts i_Fu hown hK hP 3 (by omega) xgx_furn rfl 5 (by decide) (hts _ wd_39) rfl d_Fu_fireBurner_13 ?_
    refine lv_i2l (pc := 16) hx hb d_Fu_fireBurner_16 rfl ?_
    refine W.lcmp (pc := 17) hx hb d_Fu_fireBurner_17 ?_
    refine lv_if_ge (tgt := 25) (pc := 18) hx hb d_Fu_fireBurner_18 (by decide) (fun c_3 => ?_) (fun c_3 => ?_)
    · refine lv_iconst (v := 0) (pc := 25) hx hb d_Fu_fireBurner_25 (by decide) ?_
      refine rg_put (C := R_Fu) (T := T_Fu) (N := 11) (pc := 26) hx hb hts i_Fu t_Fu t_Fu_ok n_Fu hown hK hR hP hS 3 (by omega) xgx_furn rfl 4 (by decide) (hts _ wd_37) rfl rfl rfl (Nat.le_of_ble_eq_true rfl) d_Fu_fireBurner_26 (xgx_furn_bb false) (fun H locs hP hS => ?_)
      refine lv_aload_n (pc := 29) hx hb d_Fu_fireBurner_29 rfl (lv_at hl 0 rfl) ?_
      refine rg_get (C := R_Fu) (T := T_Fu) (N := 11) (v := .int (b2i (xs_bb (xp_bb st false)))) (pc := 30) hx hb hts i_Fu hown hK hP 3 (by omega) xgx_furn rfl 4 (by decide) (hts _ wd_37) rfl d_Fu_fireBurner_30 ?_
      refine lv_if_eq (tgt := 64) (pc := 33) hx hb d_Fu_fireBurner_33 (by decide) (fun c_4 => ?_) (fun c_4 => ?_)
      · have e9 : f_Fu_fireBurner Z st = xp_bb st false := by unfold f_Fu_fireBurner; rw [if_neg c_1, if_pos c_3, if_pos c_4]
        exact rg_vret (pc := 64) hx hb hr hlocks hP hS (by rw [e9]) d_Fu_fireBurner_64
      · refine lv_aload_n (pc := 36) hx hb d_Fu_fireBurner_36 rfl (lv_at hl 0 rfl) ?_
        refine lv_dup (pc := 37) hx hb d_Fu_fireBurner_37 rfl ?_
        refine rg_get (C := R_Fu) (T := T_Fu) (N := 11) (v := .long (xs_he (xp_bb st false))) (pc := 38) hx hb hts i_Fu hown hK hP 3 (by omega) xgx_furn rfl 0 (by decide) (hts _ wd_29) rfl d_Fu_fireBurner_38 ?_
        refine lv_aload_n (pc := 41) hx hb d_Fu_fireBurner_41 rfl (lv_at hl 0 rfl) ?_
        refine rg_get (C := R_Fu) (T := T_Fu) (N := 11) (v := .int (xs_bh (xp_bb st false))) (pc := 42) hx hb hts i_Fu hown hK hP 3 (by omega) xgx_furn rfl 6 (by decide) (hts _ wd_40) rfl d_Fu_fireBurner_42 ?_
        refine lv_i2l (pc := 45) hx hb d_Fu_fireBurner_45 rfl ?_
        refine lv_ladd (pc := 46) hx hb d_Fu_fireBurner_46 ?_
        refine rg_put (C := R_Fu) (T := T_Fu) (N := 11) (pc := 47) hx hb hts i_Fu t_Fu t_Fu_ok n_Fu hown hK hR hP hS 3 (by omega) xgx_furn rfl 0 (by decide) (hts _ wd_29) rfl rfl rfl (Nat.le_of_ble_eq_true rfl) d_Fu_fireBurner_47 (xgx_furn_he ((xs_he (xp_bb st false)) + ((xs_bh (xp_bb st false)).toInt64))) (fun H locs hP hS => ?_)
        refine lv_aload_n (pc := 50) hx hb d_Fu_fireBurner_50 rfl (lv_at hl 0 rfl) ?_
        refine lv_dup (pc := 51) hx hb d_Fu_fireBurner_51 rfl ?_
        refine rg_get (C := R_Fu) (T := T_Fu) (N := 11) (v := .long (xs_nA (xp_he (xp_bb st false) ((xs_he (xp_bb st false)) + ((xs_bh (xp_bb st false)).toInt64))))) (pc := 52) hx hb hts i_Fu hown hK hP 3 (by omega) xgx_furn rfl 8 (by decide) (hts _ wd_43) rfl d_Fu_fireBurner_52 ?_
        refine lv_aload_n (pc := 55) hx hb d_Fu_fireBurner_55 rfl (lv_at hl 0 rfl) ?_
        refine rg_get (C := R_Fu) (T := T_Fu) (N := 11) (v := .int (xs_bh (xp_he (xp_bb st false) ((xs_he (xp_bb st false)) + ((xs_bh (xp_bb st false)).toInt64))))) (pc := 56) hx hb hts i_Fu hown hK hP 3 (by omega) xgx_furn rfl 6 (by decide) (hts _ wd_40) rfl d_Fu_fireBurner_56 ?_
        refine lv_i2l (pc := 59) hx hb d_Fu_fireBurner_59 rfl ?_
        refine lv_ladd (pc := 60) hx hb d_Fu_fireBurner_60 ?_
        refine rg_put (C := R_Fu) (T := T_Fu) (N := 11) (pc := 61) hx hb hts i_Fu t_Fu t_Fu_ok n_Fu hown hK hR hP hS 3 (by omega) xgx_furn rfl 8 (by decide) (hts _ wd_43) rfl rfl rfl (Nat.le_of_ble_eq_true rfl) d_Fu_fireBurner_61 (xgx_furn_nA ((xs_nA (xp_he (xp_bb st false) ((xs_he (xp_bb st false)) + ((xs_bh (xp_bb st false)).toInt64)))) + ((xs_bh (xp_he (xp_bb st false) ((xs_he (xp_bb st false)) + ((xs_bh (xp_bb st false)).toInt64)))).toInt64))) (fun H locs hP hS => ?_)
        have e9 : f_Fu_fireBurner Z st = xp_nA (xp_he (xp_bb st false) ((xs_he (xp_bb st false)) + ((xs_bh (xp_bb st false)).toInt64))) ((xs_nA (xp_he (xp_bb st false) ((xs_he (xp_bb st false)) + ((xs_bh (xp_bb st false)).toInt64)))) + ((xs_bh (xp_he (xp_bb st false) ((xs_he (xp_bb st false)) + ((xs_bh (xp_bb st false)).toInt64)))).toInt64)) := by unfold f_Fu_fireBurner; rw [if_neg c_1, if_pos c_3, if_neg c_4]
        exact rg_vret (pc := 64) hx hb hr hlocks hP hS (by rw [e9]) d_Fu_fireBurner_64
    · refine lv_iconst (v := 1) (pc := 21) hx hb d_Fu_fireBurner_21 (by decide) ?_
      refine lv_goto (tgt := 26) (pc := 22) hx hb d_Fu_fireBurner_22 (by decide) ?_
      refine rg_put (C := R_Fu) (T := T_Fu) (N := 11) (pc := 26) hx hb hts i_Fu t_Fu t_Fu_ok n_Fu hown hK hR hP hS 3 (by omega) xgx_furn rfl 4 (by decide) (hts _ wd_37) rfl rfl rfl (Nat.le_of_ble_eq_true rfl) d_Fu_fireBurner_26 (xgx_furn_bb true) (fun H locs hP hS => ?_)
      refine lv_aload_n (pc := 29) hx hb d_Fu_fireBurner_29 rfl (lv_at hl 0 rfl) ?_
      refine rg_get (C := R_Fu) (T := T_Fu) (N := 11) (v := .int (b2i (xs_bb (xp_bb st true)))) (pc := 30) hx hb hts i_Fu hown hK hP 3 (by omega) xgx_furn rfl 4 (by decide) (hts _ wd_37) rfl d_Fu_fireBurner_30 ?_
      refine lv_if_eq (tgt := 64) (pc := 33) hx hb d_Fu_fireBurner_33 (by decide) (fun c_5 => ?_) (fun c_5 => ?_)
      · have e9 : f_Fu_fireBurner Z st = xp_bb st true := by unfold f_Fu_fireBurner; rw [if_neg c_1, if_neg c_3, if_pos c_5]
        exact rg_vret (pc := 64) hx hb hr hlocks hP hS (by rw [e9]) d_Fu_fireBurner_64
      · refine lv_aload_n (pc := 36) hx hb d_Fu_fireBurner_36 rfl (lv_at hl 0 rfl) ?_
        refine lv_dup (pc := 37) hx hb d_Fu_fireBurner_37 rfl ?_
        refine rg_get (C := R_Fu) (T := T_Fu) (N := 11) (v := .long (xs_he (xp_bb st true))) (pc := 38) hx hb hts i_Fu hown hK hP 3 (by omega) xgx_furn rfl 0 (by decide) (hts _ wd_29) rfl d_Fu_fireBurner_38 ?_
        refine lv_aload_n (pc := 41) hx hb d_Fu_fireBurner_41 rfl (lv_at hl 0 rfl) ?_
        refine rg_get (C := R_Fu) (T := T_Fu) (N := 11) (v := .int (xs_bh (xp_bb st true))) (pc := 42) hx hb hts i_Fu hown hK hP 3 (by omega) xgx_furn rfl 6 (by decide) (hts _ wd_40) rfl d_Fu_fireBurner_42 ?_
        refine lv_i2l (pc := 45) hx hb d_Fu_fireBurner_45 rfl ?_
        refine lv_ladd (pc := 46) hx hb d_Fu_fireBurner_46 ?_
        refine rg_put (C := R_Fu) (T := T_Fu) (N := 11) (pc := 47) hx hb hts i_Fu t_Fu t_Fu_ok n_Fu hown hK hR hP hS 3 (by omega) xgx_furn rfl 0 (by decide) (hts _ wd_29) rfl rfl rfl (Nat.le_of_ble_eq_true rfl) d_Fu_fireBurner_47 (xgx_furn_he ((xs_he (xp_bb st true)) + ((xs_bh (xp_bb st true)).toInt64))) (fun H locs hP hS => ?_)
        refine lv_aload_n (pc := 50) hx hb d_Fu_fireBurner_50 rfl (lv_at hl 0 rfl) ?_
        refine lv_dup (pc := 51) hx hb d_Fu_fireBurner_51 rfl ?_
        refine rg_get (C := R_Fu) (T := T_Fu) (N := 11) (v := .long (xs_nA (xp_he (xp_bb st true) ((xs_he (xp_bb st true)) + ((xs_bh (xp_bb st true)).toInt64))))) (pc := 52) hx hb hts i_Fu hown hK hP 3 (by omega) xgx_furn rfl 8 (by decide) (hts _ wd_43) rfl d_Fu_fireBurner_52 ?_
        refine lv_aload_n (pc := 55) hx hb d_Fu_fireBurner_55 rfl (lv_at hl 0 rfl) ?_
        refine rg_get (C := R_Fu) (T := T_Fu) (N := 11) (v := .int (xs_bh (xp_he (xp_bb st true) ((xs_he (xp_bb st true)) + ((xs_bh (xp_bb st true)).toInt64))))) (pc := 56) hx hb hts i_Fu hown hK hP 3 (by omega) xgx_furn rfl 6 (by decide) (hts _ wd_40) rfl d_Fu_fireBurner_56 ?_
        refine lv_i2l (pc := 59) hx hb d_Fu_fireBurner_59 rfl ?_
        refine lv_ladd (pc := 60) hx hb d_Fu_fireBurner_60 ?_
        refine rg_put (C := R_Fu) (T := T_Fu) (N := 11) (pc := 61) hx hb hts i_Fu t_Fu t_Fu_ok n_Fu hown hK hR hP hS 3 (by omega) xgx_furn rfl 8 (by decide) (hts _ wd_43) rfl rfl rfl (Nat.le_of_ble_eq_true rfl) d_Fu_fireBurner_61 (xgx_furn_nA ((xs_nA (xp_he (xp_bb st true) ((xs_he (xp_bb st true)) + ((xs_bh (xp_bb st true)).toInt64)))) + ((xs_bh (xp_he (xp_bb st true) ((xs_he (xp_bb st true)) + ((xs_bh (xp_bb st true)).toInt64)))).toInt64))) (fun H locs hP hS => ?_)
        have e9 : f_Fu_fireBurner Z st = xp_nA (xp_he (xp_bb st true) ((xs_he (xp_bb st true)) + ((xs_bh (xp_bb st true)).toInt64))) ((xs_nA (xp_he (xp_bb st true) ((xs_he (xp_bb st true)) + ((xs_bh (xp_bb st true)).toInt64)))) + ((xs_bh (xp_he (xp_bb st true) ((xs_he (xp_bb st true)) + ((xs_bh (xp_bb st true)).toInt64)))).toInt64)) := by unfold f_Fu_fireBurner; rw [if_neg c_1, if_neg c_3, if_neg c_5]
        exact rg_vret (pc := 64) hx hb hr hlocks hP hS (by rw [e9]) d_Fu_fireBurner_64

def f_Fu_makeSteam (Z : Nat) (st : xS) : xS :=
  xp_sA (xp_he (xp_sm st (f_GL_thousandths (xs_he st) (xs_bo st))) ((xs_he (xp_sm st (f_GL_thousandths (xs_he st) (xs_bo st)))) - (xs_sm (xp_sm st (f_GL_thousandths (xs_he st) (xs_bo st)))))) ((xs_sA (xp_he (xp_sm st (f_GL_thousandths (xs_he st) (xs_bo st))) ((xs_he (xp_sm st (f_GL_thousandths (xs_he st) (xs_bo st)))) - (xs_sm (xp_sm st (f_GL_thousandths (xs_he st) (xs_bo st))))))) + (xs_sm (xp_he (xp_sm st (f_GL_thousandths (xs_he st) (xs_bo st))) ((xs_he (xp_sm st (f_GL_thousandths (xs_he st) (xs_bo st)))) - (xs_sm (xp_sm st (f_GL_thousandths (xs_he st) (xs_bo st))))))))
set_option maxRecDepth 100000 in
set_option maxHeartbeats 4000000 in
theorem c_Fu_makeSteam {l : Launch} {D : va_G} {cA : Nat → ClassId} {Z : Nat} {ad : Nat → Nat} (hR : rD (36 + Z) ad) (hZ : 1 ≤ Z ∧ Z ≤ 6) (st : xS) : RV l y_Fu_makeSteam (mws y_Fu_makeSteam b_Fu_makeSteam 1 none) ({ frames := 1, cells := 0, slots := 0, locals := 22 } : Room) D clG (tyX cA) (36 + Z) ad (xgx Z ad cA (st)) [.ref (ad 3)] (xgx Z ad cA (f_Fu_makeSteam Z st)) := by
  refine RV_of (cc := b_Fu_makeSteam) (maxL := 1) (ret := none) (by decide) (Nat.le_of_ble_eq_true rfl) ?_
  intro p e s m args below meth c ls C hK hP hS hl
  obtain ⟨⟨hx, hb, hml, hown, hts⟩, hr, hlocks, hN⟩ := id C
  have hown : s.vm.findClass R_Fu = some m.cls := hown
  have hr : meth.sig.returnType = none := hr
  have hl : lv_has ls 1 [(0, .ref (ad 3))] := hl
  refine lv_aload_n (pc := 0) hx hb d_Fu_makeSteam_0 rfl (lv_at hl 0 rfl) ?_
  refine lv_aload_n (pc := 1) hx hb d_Fu_makeSteam_1 rfl (lv_at hl 0 rfl) ?_
  refine rg_get (C := R_Fu) (T := T_Fu) (N := 11) (v := .long (xs_he st)) (pc := 2) hx hb hts i_Fu hown hK hP 3 (by omega) xgx_furn rfl 0 (by decide) (hts _ wd_29) rfl d_Fu_makeSteam_2 ?_
  refine lv_aload_n (pc := 5) hx hb d_Fu_makeSteam_5 rfl (lv_at hl 0 rfl) ?_
  refine rg_get (C := R_Fu) (T := T_Fu) (N := 11) (v := .int (xs_bo st)) (pc := 6) hx hb hts i_Fu hown hK hP 3 (by omega) xgx_furn rfl 1 (by decide) (hts _ wd_32) rfl d_Fu_makeSteam_6 ?_
  refine rg_cl (pc := 9) (va_runSN (As := [.long (xs_he st), .int (xs_bo st)]) (rest := [.ref (ad 3)]) ⟨hx, hb, hml, hown, hts⟩ (c_GL_thousandths (l := l) (xs_he st) (xs_bo st) _) ⟨va_cnB 2 hts (gd_c wd_357) rfl rfl rfl (wn_Fu_45 hN) (hts _ wd_1) hd_GL_thousandths ⟨Nat.le_of_ble_eq_true rfl, Nat.le_of_ble_eq_true rfl⟩, hts _ wd_356, trivial⟩ ⟨rPc_blind _ _ _ _ _ _ _ _, rPc_at _ hP hK hN⟩ rfl rfl hl.1 rfl (lv_room (Nat.le_of_ble_eq_true rfl)) d_Fu_makeSteam_9 ⟨Nat.zero_le _, Nat.zero_le _⟩) hS (fun H locs hP hS => ?_)
  refine rg_put (C := R_Fu) (T := T_Fu) (N := 11) (pc := 12) hx hb hts i_Fu t_Fu t_Fu_ok n_Fu hown hK hR hP hS 3 (by omega) xgx_furn rfl 2 (by decide) (hts _ wd_34) rfl rfl rfl (Nat.le_of_ble_eq_true rfl) d_Fu_makeSteam_12 (xgx_furn_sm (f_GL_thousandths (xs_he st) (xs_bo st))) (fun H locs hP hS => ?_)
  refine lv_aload_n (pc := 15) hx hb d_Fu_makeSteam_15 rfl (lv_at hl 0 rfl) ?_
  refine lv_dup (pc := 16) hx hb d_Fu_makeSteam_16 rfl ?_
  refine rg_get (C := R_Fu) (T := T_Fu) (N := 11) (v := .long (xs_he (xp_sm st (f_GL_thousandths (xs_he st) (xs_bo st))))) (pc := 17) hx hb hts i_Fu hown hK hP 3 (by omega) xgx_furn rfl 0 (by decide) (hts _ wd_29) rfl d_Fu_makeSteam_17 ?_
  refine lv_aload_n (pc := 20) hx hb d_Fu_makeSteam_20 rfl (lv_at hl 0 rfl) ?_
  refine rg_get (C := R_Fu) (T := T_Fu) (N := 11) (v := .long (xs_sm (xp_sm st (f_GL_thousandths (xs_he st) (xs_bo st))))) (pc := 21) hx hb hts i_Fu hown hK hP 3 (by omega) xgx_furn rfl 2 (by decide) (hts _ wd_34) rfl d_Fu_makeSteam_21 ?_
  refine lv_lsub (pc := 24) hx hb d_Fu_makeSteam_24 ?_
  refine rg_put (C := R_Fu) (T := T_Fu) (N := 11) (pc := 25) hx hb hts i_Fu t_Fu t_Fu_ok n_Fu hown hK hR hP hS 3 (by omega) xgx_furn rfl 0 (by decide) (hts _ wd_29) rfl rfl rfl (Nat.le_of_ble_eq_true rfl) d_Fu_makeSteam_25 (xgx_furn_he ((xs_he (xp_sm st (f_GL_thousandths (xs_he st) (xs_bo st)))) - (xs_sm (xp_sm st (f_GL_thousandths (xs_he st) (xs_bo st)))))) (fun H locs hP hS => ?_)
  refine lv_aload_n (pc := 28) hx hb d_Fu_makeSteam_28 rfl (lv_at hl 0 rfl) ?_
  refine lv_dup (pc := 29) hx hb d_Fu_makeSteam_29 rfl ?_
  refine rg_get (C := R_Fu) (T := T_Fu) (N := 11) (v := .long (xs_sA (xp_he (xp_sm st (f_GL_thousandths (xs_he st) (xs_bo st))) ((xs_he (xp_sm st (f_GL_thousandths (xs_he st) (xs_bo st)))) - (xs_sm (xp_sm st (f_GL_thousandths (xs_he st) (xs_bo st)))))))) (pc := 30) hx hb hts i_Fu hown hK hP 3 (by omega) xgx_furn rfl 9 (by decide) (hts _ wd_45) rfl d_Fu_makeSteam_30 ?_
  refine lv_aload_n (pc := 33) hx hb d_Fu_makeSteam_33 rfl (lv_at hl 0 rfl) ?_
  refine rg_get (C := R_Fu) (T := T_Fu) (N := 11) (v := .long (xs_sm (xp_he (xp_sm st (f_GL_thousandths (xs_he st) (xs_bo st))) ((xs_he (xp_sm st (f_GL_thousandths (xs_he st) (xs_bo st)))) - (xs_sm (xp_sm st (f_GL_thousandths (xs_he st) (xs_bo st)))))))) (pc := 34) hx hb hts i_Fu hown hK hP 3 (by omega) xgx_furn rfl 2 (by decide) (hts _ wd_34) rfl d_Fu_makeSteam_34 ?_
  refine lv_ladd (pc := 37) hx hb d_Fu_makeSteam_37 ?_
  refine rg_put (C := R_Fu) (T := T_Fu) (N := 11) (pc := 38) hx hb hts i_Fu t_Fu t_Fu_ok n_Fu hown hK hR hP hS 3 (by omega) xgx_furn rfl 9 (by decide) (hts _ wd_45) rfl rfl rfl (Nat.le_of_ble_eq_true rfl) d_Fu_makeSteam_38 (xgx_furn_sA ((xs_sA (xp_he (xp_sm st (f_GL_thousandths (xs_he st) (xs_bo st))) ((xs_he (xp_sm st (f_GL_thousandths (xs_he st) (xs_bo st)))) - (xs_sm (xp_sm st (f_GL_thousandths (xs_he st) (xs_bo st))))))) + (xs_sm (xp_he (xp_sm st (f_GL_thousandths (xs_he st) (xs_bo st))) ((xs_he (xp_sm st (f_GL_thousandths (xs_he st) (xs_bo st)))) - (xs_sm (xp_sm st (f_GL_thousandths (xs_he st) (xs_bo st))))))))) (fun H locs hP hS => ?_)
  have e9 : f_Fu_makeSteam Z st = xp_sA (xp_he (xp_sm st (f_GL_thousandths (xs_he st) (xs_bo st))) ((xs_he (xp_sm st (f_GL_thousandths (xs_he st) (xs_bo st)))) - (xs_sm (xp_sm st (f_GL_thousandths (xs_he st) (xs_bo st)))))) ((xs_sA (xp_he (xp_sm st (f_GL_thousandths (xs_he st) (xs_bo st))) ((xs_he (xp_sm st (f_GL_thousandths (xs_he st) (xs_bo st)))) - (xs_sm (xp_sm st (f_GL_thousandths (xs_he st) (xs_bo st))))))) + (xs_sm (xp_he (xp_sm st (f_GL_thousandths (xs_he st) (xs_bo st))) ((xs_he (xp_sm st (f_GL_thousandths (xs_he st) (xs_bo st)))) - (xs_sm (xp_sm st (f_GL_thousandths (xs_he st) (xs_bo st)))))))) := rfl
  exact rg_vret (pc := 41) hx hb hr hlocks hP hS (by rw [e9]) d_Fu_makeSteam_41

def f_Fu_imbalance (Z : Nat) (st : xS) : Int64 :=
  ((((xs_fA st) + (xs_nA st)) - (xs_sA st)) - (xs_yA st)) - (xs_he st)
set_option maxRecDepth 100000 in
set_option maxHeartbeats 4000000 in
theorem c_Fu_imbalance {l : Launch} {D : va_G} {cA : Nat → ClassId} {Z : Nat} {ad : Nat → Nat} (hR : rD (36 + Z) ad) (hZ : 1 ≤ Z ∧ Z ≤ 6) (st : xS) : RL l y_Fu_imbalance (mws y_Fu_imbalance b_Fu_imbalance 1 (some .long)) ({ frames := 0, cells := 0, slots := 0, locals := 0 } : Room) D clG (tyX cA) (36 + Z) ad (xgx Z ad cA (st)) [.ref (ad 3)] (f_Fu_imbalance Z st) (xgx Z ad cA (st)) := by
  refine RL_of (cc := b_Fu_imbalance) (maxL := 1) (ret := (some .long)) (by decide) (Nat.le_of_ble_eq_true rfl) ?_
  intro p e s m args below meth c ls C hK hP hS hl
  obtain ⟨⟨hx, hb, hml, hown, hts⟩, hr, hlocks, hN⟩ := id C
  have hown : s.vm.findClass R_Fu = some m.cls := hown
  have hr : meth.sig.returnType = (some .long) := hr
  have hl : lv_has ls 1 [(0, .ref (ad 3))] := hl
  refine lv_aload_n (pc := 0) hx hb d_Fu_imbalance_0 rfl (lv_at hl 0 rfl) ?_
  refine rg_get (C := R_Fu) (T := T_Fu) (N := 11) (v := .long (xs_fA st)) (pc := 1) hx hb hts i_Fu hown hK hP 3 (by omega) xgx_furn rfl 7 (by decide) (hts _ wd_41) rfl d_Fu_imbalance_1 ?_
  refine lv_aload_n (pc := 4) hx hb d_Fu_imbalance_4 rfl (lv_at hl 0 rfl) ?_
  refine rg_get (C := R_Fu) (T := T_Fu) (N := 11) (v := .long (xs_nA st)) (pc := 5) hx hb hts i_Fu hown hK hP 3 (by omega) xgx_furn rfl 8 (by decide) (hts _ wd_43) rfl d_Fu_imbalance_5 ?_
  refine lv_ladd (pc := 8) hx hb d_Fu_imbalance_8 ?_
  refine lv_aload_n (pc := 9) hx hb d_Fu_imbalance_9 rfl (lv_at hl 0 rfl) ?_
  refine rg_get (C := R_Fu) (T := T_Fu) (N := 11) (v := .long (xs_sA st)) (pc := 10) hx hb hts i_Fu hown hK hP 3 (by omega) xgx_furn rfl 9 (by decide) (hts _ wd_45) rfl d_Fu_imbalance_10 ?_
  refine lv_lsub (pc := 13) hx hb d_Fu_imbalance_13 ?_
  refine lv_aload_n (pc := 14) hx hb d_Fu_imbalance_14 rfl (lv_at hl 0 rfl) ?_
  refine rg_get (C := R_Fu) (T := T_Fu) (N := 11) (v := .long (xs_yA st)) (pc := 15) hx hb hts i_Fu hown hK hP 3 (by omega) xgx_furn rfl 10 (by decide) (hts _ wd_47) rfl d_Fu_imbalance_15 ?_
  refine lv_lsub (pc := 18) hx hb d_Fu_imbalance_18 ?_
  refine lv_aload_n (pc := 19) hx hb d_Fu_imbalance_19 rfl (lv_at hl 0 rfl) ?_
  refine rg_get (C := R_Fu) (T := T_Fu) (N := 11) (v := .long (xs_he st)) (pc := 20) hx hb hts i_Fu hown hK hP 3 (by omega) xgx_furn rfl 0 (by decide) (hts _ wd_29) rfl d_Fu_imbalance_20 ?_
  refine lv_lsub (pc := 23) hx hb d_Fu_imbalance_23 ?_
  have e9 : f_Fu_imbalance Z st = ((((xs_fA st) + (xs_nA st)) - (xs_sA st)) - (xs_yA st)) - (xs_he st) := rfl
  exact rg_lret (pc := 24) hx hb hr hlocks hP hS ⟨e9.symm, rfl⟩ d_Fu_imbalance_24

def f_Zo_add (Z : Nat) (st : xS) (j : Nat) (a : Int64) (b : Int64) (d : Int64) : xS :=
  xp_za (xp_zf (xp_zw st j ((xs_zw st j) + a)) j ((xs_zf (xp_zw st j ((xs_zw st j) + a)) j) + b)) j ((xs_za (xp_zf (xp_zw st j ((xs_zw st j) + a)) j ((xs_zf (xp_zw st j ((xs_zw st j) + a)) j) + b)) j) + d)
set_option maxRecDepth 100000 in
set_option maxHeartbeats 4000000 in
theorem c_Zo_add {l : Launch} {D : va_G} {cA : Nat → ClassId} {Z : Nat} {ad : Nat → Nat} (hR : rD (36 + Z) ad) (hZ : 1 ≤ Z ∧ Z ≤ 6) (st : xS) (j : Nat) (hj : j < Z) (a : Int64) (b : Int64) (d : Int64) : RV l y_Zo_add (mws y_Zo_add b_Zo_add 7 none) ({ frames := 0, cells := 0, slots := 0, locals := 0 } : Room) D clG (tyX cA) (36 + Z) ad (xgx Z ad cA (st)) [.ref (ad (36 + j)), .long a, .long b, .long d] (xgx Z ad cA (f_Zo_add Z st j a b d)) := by
  refine RV_of (cc := b_Zo_add) (maxL := 7) (ret := none) (by decide) (Nat.le_of_ble_eq_true rfl) ?_
  intro p e s m args below meth c ls C hK hP hS hl
  obtain ⟨⟨hx, hb, hml, hown, hts⟩, hr, hlocks, hN⟩ := id C
  have hown : s.vm.findClass R_Zo = some m.cls := hown
  have hr : meth.sig.returnType = none := hr
  have hl : lv_has ls 7 [(0, .ref (ad (36 + j))), (1, .long a), (3, .long b), (5, .long d)] := hl
  refine lv_aload_n (pc := 0) hx hb d_Zo_add_0 rfl (lv_at hl 0 rfl) ?_
  refine lv_dup (pc := 1) hx hb d_Zo_add_1 rfl ?_
  refine rg_get (C := R_Zo) (T := T_Zo) (N := 5) (v := .long (xs_zw st j)) (pc := 2) hx hb hts i_Zo hown hK hP (36 + j) (by omega) (xgx_Zone (j := j) (by omega)) rfl 0 (by decide) (hts _ wd_120) rfl d_Zo_add_2 ?_
  refine lv_lload_n (pc := 5) hx hb d_Zo_add_5 rfl (lv_at hl 1 rfl) ?_
  refine lv_ladd (pc := 6) hx hb d_Zo_add_6 ?_
  refine rg_put (C := R_Zo) (T := T_Zo) (N := 5) (pc := 7) hx hb hts i_Zo t_Zo t_Zo_ok n_Zo hown hK hR hP hS (36 + j) (by omega) (xgx_Zone (j := j) (by omega)) rfl 0 (by decide) (hts _ wd_120) rfl rfl rfl (Nat.le_of_ble_eq_true rfl) d_Zo_add_7 (xgx_Zone_zw (j := j) (by omega) ((xs_zw st j) + a)) (fun H locs hP hS => ?_)
  refine lv_aload_n (pc := 10) hx hb d_Zo_add_10 rfl (lv_at hl 0 rfl) ?_
  refine lv_dup (pc := 11) hx hb d_Zo_add_11 rfl ?_
  refine rg_get (C := R_Zo) (T := T_Zo) (N := 5) (v := .long (xs_zf (xp_zw st j ((xs_zw st j) + a)) j)) (pc := 12) hx hb hts i_Zo hown hK hP (36 + j) (by omega) (xgx_Zone (j := j) (by omega)) rfl 1 (by decide) (hts _ wd_123) rfl d_Zo_add_12 ?_
  refine lv_lload_n (pc := 15) hx hb d_Zo_add_15 rfl (lv_at hl 2 rfl) ?_
  refine lv_ladd (pc := 16) hx hb d_Zo_add_16 ?_
  refine rg_put (C := R_Zo) (T := T_Zo) (N := 5) (pc := 17) hx hb hts i_Zo t_Zo t_Zo_ok n_Zo hown hK hR hP hS (36 + j) (by omega) (xgx_Zone (j := j) (by omega)) rfl 1 (by decide) (hts _ wd_123) rfl rfl rfl (Nat.le_of_ble_eq_true rfl) d_Zo_add_17 (xgx_Zone_zf (j := j) (by omega) ((xs_zf (xp_zw st j ((xs_zw st j) + a)) j) + b)) (fun H locs hP hS => ?_)
  refine lv_aload_n (pc := 20) hx hb d_Zo_add_20 rfl (lv_at hl 0 rfl) ?_
  refine lv_dup (pc := 21) hx hb d_Zo_add_21 rfl ?_
  refine rg_get (C := R_Zo) (T := T_Zo) (N := 5) (v := .long (xs_za (xp_zf (xp_zw st j ((xs_zw st j) + a)) j ((xs_zf (xp_zw st j ((xs_zw st j) + a)) j) + b)) j)) (pc := 22) hx hb hts i_Zo hown hK hP (36 + j) (by omega) (xgx_Zone (j := j) (by omega)) rfl 2 (by decide) (hts _ wd_126) rfl d_Zo_add_22 ?_
  refine lv_lload (pc := 25) hx hb d_Zo_add_25 (lv_at hl 3 rfl) ?_
  refine lv_ladd (pc := 27) hx hb d_Zo_add_27 ?_
  refine rg_put (C := R_Zo) (T := T_Zo) (N := 5) (pc := 28) hx hb hts i_Zo t_Zo t_Zo_ok n_Zo hown hK hR hP hS (36 + j) (by omega) (xgx_Zone (j := j) (by omega)) rfl 2 (by decide) (hts _ wd_126) rfl rfl rfl (Nat.le_of_ble_eq_true rfl) d_Zo_add_28 (xgx_Zone_za (j := j) (by omega) ((xs_za (xp_zf (xp_zw st j ((xs_zw st j) + a)) j ((xs_zf (xp_zw st j ((xs_zw st j) + a)) j) + b)) j) + d)) (fun H locs hP hS => ?_)
  have e9 : f_Zo_add Z st j a b d = xp_za (xp_zf (xp_zw st j ((xs_zw st j) + a)) j ((xs_zf (xp_zw st j ((xs_zw st j) + a)) j) + b)) j ((xs_za (xp_zf (xp_zw st j ((xs_zw st j) + a)) j ((xs_zf (xp_zw st j ((xs_zw st j) + a)) j) + b)) j) + d) := rfl
  exact rg_vret (pc := 31) hx hb hr hlocks hP hS (by rw [e9]) d_Zo_add_31

def f_Zo_dry (Z : Nat) (st : xS) (j : Nat) : Int64 × xS :=
  ((if ((xs_he st) / 2500) < (f_GL_thousandths (xs_zw st j) (xs_zd st j)) then ((xs_he st) / 2500) else (f_GL_thousandths (xs_zw st j) (xs_zd st j))), f_Fu_spendOnDrying Z (xp_zw st j ((xs_zw st j) - (if ((xs_he st) / 2500) < (f_GL_thousandths (xs_zw st j) (xs_zd st j)) then ((xs_he st) / 2500) else (f_GL_thousandths (xs_zw st j) (xs_zd st j))))) ((if ((xs_he st) / 2500) < (f_GL_thousandths (xs_zw st j) (xs_zd st j)) then ((xs_he st) / 2500) else (f_GL_thousandths (xs_zw st j) (xs_zd st j))) * 2500))
set_option maxRecDepth 100000 in
set_option maxHeartbeats 4000000 in
theorem c_Zo_dry {l : Launch} {D : va_G} {cA : Nat → ClassId} {Z : Nat} {ad : Nat → Nat} (hR : rD (36 + Z) ad) (hZ : 1 ≤ Z ∧ Z ≤ 6) (st : xS) (j : Nat) (hj : j < Z) : RL l y_Zo_dry (mws y_Zo_dry b_Zo_dry 4 (some .long)) ({ frames := 1, cells := 0, slots := 0, locals := 23 } : Room) D clG (tyX cA) (36 + Z) ad (xgx Z ad cA (st)) [.ref (ad (36 + j)), .ref (ad 3)] (f_Zo_dry Z st j).1 (xgx Z ad cA ((f_Zo_dry Z st j).2)) := by
  refine RL_of (cc := b_Zo_dry) (maxL := 4) (ret := (some .long)) (by decide) (Nat.le_of_ble_eq_true rfl) ?_
  intro p e s m args below meth c ls C hK hP hS hl
  obtain ⟨⟨hx, hb, hml, hown, hts⟩, hr, hlocks, hN⟩ := id C
  have hown : s.vm.findClass R_Zo = some m.cls := hown
  have hr : meth.sig.returnType = (some .long) := hr
  have hl : lv_has ls 4 [(0, .ref (ad (36 + j))), (1, .ref (ad 3))] := hl
  refine lv_aload_n (pc := 0) hx hb d_Zo_dry_0 rfl (lv_at hl 0 rfl) ?_
  refine rg_get (C := R_Zo) (T := T_Zo) (N := 5) (v := .long (xs_zw st j)) (pc := 1) hx hb hts i_Zo hown hK hP (36 + j) (by omega) (xgx_Zone (j := j) (by omega)) rfl 0 (by decide) (hts _ wd_120) rfl d_Zo_dry_1 ?_
  refine lv_aload_n (pc := 4) hx hb d_Zo_dry_4 rfl (lv_at hl 0 rfl) ?_
  refine rg_get (C := R_Zo) (T := T_Zo) (N := 5) (v := .int (xs_zd st j)) (pc := 5) hx hb hts i_Zo hown hK hP (36 + j) (by omega) (xgx_Zone (j := j) (by omega)) rfl 4 (by decide) (hts _ wd_132) rfl d_Zo_dry_5 ?_
  refine rg_cl (pc := 8) (va_runSN (As := [.long (xs_zw st j), .int (xs_zd st j)]) (rest := []) ⟨hx, hb, hml, hown, hts⟩ (c_GL_thousandths (l := l) (xs_zw st j) (xs_zd st j) _) ⟨va_cnB 2 hts (gd_c wd_357) rfl rfl rfl (wn_Zo_28 hN) (hts _ wd_1) hd_GL_thousandths ⟨Nat.le_of_ble_eq_true rfl, Nat.le_of_ble_eq_true rfl⟩, hts _ wd_356, trivial⟩ ⟨rPc_blind _ _ _ _ _ _ _ _, rPc_at _ hP hK hN⟩ rfl rfl hl.1 rfl (lv_room (Nat.le_of_ble_eq_true rfl)) d_Zo_dry_8 ⟨Nat.zero_le _, Nat.zero_le _⟩) hS (fun H locs hP hS => ?_)
  refine lv_aload_n (pc := 11) hx hb d_Zo_dry_11 rfl (lv_at hl 1 rfl) ?_
  refine rg_get (C := R_Fu) (T := T_Fu) (N := 11) (v := .long (xs_he st)) (pc := 12) hx hb hts i_Fu hown hK hP 3 (by omega) xgx_furn rfl 0 (by decide) (hts _ wd_30) rfl d_Zo_dry_12 ?_
  refine lv_ldc2 (v := 2500) (pc := 15) hx hb hown (hts _ wd_378) d_Zo_dry_15 ?_
  refine lv_ldiv (pc := 18) hx hb d_Zo_dry_18 (by decide) ?_
  refine va_mmin_long (pc := 19) hx hb (hml.trans hl.1.symm) hown (hts _ wd_379) (hts _ wd_380) (hts _ wd_10) (hts _ wd_381) (Nat.le_of_ble_eq_true rfl) (Nat.le_of_ble_eq_true rfl) (Nat.zero_le _) (Nat.zero_le _) d_Zo_dry_19 ?_
  refine lv_lstore_n (lv' := [(2, .long ((if ((xs_he st) / 2500) < (f_GL_thousandths (xs_zw st j) (xs_zd st j)) then ((xs_he st) / 2500) else (f_GL_thousandths (xs_zw st j) (xs_zd st j))))), (0, .ref (ad (36 + j))), (1, .ref (ad 3))]) (pc := 22) hx hb d_Zo_dry_22 rfl hl (by decide) rfl (fun ls hl => ?_)
  refine lv_aload_n (pc := 23) hx hb d_Zo_dry_23 rfl (lv_at hl 1 rfl) ?_
  refine lv_dup (pc := 24) hx hb d_Zo_dry_24 rfl ?_
  refine rg_get (C := R_Zo) (T := T_Zo) (N := 5) (v := .long (xs_zw st j)) (pc := 25) hx hb hts i_Zo hown hK hP (36 + j) (by omega) (xgx_Zone (j := j) (by omega)) rfl 0 (by decide) (hts _ wd_120) rfl d_Zo_dry_25 ?_
  refine lv_lload_n (pc := 28) hx hb d_Zo_dry_28 rfl (lv_at hl 0 rfl) ?_
  refine lv_lsub (pc := 29) hx hb d_Zo_dry_29 ?_
  refine rg_put (C := R_Zo) (T := T_Zo) (N := 5) (pc := 30) hx hb hts i_Zo t_Zo t_Zo_ok n_Zo hown hK hR hP hS (36 + j) (by omega) (xgx_Zone (j := j) (by omega)) rfl 0 (by decide) (hts _ wd_120) rfl rfl rfl (Nat.le_of_ble_eq_true rfl) d_Zo_dry_30 (xgx_Zone_zw (j := j) (by omega) ((xs_zw st j) - (if ((xs_he st) / 2500) < (f_GL_thousandths (xs_zw st j) (xs_zd st j)) then ((xs_he st) / 2500) else (f_GL_thousandths (xs_zw st j) (xs_zd st j))))) (fun H locs hP hS => ?_)
  refine lv_aload_n (pc := 33) hx hb d_Zo_dry_33 rfl (lv_at hl 2 rfl) ?_
  refine lv_lload_n (pc := 34) hx hb d_Zo_dry_34 rfl (lv_at hl 0 rfl) ?_
  refine lv_ldc2 (v := 2500) (pc := 35) hx hb hown (hts _ wd_378) d_Zo_dry_35 ?_
  refine lv_lmul (pc := 38) hx hb d_Zo_dry_38 ?_
  refine rg_cv (pc := 39) (va_runV (As := [.long ((if ((xs_he st) / 2500) < (f_GL_thousandths (xs_zw st j) (xs_zd st j)) then ((xs_he st) / 2500) else (f_GL_thousandths (xs_zw st j) (xs_zd st j))) * 2500)]) (rest := []) ⟨hx, hb, hml, hown, hts⟩ (c_Fu_spendOnDrying (l := l) hR hZ (xp_zw st j ((xs_zw st j) - (if ((xs_he st) / 2500) < (f_GL_thousandths (xs_zw st j) (xs_zd st j)) then ((xs_he st) / 2500) else (f_GL_thousandths (xs_zw st j) (xs_zd st j))))) ((if ((xs_he st) / 2500) < (f_GL_thousandths (xs_zw st j) (xs_zd st j)) then ((xs_he st) / 2500) else (f_GL_thousandths (xs_zw st j) (xs_zd st j))) * 2500) _) ⟨callB_of 1 hts (gd_c wd_385) rfl rfl rfl (hts _ wd_2) (hts _ wd_382) hd_Fu_spendOnDrying ⟨Nat.le_of_ble_eq_true rfl, Nat.le_of_ble_eq_true rfl⟩, hts _ wd_383, hts _ wd_384⟩ ⟨rPc_blind _ _ _ _ _ _ _ _, rg_rec hK hP 3 (by omega) xgx_furn rfl, rPc_at _ hP hK hN⟩ rfl rfl hl.1 rfl (lv_room (Nat.le_of_ble_eq_true rfl)) d_Zo_dry_39 ⟨Nat.zero_le _, Nat.zero_le _⟩) hS (fun H locs hP hS => ?_)
  refine lv_lload_n (pc := 42) hx hb d_Zo_dry_42 rfl (lv_at hl 0 rfl) ?_
  have e9 : f_Zo_dry Z st j = ((if ((xs_he st) / 2500) < (f_GL_thousandths (xs_zw st j) (xs_zd st j)) then ((xs_he st) / 2500) else (f_GL_thousandths (xs_zw st j) (xs_zd st j))), f_Fu_spendOnDrying Z (xp_zw st j ((xs_zw st j) - (if ((xs_he st) / 2500) < (f_GL_thousandths (xs_zw st j) (xs_zd st j)) then ((xs_he st) / 2500) else (f_GL_thousandths (xs_zw st j) (xs_zd st j))))) ((if ((xs_he st) / 2500) < (f_GL_thousandths (xs_zw st j) (xs_zd st j)) then ((xs_he st) / 2500) else (f_GL_thousandths (xs_zw st j) (xs_zd st j))) * 2500)) := rfl
  exact rg_lret (pc := 43) hx hb hr hlocks hP hS ⟨by rw [e9], by rw [e9]⟩ d_Zo_dry_43

def f_Zo_burn (Z : Nat) (st : xS) (j : Nat) : Int64 × xS :=
  if (lg_cmp (xs_zw st j) (xs_zf st j)) ≤ 0 then
    ((if ((f_GL_thousandths (xs_zf st j) 50) + 1) < (if (((xs_zv st j) / 6).toInt64) < (xs_zf st j) then (((xs_zv st j) / 6).toInt64) else (xs_zf st j)) then ((f_GL_thousandths (xs_zf st j) 50) + 1) else (if (((xs_zv st j) / 6).toInt64) < (xs_zf st j) then (((xs_zv st j) / 6).toInt64) else (xs_zf st j))), f_Fu_takeFromFuel Z (xp_zf st j ((xs_zf st j) - (if ((f_GL_thousandths (xs_zf st j) 50) + 1) < (if (((xs_zv st j) / 6).toInt64) < (xs_zf st j) then (((xs_zv st j) / 6).toInt64) else (xs_zf st j)) then ((f_GL_thousandths (xs_zf st j) 50) + 1) else (if (((xs_zv st j) / 6).toInt64) < (xs_zf st j) then (((xs_zv st j) / 6).toInt64) else (xs_zf st j))))) ((if ((f_GL_thousandths (xs_zf st j) 50) + 1) < (if (((xs_zv st j) / 6).toInt64) < (xs_zf st j) then (((xs_zv st j) / 6).toInt64) else (xs_zf st j)) then ((f_GL_thousandths (xs_zf st j) 50) + 1) else (if (((xs_zv st j) / 6).toInt64) < (xs_zf st j) then (((xs_zv st j) / 6).toInt64) else (xs_zf st j))) * 10000))
  else
    (0, st)
set_option maxRecDepth 100000 in
set_option maxHeartbeats 4000000 in
theorem c_Zo_burn {l : Launch} {D : va_G} {cA : Nat → ClassId} {Z : Nat} {ad : Nat → Nat} (hR : rD (36 + Z) ad) (hZ : 1 ≤ Z ∧ Z ≤ 6) (st : xS) (j : Nat) (hj : j < Z) : RL l y_Zo_burn (mws y_Zo_burn b_Zo_burn 6 (some .long)) ({ frames := 1, cells := 0, slots := 0, locals := 23 } : Room) D clG (tyX cA) (36 + Z) ad (xgx Z ad cA (st)) [.ref (ad (36 + j)), .ref (ad 3)] (f_Zo_burn Z st j).1 (xgx Z ad cA ((f_Zo_burn Z st j).2)) := by
  refine RL_of (cc := b_Zo_burn) (maxL := 6) (ret := (some .long)) (by decide) (Nat.le_of_ble_eq_true rfl) ?_
  intro p e s m args below meth c ls C hK hP hS hl
  obtain ⟨⟨hx, hb, hml, hown, hts⟩, hr, hlocks, hN⟩ := id C
  have hown : s.vm.findClass R_Zo = some m.cls := hown
  have hr : meth.sig.returnType = (some .long) := hr
  have hl : lv_has ls 6 [(0, .ref (ad (36 + j))), (1, .ref (ad 3))] := hl
  refine lv_aload_n (pc := 0) hx hb d_Zo_burn_0 rfl (lv_at hl 0 rfl) ?_
  refine rg_get (C := R_Zo) (T := T_Zo) (N := 5) (v := .long (xs_zw st j)) (pc := 1) hx hb hts i_Zo hown hK hP (36 + j) (by omega) (xgx_Zone (j := j) (by omega)) rfl 0 (by decide) (hts _ wd_120) rfl d_Zo_burn_1 ?_
  refine lv_aload_n (pc := 4) hx hb d_Zo_burn_4 rfl (lv_at hl 0 rfl) ?_
  refine rg_get (C := R_Zo) (T := T_Zo) (N := 5) (v := .long (xs_zf st j)) (pc := 5) hx hb hts i_Zo hown hK hP (36 + j) (by omega) (xgx_Zone (j := j) (by omega)) rfl 1 (by decide) (hts _ wd_123) rfl d_Zo_burn_5 ?_
  refine W.lcmp (pc := 8) hx hb d_Zo_burn_8 ?_
  refine lv_if_le (tgt := 14) (pc := 9) hx hb d_Zo_burn_9 (by decide) (fun c_1 => ?_) (fun c_1 => ?_)
  · refine lv_aload_n (pc := 14) hx hb d_Zo_burn_14 rfl (lv_at hl 0 rfl) ?_
    refine rg_get (C := R_Zo) (T := T_Zo) (N := 5) (v := .long (xs_zf st j)) (pc := 15) hx hb hts i_Zo hown hK hP (36 + j) (by omega) (xgx_Zone (j := j) (by omega)) rfl 1 (by decide) (hts _ wd_123) rfl d_Zo_burn_15 ?_
    refine lv_aload_n (pc := 18) hx hb d_Zo_burn_18 rfl (lv_at hl 0 rfl) ?_
    refine rg_get (C := R_Zo) (T := T_Zo) (N := 5) (v := .int (xs_zv st j)) (pc := 19) hx hb hts i_Zo hown hK hP (36 + j) (by omega) (xgx_Zone (j := j) (by omega)) rfl 3 (by decide) (hts _ wd_129) rfl d_Zo_burn_19 ?_
    refine lv_bipush (v := 6) (pc := 22) hx hb d_Zo_burn_22 (by decide) ?_
    refine lv_idiv (pc := 24) hx hb d_Zo_burn_24 (by decide) ?_
    refine lv_i2l (pc := 25) hx hb d_Zo_burn_25 rfl ?_
    refine va_mmin_long (pc := 26) hx hb (hml.trans hl.1.symm) hown (hts _ wd_379) (hts _ wd_380) (hts _ wd_10) (hts _ wd_381) (Nat.le_of_ble_eq_true rfl) (Nat.le_of_ble_eq_true rfl) (Nat.zero_le _) (Nat.zero_le _) d_Zo_burn_26 ?_
    refine lv_lstore_n (lv' := [(2, .long ((if (((xs_zv st j) / 6).toInt64) < (xs_zf st j) then (((xs_zv st j) / 6).toInt64) else (xs_zf st j)))), (0, .ref (ad (36 + j))), (1, .ref (ad 3))]) (pc := 29) hx hb d_Zo_burn_29 rfl hl (by decide) rfl (fun ls hl => ?_)
    refine lv_lload_n (pc := 30) hx hb d_Zo_burn_30 rfl (lv_at hl 0 rfl) ?_
    refine lv_aload_n (pc := 31) hx hb d_Zo_burn_31 rfl (lv_at hl 1 rfl) ?_
    refine rg_get (C := R_Zo) (T := T_Zo) (N := 5) (v := .long (xs_zf st j)) (pc := 32) hx hb hts i_Zo hown hK hP (36 + j) (by omega) (xgx_Zone (j := j) (by omega)) rfl 1 (by decide) (hts _ wd_123) rfl d_Zo_burn_32 ?_
    refine lv_bipush (v := 50) (pc := 35) hx hb d_Zo_burn_35 (by decide) ?_
    refine rg_cl (pc := 37) (va_runSN (As := [.long (xs_zf st j), .int 50]) (rest := [.long ((if (((xs_zv st j) / 6).toInt64) < (xs_zf st j) then (((xs_zv st j) / 6).toInt64) else (xs_zf st j)))]) ⟨hx, hb, hml, hown, hts⟩ (c_GL_thousandths (l := l) (xs_zf st j) 50 _) ⟨va_cnB 2 hts (gd_c wd_357) rfl rfl rfl (wn_Zo_28 hN) (hts _ wd_1) hd_GL_thousandths ⟨Nat.le_of_ble_eq_true rfl, Nat.le_of_ble_eq_true rfl⟩, hts _ wd_356, trivial⟩ ⟨rPc_blind _ _ _ _ _ _ _ _, rPc_at _ hP hK hN⟩ rfl rfl hl.1 rfl (lv_room (Nat.le_of_ble_eq_true rfl)) d_Zo_burn_37 ⟨Nat.zero_le _, Nat.zero_le _⟩) hS (fun H locs hP hS => ?_)
    refine lv_lconst (v := 1) (pc := 40) hx hb d_Zo_burn_40 (by decide) ?_
    refine lv_ladd (pc := 41) hx hb d_Zo_burn_41 ?_
    refine va_mmin_long (pc := 42) hx hb (hml.trans hl.1.symm) hown (hts _ wd_379) (hts _ wd_380) (hts _ wd_10) (hts _ wd_381) (Nat.le_of_ble_eq_true rfl) (Nat.le_of_ble_eq_true rfl) (Nat.zero_le _) (Nat.zero_le _) d_Zo_burn_42 ?_
    refine lv_lstore (lv' := [(4, .long ((if ((f_GL_thousandths (xs_zf st j) 50) + 1) < (if (((xs_zv st j) / 6).toInt64) < (xs_zf st j) then (((xs_zv st j) / 6).toInt64) else (xs_zf st j)) then ((f_GL_thousandths (xs_zf st j) 50) + 1) else (if (((xs_zv st j) / 6).toInt64) < (xs_zf st j) then (((xs_zv st j) / 6).toInt64) else (xs_zf st j))))), (2, .long ((if (((xs_zv st j) / 6).toInt64) < (xs_zf st j) then (((xs_zv st j) / 6).toInt64) else (xs_zf st j)))), (0, .ref (ad (36 + j))), (1, .ref (ad 3))]) (pc := 45) hx hb d_Zo_burn_45 hl (by decide) rfl (fun ls hl => ?_)
    refine lv_aload_n (pc := 47) hx hb d_Zo_burn_47 rfl (lv_at hl 2 rfl) ?_
    refine lv_dup (pc := 48) hx hb d_Zo_burn_48 rfl ?_
    refine rg_get (C := R_Zo) (T := T_Zo) (N := 5) (v := .long (xs_zf st j)) (pc := 49) hx hb hts i_Zo hown hK hP (36 + j) (by omega) (xgx_Zone (j := j) (by omega)) rfl 1 (by decide) (hts _ wd_123) rfl d_Zo_burn_49 ?_
    refine lv_lload (pc := 52) hx hb d_Zo_burn_52 (lv_at hl 0 rfl) ?_
    refine lv_lsub (pc := 54) hx hb d_Zo_burn_54 ?_
    refine rg_put (C := R_Zo) (T := T_Zo) (N := 5) (pc := 55) hx hb hts i_Zo t_Zo t_Zo_ok n_Zo hown hK hR hP hS (36 + j) (by omega) (xgx_Zone (j := j) (by omega)) rfl 1 (by decide) (hts _ wd_123) rfl rfl rfl (Nat.le_of_ble_eq_true rfl) d_Zo_burn_55 (xgx_Zone_zf (j := j) (by omega) ((xs_zf st j) - (if ((f_GL_thousandths (xs_zf st j) 50) + 1) < (if (((xs_zv st j) / 6).toInt64) < (xs_zf st j) then (((xs_zv st j) / 6).toInt64) else (xs_zf st j)) then ((f_GL_thousandths (xs_zf st j) 50) + 1) else (if (((xs_zv st j) / 6).toInt64) < (xs_zf st j) then (((xs_zv st j) / 6).toInt64) else (xs_zf st j))))) (fun H locs hP hS => ?_)
    refine lv_aload_n (pc := 58) hx hb d_Zo_burn_58 rfl (lv_at hl 3 rfl) ?_
    refine lv_lload (pc := 59) hx hb d_Zo_burn_59 (lv_at hl 0 rfl) ?_
    refine lv_ldc2 (v := 10000) (pc := 61) hx hb hown (hts _ wd_390) d_Zo_burn_61 ?_
    refine lv_lmul (pc := 64) hx hb d_Zo_burn_64 ?_
    refine rg_cv (pc := 65) (va_runV (As := [.long ((if ((f_GL_thousandths (xs_zf st j) 50) + 1) < (if (((xs_zv st j) / 6).toInt64) < (xs_zf st j) then (((xs_zv st j) / 6).toInt64) else (xs_zf st j)) then ((f_GL_thousandths (xs_zf st j) 50) + 1) else (if (((xs_zv st j) / 6).toInt64) < (xs_zf st j) then (((xs_zv st j) / 6).toInt64) else (xs_zf st j))) * 10000)]) (rest := []) ⟨hx, hb, hml, hown, hts⟩ (c_Fu_takeFromFuel (l := l) hR hZ (xp_zf st j ((xs_zf st j) - (if ((f_GL_thousandths (xs_zf st j) 50) + 1) < (if (((xs_zv st j) / 6).toInt64) < (xs_zf st j) then (((xs_zv st j) / 6).toInt64) else (xs_zf st j)) then ((f_GL_thousandths (xs_zf st j) 50) + 1) else (if (((xs_zv st j) / 6).toInt64) < (xs_zf st j) then (((xs_zv st j) / 6).toInt64) else (xs_zf st j))))) ((if ((f_GL_thousandths (xs_zf st j) 50) + 1) < (if (((xs_zv st j) / 6).toInt64) < (xs_zf st j) then (((xs_zv st j) / 6).toInt64) else (xs_zf st j)) then ((f_GL_thousandths (xs_zf st j) 50) + 1) else (if (((xs_zv st j) / 6).toInt64) < (xs_zf st j) then (((xs_zv st j) / 6).toInt64) else (xs_zf st j))) * 10000) _) ⟨callB_of 1 hts (gd_c wd_394) rfl rfl rfl (hts _ wd_2) (hts _ wd_391) hd_Fu_takeFromFuel ⟨Nat.le_of_ble_eq_true rfl, Nat.le_of_ble_eq_true rfl⟩, hts _ wd_392, hts _ wd_393⟩ ⟨rPc_blind _ _ _ _ _ _ _ _, rg_rec hK hP 3 (by omega) xgx_furn rfl, rPc_at _ hP hK hN⟩ rfl rfl hl.1 rfl (lv_room (Nat.le_of_ble_eq_true rfl)) d_Zo_burn_65 ⟨Nat.zero_le _, Nat.zero_le _⟩) hS (fun H locs hP hS => ?_)
    refine lv_lload (pc := 68) hx hb d_Zo_burn_68 (lv_at hl 0 rfl) ?_
    have e9 : f_Zo_burn Z st j = ((if ((f_GL_thousandths (xs_zf st j) 50) + 1) < (if (((xs_zv st j) / 6).toInt64) < (xs_zf st j) then (((xs_zv st j) / 6).toInt64) else (xs_zf st j)) then ((f_GL_thousandths (xs_zf st j) 50) + 1) else (if (((xs_zv st j) / 6).toInt64) < (xs_zf st j) then (((xs_zv st j) / 6).toInt64) else (xs_zf st j))), f_Fu_takeFromFuel Z (xp_zf st j ((xs_zf st j) - (if ((f_GL_thousandths (xs_zf st j) 50) + 1) < (if (((xs_zv st j) / 6).toInt64) < (xs_zf st j) then (((xs_zv st j) / 6).toInt64) else (xs_zf st j)) then ((f_GL_thousandths (xs_zf st j) 50) + 1) else (if (((xs_zv st j) / 6).toInt64) < (xs_zf st j) then (((xs_zv st j) / 6).toInt64) else (xs_zf st j))))) ((if ((f_GL_thousandths (xs_zf st j) 50) + 1) < (if (((xs_zv st j) / 6).toInt64) < (xs_zf st j) then (((xs_zv st j) / 6).toInt64) else (xs_zf st j)) then ((f_GL_thousandths (xs_zf st j) 50) + 1) else (if (((xs_zv st j) / 6).toInt64) < (xs_zf st j) then (((xs_zv st j) / 6).toInt64) else (xs_zf st j))) * 10000)) := by unfold f_Zo_burn; rw [if_pos c_1]
    exact rg_lret (pc := 70) hx hb hr hlocks hP hS ⟨by rw [e9], by rw [e9]⟩ d_Zo_burn_70
  · refine lv_lconst (v := 0) (pc := 12) hx hb d_Zo_burn_12 (by decide) ?_
    have e9 : f_Zo_burn Z st j = (0, st) := by unfold f_Zo_burn; rw [if_neg c_1]
    exact rg_lret (pc := 13) hx hb hr hlocks hP hS ⟨by rw [e9], by rw [e9]⟩ d_Zo_burn_13

def f_Ct_tell (Z : Nat) (st : xS) (j : Nat) (a : Int32) (b : Int32) (d : Int32) : xS :=
  xp_co (xp_cs (xp_ci (xp_cp (xp_cg (xp_ct st j true) j a) j b) j d) j 0) j 0
set_option maxRecDepth 100000 in
set_option maxHeartbeats 4000000 in
theorem c_Ct_tell {l : Launch} {D : va_G} {cA : Nat → ClassId} {Z : Nat} {ad : Nat → Nat} (hR : rD (36 + Z) ad) (hZ : 1 ≤ Z ∧ Z ≤ 6) (st : xS) (j : Nat) (hj : j < 2) (a : Int32) (b : Int32) (d : Int32) : RV l y_Ct_tell (mws y_Ct_tell b_Ct_tell 4 none) ({ frames := 0, cells := 0, slots := 0, locals := 0 } : Room) D clG (tyX cA) (36 + Z) ad (xgx Z ad cA (st)) [.ref (ad (28 + j)), .int a, .int b, .int d] (xgx Z ad cA (f_Ct_tell Z st j a b d)) := by
  refine RV_of (cc := b_Ct_tell) (maxL := 4) (ret := none) (by decide) (Nat.le_of_ble_eq_true rfl) ?_
  intro p e s m args below meth c ls C hK hP hS hl
  obtain ⟨⟨hx, hb, hml, hown, hts⟩, hr, hlocks, hN⟩ := id C
  have hown : s.vm.findClass R_Ct = some m.cls := hown
  have hr : meth.sig.returnType = none := hr
  have hl : lv_has ls 4 [(0, .ref (ad (28 + j))), (1, .int a), (2, .int b), (3, .int d)] := hl
  refine lv_aload_n (pc := 0) hx hb d_Ct_tell_0 rfl (lv_at hl 0 rfl) ?_
  refine lv_iconst (v := 1) (pc := 1) hx hb d_Ct_tell_1 (by decide) ?_
  refine rg_put (C := R_Ct) (T := T_Ct) (N := 6) (pc := 2) hx hb hts i_Ct t_Ct t_Ct_ok n_Ct hown hK hR hP hS (28 + j) (by omega) (xgx_Ctrl (j := j) (by omega)) rfl 0 (by decide) (hts _ wd_217) rfl rfl rfl (Nat.le_of_ble_eq_true rfl) d_Ct_tell_2 (xgx_Ctrl_ct (j := j) (by omega) true) (fun H locs hP hS => ?_)
  refine lv_aload_n (pc := 5) hx hb d_Ct_tell_5 rfl (lv_at hl 0 rfl) ?_
  refine lv_iload_n (pc := 6) hx hb d_Ct_tell_6 rfl (lv_at hl 1 rfl) ?_
  refine rg_put (C := R_Ct) (T := T_Ct) (N := 6) (pc := 7) hx hb hts i_Ct t_Ct t_Ct_ok n_Ct hown hK hR hP hS (28 + j) (by omega) (xgx_Ctrl (j := j) (by omega)) rfl 2 (by decide) (hts _ wd_221) rfl rfl rfl (Nat.le_of_ble_eq_true rfl) d_Ct_tell_7 (xgx_Ctrl_cg (j := j) (by omega) a) (fun H locs hP hS => ?_)
  refine lv_aload_n (pc := 10) hx hb d_Ct_tell_10 rfl (lv_at hl 0 rfl) ?_
  refine lv_iload_n (pc := 11) hx hb d_Ct_tell_11 rfl (lv_at hl 2 rfl) ?_
  refine rg_put (C := R_Ct) (T := T_Ct) (N := 6) (pc := 12) hx hb hts i_Ct t_Ct t_Ct_ok n_Ct hown hK hR hP hS (28 + j) (by omega) (xgx_Ctrl (j := j) (by omega)) rfl 3 (by decide) (hts _ wd_222) rfl rfl rfl (Nat.le_of_ble_eq_true rfl) d_Ct_tell_12 (xgx_Ctrl_cp (j := j) (by omega) b) (fun H locs hP hS => ?_)
  refine lv_aload_n (pc := 15) hx hb d_Ct_tell_15 rfl (lv_at hl 0 rfl) ?_
  refine lv_iload_n (pc := 16) hx hb d_Ct_tell_16 rfl (lv_at hl 3 rfl) ?_
  refine rg_put (C := R_Ct) (T := T_Ct) (N := 6) (pc := 17) hx hb hts i_Ct t_Ct t_Ct_ok n_Ct hown hK hR hP hS (28 + j) (by omega) (xgx_Ctrl (j := j) (by omega)) rfl 4 (by decide) (hts _ wd_223) rfl rfl rfl (Nat.le_of_ble_eq_true rfl) d_Ct_tell_17 (xgx_Ctrl_ci (j := j) (by omega) d) (fun H locs hP hS => ?_)
  refine lv_aload_n (pc := 20) hx hb d_Ct_tell_20 rfl (lv_at hl 0 rfl) ?_
  refine lv_lconst (v := 0) (pc := 21) hx hb d_Ct_tell_21 (by decide) ?_
  refine rg_put (C := R_Ct) (T := T_Ct) (N := 6) (pc := 22) hx hb hts i_Ct t_Ct t_Ct_ok n_Ct hown hK hR hP hS (28 + j) (by omega) (xgx_Ctrl (j := j) (by omega)) rfl 5 (by decide) (hts _ wd_224) rfl rfl rfl (Nat.le_of_ble_eq_true rfl) d_Ct_tell_22 (xgx_Ctrl_cs (j := j) (by omega) 0) (fun H locs hP hS => ?_)
  refine lv_aload_n (pc := 25) hx hb d_Ct_tell_25 rfl (lv_at hl 0 rfl) ?_
  refine lv_iconst (v := 0) (pc := 26) hx hb d_Ct_tell_26 (by decide) ?_
  refine rg_put (C := R_Ct) (T := T_Ct) (N := 6) (pc := 27) hx hb hts i_Ct t_Ct t_Ct_ok n_Ct hown hK hR hP hS (28 + j) (by omega) (xgx_Ctrl (j := j) (by omega)) rfl 1 (by decide) (hts _ wd_219) rfl rfl rfl (Nat.le_of_ble_eq_true rfl) d_Ct_tell_27 (xgx_Ctrl_co (j := j) (by omega) 0) (fun H locs hP hS => ?_)
  have e9 : f_Ct_tell Z st j a b d = xp_co (xp_cs (xp_ci (xp_cp (xp_cg (xp_ct st j true) j a) j b) j d) j 0) j 0 := rfl
  exact rg_vret (pc := 30) hx hb hr hlocks hP hS (by rw [e9]) d_Ct_tell_30

def f_Ct_look (Z : Nat) (st : xS) (j : Nat) (a : Int64) : xS :=
  xp_co (xp_cs st j (f_GL_cut ((xs_cs st j) + (((xs_cg st j).toInt64) - a)) (-1000000000) 1000000000)) j ((f_GL_cut (f_Ma_floorDiv ((((xs_cp (xp_cs st j (f_GL_cut ((xs_cs st j) + (((xs_cg st j).toInt64) - a)) (-1000000000) 1000000000)) j).toInt64) * (((xs_cg st j).toInt64) - a)) + (((xs_ci (xp_cs st j (f_GL_cut ((xs_cs st j) + (((xs_cg st j).toInt64) - a)) (-1000000000) 1000000000)) j).toInt64) * (xs_cs (xp_cs st j (f_GL_cut ((xs_cs st j) + (((xs_cg st j).toInt64) - a)) (-1000000000) 1000000000)) j))) 1000) 0 100000).toInt32)
set_option maxRecDepth 100000 in
set_option maxHeartbeats 4000000 in
theorem c_Ct_look {l : Launch} {D : va_G} {cA : Nat → ClassId} {Z : Nat} {ad : Nat → Nat} (hR : rD (36 + Z) ad) (hZ : 1 ≤ Z ∧ Z ≤ 6) (st : xS) (j : Nat) (hj : j < 2) (a : Int64) : RV l y_Ct_look (mws y_Ct_look b_Ct_look 5 none) ({ frames := 2, cells := 0, slots := 0, locals := 48 } : Room) D clG (tyX cA) (36 + Z) ad (xgx Z ad cA (st)) [.ref (ad (28 + j)), .long a] (xgx Z ad cA (f_Ct_look Z st j a)) := by
  refine RV_of (cc := b_Ct_look) (maxL := 5) (ret := none) (by decide) (Nat.le_of_ble_eq_true rfl) ?_
  intro p e s m args below meth c ls C hK hP hS hl
  obtain ⟨⟨hx, hb, hml, hown, hts⟩, hr, hlocks, hN⟩ := id C
  have hown : s.vm.findClass R_Ct = some m.cls := hown
  have hr : meth.sig.returnType = none := hr
  have hl : lv_has ls 5 [(0, .ref (ad (28 + j))), (1, .long a)] := hl
  refine lv_aload_n (pc := 0) hx hb d_Ct_look_0 rfl (lv_at hl 0 rfl) ?_
  refine rg_get (C := R_Ct) (T := T_Ct) (N := 6) (v := .int (xs_cg st j)) (pc := 1) hx hb hts i_Ct hown hK hP (28 + j) (by omega) (xgx_Ctrl (j := j) (by omega)) rfl 2 (by decide) (hts _ wd_221) rfl d_Ct_look_1 ?_
  refine lv_i2l (pc := 4) hx hb d_Ct_look_4 rfl ?_
  refine lv_lload_n (pc := 5) hx hb d_Ct_look_5 rfl (lv_at hl 1 rfl) ?_
  refine lv_lsub (pc := 6) hx hb d_Ct_look_6 ?_
  refine lv_lstore_n (lv' := [(3, .long (((xs_cg st j).toInt64) - a)), (0, .ref (ad (28 + j))), (1, .long a)]) (pc := 7) hx hb d_Ct_look_7 rfl hl (by decide) rfl (fun ls hl => ?_)
  refine lv_aload_n (pc := 8) hx hb d_Ct_look_8 rfl (lv_at hl 1 rfl) ?_
  refine lv_aload_n (pc := 9) hx hb d_Ct_look_9 rfl (lv_at hl 1 rfl) ?_
  refine rg_get (C := R_Ct) (T := T_Ct) (N := 6) (v := .long (xs_cs st j)) (pc := 10) hx hb hts i_Ct hown hK hP (28 + j) (by omega) (xgx_Ctrl (j := j) (by omega)) rfl 5 (by decide) (hts _ wd_224) rfl d_Ct_look_10 ?_
  refine lv_lload_n (pc := 13) hx hb d_Ct_look_13 rfl (lv_at hl 0 rfl) ?_
  refine lv_ladd (pc := 14) hx hb d_Ct_look_14 ?_
  refine lv_ldc2 (v := (-1000000000)) (pc := 15) hx hb hown (hts _ wd_413) d_Ct_look_15 ?_
  refine lv_ldc2 (v := 1000000000) (pc := 18) hx hb hown (hts _ wd_414) d_Ct_look_18 ?_
  refine rg_cl (pc := 21) (va_runSN (As := [.long ((xs_cs st j) + (((xs_cg st j).toInt64) - a)), .long (-1000000000), .long 1000000000]) (rest := [.ref (ad (28 + j))]) ⟨hx, hb, hml, hown, hts⟩ (c_GL_cut (l := l) ((xs_cs st j) + (((xs_cg st j).toInt64) - a)) (-1000000000) 1000000000 _) ⟨va_cnB 3 hts (gd_c wd_417) rfl rfl rfl (wn_Ct_36 hN) (hts _ wd_1) hd_GL_cut ⟨Nat.le_of_ble_eq_true rfl, Nat.le_of_ble_eq_true rfl⟩, hts _ wd_416, trivial⟩ ⟨rPc_blind _ _ _ _ _ _ _ _, rPc_at _ hP hK hN⟩ rfl rfl hl.1 rfl (lv_room (Nat.le_of_ble_eq_true rfl)) d_Ct_look_21 ⟨Nat.zero_le _, Nat.zero_le _⟩) hS (fun H locs hP hS => ?_)
  refine rg_put (C := R_Ct) (T := T_Ct) (N := 6) (pc := 24) hx hb hts i_Ct t_Ct t_Ct_ok n_Ct hown hK hR hP hS (28 + j) (by omega) (xgx_Ctrl (j := j) (by omega)) rfl 5 (by decide) (hts _ wd_224) rfl rfl rfl (Nat.le_of_ble_eq_true rfl) d_Ct_look_24 (xgx_Ctrl_cs (j := j) (by omega) (f_GL_cut ((xs_cs st j) + (((xs_cg st j).toInt64) - a)) (-1000000000) 1000000000)) (fun H locs hP hS => ?_)
  refine lv_aload_n (pc := 27) hx hb d_Ct_look_27 rfl (lv_at hl 1 rfl) ?_
  refine lv_aload_n (pc := 28) hx hb d_Ct_look_28 rfl (lv_at hl 1 rfl) ?_
  refine rg_get (C := R_Ct) (T := T_Ct) (N := 6) (v := .int (xs_cp (xp_cs st j (f_GL_cut ((xs_cs st j) + (((xs_cg st j).toInt64) - a)) (-1000000000) 1000000000)) j)) (pc := 29) hx hb hts i_Ct hown hK hP (28 + j) (by omega) (xgx_Ctrl (j := j) (by omega)) rfl 3 (by decide) (hts _ wd_222) rfl d_Ct_look_29 ?_
  refine lv_i2l (pc := 32) hx hb d_Ct_look_32 rfl ?_
  refine lv_lload_n (pc := 33) hx hb d_Ct_look_33 rfl (lv_at hl 0 rfl) ?_
  refine lv_lmul (pc := 34) hx hb d_Ct_look_34 ?_
  refine lv_aload_n (pc := 35) hx hb d_Ct_look_35 rfl (lv_at hl 1 rfl) ?_
  refine rg_get (C := R_Ct) (T := T_Ct) (N := 6) (v := .int (xs_ci (xp_cs st j (f_GL_cut ((xs_cs st j) + (((xs_cg st j).toInt64) - a)) (-1000000000) 1000000000)) j)) (pc := 36) hx hb hts i_Ct hown hK hP (28 + j) (by omega) (xgx_Ctrl (j := j) (by omega)) rfl 4 (by decide) (hts _ wd_223) rfl d_Ct_look_36 ?_
  refine lv_i2l (pc := 39) hx hb d_Ct_look_39 rfl ?_
  refine lv_aload_n (pc := 40) hx hb d_Ct_look_40 rfl (lv_at hl 1 rfl) ?_
  refine rg_get (C := R_Ct) (T := T_Ct) (N := 6) (v := .long (xs_cs (xp_cs st j (f_GL_cut ((xs_cs st j) + (((xs_cg st j).toInt64) - a)) (-1000000000) 1000000000)) j)) (pc := 41) hx hb hts i_Ct hown hK hP (28 + j) (by omega) (xgx_Ctrl (j := j) (by omega)) rfl 5 (by decide) (hts _ wd_224) rfl d_Ct_look_41 ?_
  refine lv_lmul (pc := 44) hx hb d_Ct_look_44 ?_
  refine lv_ladd (pc := 45) hx hb d_Ct_look_45 ?_
  refine lv_ldc2 (v := 1000) (pc := 46) hx hb hown (hts _ wd_422) d_Ct_look_46 ?_
  refine rg_cl (pc := 49) (va_runS (As := [.long ((((xs_cp (xp_cs st j (f_GL_cut ((xs_cs st j) + (((xs_cg st j).toInt64) - a)) (-1000000000) 1000000000)) j).toInt64) * (((xs_cg st j).toInt64) - a)) + (((xs_ci (xp_cs st j (f_GL_cut ((xs_cs st j) + (((xs_cg st j).toInt64) - a)) (-1000000000) 1000000000)) j).toInt64) * (xs_cs (xp_cs st j (f_GL_cut ((xs_cs st j) + (((xs_cg st j).toInt64) - a)) (-1000000000) 1000000000)) j))), .long 1000]) (rest := [.ref (ad (28 + j))]) ⟨hx, hb, hml, hown, hts⟩ (c_Ma_floorDiv (l := l) ((((xs_cp (xp_cs st j (f_GL_cut ((xs_cs st j) + (((xs_cg st j).toInt64) - a)) (-1000000000) 1000000000)) j).toInt64) * (((xs_cg st j).toInt64) - a)) + (((xs_ci (xp_cs st j (f_GL_cut ((xs_cs st j) + (((xs_cg st j).toInt64) - a)) (-1000000000) 1000000000)) j).toInt64) * (xs_cs (xp_cs st j (f_GL_cut ((xs_cs st j) + (((xs_cg st j).toInt64) - a)) (-1000000000) 1000000000)) j))) 1000 (by decide) _) ⟨callB_of 2 hts (gd_c wd_425) rfl rfl rfl (hts _ wd_10) (hts _ wd_423) hd_Ma_floorDiv ⟨Nat.le_of_ble_eq_true rfl, Nat.le_of_ble_eq_true rfl⟩, hts _ wd_424⟩ ⟨rPc_blind _ _ _ _ _ _ _ _, rPc_at _ hP hK hN⟩ rfl rfl hl.1 rfl (lv_room (Nat.le_of_ble_eq_true rfl)) d_Ct_look_49 ⟨Nat.zero_le _, Nat.zero_le _⟩) hS (fun H locs hP hS => ?_)
  refine lv_lconst (v := 0) (pc := 52) hx hb d_Ct_look_52 (by decide) ?_
  refine lv_ldc2 (v := 100000) (pc := 53) hx hb hown (hts _ wd_426) d_Ct_look_53 ?_
  refine rg_cl (pc := 56) (va_runSN (As := [.long (f_Ma_floorDiv ((((xs_cp (xp_cs st j (f_GL_cut ((xs_cs st j) + (((xs_cg st j).toInt64) - a)) (-1000000000) 1000000000)) j).toInt64) * (((xs_cg st j).toInt64) - a)) + (((xs_ci (xp_cs st j (f_GL_cut ((xs_cs st j) + (((xs_cg st j).toInt64) - a)) (-1000000000) 1000000000)) j).toInt64) * (xs_cs (xp_cs st j (f_GL_cut ((xs_cs st j) + (((xs_cg st j).toInt64) - a)) (-1000000000) 1000000000)) j))) 1000), .long 0, .long 100000]) (rest := [.ref (ad (28 + j))]) ⟨hx, hb, hml, hown, hts⟩ (c_GL_cut (l := l) (f_Ma_floorDiv ((((xs_cp (xp_cs st j (f_GL_cut ((xs_cs st j) + (((xs_cg st j).toInt64) - a)) (-1000000000) 1000000000)) j).toInt64) * (((xs_cg st j).toInt64) - a)) + (((xs_ci (xp_cs st j (f_GL_cut ((xs_cs st j) + (((xs_cg st j).toInt64) - a)) (-1000000000) 1000000000)) j).toInt64) * (xs_cs (xp_cs st j (f_GL_cut ((xs_cs st j) + (((xs_cg st j).toInt64) - a)) (-1000000000) 1000000000)) j))) 1000) 0 100000 _) ⟨va_cnB 3 hts (gd_c wd_417) rfl rfl rfl (wn_Ct_36 hN) (hts _ wd_1) hd_GL_cut ⟨Nat.le_of_ble_eq_true rfl, Nat.le_of_ble_eq_true rfl⟩, hts _ wd_416, trivial⟩ ⟨rPc_blind _ _ _ _ _ _ _ _, rPc_at _ hP hK hN⟩ rfl rfl hl.1 rfl (lv_room (Nat.le_of_ble_eq_true rfl)) d_Ct_look_56 ⟨Nat.zero_le _, Nat.zero_le _⟩) hS (fun H locs hP hS => ?_)
  refine lv_l2i (pc := 59) hx hb d_Ct_look_59 rfl ?_
  refine rg_put (C := R_Ct) (T := T_Ct) (N := 6) (pc := 60) hx hb hts i_Ct t_Ct t_Ct_ok n_Ct hown hK hR hP hS (28 + j) (by omega) (xgx_Ctrl (j := j) (by omega)) rfl 1 (by decide) (hts _ wd_219) rfl rfl rfl (Nat.le_of_ble_eq_true rfl) d_Ct_look_60 (xgx_Ctrl_co (j := j) (by omega) ((f_GL_cut (f_Ma_floorDiv ((((xs_cp (xp_cs st j (f_GL_cut ((xs_cs st j) + (((xs_cg st j).toInt64) - a)) (-1000000000) 1000000000)) j).toInt64) * (((xs_cg st j).toInt64) - a)) + (((xs_ci (xp_cs st j (f_GL_cut ((xs_cs st j) + (((xs_cg st j).toInt64) - a)) (-1000000000) 1000000000)) j).toInt64) * (xs_cs (xp_cs st j (f_GL_cut ((xs_cs st j) + (((xs_cg st j).toInt64) - a)) (-1000000000) 1000000000)) j))) 1000) 0 100000).toInt32)) (fun H locs hP hS => ?_)
  have e9 : f_Ct_look Z st j a = xp_co (xp_cs st j (f_GL_cut ((xs_cs st j) + (((xs_cg st j).toInt64) - a)) (-1000000000) 1000000000)) j ((f_GL_cut (f_Ma_floorDiv ((((xs_cp (xp_cs st j (f_GL_cut ((xs_cs st j) + (((xs_cg st j).toInt64) - a)) (-1000000000) 1000000000)) j).toInt64) * (((xs_cg st j).toInt64) - a)) + (((xs_ci (xp_cs st j (f_GL_cut ((xs_cs st j) + (((xs_cg st j).toInt64) - a)) (-1000000000) 1000000000)) j).toInt64) * (xs_cs (xp_cs st j (f_GL_cut ((xs_cs st j) + (((xs_cg st j).toInt64) - a)) (-1000000000) 1000000000)) j))) 1000) 0 100000).toInt32) := rfl
  exact rg_vret (pc := 63) hx hb hr hlocks hP hS (by rw [e9]) d_Ct_look_63
