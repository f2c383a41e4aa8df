def f_GL_kind (Z : Nat) (st : xS) (a : Int32) (b : Int32) (d : Int32) : Int32 × xS :=
  if (f_GL_isKind a) = 0 then
    (0, st)
  else
    if (f_GL_within b 0 1000) = 0 then
      (0, st)
    else
      if (f_GL_within d 0 (1000 - b)) = 0 then
        (0, st)
      else
        (1, xp_ka (xp_kw st a.toNatClampNeg b) a.toNatClampNeg d)
set_option maxRecDepth 100000 in
set_option maxHeartbeats 4000000 in
theorem c_GL_kind {l : Launch} {D : va_G} {cA : Nat → ClassId} {Z : Nat} {ad : Nat → Nat} (hR : rD (36 + Z) ad) (hZ : 1 ≤ Z ∧ Z ≤ 6) (st : xS) (a : Int32) (b : Int32) (d : Int32) : RI l y_GL_kind (mws y_GL_kind b_GL_kind 4 (some .boolean)) ({ frames := 2, cells := 0, slots := 0, locals := 42 } : Room) D clG (tyX cA) (36 + Z) ad (xgx Z ad cA (st)) [.ref (ad 0), .int a, .int b, .int d] (f_GL_kind Z st a b d).1 (xgx Z ad cA ((f_GL_kind Z st a b d).2)) := by
  refine RI_of (cc := b_GL_kind) (maxL := 4) (ret := (some .boolean)) (by decide) (Nat.le_of_ble_eq_true rfl) ?_
  intro p e s m args below meth c ls C hK hP hS hl
  obtain ⟨⟨hx, hb, hml, hown, hts⟩, hr, hlocks, hN⟩ := id C
  have hown : s.vm.findClass R_GL = some m.cls := hown
  have hr : meth.sig.returnType = (some .boolean) := hr
  have hl : lv_has ls 4 [(0, .ref (ad 0)), (1, .int a), (2, .int b), (3, .int d)] := hl
  refine lv_iload_n (pc := 0) hx hb d_GL_kind_0 rfl (lv_at hl 1 rfl) ?_
  refine rg_ci (pc := 1) (va_runS (As := [.int a]) (rest := []) ⟨hx, hb, hml, hown, hts⟩ (c_GL_isKind (l := l) a _) ⟨callB_of 1 hts (gd_c wd_272) rfl rfl rfl (hts _ wd_1) (hts _ wd_270) hd_GL_isKind ⟨Nat.le_of_ble_eq_true rfl, Nat.le_of_ble_eq_true rfl⟩, hts _ wd_271⟩ ⟨rPc_blind _ _ _ _ _ _ _ _, rPc_at _ hP hK hN⟩ rfl rfl hl.1 rfl (lv_room (Nat.le_of_ble_eq_true rfl)) d_GL_kind_1 ⟨Nat.zero_le _, Nat.zero_le _⟩) hS (fun H locs hP hS => ?_)
  refine lv_if_eq (tgt := 31) (pc := 4) hx hb d_GL_kind_4 (by decide) (fun c_1 => ?_) (fun c_1 => ?_)
  · refine lv_iconst (v := 0) (pc := 31) hx hb d_GL_kind_31 (by decide) ?_
    have e9 : f_GL_kind Z st a b d = (0, st) := by unfold f_GL_kind; rw [if_pos c_1]
    exact rg_zret (pc := 32) hx hb hr hlocks rfl hP hS ⟨by rw [e9], by rw [e9]⟩ d_GL_kind_32
  · refine lv_iload_n (pc := 7) hx hb d_GL_kind_7 rfl (lv_at hl 2 rfl) ?_
    refine lv_iconst (v := 0) (pc := 8) hx hb d_GL_kind_8 (by decide) ?_
    refine lv_sipush (v := 1000) (pc := 9) hx hb d_GL_kind_9 (by decide) ?_
    refine rg_ci (pc := 12) (va_runS (As := [.int b, .int 0, .int 1000]) (rest := []) ⟨hx, hb, hml, hown, hts⟩ (c_GL_within (l := l) b 0 1000 _) ⟨callB_of 3 hts (gd_c wd_112) rfl rfl rfl (hts _ wd_1) (hts _ wd_273) hd_GL_within ⟨Nat.le_of_ble_eq_true rfl, Nat.le_of_ble_eq_true rfl⟩, hts _ wd_111⟩ ⟨rPc_blind _ _ _ _ _ _ _ _, rPc_at _ hP hK hN⟩ rfl rfl hl.1 rfl (lv_room (Nat.le_of_ble_eq_true rfl)) d_GL_kind_12 ⟨Nat.zero_le _, Nat.zero_le _⟩) hS (fun H locs hP hS => ?_)
    refine lv_if_eq (tgt := 31) (pc := 15) hx hb d_GL_kind_15 (by decide) (fun c_2 => ?_) (fun c_2 => ?_)
    · refine lv_iconst (v := 0) (pc := 31) hx hb d_GL_kind_31 (by decide) ?_
      have e9 : f_GL_kind Z st a b d = (0, st) := by unfold f_GL_kind; rw [if_neg c_1, if_pos c_2]
      exact rg_zret (pc := 32) hx hb hr hlocks rfl hP hS ⟨by rw [e9], by rw [e9]⟩ d_GL_kind_32
    · refine lv_iload_n (pc := 18) hx hb d_GL_kind_18 rfl (lv_at hl 3 rfl) ?_
      refine lv_iconst (v := 0) (pc := 19) hx hb d_GL_kind_19 (by decide) ?_
      refine lv_sipush (v := 1000) (pc := 20) hx hb d_GL_kind_20 (by decide) ?_
      refine lv_iload_n (pc := 23) hx hb d_GL_kind_23 rfl (lv_at hl 2 rfl) ?_
      refine lv_isub (pc := 24) hx hb d_GL_kind_24 ?_
      refine rg_ci (pc := 25) (va_runS (As := [.int d, .int 0, .int (1000 - b)]) (rest := []) ⟨hx, hb, hml, hown, hts⟩ (c_GL_within (l := l) d 0 (1000 - b) _) ⟨callB_of 3 hts (gd_c wd_112) rfl rfl rfl (hts _ wd_1) (hts _ wd_273) hd_GL_within ⟨Nat.le_of_ble_eq_true rfl, Nat.le_of_ble_eq_true rfl⟩, hts _ wd_111⟩ ⟨rPc_blind _ _ _ _ _ _ _ _, rPc_at _ hP hK hN⟩ rfl rfl hl.1 rfl (lv_room (Nat.le_of_ble_eq_true rfl)) d_GL_kind_25 ⟨Nat.zero_le _, Nat.zero_le _⟩) hS (fun H locs hP hS => ?_)
      refine lv_if_ne (tgt := 33) (pc := 28) hx hb d_GL_kind_28 (by decide) (fun c_3 => ?_) (fun c_3 => ?_)
      · have ha := nat_isKind c_1
        have ha1 := ha.1
        refine lv_aload_n (pc := 33) hx hb d_GL_kind_33 rfl (lv_at hl 0 rfl) ?_
        refine rg_get (C := R_GL) (T := T_GL) (N := 9) (v := .ref (ad 1)) (pc := 34) hx hb hts i_GL hown hK hP 0 (by omega) xgx_X rfl 0 (by decide) (hts _ wd_238) rfl d_GL_kind_34 ?_
        refine lv_iload_n (pc := 37) hx hb d_GL_kind_37 rfl (lv_at hl 1 rfl) ?_
        refine rg_aldq (pc := 38) hx hb hK hP 1 (by omega) 1 xgx_kindsA rfl a.toNatClampNeg (by omega) (by omega) ha.2 rfl d_GL_kind_38 ?_
        refine lv_iload_n (pc := 39) hx hb d_GL_kind_39 rfl (lv_at hl 2 rfl) ?_
        refine rg_put (C := R_Ki) (T := T_Ki) (N := 3) (pc := 40) hx hb hts i_Ki t_Ki t_Ki_ok n_Ki hown hK hR hP hS (12 + a.toNatClampNeg) (by omega) (xgx_Kind (j := a.toNatClampNeg) (by omega)) rfl 0 (by decide) (hts _ wd_188) rfl rfl rfl (Nat.le_of_ble_eq_true rfl) d_GL_kind_40 (xgx_Kind_kw (j := a.toNatClampNeg) (by omega) b) (fun H locs hP hS => ?_)
        refine lv_aload_n (pc := 43) hx hb d_GL_kind_43 rfl (lv_at hl 0 rfl) ?_
        refine rg_get (C := R_GL) (T := T_GL) (N := 9) (v := .ref (ad 1)) (pc := 44) hx hb hts i_GL hown hK hP 0 (by omega) xgx_X rfl 0 (by decide) (hts _ wd_238) rfl d_GL_kind_44 ?_
        refine lv_iload_n (pc := 47) hx hb d_GL_kind_47 rfl (lv_at hl 1 rfl) ?_
        refine rg_aldq (pc := 48) hx hb hK hP 1 (by omega) 1 xgx_kindsA rfl a.toNatClampNeg (by omega) (by omega) ha.2 rfl d_GL_kind_48 ?_
        refine lv_iload_n (pc := 49) hx hb d_GL_kind_49 rfl (lv_at hl 3 rfl) ?_
        refine rg_put (C := R_Ki) (T := T_Ki) (N := 3) (pc := 50) hx hb hts i_Ki t_Ki t_Ki_ok n_Ki hown hK hR hP hS (12 + a.toNatClampNeg) (by omega) (xgx_Kind (j := a.toNatClampNeg) (by omega)) rfl 1 (by decide) (hts _ wd_190) rfl rfl rfl (Nat.le_of_ble_eq_true rfl) d_GL_kind_50 (xgx_Kind_ka (j := a.toNatClampNeg) (by omega) d) (fun H locs hP hS => ?_)
        refine lv_iconst (v := 1) (pc := 53) hx hb d_GL_kind_53 (by decide) ?_
        have e9 : f_GL_kind Z st a b d = (1, xp_ka (xp_kw st a.toNatClampNeg b) a.toNatClampNeg d) := by unfold f_GL_kind; rw [if_neg c_1, if_neg c_2, if_neg c_3]
        exact rg_zret (pc := 54) hx hb hr hlocks rfl hP hS ⟨by rw [e9], by rw [e9]⟩ d_GL_kind_54
      · refine lv_iconst (v := 0) (pc := 31) hx hb d_GL_kind_31 (by decide) ?_
        have e9 : f_GL_kind Z st a b d = (0, st) := by unfold f_GL_kind; rw [if_neg c_1, if_neg c_2, if_pos c_3]
        exact rg_zret (pc := 32) hx hb hr hlocks rfl hP hS ⟨by rw [e9], by rw [e9]⟩ d_GL_kind_32

def f_GL_bunker (Z : Nat) (st : xS) (a : Int32) (b : Int32) (d : Int32) : Int32 × xS :=
  if (f_GL_isCell a) = 0 then
    (0, st)
  else
    if (f_GL_isKind b) = 0 then
      (0, st)
    else
      if (f_GL_within d 0 100000) = 0 then
        (0, st)
      else
        if ((f_Ce_total Z st a.toNatClampNeg) + d) ≤ 100000 then
          (1, xp_bk (xp_ck st a.toNatClampNeg b.toNatClampNeg ((xs_ck st a.toNatClampNeg b.toNatClampNeg) + d)) ((xs_bk (xp_ck st a.toNatClampNeg b.toNatClampNeg ((xs_ck st a.toNatClampNeg b.toNatClampNeg) + d))) + d.toInt64))
        else
          (0, st)
set_option maxRecDepth 100000 in
set_option maxHeartbeats 4000000 in
theorem c_GL_bunker {l : Launch} {D : va_G} {cA : Nat → ClassId} {Z : Nat} {ad : Nat → Nat} (hR : rD (36 + Z) ad) (hZ : 1 ≤ Z ∧ Z ≤ 6) (st : xS) (a : Int32) (b : Int32) (d : Int32) : RI l y_GL_bunker (mws y_GL_bunker b_GL_bunker 4 (some .boolean)) ({ frames := 2, cells := 0, slots := 0, locals := 42 } : Room) D clG (tyX cA) (36 + Z) ad (xgx Z ad cA (st)) [.ref (ad 0), .int a, .int b, .int d] (f_GL_bunker Z st a b d).1 (xgx Z ad cA ((f_GL_bunker Z st a b d).2)) := by
  refine RI_of (cc := b_GL_bunker) (maxL := 4) (ret := (some .boolean)) (by decide) (Nat.le_of_ble_eq_true rfl) ?_
  intro p e s m args below meth c ls C hK hP hS hl
  obtain ⟨⟨hx, hb, hml, hown, hts⟩, hr, hlocks, hN⟩ := id C
  have hown : s.vm.findClass R_GL = some m.cls := hown
  have hr : meth.sig.returnType = (some .boolean) := hr
  have hl : lv_has ls 4 [(0, .ref (ad 0)), (1, .int a), (2, .int b), (3, .int d)] := hl
  refine lv_iload_n (pc := 0) hx hb d_GL_bunker_0 rfl (lv_at hl 1 rfl) ?_
  refine rg_ci (pc := 1) (va_runS (As := [.int a]) (rest := []) ⟨hx, hb, hml, hown, hts⟩ (c_GL_isCell (l := l) a _) ⟨callB_of 1 hts (gd_c wd_280) rfl rfl rfl (hts _ wd_1) (hts _ wd_278) hd_GL_isCell ⟨Nat.le_of_ble_eq_true rfl, Nat.le_of_ble_eq_true rfl⟩, hts _ wd_279⟩ ⟨rPc_blind _ _ _ _ _ _ _ _, rPc_at _ hP hK hN⟩ rfl rfl hl.1 rfl (lv_room (Nat.le_of_ble_eq_true rfl)) d_GL_bunker_1 ⟨Nat.zero_le _, Nat.zero_le _⟩) hS (fun H locs hP hS => ?_)
  refine lv_if_eq (tgt := 24) (pc := 4) hx hb d_GL_bunker_4 (by decide) (fun c_1 => ?_) (fun c_1 => ?_)
  · refine lv_iconst (v := 0) (pc := 24) hx hb d_GL_bunker_24 (by decide) ?_
    have e9 : f_GL_bunker Z st a b d = (0, st) := by unfold f_GL_bunker; rw [if_pos c_1]
    exact rg_zret (pc := 25) hx hb hr hlocks rfl hP hS ⟨by rw [e9], by rw [e9]⟩ d_GL_bunker_25
  · refine lv_iload_n (pc := 7) hx hb d_GL_bunker_7 rfl (lv_at hl 2 rfl) ?_
    refine rg_ci (pc := 8) (va_runS (As := [.int b]) (rest := []) ⟨hx, hb, hml, hown, hts⟩ (c_GL_isKind (l := l) b _) ⟨callB_of 1 hts (gd_c wd_272) rfl rfl rfl (hts _ wd_1) (hts _ wd_270) hd_GL_isKind ⟨Nat.le_of_ble_eq_true rfl, Nat.le_of_ble_eq_true rfl⟩, hts _ wd_271⟩ ⟨rPc_blind _ _ _ _ _ _ _ _, rPc_at _ hP hK hN⟩ rfl rfl hl.1 rfl (lv_room (Nat.le_of_ble_eq_true rfl)) d_GL_bunker_8 ⟨Nat.zero_le _, Nat.zero_le _⟩) hS (fun H locs hP hS => ?_)
    refine lv_if_eq (tgt := 24) (pc := 11) hx hb d_GL_bunker_11 (by decide) (fun c_2 => ?_) (fun c_2 => ?_)
    · refine lv_iconst (v := 0) (pc := 24) hx hb d_GL_bunker_24 (by decide) ?_
      have e9 : f_GL_bunker Z st a b d = (0, st) := by unfold f_GL_bunker; rw [if_neg c_1, if_pos c_2]
      exact rg_zret (pc := 25) hx hb hr hlocks rfl hP hS ⟨by rw [e9], by rw [e9]⟩ d_GL_bunker_25
    · refine lv_iload_n (pc := 14) hx hb d_GL_bunker_14 rfl (lv_at hl 3 rfl) ?_
      refine lv_iconst (v := 0) (pc := 15) hx hb d_GL_bunker_15 (by decide) ?_
      refine lv_ldc (v := 100000) (pc := 16) hx hb hown (hts _ wd_281) d_GL_bunker_16 ?_
      refine rg_ci (pc := 18) (va_runS (As := [.int d, .int 0, .int 100000]) (rest := []) ⟨hx, hb, hml, hown, hts⟩ (c_GL_within (l := l) d 0 100000 _) ⟨callB_of 3 hts (gd_c wd_112) rfl rfl rfl (hts _ wd_1) (hts _ wd_273) hd_GL_within ⟨Nat.le_of_ble_eq_true rfl, Nat.le_of_ble_eq_true rfl⟩, hts _ wd_111⟩ ⟨rPc_blind _ _ _ _ _ _ _ _, rPc_at _ hP hK hN⟩ rfl rfl hl.1 rfl (lv_room (Nat.le_of_ble_eq_true rfl)) d_GL_bunker_18 ⟨Nat.zero_le _, Nat.zero_le _⟩) hS (fun H locs hP hS => ?_)
      refine lv_if_ne (tgt := 26) (pc := 21) hx hb d_GL_bunker_21 (by decide) (fun c_3 => ?_) (fun c_3 => ?_)
      · have ha := nat_isCell c_1
        have ha1 := ha.1
        have hbx := nat_isKind c_2
        have hbx1 := hbx.1
        refine lv_aload_n (pc := 26) hx hb d_GL_bunker_26 rfl (lv_at hl 0 rfl) ?_
        refine rg_get (C := R_GL) (T := T_GL) (N := 9) (v := .ref (ad 2)) (pc := 27) hx hb hts i_GL hown hK hP 0 (by omega) xgx_X rfl 1 (by decide) (hts _ wd_239) rfl d_GL_bunker_27 ?_
        refine lv_iload_n (pc := 30) hx hb d_GL_bunker_30 rfl (lv_at hl 1 rfl) ?_
        refine rg_aldq (pc := 31) hx hb hK hP 2 (by omega) 2 xgx_cellsA rfl a.toNatClampNeg (by omega) (by omega) ha.2 rfl d_GL_bunker_31 ?_
        refine rg_ci (pc := 32) (va_runV (As := []) (rest := []) ⟨hx, hb, hml, hown, hts⟩ (c_Ce_total (l := l) hR hZ st a.toNatClampNeg (by omega) _) ⟨callB_of 0 hts (gd_c wd_285) rfl rfl rfl (hts _ wd_7) (hts _ wd_282) hd_Ce_total ⟨Nat.le_of_ble_eq_true rfl, Nat.le_of_ble_eq_true rfl⟩, hts _ wd_283, hts _ wd_284⟩ ⟨rPc_blind _ _ _ _ _ _ _ _, rg_rec hK hP (16 + a.toNatClampNeg) (by omega) (xgx_Cell (j := a.toNatClampNeg) (by omega)) rfl, rPc_at _ hP hK hN⟩ rfl rfl hl.1 rfl (lv_room (Nat.le_of_ble_eq_true rfl)) d_GL_bunker_32 ⟨Nat.zero_le _, Nat.zero_le _⟩) hS (fun H locs hP hS => ?_)
        refine lv_iload_n (pc := 35) hx hb d_GL_bunker_35 rfl (lv_at hl 3 rfl) ?_
        refine lv_iadd (pc := 36) hx hb d_GL_bunker_36 ?_
        refine lv_ldc (v := 100000) (pc := 37) hx hb hown (hts _ wd_281) d_GL_bunker_37 ?_
        refine lv_icmp_le (tgt := 44) (pc := 39) hx hb d_GL_bunker_39 (by decide) (fun c_4 => ?_) (fun c_4 => ?_)
        · refine lv_aload_n (pc := 44) hx hb d_GL_bunker_44 rfl (lv_at hl 0 rfl) ?_
          refine rg_get (C := R_GL) (T := T_GL) (N := 9) (v := .ref (ad 2)) (pc := 45) hx hb hts i_GL hown hK hP 0 (by omega) xgx_X rfl 1 (by decide) (hts _ wd_239) rfl d_GL_bunker_45 ?_
          refine lv_iload_n (pc := 48) hx hb d_GL_bunker_48 rfl (lv_at hl 1 rfl) ?_
          refine rg_aldq (pc := 49) hx hb hK hP 2 (by omega) 2 xgx_cellsA rfl a.toNatClampNeg (by omega) (by omega) ha.2 rfl d_GL_bunker_49 ?_
          refine rg_get (C := R_Ce) (T := T_Ce) (N := 1) (v := .ref (ad (22 + a.toNatClampNeg))) (pc := 50) hx hb hts i_Ce hown hK hP (16 + a.toNatClampNeg) (by omega) (xgx_Cell (j := a.toNatClampNeg) (by omega)) rfl 0 (by decide) (hts _ wd_208) rfl d_GL_bunker_50 ?_
          refine lv_iload_n (pc := 53) hx hb d_GL_bunker_53 rfl (lv_at hl 2 rfl) ?_
          refine lv_dup2_11 (pc := 54) hx hb d_GL_bunker_54 rfl rfl ?_
          refine rg_iald (pc := 55) hx hb hK hP (22 + a.toNatClampNeg) (by omega) 0 (xgx_Kg (j := a.toNatClampNeg) (by omega)) rfl b.toNatClampNeg (by omega) (by omega) hbx.2 d_GL_bunker_55 ?_
          refine lv_iload_n (pc := 56) hx hb d_GL_bunker_56 rfl (lv_at hl 3 rfl) ?_
          refine lv_iadd (pc := 57) hx hb d_GL_bunker_57 ?_
          refine rg_iast (pc := 58) hx hb hK hR hP hS (22 + a.toNatClampNeg) (by omega) 0 (xgx_Kg (j := a.toNatClampNeg) (by omega)) rfl b.toNatClampNeg (by omega) (by omega) hbx.2 d_GL_bunker_58 (xgx_Kg_w (j := a.toNatClampNeg) (by omega) b.toNatClampNeg ((xs_ck st a.toNatClampNeg b.toNatClampNeg) + d)) (fun H locs hP hS => ?_)
          refine lv_aload_n (pc := 59) hx hb d_GL_bunker_59 rfl (lv_at hl 0 rfl) ?_
          refine lv_dup (pc := 60) hx hb d_GL_bunker_60 rfl ?_
          refine rg_get (C := R_GL) (T := T_GL) (N := 9) (v := .long (xs_bk (xp_ck st a.toNatClampNeg b.toNatClampNeg ((xs_ck st a.toNatClampNeg b.toNatClampNeg) + d)))) (pc := 61) hx hb hts i_GL hown hK hP 0 (by omega) xgx_X rfl 8 (by decide) (hts _ wd_246) rfl d_GL_bunker_61 ?_
          refine lv_iload_n (pc := 64) hx hb d_GL_bunker_64 rfl (lv_at hl 3 rfl) ?_
          refine lv_i2l (pc := 65) hx hb d_GL_bunker_65 rfl ?_
          refine lv_ladd (pc := 66) hx hb d_GL_bunker_66 ?_
          refine rg_put (C := R_GL) (T := T_GL) (N := 9) (pc := 67) hx hb hts i_GL t_GL t_GL_ok n_GL hown hK hR hP hS 0 (by omega) xgx_X rfl 8 (by decide) (hts _ wd_246) rfl rfl rfl (Nat.le_of_ble_eq_true rfl) d_GL_bunker_67 (xgx_X_bk ((xs_bk (xp_ck st a.toNatClampNeg b.toNatClampNeg ((xs_ck st a.toNatClampNeg b.toNatClampNeg) + d))) + d.toInt64)) (fun H locs hP hS => ?_)
          refine lv_iconst (v := 1) (pc := 70) hx hb d_GL_bunker_70 (by decide) ?_
          have e9 : f_GL_bunker Z st a b d = (1, xp_bk (xp_ck st a.toNatClampNeg b.toNatClampNeg ((xs_ck st a.toNatClampNeg b.toNatClampNeg) + d)) ((xs_bk (xp_ck st a.toNatClampNeg b.toNatClampNeg ((xs_ck st a.toNatClampNeg b.toNatClampNeg) + d))) + d.toInt64)) := by unfold f_GL_bunker; rw [if_neg c_1, if_neg c_2, if_neg c_3, if_pos c_4]
          exact rg_zret (pc := 71) hx hb hr hlocks rfl hP hS ⟨by rw [e9], by rw [e9]⟩ d_GL_bunker_71
        · refine lv_iconst (v := 0) (pc := 42) hx hb d_GL_bunker_42 (by decide) ?_
          have e9 : f_GL_bunker Z st a b d = (0, st) := by unfold f_GL_bunker; rw [if_neg c_1, if_neg c_2, if_neg c_3, if_neg c_4]
          exact rg_zret (pc := 43) hx hb hr hlocks rfl hP hS ⟨by rw [e9], by rw [e9]⟩ d_GL_bunker_43
      · refine lv_iconst (v := 0) (pc := 24) hx hb d_GL_bunker_24 (by decide) ?_
        have e9 : f_GL_bunker Z st a b d = (0, st) := by unfold f_GL_bunker; rw [if_neg c_1, if_neg c_2, if_pos c_3]
        exact rg_zret (pc := 25) hx hb hr hlocks rfl hP hS ⟨by rw [e9], by rw [e9]⟩ d_GL_bunker_25

def f_GL_crane (Z : Nat) (st : xS) (a : Int32) : Int32 × xS :=
  if (f_GL_within a 1 10000) = 0 then
    (0, st)
  else
    (1, xp_gs st a)
set_option maxRecDepth 100000 in
set_option maxHeartbeats 4000000 in
theorem c_GL_crane {l : Launch} {D : va_G} {cA : Nat → ClassId} {Z : Nat} {ad : Nat → Nat} (hR : rD (36 + Z) ad) (hZ : 1 ≤ Z ∧ Z ≤ 6) (st : xS) (a : Int32) : RI l y_GL_crane (mws y_GL_crane b_GL_crane 2 (some .boolean)) ({ frames := 1, cells := 0, slots := 0, locals := 22 } : Room) D clG (tyX cA) (36 + Z) ad (xgx Z ad cA (st)) [.ref (ad 0), .int a] (f_GL_crane Z st a).1 (xgx Z ad cA ((f_GL_crane Z st a).2)) := by
  refine RI_of (cc := b_GL_crane) (maxL := 2) (ret := (some .boolean)) (by decide) (Nat.le_of_ble_eq_true rfl) ?_
  intro p e s m args below meth c ls C hK hP hS hl
  obtain ⟨⟨hx, hb, hml, hown, hts⟩, hr, hlocks, hN⟩ := id C
  have hown : s.vm.findClass R_GL = some m.cls := hown
  have hr : meth.sig.returnType = (some .boolean) := hr
  have hl : lv_has ls 2 [(0, .ref (ad 0)), (1, .int a)] := hl
  refine lv_iload_n (pc := 0) hx hb d_GL_crane_0 rfl (lv_at hl 1 rfl) ?_
  refine lv_iconst (v := 1) (pc := 1) hx hb d_GL_crane_1 (by decide) ?_
  refine lv_sipush (v := 10000) (pc := 2) hx hb d_GL_crane_2 (by decide) ?_
  refine rg_ci (pc := 5) (va_runS (As := [.int a, .int 1, .int 10000]) (rest := []) ⟨hx, hb, hml, hown, hts⟩ (c_GL_within (l := l) a 1 10000 _) ⟨callB_of 3 hts (gd_c wd_112) rfl rfl rfl (hts _ wd_1) (hts _ wd_273) hd_GL_within ⟨Nat.le_of_ble_eq_true rfl, Nat.le_of_ble_eq_true rfl⟩, hts _ wd_111⟩ ⟨rPc_blind _ _ _ _ _ _ _ _, rPc_at _ hP hK hN⟩ rfl rfl hl.1 rfl (lv_room (Nat.le_of_ble_eq_true rfl)) d_GL_crane_5 ⟨Nat.zero_le _, Nat.zero_le _⟩) hS (fun H locs hP hS => ?_)
  refine lv_if_ne (tgt := 13) (pc := 8) hx hb d_GL_crane_8 (by decide) (fun c_1 => ?_) (fun c_1 => ?_)
  · refine lv_aload_n (pc := 13) hx hb d_GL_crane_13 rfl (lv_at hl 0 rfl) ?_
    refine lv_iload_n (pc := 14) hx hb d_GL_crane_14 rfl (lv_at hl 1 rfl) ?_
    refine rg_put (C := R_GL) (T := T_GL) (N := 9) (pc := 15) hx hb hts i_GL t_GL t_GL_ok n_GL hown hK hR hP hS 0 (by omega) xgx_X rfl 6 (by decide) (hts _ wd_244) rfl rfl rfl (Nat.le_of_ble_eq_true rfl) d_GL_crane_15 (xgx_X_gs a) (fun H locs hP hS => ?_)
    refine lv_iconst (v := 1) (pc := 18) hx hb d_GL_crane_18 (by decide) ?_
    have e9 : f_GL_crane Z st a = (1, xp_gs st a) := by unfold f_GL_crane; rw [if_neg c_1]
    exact rg_zret (pc := 19) hx hb hr hlocks rfl hP hS ⟨by rw [e9], by rw [e9]⟩ d_GL_crane_19
  · refine lv_iconst (v := 0) (pc := 11) hx hb d_GL_crane_11 (by decide) ?_
    have e9 : f_GL_crane Z st a = (0, st) := by unfold f_GL_crane; rw [if_pos c_1]
    exact rg_zret (pc := 12) hx hb hr hlocks rfl hP hS ⟨by rw [e9], by rw [e9]⟩ d_GL_crane_12

def f_GL_grab (Z : Nat) (st : xS) (a : Int32) : Int32 × xS :=
  if (f_GL_isCell a) = 0 then
    ((-1), st)
  else
    ((f_Ce_giveTo Z st a.toNatClampNeg (xs_gs st)).1, (f_Ce_giveTo Z st a.toNatClampNeg (xs_gs st)).2)
set_option maxRecDepth 100000 in
set_option maxHeartbeats 4000000 in
theorem c_GL_grab {l : Launch} {D : va_G} {cA : Nat → ClassId} {Z : Nat} {ad : Nat → Nat} (hR : rD (36 + Z) ad) (hZ : 1 ≤ Z ∧ Z ≤ 6) (st : xS) (a : Int32) : RI l y_GL_grab (mws y_GL_grab b_GL_grab 2 (some .int)) ({ frames := 2, cells := 0, slots := 0, locals := 50 } : Room) D clG (tyX cA) (36 + Z) ad (xgx Z ad cA (st)) [.ref (ad 0), .int a] (f_GL_grab Z st a).1 (xgx Z ad cA ((f_GL_grab Z st a).2)) := by
  refine RI_of (cc := b_GL_grab) (maxL := 2) (ret := (some .int)) (by decide) (Nat.le_of_ble_eq_true rfl) ?_
  intro p e s m args below meth c ls C hK hP hS hl
  obtain ⟨⟨hx, hb, hml, hown, hts⟩, hr, hlocks, hN⟩ := id C
  have hown : s.vm.findClass R_GL = some m.cls := hown
  have hr : meth.sig.returnType = (some .int) := hr
  have hl : lv_has ls 2 [(0, .ref (ad 0)), (1, .int a)] := hl
  refine lv_iload_n (pc := 0) hx hb d_GL_grab_0 rfl (lv_at hl 1 rfl) ?_
  refine rg_ci (pc := 1) (va_runS (As := [.int a]) (rest := []) ⟨hx, hb, hml, hown, hts⟩ (c_GL_isCell (l := l) a _) ⟨callB_of 1 hts (gd_c wd_280) rfl rfl rfl (hts _ wd_1) (hts _ wd_278) hd_GL_isCell ⟨Nat.le_of_ble_eq_true rfl, Nat.le_of_ble_eq_true rfl⟩, hts _ wd_279⟩ ⟨rPc_blind _ _ _ _ _ _ _ _, rPc_at _ hP hK hN⟩ rfl rfl hl.1 rfl (lv_room (Nat.le_of_ble_eq_true rfl)) d_GL_grab_1 ⟨Nat.zero_le _, Nat.zero_le _⟩) hS (fun H locs hP hS => ?_)
  refine lv_if_eq (tgt := 27) (pc := 4) hx hb d_GL_grab_4 (by decide) (fun c_1 => ?_) (fun c_1 => ?_)
  · refine lv_iconst (v := (-1)) (pc := 27) hx hb d_GL_grab_27 (by decide) ?_
    have e9 : f_GL_grab Z st a = ((-1), st) := by unfold f_GL_grab; rw [if_pos c_1]
    exact rg_iret (pc := 28) hx hb hr hlocks hP hS ⟨by rw [e9], by rw [e9]⟩ d_GL_grab_28
  · have ha := nat_isCell c_1
    have ha1 := ha.1
    refine lv_aload_n (pc := 7) hx hb d_GL_grab_7 rfl (lv_at hl 0 rfl) ?_
    refine rg_get (C := R_GL) (T := T_GL) (N := 9) (v := .ref (ad 2)) (pc := 8) hx hb hts i_GL hown hK hP 0 (by omega) xgx_X rfl 1 (by decide) (hts _ wd_239) rfl d_GL_grab_8 ?_
    refine lv_iload_n (pc := 11) hx hb d_GL_grab_11 rfl (lv_at hl 1 rfl) ?_
    refine rg_aldq (pc := 12) hx hb hK hP 2 (by omega) 2 xgx_cellsA rfl a.toNatClampNeg (by omega) (by omega) ha.2 rfl d_GL_grab_12 ?_
    refine lv_aload_n (pc := 13) hx hb d_GL_grab_13 rfl (lv_at hl 0 rfl) ?_
    refine rg_get (C := R_GL) (T := T_GL) (N := 9) (v := .ref (ad 1)) (pc := 14) hx hb hts i_GL hown hK hP 0 (by omega) xgx_X rfl 0 (by decide) (hts _ wd_238) rfl d_GL_grab_14 ?_
    refine lv_aload_n (pc := 17) hx hb d_GL_grab_17 rfl (lv_at hl 0 rfl) ?_
    refine rg_get (C := R_GL) (T := T_GL) (N := 9) (v := .int (xs_gs st)) (pc := 18) hx hb hts i_GL hown hK hP 0 (by omega) xgx_X rfl 6 (by decide) (hts _ wd_244) rfl d_GL_grab_18 ?_
    refine rg_ci (pc := 21) (va_runV (As := [.ref (ad 1), .int (xs_gs st)]) (rest := []) ⟨hx, hb, hml, hown, hts⟩ (c_Ce_giveTo (l := l) hR hZ st a.toNatClampNeg (by omega) (xs_gs st) _) ⟨callB_of 2 hts (gd_c wd_297) rfl rfl rfl (hts _ wd_7) (hts _ wd_294) hd_Ce_giveTo ⟨Nat.le_of_ble_eq_true rfl, Nat.le_of_ble_eq_true rfl⟩, hts _ wd_295, hts _ wd_296⟩ ⟨rPc_blind _ _ _ _ _ _ _ _, rg_rec hK hP (16 + a.toNatClampNeg) (by omega) (xgx_Cell (j := a.toNatClampNeg) (by omega)) rfl, rPc_at _ hP hK hN⟩ rfl rfl hl.1 rfl (lv_room (Nat.le_of_ble_eq_true rfl)) d_GL_grab_21 ⟨Nat.zero_le _, Nat.zero_le _⟩) hS (fun H locs hP hS => ?_)
    refine lv_goto (tgt := 28) (pc := 24) hx hb d_GL_grab_24 (by decide) ?_
    have e9 : f_GL_grab Z st a = ((f_Ce_giveTo Z st a.toNatClampNeg (xs_gs st)).1, (f_Ce_giveTo Z st a.toNatClampNeg (xs_gs st)).2) := by unfold f_GL_grab; rw [if_neg c_1]
    exact rg_iret (pc := 28) hx hb hr hlocks hP hS ⟨by rw [e9], by rw [e9]⟩ d_GL_grab_28

def f_GL_share (Z : Nat) (st : xS) (a : Int32) (b : Int32) : Int32 :=
  if (f_GL_isCell a) = 0 then
    (-1)
  else
    if (f_GL_isKind b) = 0 then
      (-1)
    else
      xs_ck st a.toNatClampNeg b.toNatClampNeg
set_option maxRecDepth 100000 in
set_option maxHeartbeats 4000000 in
theorem c_GL_share {l : Launch} {D : va_G} {cA : Nat → ClassId} {Z : Nat} {ad : Nat → Nat} (hR : rD (36 + Z) ad) (hZ : 1 ≤ Z ∧ Z ≤ 6) (st : xS) (a : Int32) (b : Int32) : RI l y_GL_share (mws y_GL_share b_GL_share 3 (some .int)) ({ frames := 2, cells := 0, slots := 0, locals := 42 } : Room) D clG (tyX cA) (36 + Z) ad (xgx Z ad cA (st)) [.ref (ad 0), .int a, .int b] (f_GL_share Z st a b) (xgx Z ad cA (st)) := by
  refine RI_of (cc := b_GL_share) (maxL := 3) (ret := (some .int)) (by decide) (Nat.le_of_ble_eq_true rfl) ?_
  intro p e s m args below meth c ls C hK hP hS hl
  obtain ⟨⟨hx, hb, hml, hown, hts⟩, hr, hlocks, hN⟩ := id C
  have hown : s.vm.findClass R_GL = some m.cls := hown
  have hr : meth.sig.returnType = (some .int) := hr
  have hl : lv_has ls 3 [(0, .ref (ad 0)), (1, .int a), (2, .int b)] := hl
  refine lv_iload_n (pc := 0) hx hb d_GL_share_0 rfl (lv_at hl 1 rfl) ?_
  refine rg_ci (pc := 1) (va_runS (As := [.int a]) (rest := []) ⟨hx, hb, hml, hown, hts⟩ (c_GL_isCell (l := l) a _) ⟨callB_of 1 hts (gd_c wd_280) rfl rfl rfl (hts _ wd_1) (hts _ wd_278) hd_GL_isCell ⟨Nat.le_of_ble_eq_true rfl, Nat.le_of_ble_eq_true rfl⟩, hts _ wd_279⟩ ⟨rPc_blind _ _ _ _ _ _ _ _, rPc_at _ hP hK hN⟩ rfl rfl hl.1 rfl (lv_room (Nat.le_of_ble_eq_true rfl)) d_GL_share_1 ⟨Nat.zero_le _, Nat.zero_le _⟩) hS (fun H locs hP hS => ?_)
  refine lv_if_eq (tgt := 28) (pc := 4) hx hb d_GL_share_4 (by decide) (fun c_1 => ?_) (fun c_1 => ?_)
  · refine lv_iconst (v := (-1)) (pc := 28) hx hb d_GL_share_28 (by decide) ?_
    have e9 : f_GL_share Z st a b = (-1) := by unfold f_GL_share; rw [if_pos c_1]
    exact rg_iret (pc := 29) hx hb hr hlocks hP hS ⟨e9.symm, rfl⟩ d_GL_share_29
  · refine lv_iload_n (pc := 7) hx hb d_GL_share_7 rfl (lv_at hl 2 rfl) ?_
    refine rg_ci (pc := 8) (va_runS (As := [.int b]) (rest := []) ⟨hx, hb, hml, hown, hts⟩ (c_GL_isKind (l := l) b _) ⟨callB_of 1 hts (gd_c wd_272) rfl rfl rfl (hts _ wd_1) (hts _ wd_270) hd_GL_isKind ⟨Nat.le_of_ble_eq_true rfl, Nat.le_of_ble_eq_true rfl⟩, hts _ wd_271⟩ ⟨rPc_blind _ _ _ _ _ _ _ _, rPc_at _ hP hK hN⟩ rfl rfl hl.1 rfl (lv_room (Nat.le_of_ble_eq_true rfl)) d_GL_share_8 ⟨Nat.zero_le _, Nat.zero_le _⟩) hS (fun H locs hP hS => ?_)
    refine lv_if_eq (tgt := 28) (pc := 11) hx hb d_GL_share_11 (by decide) (fun c_2 => ?_) (fun c_2 => ?_)
    · refine lv_iconst (v := (-1)) (pc := 28) hx hb d_GL_share_28 (by decide) ?_
      have e9 : f_GL_share Z st a b = (-1) := by unfold f_GL_share; rw [if_neg c_1, if_pos c_2]
      exact rg_iret (pc := 29) hx hb hr hlocks hP hS ⟨e9.symm, rfl⟩ d_GL_share_29
    · have ha := nat_isCell c_1
      have ha1 := ha.1
      have hbx := nat_isKind c_2
      have hbx1 := hbx.1
      refine lv_aload_n (pc := 14) hx hb d_GL_share_14 rfl (lv_at hl 0 rfl) ?_
      refine rg_get (C := R_GL) (T := T_GL) (N := 9) (v := .ref (ad 2)) (pc := 15) hx hb hts i_GL hown hK hP 0 (by omega) xgx_X rfl 1 (by decide) (hts _ wd_239) rfl d_GL_share_15 ?_
      refine lv_iload_n (pc := 18) hx hb d_GL_share_18 rfl (lv_at hl 1 rfl) ?_
      refine rg_aldq (pc := 19) hx hb hK hP 2 (by omega) 2 xgx_cellsA rfl a.toNatClampNeg (by omega) (by omega) ha.2 rfl d_GL_share_19 ?_
      refine rg_get (C := R_Ce) (T := T_Ce) (N := 1) (v := .ref (ad (22 + a.toNatClampNeg))) (pc := 20) hx hb hts i_Ce hown hK hP (16 + a.toNatClampNeg) (by omega) (xgx_Cell (j := a.toNatClampNeg) (by omega)) rfl 0 (by decide) (hts _ wd_208) rfl d_GL_share_20 ?_
      refine lv_iload_n (pc := 23) hx hb d_GL_share_23 rfl (lv_at hl 2 rfl) ?_
      refine rg_iald (pc := 24) hx hb hK hP (22 + a.toNatClampNeg) (by omega) 0 (xgx_Kg (j := a.toNatClampNeg) (by omega)) rfl b.toNatClampNeg (by omega) (by omega) hbx.2 d_GL_share_24 ?_
      refine lv_goto (tgt := 29) (pc := 25) hx hb d_GL_share_25 (by decide) ?_
      have e9 : f_GL_share Z st a b = xs_ck st a.toNatClampNeg b.toNatClampNeg := by unfold f_GL_share; rw [if_neg c_1, if_neg c_2]
      exact rg_iret (pc := 29) hx hb hr hlocks hP hS ⟨e9.symm, rfl⟩ d_GL_share_29

def f_GL_air (Z : Nat) (st : xS) (a : Int32) (b : Int32) (d : Int32) : Int32 × xS :=
  if (f_Gr_hasZone Z st a) = 0 then
    (0, st)
  else
    if (f_GL_within b 0 100000) = 0 then
      (0, st)
    else
      if (f_GL_within d 0 1000) = 0 then
        (0, st)
      else
        (1, xp_zd (xp_zv st a.toNatClampNeg b) a.toNatClampNeg d)
set_option maxRecDepth 100000 in
set_option maxHeartbeats 4000000 in
theorem c_GL_air {l : Launch} {D : va_G} {cA : Nat → ClassId} {Z : Nat} {ad : Nat → Nat} (hR : rD (36 + Z) ad) (hZ : 1 ≤ Z ∧ Z ≤ 6) (st : xS) (a : Int32) (b : Int32) (d : Int32) : RI l y_GL_air (mws y_GL_air b_GL_air 4 (some .boolean)) ({ frames := 1, cells := 0, slots := 0, locals := 22 } : Room) D clG (tyX cA) (36 + Z) ad (xgx Z ad cA (st)) [.ref (ad 0), .int a, .int b, .int d] (f_GL_air Z st a b d).1 (xgx Z ad cA ((f_GL_air Z st a b d).2)) := by
  refine RI_of (cc := b_GL_air) (maxL := 4) (ret := (some .boolean)) (by decide) (Nat.le_of_ble_eq_true rfl) ?_
  intro p e s m args below meth c ls C hK hP hS hl
  obtain ⟨⟨hx, hb, hml, hown, hts⟩, hr, hlocks, hN⟩ := id C
  have hown : s.vm.findClass R_GL = some m.cls := hown
  have hr : meth.sig.returnType = (some .boolean) := hr
  have hl : lv_has ls 4 [(0, .ref (ad 0)), (1, .int a), (2, .int b), (3, .int d)] := hl
  refine lv_aload_n (pc := 0) hx hb d_GL_air_0 rfl (lv_at hl 0 rfl) ?_
  refine rg_get (C := R_GL) (T := T_GL) (N := 9) (v := .ref (ad 10)) (pc := 1) hx hb hts i_GL hown hK hP 0 (by omega) xgx_X rfl 2 (by decide) (hts _ wd_240) rfl d_GL_air_1 ?_
  refine lv_iload_n (pc := 4) hx hb d_GL_air_4 rfl (lv_at hl 1 rfl) ?_
  refine rg_ci (pc := 5) (va_runV (As := [.int a]) (rest := []) ⟨hx, hb, hml, hown, hts⟩ (c_Gr_hasZone (l := l) hR hZ st a _) ⟨callB_of 1 hts (gd_c wd_317) rfl rfl rfl (hts _ wd_4) (hts _ wd_314) hd_Gr_hasZone ⟨Nat.le_of_ble_eq_true rfl, Nat.le_of_ble_eq_true rfl⟩, hts _ wd_315, hts _ wd_316⟩ ⟨rPc_blind _ _ _ _ _ _ _ _, rg_rec hK hP 10 (by omega) xgx_grate rfl, rPc_at _ hP hK hN⟩ rfl rfl hl.1 rfl (lv_room (Nat.le_of_ble_eq_true rfl)) d_GL_air_5 ⟨Nat.zero_le _, Nat.zero_le _⟩) hS (fun H locs hP hS => ?_)
  refine lv_if_eq (tgt := 32) (pc := 8) hx hb d_GL_air_8 (by decide) (fun c_1 => ?_) (fun c_1 => ?_)
  · refine lv_iconst (v := 0) (pc := 32) hx hb d_GL_air_32 (by decide) ?_
    have e9 : f_GL_air Z st a b d = (0, st) := by unfold f_GL_air; rw [if_pos c_1]
    exact rg_zret (pc := 33) hx hb hr hlocks rfl hP hS ⟨by rw [e9], by rw [e9]⟩ d_GL_air_33
  · refine lv_iload_n (pc := 11) hx hb d_GL_air_11 rfl (lv_at hl 2 rfl) ?_
    refine lv_iconst (v := 0) (pc := 12) hx hb d_GL_air_12 (by decide) ?_
    refine lv_ldc (v := 100000) (pc := 13) hx hb hown (hts _ wd_281) d_GL_air_13 ?_
    refine rg_ci (pc := 15) (va_runS (As := [.int b, .int 0, .int 100000]) (rest := []) ⟨hx, hb, hml, hown, hts⟩ (c_GL_within (l := l) b 0 100000 _) ⟨callB_of 3 hts (gd_c wd_112) rfl rfl rfl (hts _ wd_1) (hts _ wd_273) hd_GL_within ⟨Nat.le_of_ble_eq_true rfl, Nat.le_of_ble_eq_true rfl⟩, hts _ wd_111⟩ ⟨rPc_blind _ _ _ _ _ _ _ _, rPc_at _ hP hK hN⟩ rfl rfl hl.1 rfl (lv_room (Nat.le_of_ble_eq_true rfl)) d_GL_air_15 ⟨Nat.zero_le _, Nat.zero_le _⟩) hS (fun H locs hP hS => ?_)
    refine lv_if_eq (tgt := 32) (pc := 18) hx hb d_GL_air_18 (by decide) (fun c_2 => ?_) (fun c_2 => ?_)
    · refine lv_iconst (v := 0) (pc := 32) hx hb d_GL_air_32 (by decide) ?_
      have e9 : f_GL_air Z st a b d = (0, st) := by unfold f_GL_air; rw [if_neg c_1, if_pos c_2]
      exact rg_zret (pc := 33) hx hb hr hlocks rfl hP hS ⟨by rw [e9], by rw [e9]⟩ d_GL_air_33
    · refine lv_iload_n (pc := 21) hx hb d_GL_air_21 rfl (lv_at hl 3 rfl) ?_
      refine lv_iconst (v := 0) (pc := 22) hx hb d_GL_air_22 (by decide) ?_
      refine lv_sipush (v := 1000) (pc := 23) hx hb d_GL_air_23 (by decide) ?_
      refine rg_ci (pc := 26) (va_runS (As := [.int d, .int 0, .int 1000]) (rest := []) ⟨hx, hb, hml, hown, hts⟩ (c_GL_within (l := l) d 0 1000 _) ⟨callB_of 3 hts (gd_c wd_112) rfl rfl rfl (hts _ wd_1) (hts _ wd_273) hd_GL_within ⟨Nat.le_of_ble_eq_true rfl, Nat.le_of_ble_eq_true rfl⟩, hts _ wd_111⟩ ⟨rPc_blind _ _ _ _ _ _ _ _, rPc_at _ hP hK hN⟩ rfl rfl hl.1 rfl (lv_room (Nat.le_of_ble_eq_true rfl)) d_GL_air_26 ⟨Nat.zero_le _, Nat.zero_le _⟩) hS (fun H locs hP hS => ?_)
      refine lv_if_ne (tgt := 34) (pc := 29) hx hb d_GL_air_29 (by decide) (fun c_3 => ?_) (fun c_3 => ?_)
      · have ha := nat_hasZone hZ c_1
        have ha1 := ha.1
        refine lv_aload_n (pc := 34) hx hb d_GL_air_34 rfl (lv_at hl 0 rfl) ?_
        refine rg_get (C := R_GL) (T := T_GL) (N := 9) (v := .ref (ad 10)) (pc := 35) hx hb hts i_GL hown hK hP 0 (by omega) xgx_X rfl 2 (by decide) (hts _ wd_240) rfl d_GL_air_35 ?_
        refine rg_get (C := R_Gr) (T := T_Gr) (N := 9) (v := .ref (ad 11)) (pc := 38) hx hb hts i_Gr hown hK hP 10 (by omega) xgx_grate rfl 0 (by decide) (hts _ wd_146) rfl d_GL_air_38 ?_
        refine lv_iload_n (pc := 41) hx hb d_GL_air_41 rfl (lv_at hl 1 rfl) ?_
        refine rg_aldq (pc := 42) hx hb hK hP 11 (by omega) 3 xgx_zonesA rfl a.toNatClampNeg (by omega) (by omega) ha.2 rfl d_GL_air_42 ?_
        refine lv_iload_n (pc := 43) hx hb d_GL_air_43 rfl (lv_at hl 2 rfl) ?_
        refine rg_put (C := R_Zo) (T := T_Zo) (N := 5) (pc := 44) hx hb hts i_Zo t_Zo t_Zo_ok n_Zo hown hK hR hP hS (36 + a.toNatClampNeg) (by omega) (xgx_Zone (j := a.toNatClampNeg) (by omega)) rfl 3 (by decide) (hts _ wd_131) rfl rfl rfl (Nat.le_of_ble_eq_true rfl) d_GL_air_44 (xgx_Zone_zv (j := a.toNatClampNeg) (by omega) b) (fun H locs hP hS => ?_)
        refine lv_aload_n (pc := 47) hx hb d_GL_air_47 rfl (lv_at hl 0 rfl) ?_
        refine rg_get (C := R_GL) (T := T_GL) (N := 9) (v := .ref (ad 10)) (pc := 48) hx hb hts i_GL hown hK hP 0 (by omega) xgx_X rfl 2 (by decide) (hts _ wd_240) rfl d_GL_air_48 ?_
        refine rg_get (C := R_Gr) (T := T_Gr) (N := 9) (v := .ref (ad 11)) (pc := 51) hx hb hts i_Gr hown hK hP 10 (by omega) xgx_grate rfl 0 (by decide) (hts _ wd_146) rfl d_GL_air_51 ?_
        refine lv_iload_n (pc := 54) hx hb d_GL_air_54 rfl (lv_at hl 1 rfl) ?_
        refine rg_aldq (pc := 55) hx hb hK hP 11 (by omega) 3 xgx_zonesA rfl a.toNatClampNeg (by omega) (by omega) ha.2 rfl d_GL_air_55 ?_
        refine lv_iload_n (pc := 56) hx hb d_GL_air_56 rfl (lv_at hl 3 rfl) ?_
        refine rg_put (C := R_Zo) (T := T_Zo) (N := 5) (pc := 57) hx hb hts i_Zo t_Zo t_Zo_ok n_Zo hown hK hR hP hS (36 + a.toNatClampNeg) (by omega) (xgx_Zone (j := a.toNatClampNeg) (by omega)) rfl 4 (by decide) (hts _ wd_133) rfl rfl rfl (Nat.le_of_ble_eq_true rfl) d_GL_air_57 (xgx_Zone_zd (j := a.toNatClampNeg) (by omega) d) (fun H locs hP hS => ?_)
        refine lv_iconst (v := 1) (pc := 60) hx hb d_GL_air_60 (by decide) ?_
        have e9 : f_GL_air Z st a b d = (1, xp_zd (xp_zv st a.toNatClampNeg b) a.toNatClampNeg d) := by unfold f_GL_air; rw [if_neg c_1, if_neg c_2, if_neg c_3]
        exact rg_zret (pc := 61) hx hb hr hlocks rfl hP hS ⟨by rw [e9], by rw [e9]⟩ d_GL_air_61
      · refine lv_iconst (v := 0) (pc := 32) hx hb d_GL_air_32 (by decide) ?_
        have e9 : f_GL_air Z st a b d = (0, st) := by unfold f_GL_air; rw [if_neg c_1, if_neg c_2, if_pos c_3]
        exact rg_zret (pc := 33) hx hb hr hlocks rfl hP hS ⟨by rw [e9], by rw [e9]⟩ d_GL_air_33

def f_GL_set (Z : Nat) (st : xS) (a : Int32) (b : Int32) : Int32 × xS :=
  if (f_GL_within a 0 1000) = 0 then
    (0, st)
  else
    if (f_GL_within b 0 1000) = 0 then
      (0, st)
    else
      (1, xp_bo (xp_mv st a) b)
set_option maxRecDepth 100000 in
set_option maxHeartbeats 4000000 in
theorem c_GL_set {l : Launch} {D : va_G} {cA : Nat → ClassId} {Z : Nat} {ad : Nat → Nat} (hR : rD (36 + Z) ad) (hZ : 1 ≤ Z ∧ Z ≤ 6) (st : xS) (a : Int32) (b : Int32) : RI l y_GL_set (mws y_GL_set b_GL_set 3 (some .boolean)) ({ frames := 1, cells := 0, slots := 0, locals := 22 } : Room) D clG (tyX cA) (36 + Z) ad (xgx Z ad cA (st)) [.ref (ad 0), .int a, .int b] (f_GL_set Z st a b).1 (xgx Z ad cA ((f_GL_set Z st a b).2)) := by
  refine RI_of (cc := b_GL_set) (maxL := 3) (ret := (some .boolean)) (by decide) (Nat.le_of_ble_eq_true rfl) ?_
  intro p e s m args below meth c ls C hK hP hS hl
  obtain ⟨⟨hx, hb, hml, hown, hts⟩, hr, hlocks, hN⟩ := id C
  have hown : s.vm.findClass R_GL = some m.cls := hown
  have hr : meth.sig.returnType = (some .boolean) := hr
  have hl : lv_has ls 3 [(0, .ref (ad 0)), (1, .int a), (2, .int b)] := hl
  refine lv_iload_n (pc := 0) hx hb d_GL_set_0 rfl (lv_at hl 1 rfl) ?_
  refine lv_iconst (v := 0) (pc := 1) hx hb d_GL_set_1 (by decide) ?_
  refine lv_sipush (v := 1000) (pc := 2) hx hb d_GL_set_2 (by decide) ?_
  refine rg_ci (pc := 5) (va_runS (As := [.int a, .int 0, .int 1000]) (rest := []) ⟨hx, hb, hml, hown, hts⟩ (c_GL_within (l := l) a 0 1000 _) ⟨callB_of 3 hts (gd_c wd_112) rfl rfl rfl (hts _ wd_1) (hts _ wd_273) hd_GL_within ⟨Nat.le_of_ble_eq_true rfl, Nat.le_of_ble_eq_true rfl⟩, hts _ wd_111⟩ ⟨rPc_blind _ _ _ _ _ _ _ _, rPc_at _ hP hK hN⟩ rfl rfl hl.1 rfl (lv_room (Nat.le_of_ble_eq_true rfl)) d_GL_set_5 ⟨Nat.zero_le _, Nat.zero_le _⟩) hS (fun H locs hP hS => ?_)
  refine lv_if_eq (tgt := 22) (pc := 8) hx hb d_GL_set_8 (by decide) (fun c_1 => ?_) (fun c_1 => ?_)
  · refine lv_iconst (v := 0) (pc := 22) hx hb d_GL_set_22 (by decide) ?_
    have e9 : f_GL_set Z st a b = (0, st) := by unfold f_GL_set; rw [if_pos c_1]
    exact rg_zret (pc := 23) hx hb hr hlocks rfl hP hS ⟨by rw [e9], by rw [e9]⟩ d_GL_set_23
  · refine lv_iload_n (pc := 11) hx hb d_GL_set_11 rfl (lv_at hl 2 rfl) ?_
    refine lv_iconst (v := 0) (pc := 12) hx hb d_GL_set_12 (by decide) ?_
    refine lv_sipush (v := 1000) (pc := 13) hx hb d_GL_set_13 (by decide) ?_
    refine rg_ci (pc := 16) (va_runS (As := [.int b, .int 0, .int 1000]) (rest := []) ⟨hx, hb, hml, hown, hts⟩ (c_GL_within (l := l) b 0 1000 _) ⟨callB_of 3 hts (gd_c wd_112) rfl rfl rfl (hts _ wd_1) (hts _ wd_273) hd_GL_within ⟨Nat.le_of_ble_eq_true rfl, Nat.le_of_ble_eq_true rfl⟩, hts _ wd_111⟩ ⟨rPc_blind _ _ _ _ _ _ _ _, rPc_at _ hP hK hN⟩ rfl rfl hl.1 rfl (lv_room (Nat.le_of_ble_eq_true rfl)) d_GL_set_16 ⟨Nat.zero_le _, Nat.zero_le _⟩) hS (fun H locs hP hS => ?_)
    refine lv_if_ne (tgt := 24) (pc := 19) hx hb d_GL_set_19 (by decide) (fun c_2 => ?_) (fun c_2 => ?_)
    · refine lv_aload_n (pc := 24) hx hb d_GL_set_24 rfl (lv_at hl 0 rfl) ?_
      refine rg_get (C := R_GL) (T := T_GL) (N := 9) (v := .ref (ad 10)) (pc := 25) hx hb hts i_GL hown hK hP 0 (by omega) xgx_X rfl 2 (by decide) (hts _ wd_240) rfl d_GL_set_25 ?_
      refine lv_iload_n (pc := 28) hx hb d_GL_set_28 rfl (lv_at hl 1 rfl) ?_
      refine rg_put (C := R_Gr) (T := T_Gr) (N := 9) (pc := 29) hx hb hts i_Gr t_Gr t_Gr_ok n_Gr hown hK hR hP hS 10 (by omega) xgx_grate rfl 1 (by decide) (hts _ wd_148) rfl rfl rfl (Nat.le_of_ble_eq_true rfl) d_GL_set_29 (xgx_grate_mv a) (fun H locs hP hS => ?_)
      refine lv_aload_n (pc := 32) hx hb d_GL_set_32 rfl (lv_at hl 0 rfl) ?_
      refine rg_get (C := R_GL) (T := T_GL) (N := 9) (v := .ref (ad 3)) (pc := 33) hx hb hts i_GL hown hK hP 0 (by omega) xgx_X rfl 3 (by decide) (hts _ wd_241) rfl d_GL_set_33 ?_
      refine lv_iload_n (pc := 36) hx hb d_GL_set_36 rfl (lv_at hl 2 rfl) ?_
      refine rg_put (C := R_Fu) (T := T_Fu) (N := 11) (pc := 37) hx hb hts i_Fu t_Fu t_Fu_ok n_Fu hown hK hR hP hS 3 (by omega) xgx_furn rfl 1 (by decide) (hts _ wd_33) rfl rfl rfl (Nat.le_of_ble_eq_true rfl) d_GL_set_37 (xgx_furn_bo b) (fun H locs hP hS => ?_)
      refine lv_iconst (v := 1) (pc := 40) hx hb d_GL_set_40 (by decide) ?_
      have e9 : f_GL_set Z st a b = (1, xp_bo (xp_mv st a) b) := by unfold f_GL_set; rw [if_neg c_1, if_neg c_2]
      exact rg_zret (pc := 41) hx hb hr hlocks rfl hP hS ⟨by rw [e9], by rw [e9]⟩ d_GL_set_41
    · refine lv_iconst (v := 0) (pc := 22) hx hb d_GL_set_22 (by decide) ?_
      have e9 : f_GL_set Z st a b = (0, st) := by unfold f_GL_set; rw [if_neg c_1, if_pos c_2]
      exact rg_zret (pc := 23) hx hb hr hlocks rfl hP hS ⟨by rw [e9], by rw [e9]⟩ d_GL_set_23

def f_GL_control (Z : Nat) (st : xS) (a : Int32) (b : Int32) (d : Int32) (f4 : Int32) : Int32 × xS :=
  if (f_GL_isController a) = 0 then
    (0, st)
  else
    if (f_GL_within b 0 1000000000) = 0 then
      (0, st)
    else
      if (f_GL_within d (-1000) 1000) = 0 then
        (0, st)
      else
        if (f_GL_within f4 (-1000) 1000) = 0 then
          (0, st)
        else
          (1, f_Ct_tell Z st a.toNatClampNeg b d f4)
set_option maxRecDepth 100000 in
set_option maxHeartbeats 4000000 in
theorem c_GL_control {l : Launch} {D : va_G} {cA : Nat → ClassId} {Z : Nat} {ad : Nat → Nat} (hR : rD (36 + Z) ad) (hZ : 1 ≤ Z ∧ Z ≤ 6) (st : xS) (a : Int32) (b : Int32) (d : Int32) (f4 : Int32) : RI l y_GL_control (mws y_GL_control b_GL_control 5 (some .boolean)) ({ frames := 2, cells := 0, slots := 0, locals := 42 } : Room) D clG (tyX cA) (36 + Z) ad (xgx Z ad cA (st)) [.ref (ad 0), .int a, .int b, .int d, .int f4] (f_GL_control Z st a b d f4).1 (xgx Z ad cA ((f_GL_control Z st a b d f4).2)) := by
  refine RI_of (cc := b_GL_control) (maxL := 5) (ret := (some .boolean)) (by decide) (Nat.le_of_ble_eq_true rfl) ?_
  intro p e s m args below meth c ls C hK hP hS hl
  obtain ⟨⟨hx, hb, hml, hown, hts⟩, hr, hlocks, hN⟩ := id C
  have hown : s.vm.findClass R_GL = some m.cls := hown
  have hr : meth.sig.returnType = (some .boolean) := hr
  have hl : lv_has ls 5 [(0, .ref (ad 0)), (1, .int a), (2, .int b), (3, .int d), (4, .int f4)] := hl
  refine lv_iload_n (pc := 0) hx hb d_GL_control_0 rfl (lv_at hl 1 rfl) ?_
  refine rg_ci (pc := 1) (va_runS (As := [.int a]) (rest := []) ⟨hx, hb, hml, hown, hts⟩ (c_GL_isController (l := l) a _) ⟨callB_of 1 hts (gd_c wd_328) rfl rfl rfl (hts _ wd_1) (hts _ wd_326) hd_GL_isController ⟨Nat.le_of_ble_eq_true rfl, Nat.le_of_ble_eq_true rfl⟩, hts _ wd_327⟩ ⟨rPc_blind _ _ _ _ _ _ _ _, rPc_at _ hP hK hN⟩ rfl rfl hl.1 rfl (lv_room (Nat.le_of_ble_eq_true rfl)) d_GL_control_1 ⟨Nat.zero_le _, Nat.zero_le _⟩) hS (fun H locs hP hS => ?_)
  refine lv_if_eq (tgt := 17) (pc := 4) hx hb d_GL_control_4 (by decide) (fun c_1 => ?_) (fun c_1 => ?_)
  · refine lv_iconst (v := 0) (pc := 17) hx hb d_GL_control_17 (by decide) ?_
    have e9 : f_GL_control Z st a b d f4 = (0, st) := by unfold f_GL_control; rw [if_pos c_1]
    exact rg_zret (pc := 18) hx hb hr hlocks rfl hP hS ⟨by rw [e9], by rw [e9]⟩ d_GL_control_18
  · refine lv_iload_n (pc := 7) hx hb d_GL_control_7 rfl (lv_at hl 2 rfl) ?_
    refine lv_iconst (v := 0) (pc := 8) hx hb d_GL_control_8 (by decide) ?_
    refine lv_ldc (v := 1000000000) (pc := 9) hx hb hown (hts _ wd_329) d_GL_control_9 ?_
    refine rg_ci (pc := 11) (va_runS (As := [.int b, .int 0, .int 1000000000]) (rest := []) ⟨hx, hb, hml, hown, hts⟩ (c_GL_within (l := l) b 0 1000000000 _) ⟨callB_of 3 hts (gd_c wd_112) rfl rfl rfl (hts _ wd_1) (hts _ wd_273) hd_GL_within ⟨Nat.le_of_ble_eq_true rfl, Nat.le_of_ble_eq_true rfl⟩, hts _ wd_111⟩ ⟨rPc_blind _ _ _ _ _ _ _ _, rPc_at _ hP hK hN⟩ rfl rfl hl.1 rfl (lv_room (Nat.le_of_ble_eq_true rfl)) d_GL_control_11 ⟨Nat.zero_le _, Nat.zero_le _⟩) hS (fun H locs hP hS => ?_)
    refine lv_if_ne (tgt := 19) (pc := 14) hx hb d_GL_control_14 (by decide) (fun c_2 => ?_) (fun c_2 => ?_)
    · refine lv_iload_n (pc := 19) hx hb d_GL_control_19 rfl (lv_at hl 3 rfl) ?_
      refine lv_sipush (v := (-1000)) (pc := 20) hx hb d_GL_control_20 (by decide) ?_
      refine lv_sipush (v := 1000) (pc := 23) hx hb d_GL_control_23 (by decide) ?_
      refine rg_ci (pc := 26) (va_runS (As := [.int d, .int (-1000), .int 1000]) (rest := []) ⟨hx, hb, hml, hown, hts⟩ (c_GL_within (l := l) d (-1000) 1000 _) ⟨callB_of 3 hts (gd_c wd_112) rfl rfl rfl (hts _ wd_1) (hts _ wd_273) hd_GL_within ⟨Nat.le_of_ble_eq_true rfl, Nat.le_of_ble_eq_true rfl⟩, hts _ wd_111⟩ ⟨rPc_blind _ _ _ _ _ _ _ _, rPc_at _ hP hK hN⟩ rfl rfl hl.1 rfl (lv_room (Nat.le_of_ble_eq_true rfl)) d_GL_control_26 ⟨Nat.zero_le _, Nat.zero_le _⟩) hS (fun H locs hP hS => ?_)
      refine lv_if_eq (tgt := 46) (pc := 29) hx hb d_GL_control_29 (by decide) (fun c_3 => ?_) (fun c_3 => ?_)
      · refine lv_iconst (v := 0) (pc := 46) hx hb d_GL_control_46 (by decide) ?_
        have e9 : f_GL_control Z st a b d f4 = (0, st) := by unfold f_GL_control; rw [if_neg c_1, if_neg c_2, if_pos c_3]
        exact rg_zret (pc := 47) hx hb hr hlocks rfl hP hS ⟨by rw [e9], by rw [e9]⟩ d_GL_control_47
      · refine lv_iload (pc := 32) hx hb d_GL_control_32 (lv_at hl 4 rfl) ?_
        refine lv_sipush (v := (-1000)) (pc := 34) hx hb d_GL_control_34 (by decide) ?_
        refine lv_sipush (v := 1000) (pc := 37) hx hb d_GL_control_37 (by decide) ?_
        refine rg_ci (pc := 40) (va_runS (As := [.int f4, .int (-1000), .int 1000]) (rest := []) ⟨hx, hb, hml, hown, hts⟩ (c_GL_within (l := l) f4 (-1000) 1000 _) ⟨callB_of 3 hts (gd_c wd_112) rfl rfl rfl (hts _ wd_1) (hts _ wd_273) hd_GL_within ⟨Nat.le_of_ble_eq_true rfl, Nat.le_of_ble_eq_true rfl⟩, hts _ wd_111⟩ ⟨rPc_blind _ _ _ _ _ _ _ _, rPc_at _ hP hK hN⟩ rfl rfl hl.1 rfl (lv_room (Nat.le_of_ble_eq_true rfl)) d_GL_control_40 ⟨Nat.zero_le _, Nat.zero_le _⟩) hS (fun H locs hP hS => ?_)
        refine lv_if_ne (tgt := 48) (pc := 43) hx hb d_GL_control_43 (by decide) (fun c_4 => ?_) (fun c_4 => ?_)
        · have ha := nat_isController c_1
          have ha1 := ha.1
          refine lv_aload_n (pc := 48) hx hb d_GL_control_48 rfl (lv_at hl 0 rfl) ?_
          refine rg_get (C := R_GL) (T := T_GL) (N := 9) (v := .ref (ad 4)) (pc := 49) hx hb hts i_GL hown hK hP 0 (by omega) xgx_X rfl 4 (by decide) (hts _ wd_242) rfl d_GL_control_49 ?_
          refine lv_iload_n (pc := 52) hx hb d_GL_control_52 rfl (lv_at hl 1 rfl) ?_
          refine rg_aldq (pc := 53) hx hb hK hP 4 (by omega) 4 xgx_ctrlA rfl a.toNatClampNeg (by omega) (by omega) ha.2 rfl d_GL_control_53 ?_
          refine lv_iload_n (pc := 54) hx hb d_GL_control_54 rfl (lv_at hl 2 rfl) ?_
          refine lv_iload_n (pc := 55) hx hb d_GL_control_55 rfl (lv_at hl 3 rfl) ?_
          refine lv_iload (pc := 56) hx hb d_GL_control_56 (lv_at hl 4 rfl) ?_
          refine rg_cv (pc := 58) (va_runV (As := [.int b, .int d, .int f4]) (rest := []) ⟨hx, hb, hml, hown, hts⟩ (c_Ct_tell (l := l) hR hZ st a.toNatClampNeg (by omega) b d f4 _) ⟨callB_of 3 hts (gd_c wd_333) rfl rfl rfl (hts _ wd_8) (hts _ wd_330) hd_Ct_tell ⟨Nat.le_of_ble_eq_true rfl, Nat.le_of_ble_eq_true rfl⟩, hts _ wd_331, hts _ wd_332⟩ ⟨rPc_blind _ _ _ _ _ _ _ _, rg_rec hK hP (28 + a.toNatClampNeg) (by omega) (xgx_Ctrl (j := a.toNatClampNeg) (by omega)) rfl, rPc_at _ hP hK hN⟩ rfl rfl hl.1 rfl (lv_room (Nat.le_of_ble_eq_true rfl)) d_GL_control_58 ⟨Nat.zero_le _, Nat.zero_le _⟩) hS (fun H locs hP hS => ?_)
          refine lv_iconst (v := 1) (pc := 61) hx hb d_GL_control_61 (by decide) ?_
          have e9 : f_GL_control Z st a b d f4 = (1, f_Ct_tell Z st a.toNatClampNeg b d f4) := by unfold f_GL_control; rw [if_neg c_1, if_neg c_2, if_neg c_3, if_neg c_4]
          exact rg_zret (pc := 62) hx hb hr hlocks rfl hP hS ⟨by rw [e9], by rw [e9]⟩ d_GL_control_62
        · refine lv_iconst (v := 0) (pc := 46) hx hb d_GL_control_46 (by decide) ?_
          have e9 : f_GL_control Z st a b d f4 = (0, st) := by unfold f_GL_control; rw [if_neg c_1, if_neg c_2, if_neg c_3, if_pos c_4]
          exact rg_zret (pc := 47) hx hb hr hlocks rfl hP hS ⟨by rw [e9], by rw [e9]⟩ d_GL_control_47
    · refine lv_iconst (v := 0) (pc := 17) hx hb d_GL_control_17 (by decide) ?_
      have e9 : f_GL_control Z st a b d f4 = (0, st) := by unfold f_GL_control; rw [if_neg c_1, if_pos c_2]
      exact rg_zret (pc := 18) hx hb hr hlocks rfl hP hS ⟨by rw [e9], by rw [e9]⟩ d_GL_control_18

def f_GL_burner (Z : Nat) (st : xS) (a : Int32) (b : Int32) : Int32 × xS :=
  if (f_GL_within a 0 1000000000) = 0 then
    (0, st)
  else
    if (f_GL_within b 0 1000000) = 0 then
      (0, st)
    else
      (1, f_Fu_tellBurner Z st a b)
set_option maxRecDepth 100000 in
set_option maxHeartbeats 4000000 in
theorem c_GL_burner {l : Launch} {D : va_G} {cA : Nat → ClassId} {Z : Nat} {ad : Nat → Nat} (hR : rD (36 + Z) ad) (hZ : 1 ≤ Z ∧ Z ≤ 6) (st : xS) (a : Int32) (b : Int32) : RI l y_GL_burner (mws y_GL_burner b_GL_burner 3 (some .boolean)) ({ frames := 1, cells := 0, slots := 0, locals := 22 } : Room) D clG (tyX cA) (36 + Z) ad (xgx Z ad cA (st)) [.ref (ad 0), .int a, .int b] (f_GL_burner Z st a b).1 (xgx Z ad cA ((f_GL_burner Z st a b).2)) := by
  refine RI_of (cc := b_GL_burner) (maxL := 3) (ret := (some .boolean)) (by decide) (Nat.le_of_ble_eq_true rfl) ?_
  intro p e s m args below meth c ls C hK hP hS hl
  obtain ⟨⟨hx, hb, hml, hown, hts⟩, hr, hlocks, hN⟩ := id C
  have hown : s.vm.findClass R_GL = some m.cls := hown
  have hr : meth.sig.returnType = (some .boolean) := hr
  have hl : lv_has ls 3 [(0, .ref (ad 0)), (1, .int a), (2, .int b)] := hl
  refine lv_iload_n (pc := 0) hx hb d_GL_burner_0 rfl (lv_at hl 1 rfl) ?_
  refine lv_iconst (v := 0) (pc := 1) hx hb d_GL_burner_1 (by decide) ?_
  refine lv_ldc (v := 1000000000) (pc := 2) hx hb hown (hts _ wd_329) d_GL_burner_2 ?_
  refine rg_ci (pc := 4) (va_runS (As := [.int a, .int 0, .int 1000000000]) (rest := []) ⟨hx, hb, hml, hown, hts⟩ (c_GL_within (l := l) a 0 1000000000 _) ⟨callB_of 3 hts (gd_c wd_112) rfl rfl rfl (hts _ wd_1) (hts _ wd_273) hd_GL_within ⟨Nat.le_of_ble_eq_true rfl, Nat.le_of_ble_eq_true rfl⟩, hts _ wd_111⟩ ⟨rPc_blind _ _ _ _ _ _ _ _, rPc_at _ hP hK hN⟩ rfl rfl hl.1 rfl (lv_room (Nat.le_of_ble_eq_true rfl)) d_GL_burner_4 ⟨Nat.zero_le _, Nat.zero_le _⟩) hS (fun H locs hP hS => ?_)
  refine lv_if_eq (tgt := 20) (pc := 7) hx hb d_GL_burner_7 (by decide) (fun c_1 => ?_) (fun c_1 => ?_)
  · refine lv_iconst (v := 0) (pc := 20) hx hb d_GL_burner_20 (by decide) ?_
    have e9 : f_GL_burner Z st a b = (0, st) := by unfold f_GL_burner; rw [if_pos c_1]
    exact rg_zret (pc := 21) hx hb hr hlocks rfl hP hS ⟨by rw [e9], by rw [e9]⟩ d_GL_burner_21
  · refine lv_iload_n (pc := 10) hx hb d_GL_burner_10 rfl (lv_at hl 2 rfl) ?_
    refine lv_iconst (v := 0) (pc := 11) hx hb d_GL_burner_11 (by decide) ?_
    refine lv_ldc (v := 1000000) (pc := 12) hx hb hown (hts _ wd_338) d_GL_burner_12 ?_
    refine rg_ci (pc := 14) (va_runS (As := [.int b, .int 0, .int 1000000]) (rest := []) ⟨hx, hb, hml, hown, hts⟩ (c_GL_within (l := l) b 0 1000000 _) ⟨callB_of 3 hts (gd_c wd_112) rfl rfl rfl (hts _ wd_1) (hts _ wd_273) hd_GL_within ⟨Nat.le_of_ble_eq_true rfl, Nat.le_of_ble_eq_true rfl⟩, hts _ wd_111⟩ ⟨rPc_blind _ _ _ _ _ _ _ _, rPc_at _ hP hK hN⟩ rfl rfl hl.1 rfl (lv_room (Nat.le_of_ble_eq_true rfl)) d_GL_burner_14 ⟨Nat.zero_le _, Nat.zero_le _⟩) hS (fun H locs hP hS => ?_)
    refine lv_if_ne (tgt := 22) (pc := 17) hx hb d_GL_burner_17 (by decide) (fun c_2 => ?_) (fun c_2 => ?_)
    · refine lv_aload_n (pc := 22) hx hb d_GL_burner_22 rfl (lv_at hl 0 rfl) ?_
      refine rg_get (C := R_GL) (T := T_GL) (N := 9) (v := .ref (ad 3)) (pc := 23) hx hb hts i_GL hown hK hP 0 (by omega) xgx_X rfl 3 (by decide) (hts _ wd_241) rfl d_GL_burner_23 ?_
      refine lv_iload_n (pc := 26) hx hb d_GL_burner_26 rfl (lv_at hl 1 rfl) ?_
      refine lv_iload_n (pc := 27) hx hb d_GL_burner_27 rfl (lv_at hl 2 rfl) ?_
      refine rg_cv (pc := 28) (va_runV (As := [.int a, .int b]) (rest := []) ⟨hx, hb, hml, hown, hts⟩ (c_Fu_tellBurner (l := l) hR hZ st a b _) ⟨callB_of 2 hts (gd_c wd_342) rfl rfl rfl (hts _ wd_2) (hts _ wd_339) hd_Fu_tellBurner ⟨Nat.le_of_ble_eq_true rfl, Nat.le_of_ble_eq_true rfl⟩, hts _ wd_340, hts _ wd_341⟩ ⟨rPc_blind _ _ _ _ _ _ _ _, rg_rec hK hP 3 (by omega) xgx_furn rfl, rPc_at _ hP hK hN⟩ rfl rfl hl.1 rfl (lv_room (Nat.le_of_ble_eq_true rfl)) d_GL_burner_28 ⟨Nat.zero_le _, Nat.zero_le _⟩) hS (fun H locs hP hS => ?_)
      refine lv_iconst (v := 1) (pc := 31) hx hb d_GL_burner_31 (by decide) ?_
      have e9 : f_GL_burner Z st a b = (1, f_Fu_tellBurner Z st a b) := by unfold f_GL_burner; rw [if_neg c_1, if_neg c_2]
      exact rg_zret (pc := 32) hx hb hr hlocks rfl hP hS ⟨by rw [e9], by rw [e9]⟩ d_GL_burner_32
    · refine lv_iconst (v := 0) (pc := 20) hx hb d_GL_burner_20 (by decide) ?_
      have e9 : f_GL_burner Z st a b = (0, st) := by unfold f_GL_burner; rw [if_neg c_1, if_pos c_2]
      exact rg_zret (pc := 21) hx hb hr hlocks rfl hP hS ⟨by rw [e9], by rw [e9]⟩ d_GL_burner_21

theorem nat_run {a : Int32} (h : ¬ f_GL_within a 1 1000 = 0) : a.toNatClampNeg < 1001 ∧ a = nI a.toNatClampNeg := by
  unfold f_GL_within at h
  by_cases h0 : a < 1
  · rw [if_pos h0] at h; exact absurd rfl h
  · rw [if_neg h0] at h
    by_cases h1 : (1000 : Int32) < a
    · rw [if_pos h1] at h; exact absurd rfl h
    · exact nat_ix (by decide) (fun q => h0 (by
        rw [Int32.lt_iff_toInt_lt] at q ⊢
        have e0 : (0 : Int32).toInt = 0 := by decide
        have e1 : (1 : Int32).toInt = 1 := by decide
        omega)) (fun q => h1 (lt_ge9 (n := 1000) (by decide) _ q))

def lp_run (Z : Nat) (mn : Nat) : Nat → Nat → xS → xS
  | 0, _, st => st
  | n + 1, j, st =>
    lp_run Z mn n (j + 1) (f_GL_passMinute Z st)
set_option maxRecDepth 100000 in
set_option maxHeartbeats 4000000 in
theorem lp_run_ok {p : Program} {l : Launch} {e : Env} {s : State} {m : MethodId} {args : Array Value} {below : List Frame} {meth : Method} {c : Code} {D : va_G} {cA : Nat → ClassId} {Z : Nat} {ad : Nat → Nat} {Q : State → Prop} (hR : rD (36 + Z) ad) (hZ : 1 ≤ Z ∧ Z ≤ 6) (C : Cx p s m args meth c b_GL_run 3 R_GL (some .int)) (hK : va_K D clG (tyX cA) s) (mn : Nat) (hmn : mn < 1001) : ∀ (n : Nat) (j : Nat) (st : xS) (H : Heap) (locs : List Loc) (ls : Array Slot), j + n = mn → va_P D clG (pw (36 + Z) ad (xgx Z ad cA (st))) H → va_S (rA (36 + Z) ad s.heap.size) s.heap H locs → lv_has ls 3 [(0, .ref (ad 0)), (1, .int (nI mn)), (2, .int (nI j))] → (∀ (H : Heap) (locs : List Loc) (ls : Array Slot), va_P D clG (pw (36 + Z) ad (xgx Z ad cA ((lp_run Z mn n j st)))) H → va_S (rA (36 + Z) ad s.heap.size) s.heap H locs → lv_has ls 3 [(0, .ref (ad 0)), (1, .int (nI mn)), (2, .int (nI mn))] → W p l e ({ frames := 5, cells := 0, slots := 0, locals := 114 } : Room) s m args below meth c H locs 0 0 Q (F0 m 42 ls [])) → W p l e ({ frames := 5, cells := 0, slots := 0, locals := 114 } : Room) s m args below meth c H locs 0 0 Q (F0 m 27 ls []) := by
  obtain ⟨⟨hx, hb, hml, hown, hts⟩, hr, hlocks, hN⟩ := id C
  have hown : s.vm.findClass R_GL = some m.cls := hown
  have hr : meth.sig.returnType = (some .int) := hr
  intro n
  induction n with
  | zero =>
    intro j st H locs ls hn hP hS hl hk
    have hj9 : j = mn := by omega
    refine lv_iload_n (pc := 27) hx hb d_GL_run_27 rfl (lv_at hl 2 rfl) ?_
    refine lv_iload_n (pc := 28) hx hb d_GL_run_28 rfl (lv_at hl 1 rfl) ?_
    refine lv_icmp_ge (tgt := 42) (pc := 29) hx hb d_GL_run_29 (by decide) (fun c_1 => ?_) (fun c_1 => absurd (by rw [hj9]; exact Int32.le_refl _) c_1)
    exact hk H locs ls hP hS (by rw [hj9] at hl; exact lv_sub hl [0, 1, 2] rfl)
  | succ n ih =>
    intro j st H locs ls hn hP hS hl hk
    refine lv_iload_n (pc := 27) hx hb d_GL_run_27 rfl (lv_at hl 2 rfl) ?_
    refine lv_iload_n (pc := 28) hx hb d_GL_run_28 rfl (lv_at hl 1 rfl) ?_
    refine lv_icmp_ge (tgt := 42) (pc := 29) hx hb d_GL_run_29 (by decide) (fun c_1 => absurd c_1 (nI_ge (b := mn) (by omega) (by omega))) (fun c_1 => ?_)
    refine lv_aload_n (pc := 32) hx hb d_GL_run_32 rfl (lv_at hl 0 rfl) ?_
    refine rg_cv (pc := 33) (va_runV (As := []) (rest := []) ⟨hx, hb, hml, hown, hts⟩ (c_GL_passMinute (l := l) hR hZ st  _) ⟨callB_of 0 hts (gd_c wd_350) rfl rfl rfl (hts _ wd_1) (hts _ wd_347) hd_GL_passMinute ⟨Nat.le_of_ble_eq_true rfl, Nat.le_of_ble_eq_true rfl⟩, hts _ wd_349, hts _ wp_1⟩ ⟨rPc_blind _ _ _ _ _ _ _ _, rg_rec hK hP 0 (by omega) xgx_X rfl, rPc_at _ hP hK hN⟩ rfl rfl hl.1 rfl (lv_room (Nat.le_of_ble_eq_true rfl)) d_GL_run_33 ⟨Nat.zero_le _, Nat.zero_le _⟩) hS (fun H locs hP hS => ?_)
    refine lv_iinc (v := nI (j + 1)) (lv' := [(2, .int (nI (j + 1))), (0, .ref (ad 0)), (1, .int (nI mn))]) (pc := 36) hx hb d_GL_run_36 hl (k := 2) rfl (nI_1 _) (by decide) rfl (fun ls hl => ?_)
    refine lv_goto (tgt := 27) (pc := 39) hx hb d_GL_run_39 (by decide) ?_
    have hk9 := hk
    unfold lp_run at hk9
    exact ih (j + 1) (f_GL_passMinute Z st) _ _ ls (by omega) hP hS (lv_sub hl [1, 2, 0] rfl) hk9
def f_GL_run (Z : Nat) (st : xS) (a : Int32) : Int32 × xS :=
  if (f_GL_within a 1 1000) = 0 then
    ((-1), st)
  else
    if ((xs_nm st) + a) ≤ 20000 then
      (xs_nm (xp_nm (lp_run Z a.toNatClampNeg a.toNatClampNeg 0 st) ((xs_nm (lp_run Z a.toNatClampNeg a.toNatClampNeg 0 st)) + (nI a.toNatClampNeg))), xp_nm (lp_run Z a.toNatClampNeg a.toNatClampNeg 0 st) ((xs_nm (lp_run Z a.toNatClampNeg a.toNatClampNeg 0 st)) + (nI a.toNatClampNeg)))
    else
      ((-1), st)
set_option maxRecDepth 100000 in
set_option maxHeartbeats 4000000 in
theorem c_GL_run {l : Launch} {D : va_G} {cA : Nat → ClassId} {Z : Nat} {ad : Nat → Nat} (hR : rD (36 + Z) ad) (hZ : 1 ≤ Z ∧ Z ≤ 6) (st : xS) (a : Int32) : RI l y_GL_run (mws y_GL_run b_GL_run 3 (some .int)) ({ frames := 5, cells := 0, slots := 0, locals := 114 } : Room) D clG (tyX cA) (36 + Z) ad (xgx Z ad cA (st)) [.ref (ad 0), .int a] (f_GL_run Z st a).1 (xgx Z ad cA ((f_GL_run Z st a).2)) := by
  refine RI_of (cc := b_GL_run) (maxL := 3) (ret := (some .int)) (by decide) (Nat.le_of_ble_eq_true rfl) ?_
  intro p e s m args below meth c ls C hK hP hS hl
  obtain ⟨⟨hx, hb, hml, hown, hts⟩, hr, hlocks, hN⟩ := id C
  have hown : s.vm.findClass R_GL = some m.cls := hown
  have hr : meth.sig.returnType = (some .int) := hr
  have hl : lv_has ls 3 [(0, .ref (ad 0)), (1, .int a)] := hl
  refine lv_iload_n (pc := 0) hx hb d_GL_run_0 rfl (lv_at hl 1 rfl) ?_
  refine lv_iconst (v := 1) (pc := 1) hx hb d_GL_run_1 (by decide) ?_
  refine lv_sipush (v := 1000) (pc := 2) hx hb d_GL_run_2 (by decide) ?_
  refine rg_ci (pc := 5) (va_runS (As := [.int a, .int 1, .int 1000]) (rest := []) ⟨hx, hb, hml, hown, hts⟩ (c_GL_within (l := l) a 1 1000 _) ⟨callB_of 3 hts (gd_c wd_112) rfl rfl rfl (hts _ wd_1) (hts _ wd_273) hd_GL_within ⟨Nat.le_of_ble_eq_true rfl, Nat.le_of_ble_eq_true rfl⟩, hts _ wd_111⟩ ⟨rPc_blind _ _ _ _ _ _ _ _, rPc_at _ hP hK hN⟩ rfl rfl hl.1 rfl (lv_room (Nat.le_of_ble_eq_true rfl)) d_GL_run_5 ⟨Nat.zero_le _, Nat.zero_le _⟩) hS (fun H locs hP hS => ?_)
  refine lv_if_eq (tgt := 23) (pc := 8) hx hb d_GL_run_8 (by decide) (fun c_1 => ?_) (fun c_1 => ?_)
  · refine lv_iconst (v := (-1)) (pc := 23) hx hb d_GL_run_23 (by decide) ?_
    have e9 : f_GL_run Z st a = ((-1), st) := by unfold f_GL_run; rw [if_pos c_1]
    exact rg_iret (pc := 24) hx hb hr hlocks hP hS ⟨by rw [e9], by rw [e9]⟩ d_GL_run_24
  · refine lv_aload_n (pc := 11) hx hb d_GL_run_11 rfl (lv_at hl 0 rfl) ?_
    refine rg_get (C := R_GL) (T := T_GL) (N := 9) (v := .int (xs_nm st)) (pc := 12) hx hb hts i_GL hown hK hP 0 (by omega) xgx_X rfl 7 (by decide) (hts _ wd_245) rfl d_GL_run_12 ?_
    refine lv_iload_n (pc := 15) hx hb d_GL_run_15 rfl (lv_at hl 1 rfl) ?_
    refine lv_iadd (pc := 16) hx hb d_GL_run_16 ?_
    refine lv_sipush (v := 20000) (pc := 17) hx hb d_GL_run_17 (by decide) ?_
    refine lv_icmp_le (tgt := 25) (pc := 20) hx hb d_GL_run_20 (by decide) (fun c_2 => ?_) (fun c_2 => ?_)
    · have ha := nat_run c_1
      have ha1 := ha.1
      rw [ha.2] at hl
      refine lv_iconst (v := 0) (pc := 25) hx hb d_GL_run_25 (by decide) ?_
      refine lv_istore_n (lv' := [(2, .int 0), (0, .ref (ad 0)), (1, .int (nI a.toNatClampNeg))]) (pc := 26) hx hb d_GL_run_26 rfl hl (by decide) rfl (fun ls hl => ?_)
      refine lp_run_ok hR hZ C hK a.toNatClampNeg (by omega) a.toNatClampNeg 0 st _ _ ls (by omega) hP hS (lv_sub hl [1, 2, 0] rfl) (fun H locs ls hP hS hl => ?_)
      refine lv_aload_n (pc := 42) hx hb d_GL_run_42 rfl (lv_at hl 0 rfl) ?_
      refine lv_dup (pc := 43) hx hb d_GL_run_43 rfl ?_
      refine rg_get (C := R_GL) (T := T_GL) (N := 9) (v := .int (xs_nm (lp_run Z a.toNatClampNeg a.toNatClampNeg 0 st))) (pc := 44) hx hb hts i_GL hown hK hP 0 (by omega) xgx_X rfl 7 (by decide) (hts _ wd_245) rfl d_GL_run_44 ?_
      refine lv_iload_n (pc := 47) hx hb d_GL_run_47 rfl (lv_at hl 1 rfl) ?_
      refine lv_iadd (pc := 48) hx hb d_GL_run_48 ?_
      refine rg_put (C := R_GL) (T := T_GL) (N := 9) (pc := 49) hx hb hts i_GL t_GL t_GL_ok n_GL hown hK hR hP hS 0 (by omega) xgx_X rfl 7 (by decide) (hts _ wd_245) rfl rfl rfl (Nat.le_of_ble_eq_true rfl) d_GL_run_49 (xgx_X_nm ((xs_nm (lp_run Z a.toNatClampNeg a.toNatClampNeg 0 st)) + (nI a.toNatClampNeg))) (fun H locs hP hS => ?_)
      refine lv_aload_n (pc := 52) hx hb d_GL_run_52 rfl (lv_at hl 0 rfl) ?_
      refine rg_get (C := R_GL) (T := T_GL) (N := 9) (v := .int (xs_nm (xp_nm (lp_run Z a.toNatClampNeg a.toNatClampNeg 0 st) ((xs_nm (lp_run Z a.toNatClampNeg a.toNatClampNeg 0 st)) + (nI a.toNatClampNeg))))) (pc := 53) hx hb hts i_GL hown hK hP 0 (by omega) xgx_X rfl 7 (by decide) (hts _ wd_245) rfl d_GL_run_53 ?_
      have e9 : f_GL_run Z st a = (xs_nm (xp_nm (lp_run Z a.toNatClampNeg a.toNatClampNeg 0 st) ((xs_nm (lp_run Z a.toNatClampNeg a.toNatClampNeg 0 st)) + (nI a.toNatClampNeg))), xp_nm (lp_run Z a.toNatClampNeg a.toNatClampNeg 0 st) ((xs_nm (lp_run Z a.toNatClampNeg a.toNatClampNeg 0 st)) + (nI a.toNatClampNeg))) := by unfold f_GL_run; rw [if_neg c_1, if_pos c_2]
      exact rg_iret (pc := 56) hx hb hr hlocks hP hS ⟨by rw [e9], by rw [e9]⟩ d_GL_run_56
    · refine lv_iconst (v := (-1)) (pc := 23) hx hb d_GL_run_23 (by decide) ?_
      have e9 : f_GL_run Z st a = ((-1), st) := by unfold f_GL_run; rw [if_neg c_1, if_neg c_2]
      exact rg_iret (pc := 24) hx hb hr hlocks hP hS ⟨by rw [e9], by rw [e9]⟩ d_GL_run_24

def f_GL_bed (Z : Nat) (st : xS) (a : Int32) (b : Int32) : Int64 :=
  if (f_Gr_hasZone Z st a) = 0 then
    (-1)
  else
    if b = 0 then
      xs_zw st a.toNatClampNeg
    else
      if b = 1 then
        xs_zf st a.toNatClampNeg
      else
        if b = 2 then
          xs_za st a.toNatClampNeg
        else
          if b = 3 then
            (xs_zv st a.toNatClampNeg).toInt64
          else
            (-1)
set_option maxRecDepth 100000 in
set_option maxHeartbeats 4000000 in
theorem c_GL_bed {l : Launch} {D : va_G} {cA : Nat → ClassId} {Z : Nat} {ad : Nat → Nat} (hR : rD (36 + Z) ad) (hZ : 1 ≤ Z ∧ Z ≤ 6) (st : xS) (a : Int32) (b : Int32) : RL l y_GL_bed (mws y_GL_bed b_GL_bed 4 (some .long)) ({ frames := 1, cells := 0, slots := 0, locals := 21 } : Room) D clG (tyX cA) (36 + Z) ad (xgx Z ad cA (st)) [.ref (ad 0), .int a, .int b] (f_GL_bed Z st a b) (xgx Z ad cA (st)) := by
  refine RL_of (cc := b_GL_bed) (maxL := 4) (ret := (some .long)) (by decide) (Nat.le_of_ble_eq_true rfl) ?_
  intro p e s m args below meth c ls C hK hP hS hl
  obtain ⟨⟨hx, hb, hml, hown, hts⟩, hr, hlocks, hN⟩ := id C
  have hown : s.vm.findClass R_GL = some m.cls := hown
  have hr : meth.sig.returnType = (some .long) := hr
  have hl : lv_has ls 4 [(0, .ref (ad 0)), (1, .int a), (2, .int b)] := hl
  refine lv_aload_n (pc := 0) hx hb d_GL_bed_0 rfl (lv_at hl 0 rfl) ?_
  refine rg_get (C := R_GL) (T := T_GL) (N := 9) (v := .ref (ad 10)) (pc := 1) hx hb hts i_GL hown hK hP 0 (by omega) xgx_X rfl 2 (by decide) (hts _ wd_240) rfl d_GL_bed_1 ?_
  refine lv_iload_n (pc := 4) hx hb d_GL_bed_4 rfl (lv_at hl 1 rfl) ?_
  refine rg_ci (pc := 5) (va_runV (As := [.int a]) (rest := []) ⟨hx, hb, hml, hown, hts⟩ (c_Gr_hasZone (l := l) hR hZ st a _) ⟨callB_of 1 hts (gd_c wd_317) rfl rfl rfl (hts _ wd_4) (hts _ wd_314) hd_Gr_hasZone ⟨Nat.le_of_ble_eq_true rfl, Nat.le_of_ble_eq_true rfl⟩, hts _ wd_315, hts _ wd_316⟩ ⟨rPc_blind _ _ _ _ _ _ _ _, rg_rec hK hP 10 (by omega) xgx_grate rfl, rPc_at _ hP hK hN⟩ rfl rfl hl.1 rfl (lv_room (Nat.le_of_ble_eq_true rfl)) d_GL_bed_5 ⟨Nat.zero_le _, Nat.zero_le _⟩) hS (fun H locs hP hS => ?_)
  refine lv_if_ne (tgt := 15) (pc := 8) hx hb d_GL_bed_8 (by decide) (fun c_1 => ?_) (fun c_1 => ?_)
  · have ha := nat_hasZone hZ c_1
    have ha1 := ha.1
    refine lv_aload_n (pc := 15) hx hb d_GL_bed_15 rfl (lv_at hl 0 rfl) ?_
    refine rg_get (C := R_GL) (T := T_GL) (N := 9) (v := .ref (ad 10)) (pc := 16) hx hb hts i_GL hown hK hP 0 (by omega) xgx_X rfl 2 (by decide) (hts _ wd_240) rfl d_GL_bed_16 ?_
    refine rg_get (C := R_Gr) (T := T_Gr) (N := 9) (v := .ref (ad 11)) (pc := 19) hx hb hts i_Gr hown hK hP 10 (by omega) xgx_grate rfl 0 (by decide) (hts _ wd_146) rfl d_GL_bed_19 ?_
    refine lv_iload_n (pc := 22) hx hb d_GL_bed_22 rfl (lv_at hl 1 rfl) ?_
    refine rg_aldq (pc := 23) hx hb hK hP 11 (by omega) 3 xgx_zonesA rfl a.toNatClampNeg (by omega) (by omega) ha.2 rfl d_GL_bed_23 ?_
    refine lv_astore_n (lv' := [(3, .ref (ad (36 + a.toNatClampNeg))), (0, .ref (ad 0)), (1, .int a), (2, .int b)]) (pc := 24) hx hb d_GL_bed_24 rfl hl (by decide) rfl (fun ls hl => ?_)
    refine lv_iload_n (pc := 25) hx hb d_GL_bed_25 rfl (lv_at hl 3 rfl) ?_
    by_cases c_2 : b = 0
    · refine lv_tableIn (tgt := 56) (pc := 26) hx hb d_GL_bed_26 (by rw [c_2]; decide) (by rw [c_2]; decide) (off := 30) (by rw [c_2]; decide) (by decide) ?_
      refine lv_aload_n (pc := 56) hx hb d_GL_bed_56 rfl (lv_at hl 0 rfl) ?_
      refine rg_get (C := R_Zo) (T := T_Zo) (N := 5) (v := .long (xs_zw st a.toNatClampNeg)) (pc := 57) hx hb hts i_Zo hown hK hP (36 + a.toNatClampNeg) (by omega) (xgx_Zone (j := a.toNatClampNeg) (by omega)) rfl 0 (by decide) (hts _ wd_122) rfl d_GL_bed_57 ?_
      have e9 : f_GL_bed Z st a b = xs_zw st a.toNatClampNeg := by unfold f_GL_bed; rw [if_neg c_1, if_pos c_2]
      exact rg_lret (pc := 60) hx hb hr hlocks hP hS ⟨e9.symm, rfl⟩ d_GL_bed_60
    · by_cases c_3 : b = 1
      · refine lv_tableIn (tgt := 61) (pc := 26) hx hb d_GL_bed_26 (by rw [c_3]; decide) (by rw [c_3]; decide) (off := 35) (by rw [c_3]; decide) (by decide) ?_
        refine lv_aload_n (pc := 61) hx hb d_GL_bed_61 rfl (lv_at hl 0 rfl) ?_
        refine rg_get (C := R_Zo) (T := T_Zo) (N := 5) (v := .long (xs_zf st a.toNatClampNeg)) (pc := 62) hx hb hts i_Zo hown hK hP (36 + a.toNatClampNeg) (by omega) (xgx_Zone (j := a.toNatClampNeg) (by omega)) rfl 1 (by decide) (hts _ wd_125) rfl d_GL_bed_62 ?_
        have e9 : f_GL_bed Z st a b = xs_zf st a.toNatClampNeg := by unfold f_GL_bed; rw [if_neg c_1, if_neg c_2, if_pos c_3]
        exact rg_lret (pc := 65) hx hb hr hlocks hP hS ⟨e9.symm, rfl⟩ d_GL_bed_65
      · by_cases c_4 : b = 2
        · refine lv_tableIn (tgt := 66) (pc := 26) hx hb d_GL_bed_26 (by rw [c_4]; decide) (by rw [c_4]; decide) (off := 40) (by rw [c_4]; decide) (by decide) ?_
          refine lv_aload_n (pc := 66) hx hb d_GL_bed_66 rfl (lv_at hl 0 rfl) ?_
          refine rg_get (C := R_Zo) (T := T_Zo) (N := 5) (v := .long (xs_za st a.toNatClampNeg)) (pc := 67) hx hb hts i_Zo hown hK hP (36 + a.toNatClampNeg) (by omega) (xgx_Zone (j := a.toNatClampNeg) (by omega)) rfl 2 (by decide) (hts _ wd_128) rfl d_GL_bed_67 ?_
          have e9 : f_GL_bed Z st a b = xs_za st a.toNatClampNeg := by unfold f_GL_bed; rw [if_neg c_1, if_neg c_2, if_neg c_3, if_pos c_4]
          exact rg_lret (pc := 70) hx hb hr hlocks hP hS ⟨e9.symm, rfl⟩ d_GL_bed_70
        · by_cases c_5 : b = 3
          · refine lv_tableIn (tgt := 71) (pc := 26) hx hb d_GL_bed_26 (by rw [c_5]; decide) (by rw [c_5]; decide) (off := 45) (by rw [c_5]; decide) (by decide) ?_
            refine lv_aload_n (pc := 71) hx hb d_GL_bed_71 rfl (lv_at hl 0 rfl) ?_
            refine rg_get (C := R_Zo) (T := T_Zo) (N := 5) (v := .int (xs_zv st a.toNatClampNeg)) (pc := 72) hx hb hts i_Zo hown hK hP (36 + a.toNatClampNeg) (by omega) (xgx_Zone (j := a.toNatClampNeg) (by omega)) rfl 3 (by decide) (hts _ wd_131) rfl d_GL_bed_72 ?_
            refine lv_i2l (pc := 75) hx hb d_GL_bed_75 rfl ?_
            have e9 : f_GL_bed Z st a b = (xs_zv st a.toNatClampNeg).toInt64 := by unfold f_GL_bed; rw [if_neg c_1, if_neg c_2, if_neg c_3, if_neg c_4, if_pos c_5]
            exact rg_lret (pc := 76) hx hb hr hlocks hP hS ⟨e9.symm, rfl⟩ d_GL_bed_76
          · have ho9 : (b).toInt < 0 ∨ 3 < (b).toInt := by
              have q9 : ∀ k : Int32, ¬ b = k → ¬ (b).toInt = k.toInt := fun k h q => h (Int32.toInt_inj.mp q)
              have wc_2 := q9 _ c_2
              have wc_3 := q9 _ c_3
              have wc_4 := q9 _ c_4
              have wc_5 := q9 _ c_5
              simp at wc_2 wc_3 wc_4 wc_5
              omega
            refine lv_tableOut (tgt := 77) (pc := 26) hx hb d_GL_bed_26 ho9 (by decide) ?_
            refine lv_ldc2 (v := (-1)) (pc := 77) hx hb hown (hts _ wd_436) d_GL_bed_77 ?_
            have e9 : f_GL_bed Z st a b = (-1) := by unfold f_GL_bed; rw [if_neg c_1, if_neg c_2, if_neg c_3, if_neg c_4, if_neg c_5]
            exact rg_lret (pc := 80) hx hb hr hlocks hP hS ⟨e9.symm, rfl⟩ d_GL_bed_80
  · refine lv_ldc2 (v := (-1)) (pc := 11) hx hb hown (hts _ wd_436) d_GL_bed_11 ?_
    have e9 : f_GL_bed Z st a b = (-1) := by unfold f_GL_bed; rw [if_pos c_1]
    exact rg_lret (pc := 14) hx hb hr hlocks hP hS ⟨e9.symm, rfl⟩ d_GL_bed_14

def f_GL_gas (Z : Nat) (st : xS) (a : Int32) : Int64 :=
  if a = 0 then
    xs_sm st
  else
    if a = 1 then
      xs_ox st
    else
      if a = 2 then
        xs_bu st
      else
        if a = 3 then
          xs_dr st
        else
          (-1)
set_option maxRecDepth 100000 in
set_option maxHeartbeats 4000000 in
theorem c_GL_gas {l : Launch} {D : va_G} {cA : Nat → ClassId} {Z : Nat} {ad : Nat → Nat} (hR : rD (36 + Z) ad) (hZ : 1 ≤ Z ∧ Z ≤ 6) (st : xS) (a : Int32) : RL l y_GL_gas (mws y_GL_gas b_GL_gas 2 (some .long)) ({ frames := 0, cells := 0, slots := 0, locals := 0 } : Room) D clG (tyX cA) (36 + Z) ad (xgx Z ad cA (st)) [.ref (ad 0), .int a] (f_GL_gas Z st a) (xgx Z ad cA (st)) := by
  refine RL_of (cc := b_GL_gas) (maxL := 2) (ret := (some .long)) (by decide) (Nat.le_of_ble_eq_true rfl) ?_
  intro p e s m args below meth c ls C hK hP hS hl
  obtain ⟨⟨hx, hb, hml, hown, hts⟩, hr, hlocks, hN⟩ := id C
  have hown : s.vm.findClass R_GL = some m.cls := hown
  have hr : meth.sig.returnType = (some .long) := hr
  have hl : lv_has ls 2 [(0, .ref (ad 0)), (1, .int a)] := hl
  refine lv_iload_n (pc := 0) hx hb d_GL_gas_0 rfl (lv_at hl 1 rfl) ?_
  by_cases c_1 : a = 0
  · refine lv_tableIn (tgt := 32) (pc := 1) hx hb d_GL_gas_1 (by rw [c_1]; decide) (by rw [c_1]; decide) (off := 31) (by rw [c_1]; decide) (by decide) ?_
    refine lv_aload_n (pc := 32) hx hb d_GL_gas_32 rfl (lv_at hl 0 rfl) ?_
    refine rg_get (C := R_GL) (T := T_GL) (N := 9) (v := .ref (ad 3)) (pc := 33) hx hb hts i_GL hown hK hP 0 (by omega) xgx_X rfl 3 (by decide) (hts _ wd_241) rfl d_GL_gas_33 ?_
    refine rg_get (C := R_Fu) (T := T_Fu) (N := 11) (v := .long (xs_sm st)) (pc := 36) hx hb hts i_Fu hown hK hP 3 (by omega) xgx_furn rfl 2 (by decide) (hts _ wd_35) rfl d_GL_gas_36 ?_
    have e9 : f_GL_gas Z st a = xs_sm st := by unfold f_GL_gas; rw [if_pos c_1]
    exact rg_lret (pc := 39) hx hb hr hlocks hP hS ⟨e9.symm, rfl⟩ d_GL_gas_39
  · by_cases c_2 : a = 1
    · refine lv_tableIn (tgt := 40) (pc := 1) hx hb d_GL_gas_1 (by rw [c_2]; decide) (by rw [c_2]; decide) (off := 39) (by rw [c_2]; decide) (by decide) ?_
      refine lv_aload_n (pc := 40) hx hb d_GL_gas_40 rfl (lv_at hl 0 rfl) ?_
      refine rg_get (C := R_GL) (T := T_GL) (N := 9) (v := .ref (ad 10)) (pc := 41) hx hb hts i_GL hown hK hP 0 (by omega) xgx_X rfl 2 (by decide) (hts _ wd_240) rfl d_GL_gas_41 ?_
      refine rg_get (C := R_Gr) (T := T_Gr) (N := 9) (v := .long (xs_ox st)) (pc := 44) hx hb hts i_Gr hown hK hP 10 (by omega) xgx_grate rfl 2 (by decide) (hts _ wd_150) rfl d_GL_gas_44 ?_
      have e9 : f_GL_gas Z st a = xs_ox st := by unfold f_GL_gas; rw [if_neg c_1, if_pos c_2]
      exact rg_lret (pc := 47) hx hb hr hlocks hP hS ⟨e9.symm, rfl⟩ d_GL_gas_47
    · by_cases c_3 : a = 2
      · refine lv_tableIn (tgt := 48) (pc := 1) hx hb d_GL_gas_1 (by rw [c_3]; decide) (by rw [c_3]; decide) (off := 47) (by rw [c_3]; decide) (by decide) ?_
        refine lv_aload_n (pc := 48) hx hb d_GL_gas_48 rfl (lv_at hl 0 rfl) ?_
        refine rg_get (C := R_GL) (T := T_GL) (N := 9) (v := .ref (ad 10)) (pc := 49) hx hb hts i_GL hown hK hP 0 (by omega) xgx_X rfl 2 (by decide) (hts _ wd_240) rfl d_GL_gas_49 ?_
        refine rg_get (C := R_Gr) (T := T_Gr) (N := 9) (v := .long (xs_bu st)) (pc := 52) hx hb hts i_Gr hown hK hP 10 (by omega) xgx_grate rfl 3 (by decide) (hts _ wd_152) rfl d_GL_gas_52 ?_
        have e9 : f_GL_gas Z st a = xs_bu st := by unfold f_GL_gas; rw [if_neg c_1, if_neg c_2, if_pos c_3]
        exact rg_lret (pc := 55) hx hb hr hlocks hP hS ⟨e9.symm, rfl⟩ d_GL_gas_55
      · by_cases c_4 : a = 3
        · refine lv_tableIn (tgt := 56) (pc := 1) hx hb d_GL_gas_1 (by rw [c_4]; decide) (by rw [c_4]; decide) (off := 55) (by rw [c_4]; decide) (by decide) ?_
          refine lv_aload_n (pc := 56) hx hb d_GL_gas_56 rfl (lv_at hl 0 rfl) ?_
          refine rg_get (C := R_GL) (T := T_GL) (N := 9) (v := .ref (ad 10)) (pc := 57) hx hb hts i_GL hown hK hP 0 (by omega) xgx_X rfl 2 (by decide) (hts _ wd_240) rfl d_GL_gas_57 ?_
          refine rg_get (C := R_Gr) (T := T_Gr) (N := 9) (v := .long (xs_dr st)) (pc := 60) hx hb hts i_Gr hown hK hP 10 (by omega) xgx_grate rfl 4 (by decide) (hts _ wd_154) rfl d_GL_gas_60 ?_
          have e9 : f_GL_gas Z st a = xs_dr st := by unfold f_GL_gas; rw [if_neg c_1, if_neg c_2, if_neg c_3, if_pos c_4]
          exact rg_lret (pc := 63) hx hb hr hlocks hP hS ⟨e9.symm, rfl⟩ d_GL_gas_63
        · have ho9 : (a).toInt < 0 ∨ 3 < (a).toInt := by
            have q9 : ∀ k : Int32, ¬ a = k → ¬ (a).toInt = k.toInt := fun k h q => h (Int32.toInt_inj.mp q)
            have wc_1 := q9 _ c_1
            have wc_2 := q9 _ c_2
            have wc_3 := q9 _ c_3
            have wc_4 := q9 _ c_4
            simp at wc_1 wc_2 wc_3 wc_4
            omega
          refine lv_tableOut (tgt := 64) (pc := 1) hx hb d_GL_gas_1 ho9 (by decide) ?_
          refine lv_ldc2 (v := (-1)) (pc := 64) hx hb hown (hts _ wd_436) d_GL_gas_64 ?_
          have e9 : f_GL_gas Z st a = (-1) := by unfold f_GL_gas; rw [if_neg c_1, if_neg c_2, if_neg c_3, if_neg c_4]
          exact rg_lret (pc := 67) hx hb hr hlocks hP hS ⟨e9.symm, rfl⟩ d_GL_gas_67

def f_GL_output (Z : Nat) (st : xS) (a : Int32) : Int32 :=
  if (f_GL_isController a) = 0 then
    (-1)
  else
    if (b2i (xs_ct st a.toNatClampNeg)) = 0 then
      (-1)
    else
      xs_co st a.toNatClampNeg
set_option maxRecDepth 100000 in
set_option maxHeartbeats 4000000 in
theorem c_GL_output {l : Launch} {D : va_G} {cA : Nat → ClassId} {Z : Nat} {ad : Nat → Nat} (hR : rD (36 + Z) ad) (hZ : 1 ≤ Z ∧ Z ≤ 6) (st : xS) (a : Int32) : RI l y_GL_output (mws y_GL_output b_GL_output 2 (some .int)) ({ frames := 2, cells := 0, slots := 0, locals := 42 } : Room) D clG (tyX cA) (36 + Z) ad (xgx Z ad cA (st)) [.ref (ad 0), .int a] (f_GL_output Z st a) (xgx Z ad cA (st)) := by
  refine RI_of (cc := b_GL_output) (maxL := 2) (ret := (some .int)) (by decide) (Nat.le_of_ble_eq_true rfl) ?_
  intro p e s m args below meth c ls C hK hP hS hl
  obtain ⟨⟨hx, hb, hml, hown, hts⟩, hr, hlocks, hN⟩ := id C
  have hown : s.vm.findClass R_GL = some m.cls := hown
  have hr : meth.sig.returnType = (some .int) := hr
  have hl : lv_has ls 2 [(0, .ref (ad 0)), (1, .int a)] := hl
  refine lv_iload_n (pc := 0) hx hb d_GL_output_0 rfl (lv_at hl 1 rfl) ?_
  refine rg_ci (pc := 1) (va_runS (As := [.int a]) (rest := []) ⟨hx, hb, hml, hown, hts⟩ (c_GL_isController (l := l) a _) ⟨callB_of 1 hts (gd_c wd_328) rfl rfl rfl (hts _ wd_1) (hts _ wd_326) hd_GL_isController ⟨Nat.le_of_ble_eq_true rfl, Nat.le_of_ble_eq_true rfl⟩, hts _ wd_327⟩ ⟨rPc_blind _ _ _ _ _ _ _ _, rPc_at _ hP hK hN⟩ rfl rfl hl.1 rfl (lv_room (Nat.le_of_ble_eq_true rfl)) d_GL_output_1 ⟨Nat.zero_le _, Nat.zero_le _⟩) hS (fun H locs hP hS => ?_)
  refine lv_if_eq (tgt := 31) (pc := 4) hx hb d_GL_output_4 (by decide) (fun c_1 => ?_) (fun c_1 => ?_)
  · refine lv_iconst (v := (-1)) (pc := 31) hx hb d_GL_output_31 (by decide) ?_
    have e9 : f_GL_output Z st a = (-1) := by unfold f_GL_output; rw [if_pos c_1]
    exact rg_iret (pc := 32) hx hb hr hlocks hP hS ⟨e9.symm, rfl⟩ d_GL_output_32
  · have ha := nat_isController c_1
    have ha1 := ha.1
    refine lv_aload_n (pc := 7) hx hb d_GL_output_7 rfl (lv_at hl 0 rfl) ?_
    refine rg_get (C := R_GL) (T := T_GL) (N := 9) (v := .ref (ad 4)) (pc := 8) hx hb hts i_GL hown hK hP 0 (by omega) xgx_X rfl 4 (by decide) (hts _ wd_242) rfl d_GL_output_8 ?_
    refine lv_iload_n (pc := 11) hx hb d_GL_output_11 rfl (lv_at hl 1 rfl) ?_
    refine rg_aldq (pc := 12) hx hb hK hP 4 (by omega) 4 xgx_ctrlA rfl a.toNatClampNeg (by omega) (by omega) ha.2 rfl d_GL_output_12 ?_
    refine rg_get (C := R_Ct) (T := T_Ct) (N := 6) (v := .int (b2i (xs_ct st a.toNatClampNeg))) (pc := 13) hx hb hts i_Ct hown hK hP (28 + a.toNatClampNeg) (by omega) (xgx_Ctrl (j := a.toNatClampNeg) (by omega)) rfl 0 (by decide) (hts _ wd_218) rfl d_GL_output_13 ?_
    refine lv_if_eq (tgt := 31) (pc := 16) hx hb d_GL_output_16 (by decide) (fun c_2 => ?_) (fun c_2 => ?_)
    · refine lv_iconst (v := (-1)) (pc := 31) hx hb d_GL_output_31 (by decide) ?_
      have e9 : f_GL_output Z st a = (-1) := by unfold f_GL_output; rw [if_neg c_1, if_pos c_2]
      exact rg_iret (pc := 32) hx hb hr hlocks hP hS ⟨e9.symm, rfl⟩ d_GL_output_32
    · refine lv_aload_n (pc := 19) hx hb d_GL_output_19 rfl (lv_at hl 0 rfl) ?_
      refine rg_get (C := R_GL) (T := T_GL) (N := 9) (v := .ref (ad 4)) (pc := 20) hx hb hts i_GL hown hK hP 0 (by omega) xgx_X rfl 4 (by decide) (hts _ wd_242) rfl d_GL_output_20 ?_
      refine lv_iload_n (pc := 23) hx hb d_GL_output_23 rfl (lv_at hl 1 rfl) ?_
      refine rg_aldq (pc := 24) hx hb hK hP 4 (by omega) 4 xgx_ctrlA rfl a.toNatClampNeg (by omega) (by omega) ha.2 rfl d_GL_output_24 ?_
      refine rg_get (C := R_Ct) (T := T_Ct) (N := 6) (v := .int (xs_co st a.toNatClampNeg)) (pc := 25) hx hb hts i_Ct hown hK hP (28 + a.toNatClampNeg) (by omega) (xgx_Ctrl (j := a.toNatClampNeg) (by omega)) rfl 1 (by decide) (hts _ wd_220) rfl d_GL_output_25 ?_
      refine lv_goto (tgt := 32) (pc := 28) hx hb d_GL_output_28 (by decide) ?_
      have e9 : f_GL_output Z st a = xs_co st a.toNatClampNeg := by unfold f_GL_output; rw [if_neg c_1, if_neg c_2]
      exact rg_iret (pc := 32) hx hb hr hlocks hP hS ⟨e9.symm, rfl⟩ d_GL_output_32

def f_GL_burning (Z : Nat) (st : xS) : Int32 :=
  b2i (xs_bb st)
set_option maxRecDepth 100000 in
set_option maxHeartbeats 4000000 in
theorem c_GL_burning {l : Launch} {D : va_G} {cA : Nat → ClassId} {Z : Nat} {ad : Nat → Nat} (hR : rD (36 + Z) ad) (hZ : 1 ≤ Z ∧ Z ≤ 6) (st : xS) : RI l y_GL_burning (mws y_GL_burning b_GL_burning 1 (some .boolean)) ({ frames := 0, cells := 0, slots := 0, locals := 0 } : Room) D clG (tyX cA) (36 + Z) ad (xgx Z ad cA (st)) [.ref (ad 0)] (f_GL_burning Z st) (xgx Z ad cA (st)) := by
  refine RI_of (cc := b_GL_burning) (maxL := 1) (ret := (some .boolean)) (by decide) (Nat.le_of_ble_eq_true rfl) ?_
  intro p e s m args below meth c ls C hK hP hS hl
  obtain ⟨⟨hx, hb, hml, hown, hts⟩, hr, hlocks, hN⟩ := id C
  have hown : s.vm.findClass R_GL = some m.cls := hown
  have hr : meth.sig.returnType = (some .boolean) := hr
  have hl : lv_has ls 1 [(0, .ref (ad 0))] := hl
  refine lv_aload_n (pc := 0) hx hb d_GL_burning_0 rfl (lv_at hl 0 rfl) ?_
  refine rg_get (C := R_GL) (T := T_GL) (N := 9) (v := .ref (ad 3)) (pc := 1) hx hb hts i_GL hown hK hP 0 (by omega) xgx_X rfl 3 (by decide) (hts _ wd_241) rfl d_GL_burning_1 ?_
  refine rg_get (C := R_Fu) (T := T_Fu) (N := 11) (v := .int (b2i (xs_bb st))) (pc := 4) hx hb hts i_Fu hown hK hP 3 (by omega) xgx_furn rfl 4 (by decide) (hts _ wd_38) rfl d_GL_burning_4 ?_
  have e9 : f_GL_burning Z st = b2i (xs_bb st) := rfl
  exact rg_zret (pc := 7) hx hb hr hlocks (b2i_n _) hP hS ⟨e9.symm, rfl⟩ d_GL_burning_7

def f_GL_ash (Z : Nat) (st : xS) (a : Int32) : Int64 :=
  if a = 0 then
    xs_bk st
  else
    if a = 1 then
      xs_dA st
    else
      if a = 2 then
        xs_bA st
      else
        if a = 3 then
          xs_lA st
        else
          if a = 4 then
            xs_aA st
          else
            if a = 5 then
              xs_fA st
            else
              if a = 6 then
                xs_nA st
              else
                if a = 7 then
                  xs_sA st
                else
                  if a = 8 then
                    xs_yA st
                  else
                    if a = 9 then
                      xs_he st
                    else
                      (-1)
set_option maxRecDepth 100000 in
set_option maxHeartbeats 4000000 in
theorem c_GL_ash {l : Launch} {D : va_G} {cA : Nat → ClassId} {Z : Nat} {ad : Nat → Nat} (hR : rD (36 + Z) ad) (hZ : 1 ≤ Z ∧ Z ≤ 6) (st : xS) (a : Int32) : RL l y_GL_ash (mws y_GL_ash b_GL_ash 2 (some .long)) ({ frames := 0, cells := 0, slots := 0, locals := 0 } : Room) D clG (tyX cA) (36 + Z) ad (xgx Z ad cA (st)) [.ref (ad 0), .int a] (f_GL_ash Z st a) (xgx Z ad cA (st)) := by
  refine RL_of (cc := b_GL_ash) (maxL := 2) (ret := (some .long)) (by decide) (Nat.le_of_ble_eq_true rfl) ?_
  intro p e s m args below meth c ls C hK hP hS hl
  obtain ⟨⟨hx, hb, hml, hown, hts⟩, hr, hlocks, hN⟩ := id C
  have hown : s.vm.findClass R_GL = some m.cls := hown
  have hr : meth.sig.returnType = (some .long) := hr
  have hl : lv_has ls 2 [(0, .ref (ad 0)), (1, .int a)] := hl
  refine lv_iload_n (pc := 0) hx hb d_GL_ash_0 rfl (lv_at hl 1 rfl) ?_
  by_cases c_1 : a = 0
  · refine lv_tableIn (tgt := 56) (pc := 1) hx hb d_GL_ash_1 (by rw [c_1]; decide) (by rw [c_1]; decide) (off := 55) (by rw [c_1]; decide) (by decide) ?_
    refine lv_aload_n (pc := 56) hx hb d_GL_ash_56 rfl (lv_at hl 0 rfl) ?_
    refine rg_get (C := R_GL) (T := T_GL) (N := 9) (v := .long (xs_bk st)) (pc := 57) hx hb hts i_GL hown hK hP 0 (by omega) xgx_X rfl 8 (by decide) (hts _ wd_246) rfl d_GL_ash_57 ?_
    have e9 : f_GL_ash Z st a = xs_bk st := by unfold f_GL_ash; rw [if_pos c_1]
    exact rg_lret (pc := 60) hx hb hr hlocks hP hS ⟨e9.symm, rfl⟩ d_GL_ash_60
  · by_cases c_2 : a = 1
    · refine lv_tableIn (tgt := 61) (pc := 1) hx hb d_GL_ash_1 (by rw [c_2]; decide) (by rw [c_2]; decide) (off := 60) (by rw [c_2]; decide) (by decide) ?_
      refine lv_aload_n (pc := 61) hx hb d_GL_ash_61 rfl (lv_at hl 0 rfl) ?_
      refine rg_get (C := R_GL) (T := T_GL) (N := 9) (v := .ref (ad 10)) (pc := 62) hx hb hts i_GL hown hK hP 0 (by omega) xgx_X rfl 2 (by decide) (hts _ wd_240) rfl d_GL_ash_62 ?_
      refine rg_get (C := R_Gr) (T := T_Gr) (N := 9) (v := .long (xs_dA st)) (pc := 65) hx hb hts i_Gr hown hK hP 10 (by omega) xgx_grate rfl 5 (by decide) (hts _ wd_156) rfl d_GL_ash_65 ?_
      have e9 : f_GL_ash Z st a = xs_dA st := by unfold f_GL_ash; rw [if_neg c_1, if_pos c_2]
      exact rg_lret (pc := 68) hx hb hr hlocks hP hS ⟨e9.symm, rfl⟩ d_GL_ash_68
    · by_cases c_3 : a = 2
      · refine lv_tableIn (tgt := 69) (pc := 1) hx hb d_GL_ash_1 (by rw [c_3]; decide) (by rw [c_3]; decide) (off := 68) (by rw [c_3]; decide) (by decide) ?_
        refine lv_aload_n (pc := 69) hx hb d_GL_ash_69 rfl (lv_at hl 0 rfl) ?_
        refine rg_get (C := R_GL) (T := T_GL) (N := 9) (v := .ref (ad 10)) (pc := 70) hx hb hts i_GL hown hK hP 0 (by omega) xgx_X rfl 2 (by decide) (hts _ wd_240) rfl d_GL_ash_70 ?_
        refine rg_get (C := R_Gr) (T := T_Gr) (N := 9) (v := .long (xs_bA st)) (pc := 73) hx hb hts i_Gr hown hK hP 10 (by omega) xgx_grate rfl 6 (by decide) (hts _ wd_158) rfl d_GL_ash_73 ?_
        have e9 : f_GL_ash Z st a = xs_bA st := by unfold f_GL_ash; rw [if_neg c_1, if_neg c_2, if_pos c_3]
        exact rg_lret (pc := 76) hx hb hr hlocks hP hS ⟨e9.symm, rfl⟩ d_GL_ash_76
      · by_cases c_4 : a = 3
        · refine lv_tableIn (tgt := 77) (pc := 1) hx hb d_GL_ash_1 (by rw [c_4]; decide) (by rw [c_4]; decide) (off := 76) (by rw [c_4]; decide) (by decide) ?_
          refine lv_aload_n (pc := 77) hx hb d_GL_ash_77 rfl (lv_at hl 0 rfl) ?_
          refine rg_get (C := R_GL) (T := T_GL) (N := 9) (v := .ref (ad 10)) (pc := 78) hx hb hts i_GL hown hK hP 0 (by omega) xgx_X rfl 2 (by decide) (hts _ wd_240) rfl d_GL_ash_78 ?_
          refine rg_get (C := R_Gr) (T := T_Gr) (N := 9) (v := .long (xs_lA st)) (pc := 81) hx hb hts i_Gr hown hK hP 10 (by omega) xgx_grate rfl 7 (by decide) (hts _ wd_160) rfl d_GL_ash_81 ?_
          have e9 : f_GL_ash Z st a = xs_lA st := by unfold f_GL_ash; rw [if_neg c_1, if_neg c_2, if_neg c_3, if_pos c_4]
          exact rg_lret (pc := 84) hx hb hr hlocks hP hS ⟨e9.symm, rfl⟩ d_GL_ash_84
        · by_cases c_5 : a = 4
          · refine lv_tableIn (tgt := 85) (pc := 1) hx hb d_GL_ash_1 (by rw [c_5]; decide) (by rw [c_5]; decide) (off := 84) (by rw [c_5]; decide) (by decide) ?_
            refine lv_aload_n (pc := 85) hx hb d_GL_ash_85 rfl (lv_at hl 0 rfl) ?_
            refine rg_get (C := R_GL) (T := T_GL) (N := 9) (v := .ref (ad 10)) (pc := 86) hx hb hts i_GL hown hK hP 0 (by omega) xgx_X rfl 2 (by decide) (hts _ wd_240) rfl d_GL_ash_86 ?_
            refine rg_get (C := R_Gr) (T := T_Gr) (N := 9) (v := .long (xs_aA st)) (pc := 89) hx hb hts i_Gr hown hK hP 10 (by omega) xgx_grate rfl 8 (by decide) (hts _ wd_162) rfl d_GL_ash_89 ?_
            have e9 : f_GL_ash Z st a = xs_aA st := by unfold f_GL_ash; rw [if_neg c_1, if_neg c_2, if_neg c_3, if_neg c_4, if_pos c_5]
            exact rg_lret (pc := 92) hx hb hr hlocks hP hS ⟨e9.symm, rfl⟩ d_GL_ash_92
          · by_cases c_6 : a = 5
            · refine lv_tableIn (tgt := 93) (pc := 1) hx hb d_GL_ash_1 (by rw [c_6]; decide) (by rw [c_6]; decide) (off := 92) (by rw [c_6]; decide) (by decide) ?_
              refine lv_aload_n (pc := 93) hx hb d_GL_ash_93 rfl (lv_at hl 0 rfl) ?_
              refine rg_get (C := R_GL) (T := T_GL) (N := 9) (v := .ref (ad 3)) (pc := 94) hx hb hts i_GL hown hK hP 0 (by omega) xgx_X rfl 3 (by decide) (hts _ wd_241) rfl d_GL_ash_94 ?_
              refine rg_get (C := R_Fu) (T := T_Fu) (N := 11) (v := .long (xs_fA st)) (pc := 97) hx hb hts i_Fu hown hK hP 3 (by omega) xgx_furn rfl 7 (by decide) (hts _ wd_42) rfl d_GL_ash_97 ?_
              have e9 : f_GL_ash Z st a = xs_fA st := by unfold f_GL_ash; rw [if_neg c_1, if_neg c_2, if_neg c_3, if_neg c_4, if_neg c_5, if_pos c_6]
              exact rg_lret (pc := 100) hx hb hr hlocks hP hS ⟨e9.symm, rfl⟩ d_GL_ash_100
            · by_cases c_7 : a = 6
              · refine lv_tableIn (tgt := 101) (pc := 1) hx hb d_GL_ash_1 (by rw [c_7]; decide) (by rw [c_7]; decide) (off := 100) (by rw [c_7]; decide) (by decide) ?_
                refine lv_aload_n (pc := 101) hx hb d_GL_ash_101 rfl (lv_at hl 0 rfl) ?_
                refine rg_get (C := R_GL) (T := T_GL) (N := 9) (v := .ref (ad 3)) (pc := 102) hx hb hts i_GL hown hK hP 0 (by omega) xgx_X rfl 3 (by decide) (hts _ wd_241) rfl d_GL_ash_102 ?_
                refine rg_get (C := R_Fu) (T := T_Fu) (N := 11) (v := .long (xs_nA st)) (pc := 105) hx hb hts i_Fu hown hK hP 3 (by omega) xgx_furn rfl 8 (by decide) (hts _ wd_44) rfl d_GL_ash_105 ?_
                have e9 : f_GL_ash Z st a = xs_nA st := by unfold f_GL_ash; rw [if_neg c_1, if_neg c_2, if_neg c_3, if_neg c_4, if_neg c_5, if_neg c_6, if_pos c_7]
                exact rg_lret (pc := 108) hx hb hr hlocks hP hS ⟨e9.symm, rfl⟩ d_GL_ash_108
              · by_cases c_8 : a = 7
                · refine lv_tableIn (tgt := 109) (pc := 1) hx hb d_GL_ash_1 (by rw [c_8]; decide) (by rw [c_8]; decide) (off := 108) (by rw [c_8]; decide) (by decide) ?_
                  refine lv_aload_n (pc := 109) hx hb d_GL_ash_109 rfl (lv_at hl 0 rfl) ?_
                  refine rg_get (C := R_GL) (T := T_GL) (N := 9) (v := .ref (ad 3)) (pc := 110) hx hb hts i_GL hown hK hP 0 (by omega) xgx_X rfl 3 (by decide) (hts _ wd_241) rfl d_GL_ash_110 ?_
                  refine rg_get (C := R_Fu) (T := T_Fu) (N := 11) (v := .long (xs_sA st)) (pc := 113) hx hb hts i_Fu hown hK hP 3 (by omega) xgx_furn rfl 9 (by decide) (hts _ wd_46) rfl d_GL_ash_113 ?_
                  have e9 : f_GL_ash Z st a = xs_sA st := by unfold f_GL_ash; rw [if_neg c_1, if_neg c_2, if_neg c_3, if_neg c_4, if_neg c_5, if_neg c_6, if_neg c_7, if_pos c_8]
                  exact rg_lret (pc := 116) hx hb hr hlocks hP hS ⟨e9.symm, rfl⟩ d_GL_ash_116
                · by_cases c_9 : a = 8
                  · refine lv_tableIn (tgt := 117) (pc := 1) hx hb d_GL_ash_1 (by rw [c_9]; decide) (by rw [c_9]; decide) (off := 116) (by rw [c_9]; decide) (by decide) ?_
                    refine lv_aload_n (pc := 117) hx hb d_GL_ash_117 rfl (lv_at hl 0 rfl) ?_
                    refine rg_get (C := R_GL) (T := T_GL) (N := 9) (v := .ref (ad 3)) (pc := 118) hx hb hts i_GL hown hK hP 0 (by omega) xgx_X rfl 3 (by decide) (hts _ wd_241) rfl d_GL_ash_118 ?_
                    refine rg_get (C := R_Fu) (T := T_Fu) (N := 11) (v := .long (xs_yA st)) (pc := 121) hx hb hts i_Fu hown hK hP 3 (by omega) xgx_furn rfl 10 (by decide) (hts _ wd_48) rfl d_GL_ash_121 ?_
                    have e9 : f_GL_ash Z st a = xs_yA st := by unfold f_GL_ash; rw [if_neg c_1, if_neg c_2, if_neg c_3, if_neg c_4, if_neg c_5, if_neg c_6, if_neg c_7, if_neg c_8, if_pos c_9]
                    exact rg_lret (pc := 124) hx hb hr hlocks hP hS ⟨e9.symm, rfl⟩ d_GL_ash_124
                  · by_cases c_10 : a = 9
                    · refine lv_tableIn (tgt := 125) (pc := 1) hx hb d_GL_ash_1 (by rw [c_10]; decide) (by rw [c_10]; decide) (off := 124) (by rw [c_10]; decide) (by decide) ?_
                      refine lv_aload_n (pc := 125) hx hb d_GL_ash_125 rfl (lv_at hl 0 rfl) ?_
                      refine rg_get (C := R_GL) (T := T_GL) (N := 9) (v := .ref (ad 3)) (pc := 126) hx hb hts i_GL hown hK hP 0 (by omega) xgx_X rfl 3 (by decide) (hts _ wd_241) rfl d_GL_ash_126 ?_
                      refine rg_get (C := R_Fu) (T := T_Fu) (N := 11) (v := .long (xs_he st)) (pc := 129) hx hb hts i_Fu hown hK hP 3 (by omega) xgx_furn rfl 0 (by decide) (hts _ wd_31) rfl d_GL_ash_129 ?_
                      have e9 : f_GL_ash Z st a = xs_he st := by unfold f_GL_ash; rw [if_neg c_1, if_neg c_2, if_neg c_3, if_neg c_4, if_neg c_5, if_neg c_6, if_neg c_7, if_neg c_8, if_neg c_9, if_pos c_10]
                      exact rg_lret (pc := 132) hx hb hr hlocks hP hS ⟨e9.symm, rfl⟩ d_GL_ash_132
                    · have ho9 : (a).toInt < 0 ∨ 9 < (a).toInt := by
                        have q9 : ∀ k : Int32, ¬ a = k → ¬ (a).toInt = k.toInt := fun k h q => h (Int32.toInt_inj.mp q)
                        have wc_1 := q9 _ c_1
                        have wc_2 := q9 _ c_2
                        have wc_3 := q9 _ c_3
                        have wc_4 := q9 _ c_4
                        have wc_5 := q9 _ c_5
                        have wc_6 := q9 _ c_6
                        have wc_7 := q9 _ c_7
                        have wc_8 := q9 _ c_8
                        have wc_9 := q9 _ c_9
                        have wc_10 := q9 _ c_10
                        simp at wc_1 wc_2 wc_3 wc_4 wc_5 wc_6 wc_7 wc_8 wc_9 wc_10
                        omega
                      refine lv_tableOut (tgt := 133) (pc := 1) hx hb d_GL_ash_1 ho9 (by decide) ?_
                      refine lv_ldc2 (v := (-1)) (pc := 133) hx hb hown (hts _ wd_436) d_GL_ash_133 ?_
                      have e9 : f_GL_ash Z st a = (-1) := by unfold f_GL_ash; rw [if_neg c_1, if_neg c_2, if_neg c_3, if_neg c_4, if_neg c_5, if_neg c_6, if_neg c_7, if_neg c_8, if_neg c_9, if_neg c_10]
                      exact rg_lret (pc := 136) hx hb hr hlocks hP hS ⟨e9.symm, rfl⟩ d_GL_ash_136

def f_GL_balance (Z : Nat) (st : xS) (a : Int32) : Int64 :=
  if a = 0 then
    ((((xs_bk st) - (f_GL_inCells Z st)) - (f_GL_grabbed Z st)) - (f_Gr_lying Z st)) - (f_Gr_gone Z st)
  else
    if a = 1 then
      f_Fu_imbalance Z st
    else
      (-1)
set_option maxRecDepth 100000 in
set_option maxHeartbeats 4000000 in
theorem c_GL_balance {l : Launch} {D : va_G} {cA : Nat → ClassId} {Z : Nat} {ad : Nat → Nat} (hR : rD (36 + Z) ad) (hZ : 1 ≤ Z ∧ Z ≤ 6) (st : xS) (a : Int32) : RL l y_GL_balance (mws y_GL_balance b_GL_balance 2 (some .long)) ({ frames := 2, cells := 0, slots := 0, locals := 48 } : Room) D clG (tyX cA) (36 + Z) ad (xgx Z ad cA (st)) [.ref (ad 0), .int a] (f_GL_balance Z st a) (xgx Z ad cA (st)) := by
  refine RL_of (cc := b_GL_balance) (maxL := 2) (ret := (some .long)) (by decide) (Nat.le_of_ble_eq_true rfl) ?_
  intro p e s m args below meth c ls C hK hP hS hl
  obtain ⟨⟨hx, hb, hml, hown, hts⟩, hr, hlocks, hN⟩ := id C
  have hown : s.vm.findClass R_GL = some m.cls := hown
  have hr : meth.sig.returnType = (some .long) := hr
  have hl : lv_has ls 2 [(0, .ref (ad 0)), (1, .int a)] := hl
  refine lv_iload_n (pc := 0) hx hb d_GL_balance_0 rfl (lv_at hl 1 rfl) ?_
  by_cases c_1 : a = 0
  · refine lv_lookup (tgt := 28) (off := 27) (pc := 1) hx hb d_GL_balance_1 (by decide) (by rw [c_1]; decide) (by decide) ?_
    refine lv_aload_n (pc := 28) hx hb d_GL_balance_28 rfl (lv_at hl 0 rfl) ?_
    refine rg_get (C := R_GL) (T := T_GL) (N := 9) (v := .long (xs_bk st)) (pc := 29) hx hb hts i_GL hown hK hP 0 (by omega) xgx_X rfl 8 (by decide) (hts _ wd_246) rfl d_GL_balance_29 ?_
    refine lv_aload_n (pc := 32) hx hb d_GL_balance_32 rfl (lv_at hl 0 rfl) ?_
    refine rg_cl (pc := 33) (va_runV (As := []) (rest := [.long (xs_bk st)]) ⟨hx, hb, hml, hown, hts⟩ (c_GL_inCells (l := l) hR hZ st  _) ⟨callB_of 0 hts (gd_c wd_460) rfl rfl rfl (hts _ wd_1) (hts _ wd_457) hd_GL_inCells ⟨Nat.le_of_ble_eq_true rfl, Nat.le_of_ble_eq_true rfl⟩, hts _ wd_459, hts _ wp_4⟩ ⟨rPc_blind _ _ _ _ _ _ _ _, rg_rec hK hP 0 (by omega) xgx_X rfl, rPc_at _ hP hK hN⟩ rfl rfl hl.1 rfl (lv_room (Nat.le_of_ble_eq_true rfl)) d_GL_balance_33 ⟨Nat.zero_le _, Nat.zero_le _⟩) hS (fun H locs hP hS => ?_)
    refine lv_lsub (pc := 36) hx hb d_GL_balance_36 ?_
    refine lv_aload_n (pc := 37) hx hb d_GL_balance_37 rfl (lv_at hl 0 rfl) ?_
    refine rg_cl (pc := 38) (va_runV (As := []) (rest := [.long ((xs_bk st) - (f_GL_inCells Z st))]) ⟨hx, hb, hml, hown, hts⟩ (c_GL_grabbed (l := l) hR hZ st  _) ⟨callB_of 0 hts (gd_c wd_464) rfl rfl rfl (hts _ wd_1) (hts _ wd_461) hd_GL_grabbed ⟨Nat.le_of_ble_eq_true rfl, Nat.le_of_ble_eq_true rfl⟩, hts _ wd_463, hts _ wp_5⟩ ⟨rPc_blind _ _ _ _ _ _ _ _, rg_rec hK hP 0 (by omega) xgx_X rfl, rPc_at _ hP hK hN⟩ rfl rfl hl.1 rfl (lv_room (Nat.le_of_ble_eq_true rfl)) d_GL_balance_38 ⟨Nat.zero_le _, Nat.zero_le _⟩) hS (fun H locs hP hS => ?_)
    refine lv_lsub (pc := 41) hx hb d_GL_balance_41 ?_
    refine lv_aload_n (pc := 42) hx hb d_GL_balance_42 rfl (lv_at hl 0 rfl) ?_
    refine rg_get (C := R_GL) (T := T_GL) (N := 9) (v := .ref (ad 10)) (pc := 43) hx hb hts i_GL hown hK hP 0 (by omega) xgx_X rfl 2 (by decide) (hts _ wd_240) rfl d_GL_balance_43 ?_
    refine rg_cl (pc := 46) (va_runV (As := []) (rest := [.long (((xs_bk st) - (f_GL_inCells Z st)) - (f_GL_grabbed Z st))]) ⟨hx, hb, hml, hown, hts⟩ (c_Gr_lying (l := l) hR hZ st  _) ⟨callB_of 0 hts (gd_c wd_468) rfl rfl rfl (hts _ wd_4) (hts _ wd_465) hd_Gr_lying ⟨Nat.le_of_ble_eq_true rfl, Nat.le_of_ble_eq_true rfl⟩, hts _ wd_466, hts _ wd_467⟩ ⟨rPc_blind _ _ _ _ _ _ _ _, rg_rec hK hP 10 (by omega) xgx_grate rfl, rPc_at _ hP hK hN⟩ rfl rfl hl.1 rfl (lv_room (Nat.le_of_ble_eq_true rfl)) d_GL_balance_46 ⟨Nat.zero_le _, Nat.zero_le _⟩) hS (fun H locs hP hS => ?_)
    refine lv_lsub (pc := 49) hx hb d_GL_balance_49 ?_
    refine lv_aload_n (pc := 50) hx hb d_GL_balance_50 rfl (lv_at hl 0 rfl) ?_
    refine rg_get (C := R_GL) (T := T_GL) (N := 9) (v := .ref (ad 10)) (pc := 51) hx hb hts i_GL hown hK hP 0 (by omega) xgx_X rfl 2 (by decide) (hts _ wd_240) rfl d_GL_balance_51 ?_
    refine rg_cl (pc := 54) (va_runV (As := []) (rest := [.long ((((xs_bk st) - (f_GL_inCells Z st)) - (f_GL_grabbed Z st)) - (f_Gr_lying Z st))]) ⟨hx, hb, hml, hown, hts⟩ (c_Gr_gone (l := l) hR hZ st  _) ⟨callB_of 0 hts (gd_c wd_472) rfl rfl rfl (hts _ wd_4) (hts _ wd_469) hd_Gr_gone ⟨Nat.le_of_ble_eq_true rfl, Nat.le_of_ble_eq_true rfl⟩, hts _ wd_470, hts _ wd_471⟩ ⟨rPc_blind _ _ _ _ _ _ _ _, rg_rec hK hP 10 (by omega) xgx_grate rfl, rPc_at _ hP hK hN⟩ rfl rfl hl.1 rfl (lv_room (Nat.le_of_ble_eq_true rfl)) d_GL_balance_54 ⟨Nat.zero_le _, Nat.zero_le _⟩) hS (fun H locs hP hS => ?_)
    refine lv_lsub (pc := 57) hx hb d_GL_balance_57 ?_
    have e9 : f_GL_balance Z st a = ((((xs_bk st) - (f_GL_inCells Z st)) - (f_GL_grabbed Z st)) - (f_Gr_lying Z st)) - (f_Gr_gone Z st) := by unfold f_GL_balance; rw [if_pos c_1]
    exact rg_lret (pc := 58) hx hb hr hlocks hP hS ⟨e9.symm, rfl⟩ d_GL_balance_58
  · by_cases c_2 : a = 1
    · refine lv_lookup (tgt := 59) (off := 58) (pc := 1) hx hb d_GL_balance_1 (by decide) (by rw [c_2]; decide) (by decide) ?_
      refine lv_aload_n (pc := 59) hx hb d_GL_balance_59 rfl (lv_at hl 0 rfl) ?_
      refine rg_get (C := R_GL) (T := T_GL) (N := 9) (v := .ref (ad 3)) (pc := 60) hx hb hts i_GL hown hK hP 0 (by omega) xgx_X rfl 3 (by decide) (hts _ wd_241) rfl d_GL_balance_60 ?_
      refine rg_cl (pc := 63) (va_runV (As := []) (rest := []) ⟨hx, hb, hml, hown, hts⟩ (c_Fu_imbalance (l := l) hR hZ st  _) ⟨callB_of 0 hts (gd_c wd_476) rfl rfl rfl (hts _ wd_2) (hts _ wd_473) hd_Fu_imbalance ⟨Nat.le_of_ble_eq_true rfl, Nat.le_of_ble_eq_true rfl⟩, hts _ wd_474, hts _ wd_475⟩ ⟨rPc_blind _ _ _ _ _ _ _ _, rg_rec hK hP 3 (by omega) xgx_furn rfl, rPc_at _ hP hK hN⟩ rfl rfl hl.1 rfl (lv_room (Nat.le_of_ble_eq_true rfl)) d_GL_balance_63 ⟨Nat.zero_le _, Nat.zero_le _⟩) hS (fun H locs hP hS => ?_)
      have e9 : f_GL_balance Z st a = f_Fu_imbalance Z st := by unfold f_GL_balance; rw [if_neg c_1, if_pos c_2]
      exact rg_lret (pc := 66) hx hb hr hlocks hP hS ⟨e9.symm, rfl⟩ d_GL_balance_66
    · refine lv_lookup (tgt := 67) (off := 66) (pc := 1) hx hb d_GL_balance_1 (by decide) (by rw [lv_osw c_1 (by decide)]; rw [lv_osw c_2 (by decide)]; rfl) (by decide) ?_
      refine lv_ldc2 (v := (-1)) (pc := 67) hx hb hown (hts _ wd_436) d_GL_balance_67 ?_
      have e9 : f_GL_balance Z st a = (-1) := by unfold f_GL_balance; rw [if_neg c_1, if_neg c_2]
      exact rg_lret (pc := 70) hx hb hr hlocks hP hS ⟨e9.symm, rfl⟩ d_GL_balance_70
