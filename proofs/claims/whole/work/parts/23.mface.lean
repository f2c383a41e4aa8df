def f_Mo_kind (Z : Nat) (st : mS) (a : Int32) (b : Int32) (d : Int32) : Int32 × mS :=
  if (f_Mo_isKind a) = 0 then
    (0, st)
  else
    if (f_Mo_isIn b.toInt64 0 1000) = 0 then
      (0, st)
    else
      if (f_Mo_isIn d.toInt64 0 1000) = 0 then
        (0, st)
      else
        if (b + d) ≤ 1000 then
          (1, mp_ash (mp_ws st a.toNatClampNeg b) a.toNatClampNeg d)
        else
          (0, st)
set_option maxRecDepth 100000 in
set_option maxHeartbeats 4000000 in
theorem c_Mo_kind {l : Launch} {D : va_G} {cA : Nat → ClassId} {Z : Nat} {ad : Nat → Nat} (hR : rD 19 ad) (hZ : 1 ≤ Z ∧ Z ≤ 6) (st : mS) (a : Int32) (b : Int32) (d : Int32) : RI l y_Mo_kind (mws y_Mo_kind b_Mo_kind 4 (some .boolean)) ({ frames := 1, cells := 0, slots := 0, locals := 25 } : Room) D clG (tyM cA) 19 ad (mgx Z ad cA (st)) [.ref (ad 0), .int a, .int b, .int d] (f_Mo_kind Z st a b d).1 (mgx Z ad cA ((f_Mo_kind Z st a b d).2)) := by
  refine RI_of (cc := b_Mo_kind) (maxL := 4) (ret := (some .boolean)) (by decide) (Nat.le_of_ble_eq_true rfl) ?_
  intro p e s m args below meth c ls C hK hP hS hl
  obtain ⟨⟨hx, hb, hml, hown, hts⟩, hr, hlocks, hN⟩ := id C
  have hown : s.vm.findClass R_Mo = some m.cls := hown
  have hr : meth.sig.returnType = (some .boolean) := hr
  have hl : lv_has ls 4 [(0, .ref (ad 0)), (1, .int a), (2, .int b), (3, .int d)] := hl
  refine lv_iload_n (pc := 0) hx hb d_Mo_kind_0 rfl (lv_at hl 1 rfl) ?_
  refine rg_ci (pc := 1) (va_runS (As := [.int a]) (rest := []) ⟨hx, hb, hml, hown, hts⟩ (c_Mo_isKind (l := l) a _) ⟨callB_of 1 hts (gd_c wd_621) rfl rfl rfl (hts _ wd_9) (hts _ wd_619) hd_Mo_isKind ⟨Nat.le_of_ble_eq_true rfl, Nat.le_of_ble_eq_true rfl⟩, hts _ wd_620⟩ ⟨rPc_blind _ _ _ _ _ _ _ _, rPc_at _ hP hK hN⟩ rfl rfl hl.1 rfl (lv_room (Nat.le_of_ble_eq_true rfl)) d_Mo_kind_1 ⟨Nat.zero_le _, Nat.zero_le _⟩) hS (fun H locs hP hS => ?_)
  refine lv_if_eq (tgt := 40) (pc := 4) hx hb d_Mo_kind_4 (by decide) (fun c_1 => ?_) (fun c_1 => ?_)
  · refine lv_iconst (v := 0) (pc := 40) hx hb d_Mo_kind_40 (by decide) ?_
    have e9 : f_Mo_kind Z st a b d = (0, st) := by unfold f_Mo_kind; rw [if_pos c_1]
    exact rg_zret (pc := 41) hx hb hr hlocks rfl hP hS ⟨by rw [e9], by rw [e9]⟩ d_Mo_kind_41
  · refine lv_iload_n (pc := 7) hx hb d_Mo_kind_7 rfl (lv_at hl 2 rfl) ?_
    refine lv_i2l (pc := 8) hx hb d_Mo_kind_8 rfl ?_
    refine lv_lconst (v := 0) (pc := 9) hx hb d_Mo_kind_9 (by decide) ?_
    refine lv_ldc2 (v := 1000) (pc := 10) hx hb hown (hts _ wd_622) d_Mo_kind_10 ?_
    refine rg_ci (pc := 13) (va_runS (As := [.long b.toInt64, .long 0, .long 1000]) (rest := []) ⟨hx, hb, hml, hown, hts⟩ (c_Mo_isIn (l := l) b.toInt64 0 1000 _) ⟨callB_of 3 hts (gd_c wd_625) rfl rfl rfl (hts _ wd_9) (hts _ wd_623) hd_Mo_isIn ⟨Nat.le_of_ble_eq_true rfl, Nat.le_of_ble_eq_true rfl⟩, hts _ wd_624⟩ ⟨rPc_blind _ _ _ _ _ _ _ _, rPc_at _ hP hK hN⟩ rfl rfl hl.1 rfl (lv_room (Nat.le_of_ble_eq_true rfl)) d_Mo_kind_13 ⟨Nat.zero_le _, Nat.zero_le _⟩) hS (fun H locs hP hS => ?_)
    refine lv_if_eq (tgt := 40) (pc := 16) hx hb d_Mo_kind_16 (by decide) (fun c_2 => ?_) (fun c_2 => ?_)
    · refine lv_iconst (v := 0) (pc := 40) hx hb d_Mo_kind_40 (by decide) ?_
      have e9 : f_Mo_kind Z st a b d = (0, st) := by unfold f_Mo_kind; rw [if_neg c_1, if_pos c_2]
      exact rg_zret (pc := 41) hx hb hr hlocks rfl hP hS ⟨by rw [e9], by rw [e9]⟩ d_Mo_kind_41
    · refine lv_iload_n (pc := 19) hx hb d_Mo_kind_19 rfl (lv_at hl 3 rfl) ?_
      refine lv_i2l (pc := 20) hx hb d_Mo_kind_20 rfl ?_
      refine lv_lconst (v := 0) (pc := 21) hx hb d_Mo_kind_21 (by decide) ?_
      refine lv_ldc2 (v := 1000) (pc := 22) hx hb hown (hts _ wd_622) d_Mo_kind_22 ?_
      refine rg_ci (pc := 25) (va_runS (As := [.long d.toInt64, .long 0, .long 1000]) (rest := []) ⟨hx, hb, hml, hown, hts⟩ (c_Mo_isIn (l := l) d.toInt64 0 1000 _) ⟨callB_of 3 hts (gd_c wd_625) rfl rfl rfl (hts _ wd_9) (hts _ wd_623) hd_Mo_isIn ⟨Nat.le_of_ble_eq_true rfl, Nat.le_of_ble_eq_true rfl⟩, hts _ wd_624⟩ ⟨rPc_blind _ _ _ _ _ _ _ _, rPc_at _ hP hK hN⟩ rfl rfl hl.1 rfl (lv_room (Nat.le_of_ble_eq_true rfl)) d_Mo_kind_25 ⟨Nat.zero_le _, Nat.zero_le _⟩) hS (fun H locs hP hS => ?_)
      refine lv_if_eq (tgt := 40) (pc := 28) hx hb d_Mo_kind_28 (by decide) (fun c_3 => ?_) (fun c_3 => ?_)
      · refine lv_iconst (v := 0) (pc := 40) hx hb d_Mo_kind_40 (by decide) ?_
        have e9 : f_Mo_kind Z st a b d = (0, st) := by unfold f_Mo_kind; rw [if_neg c_1, if_neg c_2, if_pos c_3]
        exact rg_zret (pc := 41) hx hb hr hlocks rfl hP hS ⟨by rw [e9], by rw [e9]⟩ d_Mo_kind_41
      · refine lv_iload_n (pc := 31) hx hb d_Mo_kind_31 rfl (lv_at hl 2 rfl) ?_
        refine lv_iload_n (pc := 32) hx hb d_Mo_kind_32 rfl (lv_at hl 3 rfl) ?_
        refine lv_iadd (pc := 33) hx hb d_Mo_kind_33 ?_
        refine lv_sipush (v := 1000) (pc := 34) hx hb d_Mo_kind_34 (by decide) ?_
        refine lv_icmp_le (tgt := 42) (pc := 37) hx hb d_Mo_kind_37 (by decide) (fun c_4 => ?_) (fun c_4 => ?_)
        · have hax := mat_isKind c_1
          have hax1 := hax.1
          rw [hax.2] at hl
          refine lv_aload_n (pc := 42) hx hb d_Mo_kind_42 rfl (lv_at hl 0 rfl) ?_
          refine rg_get (C := R_Mo) (T := T_Mo) (N := 28) (v := .ref (ad 1)) (pc := 43) hx hb hts i_Mo hown hK hP 0 (by omega) mgx_M rfl 1 (by decide) (hts _ wd_529) rfl d_Mo_kind_43 ?_
          refine lv_iload_n (pc := 46) hx hb d_Mo_kind_46 rfl (lv_at hl 1 rfl) ?_
          refine lv_iload_n (pc := 47) hx hb d_Mo_kind_47 rfl (lv_at hl 2 rfl) ?_
          refine rg_iast (pc := 48) hx hb hK hR hP hS 1 (by omega) 0 mgx_waterShares rfl a.toNatClampNeg (by omega) (by omega) rfl d_Mo_kind_48 (mgx_waterShares_w a.toNatClampNeg b) (fun H locs hP hS => ?_)
          refine lv_aload_n (pc := 49) hx hb d_Mo_kind_49 rfl (lv_at hl 0 rfl) ?_
          refine rg_get (C := R_Mo) (T := T_Mo) (N := 28) (v := .ref (ad 2)) (pc := 50) hx hb hts i_Mo hown hK hP 0 (by omega) mgx_M rfl 2 (by decide) (hts _ wd_530) rfl d_Mo_kind_50 ?_
          refine lv_iload_n (pc := 53) hx hb d_Mo_kind_53 rfl (lv_at hl 1 rfl) ?_
          refine lv_iload_n (pc := 54) hx hb d_Mo_kind_54 rfl (lv_at hl 3 rfl) ?_
          refine rg_iast (pc := 55) hx hb hK hR hP hS 2 (by omega) 0 mgx_ashShares rfl a.toNatClampNeg (by omega) (by omega) rfl d_Mo_kind_55 (mgx_ashShares_w a.toNatClampNeg d) (fun H locs hP hS => ?_)
          refine lv_iconst (v := 1) (pc := 56) hx hb d_Mo_kind_56 (by decide) ?_
          have e9 : f_Mo_kind Z st a b d = (1, mp_ash (mp_ws st a.toNatClampNeg b) a.toNatClampNeg d) := by unfold f_Mo_kind; rw [if_neg c_1, if_neg c_2, if_neg c_3, if_pos c_4]
          exact rg_zret (pc := 57) hx hb hr hlocks rfl hP hS ⟨by rw [e9], by rw [e9]⟩ d_Mo_kind_57
        · refine lv_iconst (v := 0) (pc := 40) hx hb d_Mo_kind_40 (by decide) ?_
          have e9 : f_Mo_kind Z st a b d = (0, st) := by unfold f_Mo_kind; rw [if_neg c_1, if_neg c_2, if_neg c_3, if_neg c_4]
          exact rg_zret (pc := 41) hx hb hr hlocks rfl hP hS ⟨by rw [e9], by rw [e9]⟩ d_Mo_kind_41

def f_Mo_bunker (Z : Nat) (st : mS) (a : Int32) (b : Int32) (d : Int32) : Int32 × mS :=
  if (f_Mo_isCell a) = 0 then
    (0, st)
  else
    if (f_Mo_isKind b) = 0 then
      (0, st)
    else
      if (f_Mo_isIn d.toInt64 0 100000) = 0 then
        (0, st)
      else
        if ((f_Mo_weightOf Z st a.toNatClampNeg) + d) ≤ 100000 then
          (1, mp_al (mp_cl st ((4 * a.toNatClampNeg) + b.toNatClampNeg) ((ms_cl st ((4 * a.toNatClampNeg) + b.toNatClampNeg)) + d)) 0 ((ms_al (mp_cl st ((4 * a.toNatClampNeg) + b.toNatClampNeg) ((ms_cl st ((4 * a.toNatClampNeg) + b.toNatClampNeg)) + d)) 0) + d.toInt64))
        else
          (0, st)
set_option maxRecDepth 100000 in
set_option maxHeartbeats 4000000 in
theorem c_Mo_bunker {l : Launch} {D : va_G} {cA : Nat → ClassId} {Z : Nat} {ad : Nat → Nat} (hR : rD 19 ad) (hZ : 1 ≤ Z ∧ Z ≤ 6) (st : mS) (a : Int32) (b : Int32) (d : Int32) : RI l y_Mo_bunker (mws y_Mo_bunker b_Mo_bunker 4 (some .boolean)) ({ frames := 1, cells := 0, slots := 0, locals := 25 } : Room) D clG (tyM cA) 19 ad (mgx Z ad cA (st)) [.ref (ad 0), .int a, .int b, .int d] (f_Mo_bunker Z st a b d).1 (mgx Z ad cA ((f_Mo_bunker Z st a b d).2)) := by
  refine RI_of (cc := b_Mo_bunker) (maxL := 4) (ret := (some .boolean)) (by decide) (Nat.le_of_ble_eq_true rfl) ?_
  intro p e s m args below meth c ls C hK hP hS hl
  obtain ⟨⟨hx, hb, hml, hown, hts⟩, hr, hlocks, hN⟩ := id C
  have hown : s.vm.findClass R_Mo = some m.cls := hown
  have hr : meth.sig.returnType = (some .boolean) := hr
  have hl : lv_has ls 4 [(0, .ref (ad 0)), (1, .int a), (2, .int b), (3, .int d)] := hl
  refine lv_iload_n (pc := 0) hx hb d_Mo_bunker_0 rfl (lv_at hl 1 rfl) ?_
  refine rg_ci (pc := 1) (va_runS (As := [.int a]) (rest := []) ⟨hx, hb, hml, hown, hts⟩ (c_Mo_isCell (l := l) a _) ⟨callB_of 1 hts (gd_c wd_632) rfl rfl rfl (hts _ wd_9) (hts _ wd_630) hd_Mo_isCell ⟨Nat.le_of_ble_eq_true rfl, Nat.le_of_ble_eq_true rfl⟩, hts _ wd_631⟩ ⟨rPc_blind _ _ _ _ _ _ _ _, rPc_at _ hP hK hN⟩ rfl rfl hl.1 rfl (lv_room (Nat.le_of_ble_eq_true rfl)) d_Mo_bunker_1 ⟨Nat.zero_le _, Nat.zero_le _⟩) hS (fun H locs hP hS => ?_)
  refine lv_if_eq (tgt := 38) (pc := 4) hx hb d_Mo_bunker_4 (by decide) (fun c_1 => ?_) (fun c_1 => ?_)
  · refine lv_iconst (v := 0) (pc := 38) hx hb d_Mo_bunker_38 (by decide) ?_
    have e9 : f_Mo_bunker Z st a b d = (0, st) := by unfold f_Mo_bunker; rw [if_pos c_1]
    exact rg_zret (pc := 39) hx hb hr hlocks rfl hP hS ⟨by rw [e9], by rw [e9]⟩ d_Mo_bunker_39
  · refine lv_iload_n (pc := 7) hx hb d_Mo_bunker_7 rfl (lv_at hl 2 rfl) ?_
    refine rg_ci (pc := 8) (va_runS (As := [.int b]) (rest := []) ⟨hx, hb, hml, hown, hts⟩ (c_Mo_isKind (l := l) b _) ⟨callB_of 1 hts (gd_c wd_621) rfl rfl rfl (hts _ wd_9) (hts _ wd_619) hd_Mo_isKind ⟨Nat.le_of_ble_eq_true rfl, Nat.le_of_ble_eq_true rfl⟩, hts _ wd_620⟩ ⟨rPc_blind _ _ _ _ _ _ _ _, rPc_at _ hP hK hN⟩ rfl rfl hl.1 rfl (lv_room (Nat.le_of_ble_eq_true rfl)) d_Mo_bunker_8 ⟨Nat.zero_le _, Nat.zero_le _⟩) hS (fun H locs hP hS => ?_)
    refine lv_if_eq (tgt := 38) (pc := 11) hx hb d_Mo_bunker_11 (by decide) (fun c_2 => ?_) (fun c_2 => ?_)
    · refine lv_iconst (v := 0) (pc := 38) hx hb d_Mo_bunker_38 (by decide) ?_
      have e9 : f_Mo_bunker Z st a b d = (0, st) := by unfold f_Mo_bunker; rw [if_neg c_1, if_pos c_2]
      exact rg_zret (pc := 39) hx hb hr hlocks rfl hP hS ⟨by rw [e9], by rw [e9]⟩ d_Mo_bunker_39
    · refine lv_iload_n (pc := 14) hx hb d_Mo_bunker_14 rfl (lv_at hl 3 rfl) ?_
      refine lv_i2l (pc := 15) hx hb d_Mo_bunker_15 rfl ?_
      refine lv_lconst (v := 0) (pc := 16) hx hb d_Mo_bunker_16 (by decide) ?_
      refine lv_ldc2 (v := 100000) (pc := 17) hx hb hown (hts _ wd_633) d_Mo_bunker_17 ?_
      refine rg_ci (pc := 20) (va_runS (As := [.long d.toInt64, .long 0, .long 100000]) (rest := []) ⟨hx, hb, hml, hown, hts⟩ (c_Mo_isIn (l := l) d.toInt64 0 100000 _) ⟨callB_of 3 hts (gd_c wd_625) rfl rfl rfl (hts _ wd_9) (hts _ wd_623) hd_Mo_isIn ⟨Nat.le_of_ble_eq_true rfl, Nat.le_of_ble_eq_true rfl⟩, hts _ wd_624⟩ ⟨rPc_blind _ _ _ _ _ _ _ _, rPc_at _ hP hK hN⟩ rfl rfl hl.1 rfl (lv_room (Nat.le_of_ble_eq_true rfl)) d_Mo_bunker_20 ⟨Nat.zero_le _, Nat.zero_le _⟩) hS (fun H locs hP hS => ?_)
      refine lv_if_eq (tgt := 38) (pc := 23) hx hb d_Mo_bunker_23 (by decide) (fun c_3 => ?_) (fun c_3 => ?_)
      · refine lv_iconst (v := 0) (pc := 38) hx hb d_Mo_bunker_38 (by decide) ?_
        have e9 : f_Mo_bunker Z st a b d = (0, st) := by unfold f_Mo_bunker; rw [if_neg c_1, if_neg c_2, if_pos c_3]
        exact rg_zret (pc := 39) hx hb hr hlocks rfl hP hS ⟨by rw [e9], by rw [e9]⟩ d_Mo_bunker_39
      · have hax := mat_isCell c_1
        have hax1 := hax.1
        rw [hax.2] at hl
        have hbx := mat_isKind c_2
        have hbx1 := hbx.1
        rw [hbx.2] at hl
        refine lv_aload_n (pc := 26) hx hb d_Mo_bunker_26 rfl (lv_at hl 0 rfl) ?_
        refine lv_iload_n (pc := 27) hx hb d_Mo_bunker_27 rfl (lv_at hl 1 rfl) ?_
        refine rg_ci (pc := 28) (va_runV (As := [.int (nI a.toNatClampNeg)]) (rest := []) ⟨hx, hb, hml, hown, hts⟩ (c_Mo_weightOf (l := l) hR hZ st a.toNatClampNeg (by omega) _) ⟨callB_of 1 hts (gd_c wd_637) rfl rfl rfl (hts _ wd_9) (hts _ wd_634) hd_Mo_weightOf ⟨Nat.le_of_ble_eq_true rfl, Nat.le_of_ble_eq_true rfl⟩, hts _ wd_636, hts _ wp_11⟩ ⟨rPc_blind _ _ _ _ _ _ _ _, rg_rec hK hP 0 (by omega) mgx_M rfl, rPc_at _ hP hK hN⟩ rfl rfl hl.1 rfl (lv_room (Nat.le_of_ble_eq_true rfl)) d_Mo_bunker_28 ⟨Nat.zero_le _, Nat.zero_le _⟩) hS (fun H locs hP hS => ?_)
        refine lv_iload_n (pc := 31) hx hb d_Mo_bunker_31 rfl (lv_at hl 3 rfl) ?_
        refine lv_iadd (pc := 32) hx hb d_Mo_bunker_32 ?_
        refine lv_ldc (v := 100000) (pc := 33) hx hb hown (hts _ wd_638) d_Mo_bunker_33 ?_
        refine lv_icmp_le (tgt := 40) (pc := 35) hx hb d_Mo_bunker_35 (by decide) (fun c_4 => ?_) (fun c_4 => ?_)
        · refine lv_aload_n (pc := 40) hx hb d_Mo_bunker_40 rfl (lv_at hl 0 rfl) ?_
          refine rg_get (C := R_Mo) (T := T_Mo) (N := 28) (v := .ref (ad 3)) (pc := 41) hx hb hts i_Mo hown hK hP 0 (by omega) mgx_M rfl 3 (by decide) (hts _ wd_531) rfl d_Mo_bunker_41 ?_
          refine lv_iconst (v := 4) (pc := 44) hx hb d_Mo_bunker_44 (by decide) ?_
          refine lv_iload_n (pc := 45) hx hb d_Mo_bunker_45 rfl (lv_at hl 1 rfl) ?_
          refine lv_imul (pc := 46) hx hb d_Mo_bunker_46 ?_
          rw [show (4 * (nI a.toNatClampNeg) : Int32) = nI (4 * a.toNatClampNeg) from pk_mul _ _]
          refine lv_iload_n (pc := 47) hx hb d_Mo_bunker_47 rfl (lv_at hl 2 rfl) ?_
          refine lv_iadd (pc := 48) hx hb d_Mo_bunker_48 ?_
          rw [show ((nI (4 * a.toNatClampNeg)) + (nI b.toNatClampNeg) : Int32) = nI ((4 * a.toNatClampNeg) + b.toNatClampNeg) from nI_add _ _]
          refine lv_dup2_11 (pc := 49) hx hb d_Mo_bunker_49 rfl rfl ?_
          refine rg_iald (pc := 50) hx hb hK hP 3 (by omega) 0 mgx_cells rfl ((4 * a.toNatClampNeg) + b.toNatClampNeg) (by omega) (by omega) rfl d_Mo_bunker_50 ?_
          refine lv_iload_n (pc := 51) hx hb d_Mo_bunker_51 rfl (lv_at hl 3 rfl) ?_
          refine lv_iadd (pc := 52) hx hb d_Mo_bunker_52 ?_
          refine rg_iast (pc := 53) hx hb hK hR hP hS 3 (by omega) 0 mgx_cells rfl ((4 * a.toNatClampNeg) + b.toNatClampNeg) (by omega) (by omega) rfl d_Mo_bunker_53 (mgx_cells_w ((4 * a.toNatClampNeg) + b.toNatClampNeg) ((ms_cl st ((4 * a.toNatClampNeg) + b.toNatClampNeg)) + d)) (fun H locs hP hS => ?_)
          refine lv_aload_n (pc := 54) hx hb d_Mo_bunker_54 rfl (lv_at hl 0 rfl) ?_
          refine rg_get (C := R_Mo) (T := T_Mo) (N := 28) (v := .ref (ad 17)) (pc := 55) hx hb hts i_Mo hown hK hP 0 (by omega) mgx_M rfl 25 (by decide) (hts _ wd_553) rfl d_Mo_bunker_55 ?_
          refine lv_iconst (v := 0) (pc := 58) hx hb d_Mo_bunker_58 (by decide) ?_
          refine lv_dup2_11 (pc := 59) hx hb d_Mo_bunker_59 rfl rfl ?_
          refine rg_lald (pc := 60) hx hb hK hP 17 (by omega) 1 mgx_all rfl 0 (by omega) (by omega) rfl d_Mo_bunker_60 ?_
          refine lv_iload_n (pc := 61) hx hb d_Mo_bunker_61 rfl (lv_at hl 3 rfl) ?_
          refine lv_i2l (pc := 62) hx hb d_Mo_bunker_62 rfl ?_
          refine lv_ladd (pc := 63) hx hb d_Mo_bunker_63 ?_
          refine rg_last (pc := 64) hx hb hK hR hP hS 17 (by omega) 1 mgx_all rfl 0 (by omega) (by omega) rfl d_Mo_bunker_64 (mgx_all_w 0 ((ms_al (mp_cl st ((4 * a.toNatClampNeg) + b.toNatClampNeg) ((ms_cl st ((4 * a.toNatClampNeg) + b.toNatClampNeg)) + d)) 0) + d.toInt64)) (fun H locs hP hS => ?_)
          refine lv_iconst (v := 1) (pc := 65) hx hb d_Mo_bunker_65 (by decide) ?_
          have e9 : f_Mo_bunker Z st a b d = (1, mp_al (mp_cl st ((4 * a.toNatClampNeg) + b.toNatClampNeg) ((ms_cl st ((4 * a.toNatClampNeg) + b.toNatClampNeg)) + d)) 0 ((ms_al (mp_cl st ((4 * a.toNatClampNeg) + b.toNatClampNeg) ((ms_cl st ((4 * a.toNatClampNeg) + b.toNatClampNeg)) + d)) 0) + d.toInt64)) := by unfold f_Mo_bunker; rw [if_neg c_1, if_neg c_2, if_neg c_3, if_pos c_4]
          exact rg_zret (pc := 66) hx hb hr hlocks rfl hP hS ⟨by rw [e9], by rw [e9]⟩ d_Mo_bunker_66
        · refine lv_iconst (v := 0) (pc := 38) hx hb d_Mo_bunker_38 (by decide) ?_
          have e9 : f_Mo_bunker Z st a b d = (0, st) := by unfold f_Mo_bunker; rw [if_neg c_1, if_neg c_2, if_neg c_3, if_neg c_4]
          exact rg_zret (pc := 39) hx hb hr hlocks rfl hP hS ⟨by rw [e9], by rw [e9]⟩ d_Mo_bunker_39

def f_Mo_crane (Z : Nat) (st : mS) (a : Int32) : Int32 × mS :=
  if (f_Mo_isIn a.toInt64 1 10000) = 0 then
    (0, st)
  else
    (1, mp_cr st a)
set_option maxRecDepth 100000 in
set_option maxHeartbeats 4000000 in
theorem c_Mo_crane {l : Launch} {D : va_G} {cA : Nat → ClassId} {Z : Nat} {ad : Nat → Nat} (hR : rD 19 ad) (hZ : 1 ≤ Z ∧ Z ≤ 6) (st : mS) (a : Int32) : RI l y_Mo_crane (mws y_Mo_crane b_Mo_crane 2 (some .boolean)) ({ frames := 1, cells := 0, slots := 0, locals := 25 } : Room) D clG (tyM cA) 19 ad (mgx Z ad cA (st)) [.ref (ad 0), .int a] (f_Mo_crane Z st a).1 (mgx Z ad cA ((f_Mo_crane Z st a).2)) := by
  refine RI_of (cc := b_Mo_crane) (maxL := 2) (ret := (some .boolean)) (by decide) (Nat.le_of_ble_eq_true rfl) ?_
  intro p e s m args below meth c ls C hK hP hS hl
  obtain ⟨⟨hx, hb, hml, hown, hts⟩, hr, hlocks, hN⟩ := id C
  have hown : s.vm.findClass R_Mo = some m.cls := hown
  have hr : meth.sig.returnType = (some .boolean) := hr
  have hl : lv_has ls 2 [(0, .ref (ad 0)), (1, .int a)] := hl
  refine lv_iload_n (pc := 0) hx hb d_Mo_crane_0 rfl (lv_at hl 1 rfl) ?_
  refine lv_i2l (pc := 1) hx hb d_Mo_crane_1 rfl ?_
  refine lv_lconst (v := 1) (pc := 2) hx hb d_Mo_crane_2 (by decide) ?_
  refine lv_ldc2 (v := 10000) (pc := 3) hx hb hown (hts _ wd_643) d_Mo_crane_3 ?_
  refine rg_ci (pc := 6) (va_runS (As := [.long a.toInt64, .long 1, .long 10000]) (rest := []) ⟨hx, hb, hml, hown, hts⟩ (c_Mo_isIn (l := l) a.toInt64 1 10000 _) ⟨callB_of 3 hts (gd_c wd_625) rfl rfl rfl (hts _ wd_9) (hts _ wd_623) hd_Mo_isIn ⟨Nat.le_of_ble_eq_true rfl, Nat.le_of_ble_eq_true rfl⟩, hts _ wd_624⟩ ⟨rPc_blind _ _ _ _ _ _ _ _, rPc_at _ hP hK hN⟩ rfl rfl hl.1 rfl (lv_room (Nat.le_of_ble_eq_true rfl)) d_Mo_crane_6 ⟨Nat.zero_le _, Nat.zero_le _⟩) hS (fun H locs hP hS => ?_)
  refine lv_if_ne (tgt := 14) (pc := 9) hx hb d_Mo_crane_9 (by decide) (fun c_1 => ?_) (fun c_1 => ?_)
  · refine lv_aload_n (pc := 14) hx hb d_Mo_crane_14 rfl (lv_at hl 0 rfl) ?_
    refine lv_iload_n (pc := 15) hx hb d_Mo_crane_15 rfl (lv_at hl 1 rfl) ?_
    refine rg_put (C := R_Mo) (T := T_Mo) (N := 28) (pc := 16) hx hb hts i_Mo t_Mo t_Mo_ok n_Mo hown hK hR hP hS 0 (by omega) mgx_M rfl 4 (by decide) (hts _ wd_532) rfl rfl rfl (Nat.le_of_ble_eq_true rfl) d_Mo_crane_16 (mgx_M_cr a) (fun H locs hP hS => ?_)
    refine lv_iconst (v := 1) (pc := 19) hx hb d_Mo_crane_19 (by decide) ?_
    have e9 : f_Mo_crane Z st a = (1, mp_cr st a) := by unfold f_Mo_crane; rw [if_neg c_1]
    exact rg_zret (pc := 20) hx hb hr hlocks rfl hP hS ⟨by rw [e9], by rw [e9]⟩ d_Mo_crane_20
  · refine lv_iconst (v := 0) (pc := 12) hx hb d_Mo_crane_12 (by decide) ?_
    have e9 : f_Mo_crane Z st a = (0, st) := by unfold f_Mo_crane; rw [if_pos c_1]
    exact rg_zret (pc := 13) hx hb hr hlocks rfl hP hS ⟨by rw [e9], by rw [e9]⟩ d_Mo_crane_13

def f_Mo_share (Z : Nat) (st : mS) (a : Int32) (b : Int32) : Int32 :=
  if (f_Mo_isCell a) = 0 then
    (-1)
  else
    if (f_Mo_isKind b) = 0 then
      (-1)
    else
      ms_cl st ((4 * a.toNatClampNeg) + b.toNatClampNeg)
set_option maxRecDepth 100000 in
set_option maxHeartbeats 4000000 in
theorem c_Mo_share {l : Launch} {D : va_G} {cA : Nat → ClassId} {Z : Nat} {ad : Nat → Nat} (hR : rD 19 ad) (hZ : 1 ≤ Z ∧ Z ≤ 6) (st : mS) (a : Int32) (b : Int32) : RI l y_Mo_share (mws y_Mo_share b_Mo_share 3 (some .int)) ({ frames := 1, cells := 0, slots := 0, locals := 20 } : Room) D clG (tyM cA) 19 ad (mgx Z ad cA (st)) [.ref (ad 0), .int a, .int b] (f_Mo_share Z st a b) (mgx Z ad cA (st)) := by
  refine RI_of (cc := b_Mo_share) (maxL := 3) (ret := (some .int)) (by decide) (Nat.le_of_ble_eq_true rfl) ?_
  intro p e s m args below meth c ls C hK hP hS hl
  obtain ⟨⟨hx, hb, hml, hown, hts⟩, hr, hlocks, hN⟩ := id C
  have hown : s.vm.findClass R_Mo = some m.cls := hown
  have hr : meth.sig.returnType = (some .int) := hr
  have hl : lv_has ls 3 [(0, .ref (ad 0)), (1, .int a), (2, .int b)] := hl
  refine lv_iload_n (pc := 0) hx hb d_Mo_share_0 rfl (lv_at hl 1 rfl) ?_
  refine rg_ci (pc := 1) (va_runS (As := [.int a]) (rest := []) ⟨hx, hb, hml, hown, hts⟩ (c_Mo_isCell (l := l) a _) ⟨callB_of 1 hts (gd_c wd_632) rfl rfl rfl (hts _ wd_9) (hts _ wd_630) hd_Mo_isCell ⟨Nat.le_of_ble_eq_true rfl, Nat.le_of_ble_eq_true rfl⟩, hts _ wd_631⟩ ⟨rPc_blind _ _ _ _ _ _ _ _, rPc_at _ hP hK hN⟩ rfl rfl hl.1 rfl (lv_room (Nat.le_of_ble_eq_true rfl)) d_Mo_share_1 ⟨Nat.zero_le _, Nat.zero_le _⟩) hS (fun H locs hP hS => ?_)
  refine lv_if_eq (tgt := 27) (pc := 4) hx hb d_Mo_share_4 (by decide) (fun c_1 => ?_) (fun c_1 => ?_)
  · refine lv_iconst (v := (-1)) (pc := 27) hx hb d_Mo_share_27 (by decide) ?_
    have e9 : f_Mo_share Z st a b = (-1) := by unfold f_Mo_share; rw [if_pos c_1]
    exact rg_iret (pc := 28) hx hb hr hlocks hP hS ⟨e9.symm, rfl⟩ d_Mo_share_28
  · refine lv_iload_n (pc := 7) hx hb d_Mo_share_7 rfl (lv_at hl 2 rfl) ?_
    refine rg_ci (pc := 8) (va_runS (As := [.int b]) (rest := []) ⟨hx, hb, hml, hown, hts⟩ (c_Mo_isKind (l := l) b _) ⟨callB_of 1 hts (gd_c wd_621) rfl rfl rfl (hts _ wd_9) (hts _ wd_619) hd_Mo_isKind ⟨Nat.le_of_ble_eq_true rfl, Nat.le_of_ble_eq_true rfl⟩, hts _ wd_620⟩ ⟨rPc_blind _ _ _ _ _ _ _ _, rPc_at _ hP hK hN⟩ rfl rfl hl.1 rfl (lv_room (Nat.le_of_ble_eq_true rfl)) d_Mo_share_8 ⟨Nat.zero_le _, Nat.zero_le _⟩) hS (fun H locs hP hS => ?_)
    refine lv_if_eq (tgt := 27) (pc := 11) hx hb d_Mo_share_11 (by decide) (fun c_2 => ?_) (fun c_2 => ?_)
    · refine lv_iconst (v := (-1)) (pc := 27) hx hb d_Mo_share_27 (by decide) ?_
      have e9 : f_Mo_share Z st a b = (-1) := by unfold f_Mo_share; rw [if_neg c_1, if_pos c_2]
      exact rg_iret (pc := 28) hx hb hr hlocks hP hS ⟨e9.symm, rfl⟩ d_Mo_share_28
    · have hax := mat_isCell c_1
      have hax1 := hax.1
      rw [hax.2] at hl
      have hbx := mat_isKind c_2
      have hbx1 := hbx.1
      rw [hbx.2] at hl
      refine lv_aload_n (pc := 14) hx hb d_Mo_share_14 rfl (lv_at hl 0 rfl) ?_
      refine rg_get (C := R_Mo) (T := T_Mo) (N := 28) (v := .ref (ad 3)) (pc := 15) hx hb hts i_Mo hown hK hP 0 (by omega) mgx_M rfl 3 (by decide) (hts _ wd_531) rfl d_Mo_share_15 ?_
      refine lv_iconst (v := 4) (pc := 18) hx hb d_Mo_share_18 (by decide) ?_
      refine lv_iload_n (pc := 19) hx hb d_Mo_share_19 rfl (lv_at hl 1 rfl) ?_
      refine lv_imul (pc := 20) hx hb d_Mo_share_20 ?_
      rw [show (4 * (nI a.toNatClampNeg) : Int32) = nI (4 * a.toNatClampNeg) from pk_mul _ _]
      refine lv_iload_n (pc := 21) hx hb d_Mo_share_21 rfl (lv_at hl 2 rfl) ?_
      refine lv_iadd (pc := 22) hx hb d_Mo_share_22 ?_
      rw [show ((nI (4 * a.toNatClampNeg)) + (nI b.toNatClampNeg) : Int32) = nI ((4 * a.toNatClampNeg) + b.toNatClampNeg) from nI_add _ _]
      refine rg_iald (pc := 23) hx hb hK hP 3 (by omega) 0 mgx_cells rfl ((4 * a.toNatClampNeg) + b.toNatClampNeg) (by omega) (by omega) rfl d_Mo_share_23 ?_
      refine lv_goto (tgt := 28) (pc := 24) hx hb d_Mo_share_24 (by decide) ?_
      have e9 : f_Mo_share Z st a b = ms_cl st ((4 * a.toNatClampNeg) + b.toNatClampNeg) := by unfold f_Mo_share; rw [if_neg c_1, if_neg c_2]
      exact rg_iret (pc := 28) hx hb hr hlocks hP hS ⟨e9.symm, rfl⟩ d_Mo_share_28

def f_Mo_air (Z : Nat) (st : mS) (a : Int32) (b : Int32) (d : Int32) : Int32 × mS :=
  if (f_Mo_isZone Z st a) = 0 then
    (0, st)
  else
    if (f_Mo_isIn b.toInt64 0 100000) = 0 then
      (0, st)
    else
      if (f_Mo_isIn d.toInt64 0 1000) = 0 then
        (0, st)
      else
        (1, mp_dr (mp_ai st a.toNatClampNeg b) a.toNatClampNeg d)
set_option maxRecDepth 100000 in
set_option maxHeartbeats 4000000 in
theorem c_Mo_air {l : Launch} {D : va_G} {cA : Nat → ClassId} {Z : Nat} {ad : Nat → Nat} (hR : rD 19 ad) (hZ : 1 ≤ Z ∧ Z ≤ 6) (st : mS) (a : Int32) (b : Int32) (d : Int32) : RI l y_Mo_air (mws y_Mo_air b_Mo_air 4 (some .boolean)) ({ frames := 1, cells := 0, slots := 0, locals := 25 } : Room) D clG (tyM cA) 19 ad (mgx Z ad cA (st)) [.ref (ad 0), .int a, .int b, .int d] (f_Mo_air Z st a b d).1 (mgx Z ad cA ((f_Mo_air Z st a b d).2)) := by
  refine RI_of (cc := b_Mo_air) (maxL := 4) (ret := (some .boolean)) (by decide) (Nat.le_of_ble_eq_true rfl) ?_
  intro p e s m args below meth c ls C hK hP hS hl
  obtain ⟨⟨hx, hb, hml, hown, hts⟩, hr, hlocks, hN⟩ := id C
  have hown : s.vm.findClass R_Mo = some m.cls := hown
  have hr : meth.sig.returnType = (some .boolean) := hr
  have hl : lv_has ls 4 [(0, .ref (ad 0)), (1, .int a), (2, .int b), (3, .int d)] := hl
  refine lv_aload_n (pc := 0) hx hb d_Mo_air_0 rfl (lv_at hl 0 rfl) ?_
  refine lv_iload_n (pc := 1) hx hb d_Mo_air_1 rfl (lv_at hl 1 rfl) ?_
  refine rg_ci (pc := 2) (va_runV (As := [.int a]) (rest := []) ⟨hx, hb, hml, hown, hts⟩ (c_Mo_isZone (l := l) hR hZ st a _) ⟨callB_of 1 hts (gd_c wd_663) rfl rfl rfl (hts _ wd_9) (hts _ wd_660) hd_Mo_isZone ⟨Nat.le_of_ble_eq_true rfl, Nat.le_of_ble_eq_true rfl⟩, hts _ wd_662, hts _ wp_13⟩ ⟨rPc_blind _ _ _ _ _ _ _ _, rg_rec hK hP 0 (by omega) mgx_M rfl, rPc_at _ hP hK hN⟩ rfl rfl hl.1 rfl (lv_room (Nat.le_of_ble_eq_true rfl)) d_Mo_air_2 ⟨Nat.zero_le _, Nat.zero_le _⟩) hS (fun H locs hP hS => ?_)
  refine lv_if_eq (tgt := 32) (pc := 5) hx hb d_Mo_air_5 (by decide) (fun c_1 => ?_) (fun c_1 => ?_)
  · refine lv_iconst (v := 0) (pc := 32) hx hb d_Mo_air_32 (by decide) ?_
    have e9 : f_Mo_air Z st a b d = (0, st) := by unfold f_Mo_air; rw [if_pos c_1]
    exact rg_zret (pc := 33) hx hb hr hlocks rfl hP hS ⟨by rw [e9], by rw [e9]⟩ d_Mo_air_33
  · refine lv_iload_n (pc := 8) hx hb d_Mo_air_8 rfl (lv_at hl 2 rfl) ?_
    refine lv_i2l (pc := 9) hx hb d_Mo_air_9 rfl ?_
    refine lv_lconst (v := 0) (pc := 10) hx hb d_Mo_air_10 (by decide) ?_
    refine lv_ldc2 (v := 100000) (pc := 11) hx hb hown (hts _ wd_633) d_Mo_air_11 ?_
    refine rg_ci (pc := 14) (va_runS (As := [.long b.toInt64, .long 0, .long 100000]) (rest := []) ⟨hx, hb, hml, hown, hts⟩ (c_Mo_isIn (l := l) b.toInt64 0 100000 _) ⟨callB_of 3 hts (gd_c wd_625) rfl rfl rfl (hts _ wd_9) (hts _ wd_623) hd_Mo_isIn ⟨Nat.le_of_ble_eq_true rfl, Nat.le_of_ble_eq_true rfl⟩, hts _ wd_624⟩ ⟨rPc_blind _ _ _ _ _ _ _ _, rPc_at _ hP hK hN⟩ rfl rfl hl.1 rfl (lv_room (Nat.le_of_ble_eq_true rfl)) d_Mo_air_14 ⟨Nat.zero_le _, Nat.zero_le _⟩) hS (fun H locs hP hS => ?_)
    refine lv_if_eq (tgt := 32) (pc := 17) hx hb d_Mo_air_17 (by decide) (fun c_2 => ?_) (fun c_2 => ?_)
    · refine lv_iconst (v := 0) (pc := 32) hx hb d_Mo_air_32 (by decide) ?_
      have e9 : f_Mo_air Z st a b d = (0, st) := by unfold f_Mo_air; rw [if_neg c_1, if_pos c_2]
      exact rg_zret (pc := 33) hx hb hr hlocks rfl hP hS ⟨by rw [e9], by rw [e9]⟩ d_Mo_air_33
    · refine lv_iload_n (pc := 20) hx hb d_Mo_air_20 rfl (lv_at hl 3 rfl) ?_
      refine lv_i2l (pc := 21) hx hb d_Mo_air_21 rfl ?_
      refine lv_lconst (v := 0) (pc := 22) hx hb d_Mo_air_22 (by decide) ?_
      refine lv_ldc2 (v := 1000) (pc := 23) hx hb hown (hts _ wd_622) d_Mo_air_23 ?_
      refine rg_ci (pc := 26) (va_runS (As := [.long d.toInt64, .long 0, .long 1000]) (rest := []) ⟨hx, hb, hml, hown, hts⟩ (c_Mo_isIn (l := l) d.toInt64 0 1000 _) ⟨callB_of 3 hts (gd_c wd_625) rfl rfl rfl (hts _ wd_9) (hts _ wd_623) hd_Mo_isIn ⟨Nat.le_of_ble_eq_true rfl, Nat.le_of_ble_eq_true rfl⟩, hts _ wd_624⟩ ⟨rPc_blind _ _ _ _ _ _ _ _, rPc_at _ hP hK hN⟩ rfl rfl hl.1 rfl (lv_room (Nat.le_of_ble_eq_true rfl)) d_Mo_air_26 ⟨Nat.zero_le _, Nat.zero_le _⟩) hS (fun H locs hP hS => ?_)
      refine lv_if_ne (tgt := 34) (pc := 29) hx hb d_Mo_air_29 (by decide) (fun c_3 => ?_) (fun c_3 => ?_)
      · have hax := mat_isZone hZ c_1
        have hax1 := hax.1
        rw [hax.2] at hl
        refine lv_aload_n (pc := 34) hx hb d_Mo_air_34 rfl (lv_at hl 0 rfl) ?_
        refine rg_get (C := R_Mo) (T := T_Mo) (N := 28) (v := .ref (ad 8)) (pc := 35) hx hb hts i_Mo hown hK hP 0 (by omega) mgx_M rfl 9 (by decide) (hts _ wd_537) rfl d_Mo_air_35 ?_
        refine lv_iload_n (pc := 38) hx hb d_Mo_air_38 rfl (lv_at hl 1 rfl) ?_
        refine lv_iload_n (pc := 39) hx hb d_Mo_air_39 rfl (lv_at hl 2 rfl) ?_
        refine rg_iast (pc := 40) hx hb hK hR hP hS 8 (by omega) 0 mgx_airs rfl a.toNatClampNeg (by omega) (by omega) rfl d_Mo_air_40 (mgx_airs_w a.toNatClampNeg b) (fun H locs hP hS => ?_)
        refine lv_aload_n (pc := 41) hx hb d_Mo_air_41 rfl (lv_at hl 0 rfl) ?_
        refine rg_get (C := R_Mo) (T := T_Mo) (N := 28) (v := .ref (ad 9)) (pc := 42) hx hb hts i_Mo hown hK hP 0 (by omega) mgx_M rfl 10 (by decide) (hts _ wd_538) rfl d_Mo_air_42 ?_
        refine lv_iload_n (pc := 45) hx hb d_Mo_air_45 rfl (lv_at hl 1 rfl) ?_
        refine lv_iload_n (pc := 46) hx hb d_Mo_air_46 rfl (lv_at hl 3 rfl) ?_
        refine rg_iast (pc := 47) hx hb hK hR hP hS 9 (by omega) 0 mgx_dryings rfl a.toNatClampNeg (by omega) (by omega) rfl d_Mo_air_47 (mgx_dryings_w a.toNatClampNeg d) (fun H locs hP hS => ?_)
        refine lv_iconst (v := 1) (pc := 48) hx hb d_Mo_air_48 (by decide) ?_
        have e9 : f_Mo_air Z st a b d = (1, mp_dr (mp_ai st a.toNatClampNeg b) a.toNatClampNeg d) := by unfold f_Mo_air; rw [if_neg c_1, if_neg c_2, if_neg c_3]
        exact rg_zret (pc := 49) hx hb hr hlocks rfl hP hS ⟨by rw [e9], by rw [e9]⟩ d_Mo_air_49
      · refine lv_iconst (v := 0) (pc := 32) hx hb d_Mo_air_32 (by decide) ?_
        have e9 : f_Mo_air Z st a b d = (0, st) := by unfold f_Mo_air; rw [if_neg c_1, if_neg c_2, if_pos c_3]
        exact rg_zret (pc := 33) hx hb hr hlocks rfl hP hS ⟨by rw [e9], by rw [e9]⟩ d_Mo_air_33

def f_Mo_set (Z : Nat) (st : mS) (a : Int32) (b : Int32) : Int32 × mS :=
  if (f_Mo_isIn a.toInt64 0 1000) = 0 then
    (0, st)
  else
    if (f_Mo_isIn b.toInt64 0 1000) = 0 then
      (0, st)
    else
      (1, mp_bo (mp_mv st a) b)
set_option maxRecDepth 100000 in
set_option maxHeartbeats 4000000 in
theorem c_Mo_set {l : Launch} {D : va_G} {cA : Nat → ClassId} {Z : Nat} {ad : Nat → Nat} (hR : rD 19 ad) (hZ : 1 ≤ Z ∧ Z ≤ 6) (st : mS) (a : Int32) (b : Int32) : RI l y_Mo_set (mws y_Mo_set b_Mo_set 3 (some .boolean)) ({ frames := 1, cells := 0, slots := 0, locals := 25 } : Room) D clG (tyM cA) 19 ad (mgx Z ad cA (st)) [.ref (ad 0), .int a, .int b] (f_Mo_set Z st a b).1 (mgx Z ad cA ((f_Mo_set Z st a b).2)) := by
  refine RI_of (cc := b_Mo_set) (maxL := 3) (ret := (some .boolean)) (by decide) (Nat.le_of_ble_eq_true rfl) ?_
  intro p e s m args below meth c ls C hK hP hS hl
  obtain ⟨⟨hx, hb, hml, hown, hts⟩, hr, hlocks, hN⟩ := id C
  have hown : s.vm.findClass R_Mo = some m.cls := hown
  have hr : meth.sig.returnType = (some .boolean) := hr
  have hl : lv_has ls 3 [(0, .ref (ad 0)), (1, .int a), (2, .int b)] := hl
  refine lv_iload_n (pc := 0) hx hb d_Mo_set_0 rfl (lv_at hl 1 rfl) ?_
  refine lv_i2l (pc := 1) hx hb d_Mo_set_1 rfl ?_
  refine lv_lconst (v := 0) (pc := 2) hx hb d_Mo_set_2 (by decide) ?_
  refine lv_ldc2 (v := 1000) (pc := 3) hx hb hown (hts _ wd_622) d_Mo_set_3 ?_
  refine rg_ci (pc := 6) (va_runS (As := [.long a.toInt64, .long 0, .long 1000]) (rest := []) ⟨hx, hb, hml, hown, hts⟩ (c_Mo_isIn (l := l) a.toInt64 0 1000 _) ⟨callB_of 3 hts (gd_c wd_625) rfl rfl rfl (hts _ wd_9) (hts _ wd_623) hd_Mo_isIn ⟨Nat.le_of_ble_eq_true rfl, Nat.le_of_ble_eq_true rfl⟩, hts _ wd_624⟩ ⟨rPc_blind _ _ _ _ _ _ _ _, rPc_at _ hP hK hN⟩ rfl rfl hl.1 rfl (lv_room (Nat.le_of_ble_eq_true rfl)) d_Mo_set_6 ⟨Nat.zero_le _, Nat.zero_le _⟩) hS (fun H locs hP hS => ?_)
  refine lv_if_eq (tgt := 24) (pc := 9) hx hb d_Mo_set_9 (by decide) (fun c_1 => ?_) (fun c_1 => ?_)
  · refine lv_iconst (v := 0) (pc := 24) hx hb d_Mo_set_24 (by decide) ?_
    have e9 : f_Mo_set Z st a b = (0, st) := by unfold f_Mo_set; rw [if_pos c_1]
    exact rg_zret (pc := 25) hx hb hr hlocks rfl hP hS ⟨by rw [e9], by rw [e9]⟩ d_Mo_set_25
  · refine lv_iload_n (pc := 12) hx hb d_Mo_set_12 rfl (lv_at hl 2 rfl) ?_
    refine lv_i2l (pc := 13) hx hb d_Mo_set_13 rfl ?_
    refine lv_lconst (v := 0) (pc := 14) hx hb d_Mo_set_14 (by decide) ?_
    refine lv_ldc2 (v := 1000) (pc := 15) hx hb hown (hts _ wd_622) d_Mo_set_15 ?_
    refine rg_ci (pc := 18) (va_runS (As := [.long b.toInt64, .long 0, .long 1000]) (rest := []) ⟨hx, hb, hml, hown, hts⟩ (c_Mo_isIn (l := l) b.toInt64 0 1000 _) ⟨callB_of 3 hts (gd_c wd_625) rfl rfl rfl (hts _ wd_9) (hts _ wd_623) hd_Mo_isIn ⟨Nat.le_of_ble_eq_true rfl, Nat.le_of_ble_eq_true rfl⟩, hts _ wd_624⟩ ⟨rPc_blind _ _ _ _ _ _ _ _, rPc_at _ hP hK hN⟩ rfl rfl hl.1 rfl (lv_room (Nat.le_of_ble_eq_true rfl)) d_Mo_set_18 ⟨Nat.zero_le _, Nat.zero_le _⟩) hS (fun H locs hP hS => ?_)
    refine lv_if_ne (tgt := 26) (pc := 21) hx hb d_Mo_set_21 (by decide) (fun c_2 => ?_) (fun c_2 => ?_)
    · refine lv_aload_n (pc := 26) hx hb d_Mo_set_26 rfl (lv_at hl 0 rfl) ?_
      refine lv_iload_n (pc := 27) hx hb d_Mo_set_27 rfl (lv_at hl 1 rfl) ?_
      refine rg_put (C := R_Mo) (T := T_Mo) (N := 28) (pc := 28) hx hb hts i_Mo t_Mo t_Mo_ok n_Mo hown hK hR hP hS 0 (by omega) mgx_M rfl 11 (by decide) (hts _ wd_539) rfl rfl rfl (Nat.le_of_ble_eq_true rfl) d_Mo_set_28 (mgx_M_mv a) (fun H locs hP hS => ?_)
      refine lv_aload_n (pc := 31) hx hb d_Mo_set_31 rfl (lv_at hl 0 rfl) ?_
      refine lv_iload_n (pc := 32) hx hb d_Mo_set_32 rfl (lv_at hl 2 rfl) ?_
      refine rg_put (C := R_Mo) (T := T_Mo) (N := 28) (pc := 33) hx hb hts i_Mo t_Mo t_Mo_ok n_Mo hown hK hR hP hS 0 (by omega) mgx_M rfl 12 (by decide) (hts _ wd_540) rfl rfl rfl (Nat.le_of_ble_eq_true rfl) d_Mo_set_33 (mgx_M_bo b) (fun H locs hP hS => ?_)
      refine lv_iconst (v := 1) (pc := 36) hx hb d_Mo_set_36 (by decide) ?_
      have e9 : f_Mo_set Z st a b = (1, mp_bo (mp_mv st a) b) := by unfold f_Mo_set; rw [if_neg c_1, if_neg c_2]
      exact rg_zret (pc := 37) hx hb hr hlocks rfl hP hS ⟨by rw [e9], by rw [e9]⟩ d_Mo_set_37
    · refine lv_iconst (v := 0) (pc := 24) hx hb d_Mo_set_24 (by decide) ?_
      have e9 : f_Mo_set Z st a b = (0, st) := by unfold f_Mo_set; rw [if_neg c_1, if_pos c_2]
      exact rg_zret (pc := 25) hx hb hr hlocks rfl hP hS ⟨by rw [e9], by rw [e9]⟩ d_Mo_set_25

def f_Mo_control (Z : Nat) (st : mS) (a : Int32) (b : Int32) (d : Int32) (f4 : Int32) : Int32 × mS :=
  if (f_Mo_isIn a.toInt64 0 1) = 0 then
    (0, st)
  else
    if (f_Mo_isIn b.toInt64 0 1000000000) = 0 then
      (0, st)
    else
      if (f_Mo_isIn d.toInt64 (-1000) 1000) = 0 then
        (0, st)
      else
        if (f_Mo_isIn f4.toInt64 (-1000) 1000) = 0 then
          (0, st)
        else
          (1, mp_ou (mp_su (mp_bs (mp_bn (mp_tg (mp_hc st a.toNatClampNeg 1) a.toNatClampNeg b) a.toNatClampNeg d) a.toNatClampNeg f4) a.toNatClampNeg 0) a.toNatClampNeg 0)
set_option maxRecDepth 100000 in
set_option maxHeartbeats 4000000 in
theorem c_Mo_control {l : Launch} {D : va_G} {cA : Nat → ClassId} {Z : Nat} {ad : Nat → Nat} (hR : rD 19 ad) (hZ : 1 ≤ Z ∧ Z ≤ 6) (st : mS) (a : Int32) (b : Int32) (d : Int32) (f4 : Int32) : RI l y_Mo_control (mws y_Mo_control b_Mo_control 5 (some .boolean)) ({ frames := 1, cells := 0, slots := 0, locals := 25 } : Room) D clG (tyM cA) 19 ad (mgx Z ad cA (st)) [.ref (ad 0), .int a, .int b, .int d, .int f4] (f_Mo_control Z st a b d f4).1 (mgx Z ad cA ((f_Mo_control Z st a b d f4).2)) := by
  refine RI_of (cc := b_Mo_control) (maxL := 5) (ret := (some .boolean)) (by decide) (Nat.le_of_ble_eq_true rfl) ?_
  intro p e s m args below meth c ls C hK hP hS hl
  obtain ⟨⟨hx, hb, hml, hown, hts⟩, hr, hlocks, hN⟩ := id C
  have hown : s.vm.findClass R_Mo = some m.cls := hown
  have hr : meth.sig.returnType = (some .boolean) := hr
  have hl : lv_has ls 5 [(0, .ref (ad 0)), (1, .int a), (2, .int b), (3, .int d), (4, .int f4)] := hl
  refine lv_iload_n (pc := 0) hx hb d_Mo_control_0 rfl (lv_at hl 1 rfl) ?_
  refine lv_i2l (pc := 1) hx hb d_Mo_control_1 rfl ?_
  refine lv_lconst (v := 0) (pc := 2) hx hb d_Mo_control_2 (by decide) ?_
  refine lv_lconst (v := 1) (pc := 3) hx hb d_Mo_control_3 (by decide) ?_
  refine rg_ci (pc := 4) (va_runS (As := [.long a.toInt64, .long 0, .long 1]) (rest := []) ⟨hx, hb, hml, hown, hts⟩ (c_Mo_isIn (l := l) a.toInt64 0 1 _) ⟨callB_of 3 hts (gd_c wd_625) rfl rfl rfl (hts _ wd_9) (hts _ wd_623) hd_Mo_isIn ⟨Nat.le_of_ble_eq_true rfl, Nat.le_of_ble_eq_true rfl⟩, hts _ wd_624⟩ ⟨rPc_blind _ _ _ _ _ _ _ _, rPc_at _ hP hK hN⟩ rfl rfl hl.1 rfl (lv_room (Nat.le_of_ble_eq_true rfl)) d_Mo_control_4 ⟨Nat.zero_le _, Nat.zero_le _⟩) hS (fun H locs hP hS => ?_)
  refine lv_if_eq (tgt := 51) (pc := 7) hx hb d_Mo_control_7 (by decide) (fun c_1 => ?_) (fun c_1 => ?_)
  · refine lv_iconst (v := 0) (pc := 51) hx hb d_Mo_control_51 (by decide) ?_
    have e9 : f_Mo_control Z st a b d f4 = (0, st) := by unfold f_Mo_control; rw [if_pos c_1]
    exact rg_zret (pc := 52) hx hb hr hlocks rfl hP hS ⟨by rw [e9], by rw [e9]⟩ d_Mo_control_52
  · refine lv_iload_n (pc := 10) hx hb d_Mo_control_10 rfl (lv_at hl 2 rfl) ?_
    refine lv_i2l (pc := 11) hx hb d_Mo_control_11 rfl ?_
    refine lv_lconst (v := 0) (pc := 12) hx hb d_Mo_control_12 (by decide) ?_
    refine lv_ldc2 (v := 1000000000) (pc := 13) hx hb hown (hts _ wd_672) d_Mo_control_13 ?_
    refine rg_ci (pc := 16) (va_runS (As := [.long b.toInt64, .long 0, .long 1000000000]) (rest := []) ⟨hx, hb, hml, hown, hts⟩ (c_Mo_isIn (l := l) b.toInt64 0 1000000000 _) ⟨callB_of 3 hts (gd_c wd_625) rfl rfl rfl (hts _ wd_9) (hts _ wd_623) hd_Mo_isIn ⟨Nat.le_of_ble_eq_true rfl, Nat.le_of_ble_eq_true rfl⟩, hts _ wd_624⟩ ⟨rPc_blind _ _ _ _ _ _ _ _, rPc_at _ hP hK hN⟩ rfl rfl hl.1 rfl (lv_room (Nat.le_of_ble_eq_true rfl)) d_Mo_control_16 ⟨Nat.zero_le _, Nat.zero_le _⟩) hS (fun H locs hP hS => ?_)
    refine lv_if_eq (tgt := 51) (pc := 19) hx hb d_Mo_control_19 (by decide) (fun c_2 => ?_) (fun c_2 => ?_)
    · refine lv_iconst (v := 0) (pc := 51) hx hb d_Mo_control_51 (by decide) ?_
      have e9 : f_Mo_control Z st a b d f4 = (0, st) := by unfold f_Mo_control; rw [if_neg c_1, if_pos c_2]
      exact rg_zret (pc := 52) hx hb hr hlocks rfl hP hS ⟨by rw [e9], by rw [e9]⟩ d_Mo_control_52
    · refine lv_iload_n (pc := 22) hx hb d_Mo_control_22 rfl (lv_at hl 3 rfl) ?_
      refine lv_i2l (pc := 23) hx hb d_Mo_control_23 rfl ?_
      refine lv_ldc2 (v := (-1000)) (pc := 24) hx hb hown (hts _ wd_673) d_Mo_control_24 ?_
      refine lv_ldc2 (v := 1000) (pc := 27) hx hb hown (hts _ wd_622) d_Mo_control_27 ?_
      refine rg_ci (pc := 30) (va_runS (As := [.long d.toInt64, .long (-1000), .long 1000]) (rest := []) ⟨hx, hb, hml, hown, hts⟩ (c_Mo_isIn (l := l) d.toInt64 (-1000) 1000 _) ⟨callB_of 3 hts (gd_c wd_625) rfl rfl rfl (hts _ wd_9) (hts _ wd_623) hd_Mo_isIn ⟨Nat.le_of_ble_eq_true rfl, Nat.le_of_ble_eq_true rfl⟩, hts _ wd_624⟩ ⟨rPc_blind _ _ _ _ _ _ _ _, rPc_at _ hP hK hN⟩ rfl rfl hl.1 rfl (lv_room (Nat.le_of_ble_eq_true rfl)) d_Mo_control_30 ⟨Nat.zero_le _, Nat.zero_le _⟩) hS (fun H locs hP hS => ?_)
      refine lv_if_eq (tgt := 51) (pc := 33) hx hb d_Mo_control_33 (by decide) (fun c_3 => ?_) (fun c_3 => ?_)
      · refine lv_iconst (v := 0) (pc := 51) hx hb d_Mo_control_51 (by decide) ?_
        have e9 : f_Mo_control Z st a b d f4 = (0, st) := by unfold f_Mo_control; rw [if_neg c_1, if_neg c_2, if_pos c_3]
        exact rg_zret (pc := 52) hx hb hr hlocks rfl hP hS ⟨by rw [e9], by rw [e9]⟩ d_Mo_control_52
      · refine lv_iload (pc := 36) hx hb d_Mo_control_36 (lv_at hl 4 rfl) ?_
        refine lv_i2l (pc := 38) hx hb d_Mo_control_38 rfl ?_
        refine lv_ldc2 (v := (-1000)) (pc := 39) hx hb hown (hts _ wd_673) d_Mo_control_39 ?_
        refine lv_ldc2 (v := 1000) (pc := 42) hx hb hown (hts _ wd_622) d_Mo_control_42 ?_
        refine rg_ci (pc := 45) (va_runS (As := [.long f4.toInt64, .long (-1000), .long 1000]) (rest := []) ⟨hx, hb, hml, hown, hts⟩ (c_Mo_isIn (l := l) f4.toInt64 (-1000) 1000 _) ⟨callB_of 3 hts (gd_c wd_625) rfl rfl rfl (hts _ wd_9) (hts _ wd_623) hd_Mo_isIn ⟨Nat.le_of_ble_eq_true rfl, Nat.le_of_ble_eq_true rfl⟩, hts _ wd_624⟩ ⟨rPc_blind _ _ _ _ _ _ _ _, rPc_at _ hP hK hN⟩ rfl rfl hl.1 rfl (lv_room (Nat.le_of_ble_eq_true rfl)) d_Mo_control_45 ⟨Nat.zero_le _, Nat.zero_le _⟩) hS (fun H locs hP hS => ?_)
        refine lv_if_ne (tgt := 53) (pc := 48) hx hb d_Mo_control_48 (by decide) (fun c_4 => ?_) (fun c_4 => ?_)
        · have hax := mat_isIn 1 (by decide) (by decide) c_1
          have hax1 := hax.1
          rw [hax.2] at hl
          refine lv_aload_n (pc := 53) hx hb d_Mo_control_53 rfl (lv_at hl 0 rfl) ?_
          refine rg_get (C := R_Mo) (T := T_Mo) (N := 28) (v := .ref (ad 10)) (pc := 54) hx hb hts i_Mo hown hK hP 0 (by omega) mgx_M rfl 13 (by decide) (hts _ wd_541) rfl d_Mo_control_54 ?_
          refine lv_iload_n (pc := 57) hx hb d_Mo_control_57 rfl (lv_at hl 1 rfl) ?_
          refine lv_iconst (v := 1) (pc := 58) hx hb d_Mo_control_58 (by decide) ?_
          refine rg_zast (pc := 59) hx hb hK hR hP hS 10 (by omega) 2 mgx_hasControl rfl a.toNatClampNeg (by omega) (by omega) rfl (by decide) d_Mo_control_59 (mgx_hasControl_w a.toNatClampNeg 1) (fun H locs hP hS => ?_)
          refine lv_aload_n (pc := 60) hx hb d_Mo_control_60 rfl (lv_at hl 0 rfl) ?_
          refine rg_get (C := R_Mo) (T := T_Mo) (N := 28) (v := .ref (ad 11)) (pc := 61) hx hb hts i_Mo hown hK hP 0 (by omega) mgx_M rfl 14 (by decide) (hts _ wd_542) rfl d_Mo_control_61 ?_
          refine lv_iload_n (pc := 64) hx hb d_Mo_control_64 rfl (lv_at hl 1 rfl) ?_
          refine lv_iload_n (pc := 65) hx hb d_Mo_control_65 rfl (lv_at hl 2 rfl) ?_
          refine rg_iast (pc := 66) hx hb hK hR hP hS 11 (by omega) 0 mgx_targets rfl a.toNatClampNeg (by omega) (by omega) rfl d_Mo_control_66 (mgx_targets_w a.toNatClampNeg b) (fun H locs hP hS => ?_)
          refine lv_aload_n (pc := 67) hx hb d_Mo_control_67 rfl (lv_at hl 0 rfl) ?_
          refine rg_get (C := R_Mo) (T := T_Mo) (N := 28) (v := .ref (ad 12)) (pc := 68) hx hb hts i_Mo hown hK hP 0 (by omega) mgx_M rfl 15 (by decide) (hts _ wd_543) rfl d_Mo_control_68 ?_
          refine lv_iload_n (pc := 71) hx hb d_Mo_control_71 rfl (lv_at hl 1 rfl) ?_
          refine lv_iload_n (pc := 72) hx hb d_Mo_control_72 rfl (lv_at hl 3 rfl) ?_
          refine rg_iast (pc := 73) hx hb hK hR hP hS 12 (by omega) 0 mgx_byNow rfl a.toNatClampNeg (by omega) (by omega) rfl d_Mo_control_73 (mgx_byNow_w a.toNatClampNeg d) (fun H locs hP hS => ?_)
          refine lv_aload_n (pc := 74) hx hb d_Mo_control_74 rfl (lv_at hl 0 rfl) ?_
          refine rg_get (C := R_Mo) (T := T_Mo) (N := 28) (v := .ref (ad 13)) (pc := 75) hx hb hts i_Mo hown hK hP 0 (by omega) mgx_M rfl 16 (by decide) (hts _ wd_544) rfl d_Mo_control_75 ?_
          refine lv_iload_n (pc := 78) hx hb d_Mo_control_78 rfl (lv_at hl 1 rfl) ?_
          refine lv_iload (pc := 79) hx hb d_Mo_control_79 (lv_at hl 4 rfl) ?_
          refine rg_iast (pc := 81) hx hb hK hR hP hS 13 (by omega) 0 mgx_bySum rfl a.toNatClampNeg (by omega) (by omega) rfl d_Mo_control_81 (mgx_bySum_w a.toNatClampNeg f4) (fun H locs hP hS => ?_)
          refine lv_aload_n (pc := 82) hx hb d_Mo_control_82 rfl (lv_at hl 0 rfl) ?_
          refine rg_get (C := R_Mo) (T := T_Mo) (N := 28) (v := .ref (ad 14)) (pc := 83) hx hb hts i_Mo hown hK hP 0 (by omega) mgx_M rfl 17 (by decide) (hts _ wd_545) rfl d_Mo_control_83 ?_
          refine lv_iload_n (pc := 86) hx hb d_Mo_control_86 rfl (lv_at hl 1 rfl) ?_
          refine lv_lconst (v := 0) (pc := 87) hx hb d_Mo_control_87 (by decide) ?_
          refine rg_last (pc := 88) hx hb hK hR hP hS 14 (by omega) 1 mgx_sums rfl a.toNatClampNeg (by omega) (by omega) rfl d_Mo_control_88 (mgx_sums_w a.toNatClampNeg 0) (fun H locs hP hS => ?_)
          refine lv_aload_n (pc := 89) hx hb d_Mo_control_89 rfl (lv_at hl 0 rfl) ?_
          refine rg_get (C := R_Mo) (T := T_Mo) (N := 28) (v := .ref (ad 15)) (pc := 90) hx hb hts i_Mo hown hK hP 0 (by omega) mgx_M rfl 18 (by decide) (hts _ wd_546) rfl d_Mo_control_90 ?_
          refine lv_iload_n (pc := 93) hx hb d_Mo_control_93 rfl (lv_at hl 1 rfl) ?_
          refine lv_iconst (v := 0) (pc := 94) hx hb d_Mo_control_94 (by decide) ?_
          refine rg_iast (pc := 95) hx hb hK hR hP hS 15 (by omega) 0 mgx_outputs rfl a.toNatClampNeg (by omega) (by omega) rfl d_Mo_control_95 (mgx_outputs_w a.toNatClampNeg 0) (fun H locs hP hS => ?_)
          refine lv_iconst (v := 1) (pc := 96) hx hb d_Mo_control_96 (by decide) ?_
          have e9 : f_Mo_control Z st a b d f4 = (1, mp_ou (mp_su (mp_bs (mp_bn (mp_tg (mp_hc st a.toNatClampNeg 1) a.toNatClampNeg b) a.toNatClampNeg d) a.toNatClampNeg f4) a.toNatClampNeg 0) a.toNatClampNeg 0) := by unfold f_Mo_control; rw [if_neg c_1, if_neg c_2, if_neg c_3, if_neg c_4]
          exact rg_zret (pc := 97) hx hb hr hlocks rfl hP hS ⟨by rw [e9], by rw [e9]⟩ d_Mo_control_97
        · refine lv_iconst (v := 0) (pc := 51) hx hb d_Mo_control_51 (by decide) ?_
          have e9 : f_Mo_control Z st a b d f4 = (0, st) := by unfold f_Mo_control; rw [if_neg c_1, if_neg c_2, if_neg c_3, if_pos c_4]
          exact rg_zret (pc := 52) hx hb hr hlocks rfl hP hS ⟨by rw [e9], by rw [e9]⟩ d_Mo_control_52

def f_Mo_burner (Z : Nat) (st : mS) (a : Int32) (b : Int32) : Int32 × mS :=
  if (f_Mo_isIn a.toInt64 0 1000000000) = 0 then
    (0, st)
  else
    if (f_Mo_isIn b.toInt64 0 1000000) = 0 then
      (0, st)
    else
      (1, mp_bh (mp_be (mp_hb st true) a) b)
set_option maxRecDepth 100000 in
set_option maxHeartbeats 4000000 in
theorem c_Mo_burner {l : Launch} {D : va_G} {cA : Nat → ClassId} {Z : Nat} {ad : Nat → Nat} (hR : rD 19 ad) (hZ : 1 ≤ Z ∧ Z ≤ 6) (st : mS) (a : Int32) (b : Int32) : RI l y_Mo_burner (mws y_Mo_burner b_Mo_burner 3 (some .boolean)) ({ frames := 1, cells := 0, slots := 0, locals := 25 } : Room) D clG (tyM cA) 19 ad (mgx Z ad cA (st)) [.ref (ad 0), .int a, .int b] (f_Mo_burner Z st a b).1 (mgx Z ad cA ((f_Mo_burner Z st a b).2)) := by
  refine RI_of (cc := b_Mo_burner) (maxL := 3) (ret := (some .boolean)) (by decide) (Nat.le_of_ble_eq_true rfl) ?_
  intro p e s m args below meth c ls C hK hP hS hl
  obtain ⟨⟨hx, hb, hml, hown, hts⟩, hr, hlocks, hN⟩ := id C
  have hown : s.vm.findClass R_Mo = some m.cls := hown
  have hr : meth.sig.returnType = (some .boolean) := hr
  have hl : lv_has ls 3 [(0, .ref (ad 0)), (1, .int a), (2, .int b)] := hl
  refine lv_iload_n (pc := 0) hx hb d_Mo_burner_0 rfl (lv_at hl 1 rfl) ?_
  refine lv_i2l (pc := 1) hx hb d_Mo_burner_1 rfl ?_
  refine lv_lconst (v := 0) (pc := 2) hx hb d_Mo_burner_2 (by decide) ?_
  refine lv_ldc2 (v := 1000000000) (pc := 3) hx hb hown (hts _ wd_672) d_Mo_burner_3 ?_
  refine rg_ci (pc := 6) (va_runS (As := [.long a.toInt64, .long 0, .long 1000000000]) (rest := []) ⟨hx, hb, hml, hown, hts⟩ (c_Mo_isIn (l := l) a.toInt64 0 1000000000 _) ⟨callB_of 3 hts (gd_c wd_625) rfl rfl rfl (hts _ wd_9) (hts _ wd_623) hd_Mo_isIn ⟨Nat.le_of_ble_eq_true rfl, Nat.le_of_ble_eq_true rfl⟩, hts _ wd_624⟩ ⟨rPc_blind _ _ _ _ _ _ _ _, rPc_at _ hP hK hN⟩ rfl rfl hl.1 rfl (lv_room (Nat.le_of_ble_eq_true rfl)) d_Mo_burner_6 ⟨Nat.zero_le _, Nat.zero_le _⟩) hS (fun H locs hP hS => ?_)
  refine lv_if_eq (tgt := 24) (pc := 9) hx hb d_Mo_burner_9 (by decide) (fun c_1 => ?_) (fun c_1 => ?_)
  · refine lv_iconst (v := 0) (pc := 24) hx hb d_Mo_burner_24 (by decide) ?_
    have e9 : f_Mo_burner Z st a b = (0, st) := by unfold f_Mo_burner; rw [if_pos c_1]
    exact rg_zret (pc := 25) hx hb hr hlocks rfl hP hS ⟨by rw [e9], by rw [e9]⟩ d_Mo_burner_25
  · refine lv_iload_n (pc := 12) hx hb d_Mo_burner_12 rfl (lv_at hl 2 rfl) ?_
    refine lv_i2l (pc := 13) hx hb d_Mo_burner_13 rfl ?_
    refine lv_lconst (v := 0) (pc := 14) hx hb d_Mo_burner_14 (by decide) ?_
    refine lv_ldc2 (v := 1000000) (pc := 15) hx hb hown (hts _ wd_678) d_Mo_burner_15 ?_
    refine rg_ci (pc := 18) (va_runS (As := [.long b.toInt64, .long 0, .long 1000000]) (rest := []) ⟨hx, hb, hml, hown, hts⟩ (c_Mo_isIn (l := l) b.toInt64 0 1000000 _) ⟨callB_of 3 hts (gd_c wd_625) rfl rfl rfl (hts _ wd_9) (hts _ wd_623) hd_Mo_isIn ⟨Nat.le_of_ble_eq_true rfl, Nat.le_of_ble_eq_true rfl⟩, hts _ wd_624⟩ ⟨rPc_blind _ _ _ _ _ _ _ _, rPc_at _ hP hK hN⟩ rfl rfl hl.1 rfl (lv_room (Nat.le_of_ble_eq_true rfl)) d_Mo_burner_18 ⟨Nat.zero_le _, Nat.zero_le _⟩) hS (fun H locs hP hS => ?_)
    refine lv_if_ne (tgt := 26) (pc := 21) hx hb d_Mo_burner_21 (by decide) (fun c_2 => ?_) (fun c_2 => ?_)
    · refine lv_aload_n (pc := 26) hx hb d_Mo_burner_26 rfl (lv_at hl 0 rfl) ?_
      refine lv_iconst (v := 1) (pc := 27) hx hb d_Mo_burner_27 (by decide) ?_
      refine rg_put (C := R_Mo) (T := T_Mo) (N := 28) (pc := 28) hx hb hts i_Mo t_Mo t_Mo_ok n_Mo hown hK hR hP hS 0 (by omega) mgx_M rfl 19 (by decide) (hts _ wd_547) rfl rfl rfl (Nat.le_of_ble_eq_true rfl) d_Mo_burner_28 (mgx_M_hb true) (fun H locs hP hS => ?_)
      refine lv_aload_n (pc := 31) hx hb d_Mo_burner_31 rfl (lv_at hl 0 rfl) ?_
      refine lv_iload_n (pc := 32) hx hb d_Mo_burner_32 rfl (lv_at hl 1 rfl) ?_
      refine rg_put (C := R_Mo) (T := T_Mo) (N := 28) (pc := 33) hx hb hts i_Mo t_Mo t_Mo_ok n_Mo hown hK hR hP hS 0 (by omega) mgx_M rfl 20 (by decide) (hts _ wd_548) rfl rfl rfl (Nat.le_of_ble_eq_true rfl) d_Mo_burner_33 (mgx_M_be a) (fun H locs hP hS => ?_)
      refine lv_aload_n (pc := 36) hx hb d_Mo_burner_36 rfl (lv_at hl 0 rfl) ?_
      refine lv_iload_n (pc := 37) hx hb d_Mo_burner_37 rfl (lv_at hl 2 rfl) ?_
      refine rg_put (C := R_Mo) (T := T_Mo) (N := 28) (pc := 38) hx hb hts i_Mo t_Mo t_Mo_ok n_Mo hown hK hR hP hS 0 (by omega) mgx_M rfl 21 (by decide) (hts _ wd_549) rfl rfl rfl (Nat.le_of_ble_eq_true rfl) d_Mo_burner_38 (mgx_M_bh b) (fun H locs hP hS => ?_)
      refine lv_iconst (v := 1) (pc := 41) hx hb d_Mo_burner_41 (by decide) ?_
      have e9 : f_Mo_burner Z st a b = (1, mp_bh (mp_be (mp_hb st true) a) b) := by unfold f_Mo_burner; rw [if_neg c_1, if_neg c_2]
      exact rg_zret (pc := 42) hx hb hr hlocks rfl hP hS ⟨by rw [e9], by rw [e9]⟩ d_Mo_burner_42
    · refine lv_iconst (v := 0) (pc := 24) hx hb d_Mo_burner_24 (by decide) ?_
      have e9 : f_Mo_burner Z st a b = (0, st) := by unfold f_Mo_burner; rw [if_neg c_1, if_pos c_2]
      exact rg_zret (pc := 25) hx hb hr hlocks rfl hP hS ⟨by rw [e9], by rw [e9]⟩ d_Mo_burner_25

theorem mat_run {a : Int32} (h : ¬ f_Mo_isIn a.toInt64 1 1000 = 0) : a.toNatClampNeg < 1001 ∧ a = nI a.toNatClampNeg := by
  unfold f_Mo_isIn at h
  have e0 : (1 : Int64).toInt = 1 := by decide
  have e1 : (0 : Int32).toInt = 0 := by decide
  have e2 : (1000 : Int64).toInt = 1000 := by decide
  by_cases h0 : lg_cmp a.toInt64 1 < 0
  · rw [if_pos h0] at h; exact absurd rfl h
  · rw [if_neg h0] at h
    by_cases h1 : 0 < lg_cmp a.toInt64 1000
    · rw [if_pos h1] at h; exact absurd rfl h
    · rw [lg_cmp_lt, Int64.lt_iff_toInt_lt, Int32.toInt_toInt64, e0] at h0
      rw [lg_cmp_gt, Int64.lt_iff_toInt_lt, Int32.toInt_toInt64, e2] at h1
      refine nat_ix (by decide) (fun q => ?_) (fun q => ?_)
      · rw [Int32.lt_iff_toInt_lt, e1] at q; omega
      · rw [Int32.le_iff_toInt_le, nI_toInt (by decide)] at q; omega

def lm_run (Z : Nat) (mn : Nat) : Nat → Nat → mS → mS
  | 0, _, st => st
  | n + 1, j, st =>
    lm_run Z mn n (j + 1) (f_Mo_minute Z st)
set_option maxRecDepth 100000 in
set_option maxHeartbeats 4000000 in
theorem lm_run_ok {p : Program} {l : Launch} {e : Env} {s : State} {m : MethodId} {args : Array Value} {below : List Frame} {meth : Method} {c : Code} {D : va_G} {cA : Nat → ClassId} {Z : Nat} {ad : Nat → Nat} {Q : State → Prop} (hR : rD 19 ad) (hZ : 1 ≤ Z ∧ Z ≤ 6) (C : Cx p s m args meth c b_Mo_run 3 R_Mo (some .int)) (hK : va_K D clG (tyM cA) s) (mn : Nat) (hmn : mn < 1001) : ∀ (n : Nat) (j : Nat) (st : mS) (H : Heap) (locs : List Loc) (ls : Array Slot), j + n = mn → va_P D clG (pw 19 ad (mgx Z ad cA (st))) H → va_S (rA 19 ad s.heap.size) s.heap H locs → lv_has ls 3 [(0, .ref (ad 0)), (1, .int (nI mn)), (2, .int (nI j))] → (∀ (H : Heap) (locs : List Loc) (ls : Array Slot), va_P D clG (pw 19 ad (mgx Z ad cA ((lm_run Z mn n j st)))) H → va_S (rA 19 ad s.heap.size) s.heap H locs → lv_has ls 3 [(0, .ref (ad 0)), (1, .int (nI mn)), (2, .int (nI mn))] → W p l e ({ frames := 3, cells := 0, slots := 0, locals := 76 } : Room) s m args below meth c H locs 0 0 Q (F0 m 43 ls [])) → W p l e ({ frames := 3, cells := 0, slots := 0, locals := 76 } : Room) s m args below meth c H locs 0 0 Q (F0 m 28 ls []) := by
  obtain ⟨⟨hx, hb, hml, hown, hts⟩, hr, hlocks, hN⟩ := id C
  have hown : s.vm.findClass R_Mo = some m.cls := hown
  have hr : meth.sig.returnType = (some .int) := hr
  intro n
  induction n with
  | zero =>
    intro j st H locs ls hn hP hS hl hk
    have hj9 : j = mn := by omega
    refine lv_iload_n (pc := 28) hx hb d_Mo_run_28 rfl (lv_at hl 2 rfl) ?_
    refine lv_iload_n (pc := 29) hx hb d_Mo_run_29 rfl (lv_at hl 1 rfl) ?_
    refine lv_icmp_ge (tgt := 43) (pc := 30) hx hb d_Mo_run_30 (by decide) (fun c_1 => ?_) (fun c_1 => absurd (by rw [hj9]; exact Int32.le_refl _) c_1)
    exact hk H locs ls hP hS (by rw [hj9] at hl; exact lv_sub hl [0, 1, 2] rfl)
  | succ n ih =>
    intro j st H locs ls hn hP hS hl hk
    refine lv_iload_n (pc := 28) hx hb d_Mo_run_28 rfl (lv_at hl 2 rfl) ?_
    refine lv_iload_n (pc := 29) hx hb d_Mo_run_29 rfl (lv_at hl 1 rfl) ?_
    refine lv_icmp_ge (tgt := 43) (pc := 30) hx hb d_Mo_run_30 (by decide) (fun c_1 => absurd c_1 (nI_ge (b := mn) (by omega) (by omega))) (fun c_1 => ?_)
    refine lv_aload_n (pc := 33) hx hb d_Mo_run_33 rfl (lv_at hl 0 rfl) ?_
    refine rg_cv (pc := 34) (va_runV (As := []) (rest := []) ⟨hx, hb, hml, hown, hts⟩ (c_Mo_minute (l := l) hR hZ st  _) ⟨callB_of 0 hts (gd_c wd_686) rfl rfl rfl (hts _ wd_9) (hts _ wd_683) hd_Mo_minute ⟨Nat.le_of_ble_eq_true rfl, Nat.le_of_ble_eq_true rfl⟩, hts _ wd_685, hts _ wp_14⟩ ⟨rPc_blind _ _ _ _ _ _ _ _, rg_rec hK hP 0 (by omega) mgx_M rfl, rPc_at _ hP hK hN⟩ rfl rfl hl.1 rfl (lv_room (Nat.le_of_ble_eq_true rfl)) d_Mo_run_34 ⟨Nat.zero_le _, Nat.zero_le _⟩) hS (fun H locs hP hS => ?_)
    refine lv_iinc (v := nI (j + 1)) (lv' := [(2, .int (nI (j + 1))), (0, .ref (ad 0)), (1, .int (nI mn))]) (pc := 37) hx hb d_Mo_run_37 hl (k := 2) rfl (nI_1 _) (by decide) rfl (fun ls hl => ?_)
    refine lv_goto (tgt := 28) (pc := 40) hx hb d_Mo_run_40 (by decide) ?_
    have hk9 := hk
    unfold lm_run at hk9
    exact ih (j + 1) (f_Mo_minute Z st) _ _ ls (by omega) hP hS (lv_sub hl [1, 2, 0] rfl) hk9
def f_Mo_run (Z : Nat) (st : mS) (a : Int32) : Int32 × mS :=
  if (f_Mo_isIn a.toInt64 1 1000) = 0 then
    ((-1), st)
  else
    if ((ms_mi st) + a) ≤ 20000 then
      (ms_mi (lm_run Z a.toNatClampNeg a.toNatClampNeg 0 st), (lm_run Z a.toNatClampNeg a.toNatClampNeg 0 st))
    else
      ((-1), st)
set_option maxRecDepth 100000 in
set_option maxHeartbeats 4000000 in
theorem c_Mo_run {l : Launch} {D : va_G} {cA : Nat → ClassId} {Z : Nat} {ad : Nat → Nat} (hR : rD 19 ad) (hZ : 1 ≤ Z ∧ Z ≤ 6) (st : mS) (a : Int32) : RI l y_Mo_run (mws y_Mo_run b_Mo_run 3 (some .int)) ({ frames := 3, cells := 0, slots := 0, locals := 76 } : Room) D clG (tyM cA) 19 ad (mgx Z ad cA (st)) [.ref (ad 0), .int a] (f_Mo_run Z st a).1 (mgx Z ad cA ((f_Mo_run Z st a).2)) := by
  refine RI_of (cc := b_Mo_run) (maxL := 3) (ret := (some .int)) (by decide) (Nat.le_of_ble_eq_true rfl) ?_
  intro p e s m args below meth c ls C hK hP hS hl
  obtain ⟨⟨hx, hb, hml, hown, hts⟩, hr, hlocks, hN⟩ := id C
  have hown : s.vm.findClass R_Mo = some m.cls := hown
  have hr : meth.sig.returnType = (some .int) := hr
  have hl : lv_has ls 3 [(0, .ref (ad 0)), (1, .int a)] := hl
  refine lv_iload_n (pc := 0) hx hb d_Mo_run_0 rfl (lv_at hl 1 rfl) ?_
  refine lv_i2l (pc := 1) hx hb d_Mo_run_1 rfl ?_
  refine lv_lconst (v := 1) (pc := 2) hx hb d_Mo_run_2 (by decide) ?_
  refine lv_ldc2 (v := 1000) (pc := 3) hx hb hown (hts _ wd_622) d_Mo_run_3 ?_
  refine rg_ci (pc := 6) (va_runS (As := [.long a.toInt64, .long 1, .long 1000]) (rest := []) ⟨hx, hb, hml, hown, hts⟩ (c_Mo_isIn (l := l) a.toInt64 1 1000 _) ⟨callB_of 3 hts (gd_c wd_625) rfl rfl rfl (hts _ wd_9) (hts _ wd_623) hd_Mo_isIn ⟨Nat.le_of_ble_eq_true rfl, Nat.le_of_ble_eq_true rfl⟩, hts _ wd_624⟩ ⟨rPc_blind _ _ _ _ _ _ _ _, rPc_at _ hP hK hN⟩ rfl rfl hl.1 rfl (lv_room (Nat.le_of_ble_eq_true rfl)) d_Mo_run_6 ⟨Nat.zero_le _, Nat.zero_le _⟩) hS (fun H locs hP hS => ?_)
  refine lv_if_eq (tgt := 24) (pc := 9) hx hb d_Mo_run_9 (by decide) (fun c_1 => ?_) (fun c_1 => ?_)
  · refine lv_iconst (v := (-1)) (pc := 24) hx hb d_Mo_run_24 (by decide) ?_
    have e9 : f_Mo_run Z st a = ((-1), st) := by unfold f_Mo_run; rw [if_pos c_1]
    exact rg_iret (pc := 25) hx hb hr hlocks hP hS ⟨by rw [e9], by rw [e9]⟩ d_Mo_run_25
  · refine lv_aload_n (pc := 12) hx hb d_Mo_run_12 rfl (lv_at hl 0 rfl) ?_
    refine rg_get (C := R_Mo) (T := T_Mo) (N := 28) (v := .int (ms_mi st)) (pc := 13) hx hb hts i_Mo hown hK hP 0 (by omega) mgx_M rfl 23 (by decide) (hts _ wd_551) rfl d_Mo_run_13 ?_
    refine lv_iload_n (pc := 16) hx hb d_Mo_run_16 rfl (lv_at hl 1 rfl) ?_
    refine lv_iadd (pc := 17) hx hb d_Mo_run_17 ?_
    refine lv_sipush (v := 20000) (pc := 18) hx hb d_Mo_run_18 (by decide) ?_
    refine lv_icmp_le (tgt := 26) (pc := 21) hx hb d_Mo_run_21 (by decide) (fun c_2 => ?_) (fun c_2 => ?_)
    · have ha := mat_run c_1
      have ha1 := ha.1
      rw [ha.2] at hl
      refine lv_iconst (v := 0) (pc := 26) hx hb d_Mo_run_26 (by decide) ?_
      refine lv_istore_n (lv' := [(2, .int 0), (0, .ref (ad 0)), (1, .int (nI a.toNatClampNeg))]) (pc := 27) hx hb d_Mo_run_27 rfl hl (by decide) rfl (fun ls hl => ?_)
      refine lm_run_ok hR hZ C hK a.toNatClampNeg (by omega) a.toNatClampNeg 0 st _ _ ls (by omega) hP hS (lv_sub hl [1, 2, 0] rfl) (fun H locs ls hP hS hl => ?_)
      refine lv_aload_n (pc := 43) hx hb d_Mo_run_43 rfl (lv_at hl 0 rfl) ?_
      refine rg_get (C := R_Mo) (T := T_Mo) (N := 28) (v := .int (ms_mi (lm_run Z a.toNatClampNeg a.toNatClampNeg 0 st))) (pc := 44) hx hb hts i_Mo hown hK hP 0 (by omega) mgx_M rfl 23 (by decide) (hts _ wd_551) rfl d_Mo_run_44 ?_
      have e9 : f_Mo_run Z st a = (ms_mi (lm_run Z a.toNatClampNeg a.toNatClampNeg 0 st), (lm_run Z a.toNatClampNeg a.toNatClampNeg 0 st)) := by unfold f_Mo_run; rw [if_neg c_1, if_pos c_2]
      exact rg_iret (pc := 47) hx hb hr hlocks hP hS ⟨by rw [e9], by rw [e9]⟩ d_Mo_run_47
    · refine lv_iconst (v := (-1)) (pc := 24) hx hb d_Mo_run_24 (by decide) ?_
      have e9 : f_Mo_run Z st a = ((-1), st) := by unfold f_Mo_run; rw [if_neg c_1, if_neg c_2]
      exact rg_iret (pc := 25) hx hb hr hlocks hP hS ⟨by rw [e9], by rw [e9]⟩ d_Mo_run_25

def f_Mo_bed (Z : Nat) (st : mS) (a : Int32) (b : Int32) : Int64 :=
  if (f_Mo_isZone Z st a) = 0 then
    (-1)
  else
    if b = 0 then
      ms_wa st a.toNatClampNeg
    else
      if b = 1 then
        ms_fu st a.toNatClampNeg
      else
        if b = 2 then
          ms_ah st a.toNatClampNeg
        else
          if b = 3 then
            (ms_ai st a.toNatClampNeg).toInt64
          else
            (-1)
set_option maxRecDepth 100000 in
set_option maxHeartbeats 4000000 in
theorem c_Mo_bed {l : Launch} {D : va_G} {cA : Nat → ClassId} {Z : Nat} {ad : Nat → Nat} (hR : rD 19 ad) (hZ : 1 ≤ Z ∧ Z ≤ 6) (st : mS) (a : Int32) (b : Int32) : RL l y_Mo_bed (mws y_Mo_bed b_Mo_bed 3 (some .long)) ({ frames := 1, cells := 0, slots := 0, locals := 21 } : Room) D clG (tyM cA) 19 ad (mgx Z ad cA (st)) [.ref (ad 0), .int a, .int b] (f_Mo_bed Z st a b) (mgx Z ad cA (st)) := by
  refine RL_of (cc := b_Mo_bed) (maxL := 3) (ret := (some .long)) (by decide) (Nat.le_of_ble_eq_true rfl) ?_
  intro p e s m args below meth c ls C hK hP hS hl
  obtain ⟨⟨hx, hb, hml, hown, hts⟩, hr, hlocks, hN⟩ := id C
  have hown : s.vm.findClass R_Mo = some m.cls := hown
  have hr : meth.sig.returnType = (some .long) := hr
  have hl : lv_has ls 3 [(0, .ref (ad 0)), (1, .int a), (2, .int b)] := hl
  refine lv_aload_n (pc := 0) hx hb d_Mo_bed_0 rfl (lv_at hl 0 rfl) ?_
  refine lv_iload_n (pc := 1) hx hb d_Mo_bed_1 rfl (lv_at hl 1 rfl) ?_
  refine rg_ci (pc := 2) (va_runV (As := [.int a]) (rest := []) ⟨hx, hb, hml, hown, hts⟩ (c_Mo_isZone (l := l) hR hZ st a _) ⟨callB_of 1 hts (gd_c wd_663) rfl rfl rfl (hts _ wd_9) (hts _ wd_660) hd_Mo_isZone ⟨Nat.le_of_ble_eq_true rfl, Nat.le_of_ble_eq_true rfl⟩, hts _ wd_662, hts _ wp_13⟩ ⟨rPc_blind _ _ _ _ _ _ _ _, rg_rec hK hP 0 (by omega) mgx_M rfl, rPc_at _ hP hK hN⟩ rfl rfl hl.1 rfl (lv_room (Nat.le_of_ble_eq_true rfl)) d_Mo_bed_2 ⟨Nat.zero_le _, Nat.zero_le _⟩) hS (fun H locs hP hS => ?_)
  refine lv_if_ne (tgt := 12) (pc := 5) hx hb d_Mo_bed_5 (by decide) (fun c_1 => ?_) (fun c_1 => ?_)
  · have hax := mat_isZone hZ c_1
    have hax1 := hax.1
    rw [hax.2] at hl
    refine lv_iload_n (pc := 12) hx hb d_Mo_bed_12 rfl (lv_at hl 2 rfl) ?_
    by_cases c_2 : b = 0
    · refine lv_tableIn (tgt := 44) (pc := 13) hx hb d_Mo_bed_13 (by rw [c_2]; decide) (by rw [c_2]; decide) (off := 31) (by rw [c_2]; decide) (by decide) ?_
      refine lv_aload_n (pc := 44) hx hb d_Mo_bed_44 rfl (lv_at hl 0 rfl) ?_
      refine rg_get (C := R_Mo) (T := T_Mo) (N := 28) (v := .ref (ad 5)) (pc := 45) hx hb hts i_Mo hown hK hP 0 (by omega) mgx_M rfl 6 (by decide) (hts _ wd_534) rfl d_Mo_bed_45 ?_
      refine lv_iload_n (pc := 48) hx hb d_Mo_bed_48 rfl (lv_at hl 1 rfl) ?_
      refine rg_lald (pc := 49) hx hb hK hP 5 (by omega) 1 mgx_waters rfl a.toNatClampNeg (by omega) (by omega) rfl d_Mo_bed_49 ?_
      have e9 : f_Mo_bed Z st a b = ms_wa st a.toNatClampNeg := by unfold f_Mo_bed; rw [if_neg c_1, if_pos c_2]
      exact rg_lret (pc := 50) hx hb hr hlocks hP hS ⟨e9.symm, rfl⟩ d_Mo_bed_50
    · by_cases c_3 : b = 1
      · refine lv_tableIn (tgt := 51) (pc := 13) hx hb d_Mo_bed_13 (by rw [c_3]; decide) (by rw [c_3]; decide) (off := 38) (by rw [c_3]; decide) (by decide) ?_
        refine lv_aload_n (pc := 51) hx hb d_Mo_bed_51 rfl (lv_at hl 0 rfl) ?_
        refine rg_get (C := R_Mo) (T := T_Mo) (N := 28) (v := .ref (ad 6)) (pc := 52) hx hb hts i_Mo hown hK hP 0 (by omega) mgx_M rfl 7 (by decide) (hts _ wd_535) rfl d_Mo_bed_52 ?_
        refine lv_iload_n (pc := 55) hx hb d_Mo_bed_55 rfl (lv_at hl 1 rfl) ?_
        refine rg_lald (pc := 56) hx hb hK hP 6 (by omega) 1 mgx_fuels rfl a.toNatClampNeg (by omega) (by omega) rfl d_Mo_bed_56 ?_
        have e9 : f_Mo_bed Z st a b = ms_fu st a.toNatClampNeg := by unfold f_Mo_bed; rw [if_neg c_1, if_neg c_2, if_pos c_3]
        exact rg_lret (pc := 57) hx hb hr hlocks hP hS ⟨e9.symm, rfl⟩ d_Mo_bed_57
      · by_cases c_4 : b = 2
        · refine lv_tableIn (tgt := 58) (pc := 13) hx hb d_Mo_bed_13 (by rw [c_4]; decide) (by rw [c_4]; decide) (off := 45) (by rw [c_4]; decide) (by decide) ?_
          refine lv_aload_n (pc := 58) hx hb d_Mo_bed_58 rfl (lv_at hl 0 rfl) ?_
          refine rg_get (C := R_Mo) (T := T_Mo) (N := 28) (v := .ref (ad 7)) (pc := 59) hx hb hts i_Mo hown hK hP 0 (by omega) mgx_M rfl 8 (by decide) (hts _ wd_536) rfl d_Mo_bed_59 ?_
          refine lv_iload_n (pc := 62) hx hb d_Mo_bed_62 rfl (lv_at hl 1 rfl) ?_
          refine rg_lald (pc := 63) hx hb hK hP 7 (by omega) 1 mgx_ashes rfl a.toNatClampNeg (by omega) (by omega) rfl d_Mo_bed_63 ?_
          have e9 : f_Mo_bed Z st a b = ms_ah st a.toNatClampNeg := by unfold f_Mo_bed; rw [if_neg c_1, if_neg c_2, if_neg c_3, if_pos c_4]
          exact rg_lret (pc := 64) hx hb hr hlocks hP hS ⟨e9.symm, rfl⟩ d_Mo_bed_64
        · by_cases c_5 : b = 3
          · refine lv_tableIn (tgt := 65) (pc := 13) hx hb d_Mo_bed_13 (by rw [c_5]; decide) (by rw [c_5]; decide) (off := 52) (by rw [c_5]; decide) (by decide) ?_
            refine lv_aload_n (pc := 65) hx hb d_Mo_bed_65 rfl (lv_at hl 0 rfl) ?_
            refine rg_get (C := R_Mo) (T := T_Mo) (N := 28) (v := .ref (ad 8)) (pc := 66) hx hb hts i_Mo hown hK hP 0 (by omega) mgx_M rfl 9 (by decide) (hts _ wd_537) rfl d_Mo_bed_66 ?_
            refine lv_iload_n (pc := 69) hx hb d_Mo_bed_69 rfl (lv_at hl 1 rfl) ?_
            refine rg_iald (pc := 70) hx hb hK hP 8 (by omega) 0 mgx_airs rfl a.toNatClampNeg (by omega) (by omega) rfl d_Mo_bed_70 ?_
            refine lv_i2l (pc := 71) hx hb d_Mo_bed_71 rfl ?_
            have e9 : f_Mo_bed Z st a b = (ms_ai st a.toNatClampNeg).toInt64 := by unfold f_Mo_bed; rw [if_neg c_1, if_neg c_2, if_neg c_3, if_neg c_4, if_pos c_5]
            exact rg_lret (pc := 72) hx hb hr hlocks hP hS ⟨e9.symm, rfl⟩ d_Mo_bed_72
          · have ho9 : (b).toInt < 0 ∨ 3 < (b).toInt := by
              have q9 : ∀ k : Int32, ¬ b = k → ¬ (b).toInt = k.toInt := fun k h q => h (Int32.toInt_inj.mp q)
              have wc_2 := q9 _ c_2
              have wc_3 := q9 _ c_3
              have wc_4 := q9 _ c_4
              have wc_5 := q9 _ c_5
              simp at wc_2 wc_3 wc_4 wc_5
              omega
            refine lv_tableOut (tgt := 73) (pc := 13) hx hb d_Mo_bed_13 ho9 (by decide) ?_
            refine lv_ldc2 (v := (-1)) (pc := 73) hx hb hown (hts _ wd_720) d_Mo_bed_73 ?_
            have e9 : f_Mo_bed Z st a b = (-1) := by unfold f_Mo_bed; rw [if_neg c_1, if_neg c_2, if_neg c_3, if_neg c_4, if_neg c_5]
            exact rg_lret (pc := 76) hx hb hr hlocks hP hS ⟨e9.symm, rfl⟩ d_Mo_bed_76
  · refine lv_ldc2 (v := (-1)) (pc := 8) hx hb hown (hts _ wd_720) d_Mo_bed_8 ?_
    have e9 : f_Mo_bed Z st a b = (-1) := by unfold f_Mo_bed; rw [if_pos c_1]
    exact rg_lret (pc := 11) hx hb hr hlocks hP hS ⟨e9.symm, rfl⟩ d_Mo_bed_11

def f_Mo_gas (Z : Nat) (st : mS) (a : Int32) : Int64 :=
  if (f_Mo_isIn a.toInt64 0 3) = 0 then
    (-1)
  else
    ms_la st a.toNatClampNeg
set_option maxRecDepth 100000 in
set_option maxHeartbeats 4000000 in
theorem c_Mo_gas {l : Launch} {D : va_G} {cA : Nat → ClassId} {Z : Nat} {ad : Nat → Nat} (hR : rD 19 ad) (hZ : 1 ≤ Z ∧ Z ≤ 6) (st : mS) (a : Int32) : RL l y_Mo_gas (mws y_Mo_gas b_Mo_gas 2 (some .long)) ({ frames := 1, cells := 0, slots := 0, locals := 25 } : Room) D clG (tyM cA) 19 ad (mgx Z ad cA (st)) [.ref (ad 0), .int a] (f_Mo_gas Z st a) (mgx Z ad cA (st)) := by
  refine RL_of (cc := b_Mo_gas) (maxL := 2) (ret := (some .long)) (by decide) (Nat.le_of_ble_eq_true rfl) ?_
  intro p e s m args below meth c ls C hK hP hS hl
  obtain ⟨⟨hx, hb, hml, hown, hts⟩, hr, hlocks, hN⟩ := id C
  have hown : s.vm.findClass R_Mo = some m.cls := hown
  have hr : meth.sig.returnType = (some .long) := hr
  have hl : lv_has ls 2 [(0, .ref (ad 0)), (1, .int a)] := hl
  refine lv_iload_n (pc := 0) hx hb d_Mo_gas_0 rfl (lv_at hl 1 rfl) ?_
  refine lv_i2l (pc := 1) hx hb d_Mo_gas_1 rfl ?_
  refine lv_lconst (v := 0) (pc := 2) hx hb d_Mo_gas_2 (by decide) ?_
  refine lv_ldc2 (v := 3) (pc := 3) hx hb hown (hts _ wd_725) d_Mo_gas_3 ?_
  refine rg_ci (pc := 6) (va_runS (As := [.long a.toInt64, .long 0, .long 3]) (rest := []) ⟨hx, hb, hml, hown, hts⟩ (c_Mo_isIn (l := l) a.toInt64 0 3 _) ⟨callB_of 3 hts (gd_c wd_625) rfl rfl rfl (hts _ wd_9) (hts _ wd_623) hd_Mo_isIn ⟨Nat.le_of_ble_eq_true rfl, Nat.le_of_ble_eq_true rfl⟩, hts _ wd_624⟩ ⟨rPc_blind _ _ _ _ _ _ _ _, rPc_at _ hP hK hN⟩ rfl rfl hl.1 rfl (lv_room (Nat.le_of_ble_eq_true rfl)) d_Mo_gas_6 ⟨Nat.zero_le _, Nat.zero_le _⟩) hS (fun H locs hP hS => ?_)
  refine lv_if_eq (tgt := 21) (pc := 9) hx hb d_Mo_gas_9 (by decide) (fun c_1 => ?_) (fun c_1 => ?_)
  · refine lv_ldc2 (v := (-1)) (pc := 21) hx hb hown (hts _ wd_720) d_Mo_gas_21 ?_
    have e9 : f_Mo_gas Z st a = (-1) := by unfold f_Mo_gas; rw [if_pos c_1]
    exact rg_lret (pc := 24) hx hb hr hlocks hP hS ⟨e9.symm, rfl⟩ d_Mo_gas_24
  · have hax := mat_isIn 3 (by decide) (by decide) c_1
    have hax1 := hax.1
    rw [hax.2] at hl
    refine lv_aload_n (pc := 12) hx hb d_Mo_gas_12 rfl (lv_at hl 0 rfl) ?_
    refine rg_get (C := R_Mo) (T := T_Mo) (N := 28) (v := .ref (ad 16)) (pc := 13) hx hb hts i_Mo hown hK hP 0 (by omega) mgx_M rfl 24 (by decide) (hts _ wd_552) rfl d_Mo_gas_13 ?_
    refine lv_iload_n (pc := 16) hx hb d_Mo_gas_16 rfl (lv_at hl 1 rfl) ?_
    refine rg_lald (pc := 17) hx hb hK hP 16 (by omega) 1 mgx_latest rfl a.toNatClampNeg (by omega) (by omega) rfl d_Mo_gas_17 ?_
    refine lv_goto (tgt := 24) (pc := 18) hx hb d_Mo_gas_18 (by decide) ?_
    have e9 : f_Mo_gas Z st a = ms_la st a.toNatClampNeg := by unfold f_Mo_gas; rw [if_neg c_1]
    exact rg_lret (pc := 24) hx hb hr hlocks hP hS ⟨e9.symm, rfl⟩ d_Mo_gas_24

def f_Mo_output (Z : Nat) (st : mS) (a : Int32) : Int32 :=
  if (f_Mo_isIn a.toInt64 0 1) = 0 then
    (-1)
  else
    if (ms_hc st a.toNatClampNeg) = 0 then
      (-1)
    else
      ms_ou st a.toNatClampNeg
set_option maxRecDepth 100000 in
set_option maxHeartbeats 4000000 in
theorem c_Mo_output {l : Launch} {D : va_G} {cA : Nat → ClassId} {Z : Nat} {ad : Nat → Nat} (hR : rD 19 ad) (hZ : 1 ≤ Z ∧ Z ≤ 6) (st : mS) (a : Int32) : RI l y_Mo_output (mws y_Mo_output b_Mo_output 2 (some .int)) ({ frames := 1, cells := 0, slots := 0, locals := 25 } : Room) D clG (tyM cA) 19 ad (mgx Z ad cA (st)) [.ref (ad 0), .int a] (f_Mo_output Z st a) (mgx Z ad cA (st)) := by
  refine RI_of (cc := b_Mo_output) (maxL := 2) (ret := (some .int)) (by decide) (Nat.le_of_ble_eq_true rfl) ?_
  intro p e s m args below meth c ls C hK hP hS hl
  obtain ⟨⟨hx, hb, hml, hown, hts⟩, hr, hlocks, hN⟩ := id C
  have hown : s.vm.findClass R_Mo = some m.cls := hown
  have hr : meth.sig.returnType = (some .int) := hr
  have hl : lv_has ls 2 [(0, .ref (ad 0)), (1, .int a)] := hl
  refine lv_iload_n (pc := 0) hx hb d_Mo_output_0 rfl (lv_at hl 1 rfl) ?_
  refine lv_i2l (pc := 1) hx hb d_Mo_output_1 rfl ?_
  refine lv_lconst (v := 0) (pc := 2) hx hb d_Mo_output_2 (by decide) ?_
  refine lv_lconst (v := 1) (pc := 3) hx hb d_Mo_output_3 (by decide) ?_
  refine rg_ci (pc := 4) (va_runS (As := [.long a.toInt64, .long 0, .long 1]) (rest := []) ⟨hx, hb, hml, hown, hts⟩ (c_Mo_isIn (l := l) a.toInt64 0 1 _) ⟨callB_of 3 hts (gd_c wd_625) rfl rfl rfl (hts _ wd_9) (hts _ wd_623) hd_Mo_isIn ⟨Nat.le_of_ble_eq_true rfl, Nat.le_of_ble_eq_true rfl⟩, hts _ wd_624⟩ ⟨rPc_blind _ _ _ _ _ _ _ _, rPc_at _ hP hK hN⟩ rfl rfl hl.1 rfl (lv_room (Nat.le_of_ble_eq_true rfl)) d_Mo_output_4 ⟨Nat.zero_le _, Nat.zero_le _⟩) hS (fun H locs hP hS => ?_)
  refine lv_if_eq (tgt := 28) (pc := 7) hx hb d_Mo_output_7 (by decide) (fun c_1 => ?_) (fun c_1 => ?_)
  · refine lv_iconst (v := (-1)) (pc := 28) hx hb d_Mo_output_28 (by decide) ?_
    have e9 : f_Mo_output Z st a = (-1) := by unfold f_Mo_output; rw [if_pos c_1]
    exact rg_iret (pc := 29) hx hb hr hlocks hP hS ⟨e9.symm, rfl⟩ d_Mo_output_29
  · have hax := mat_isIn 1 (by decide) (by decide) c_1
    have hax1 := hax.1
    rw [hax.2] at hl
    refine lv_aload_n (pc := 10) hx hb d_Mo_output_10 rfl (lv_at hl 0 rfl) ?_
    refine rg_get (C := R_Mo) (T := T_Mo) (N := 28) (v := .ref (ad 10)) (pc := 11) hx hb hts i_Mo hown hK hP 0 (by omega) mgx_M rfl 13 (by decide) (hts _ wd_541) rfl d_Mo_output_11 ?_
    refine lv_iload_n (pc := 14) hx hb d_Mo_output_14 rfl (lv_at hl 1 rfl) ?_
    refine rg_zald (pc := 15) hx hb hK hP 10 (by omega) 2 mgx_hasControl rfl a.toNatClampNeg (by omega) (by omega) rfl d_Mo_output_15 ?_
    refine lv_if_eq (tgt := 28) (pc := 16) hx hb d_Mo_output_16 (by decide) (fun c_2 => ?_) (fun c_2 => ?_)
    · refine lv_iconst (v := (-1)) (pc := 28) hx hb d_Mo_output_28 (by decide) ?_
      have e9 : f_Mo_output Z st a = (-1) := by unfold f_Mo_output; rw [if_neg c_1, if_pos c_2]
      exact rg_iret (pc := 29) hx hb hr hlocks hP hS ⟨e9.symm, rfl⟩ d_Mo_output_29
    · refine lv_aload_n (pc := 19) hx hb d_Mo_output_19 rfl (lv_at hl 0 rfl) ?_
      refine rg_get (C := R_Mo) (T := T_Mo) (N := 28) (v := .ref (ad 15)) (pc := 20) hx hb hts i_Mo hown hK hP 0 (by omega) mgx_M rfl 18 (by decide) (hts _ wd_546) rfl d_Mo_output_20 ?_
      refine lv_iload_n (pc := 23) hx hb d_Mo_output_23 rfl (lv_at hl 1 rfl) ?_
      refine rg_iald (pc := 24) hx hb hK hP 15 (by omega) 0 mgx_outputs rfl a.toNatClampNeg (by omega) (by omega) rfl d_Mo_output_24 ?_
      refine lv_goto (tgt := 29) (pc := 25) hx hb d_Mo_output_25 (by decide) ?_
      have e9 : f_Mo_output Z st a = ms_ou st a.toNatClampNeg := by unfold f_Mo_output; rw [if_neg c_1, if_neg c_2]
      exact rg_iret (pc := 29) hx hb hr hlocks hP hS ⟨e9.symm, rfl⟩ d_Mo_output_29

def f_Mo_burning (Z : Nat) (st : mS) : Int32 :=
  b2i (ms_bu st)
set_option maxRecDepth 100000 in
set_option maxHeartbeats 4000000 in
theorem c_Mo_burning {l : Launch} {D : va_G} {cA : Nat → ClassId} {Z : Nat} {ad : Nat → Nat} (hR : rD 19 ad) (hZ : 1 ≤ Z ∧ Z ≤ 6) (st : mS) : RI l y_Mo_burning (mws y_Mo_burning b_Mo_burning 1 (some .boolean)) ({ frames := 0, cells := 0, slots := 0, locals := 0 } : Room) D clG (tyM cA) 19 ad (mgx Z ad cA (st)) [.ref (ad 0)] (f_Mo_burning Z st) (mgx Z ad cA (st)) := by
  refine RI_of (cc := b_Mo_burning) (maxL := 1) (ret := (some .boolean)) (by decide) (Nat.le_of_ble_eq_true rfl) ?_
  intro p e s m args below meth c ls C hK hP hS hl
  obtain ⟨⟨hx, hb, hml, hown, hts⟩, hr, hlocks, hN⟩ := id C
  have hown : s.vm.findClass R_Mo = some m.cls := hown
  have hr : meth.sig.returnType = (some .boolean) := hr
  have hl : lv_has ls 1 [(0, .ref (ad 0))] := hl
  refine lv_aload_n (pc := 0) hx hb d_Mo_burning_0 rfl (lv_at hl 0 rfl) ?_
  refine rg_get (C := R_Mo) (T := T_Mo) (N := 28) (v := .int (b2i (ms_bu st))) (pc := 1) hx hb hts i_Mo hown hK hP 0 (by omega) mgx_M rfl 22 (by decide) (hts _ wd_550) rfl d_Mo_burning_1 ?_
  have e9 : f_Mo_burning Z st = b2i (ms_bu st) := rfl
  exact rg_zret (pc := 4) hx hb hr hlocks (b2i_n _) hP hS ⟨e9.symm, rfl⟩ d_Mo_burning_4

def f_Mo_ash (Z : Nat) (st : mS) (a : Int32) : Int64 :=
  if (f_Mo_isIn a.toInt64 0 9) = 0 then
    (-1)
  else
    ms_al st a.toNatClampNeg
set_option maxRecDepth 100000 in
set_option maxHeartbeats 4000000 in
theorem c_Mo_ash {l : Launch} {D : va_G} {cA : Nat → ClassId} {Z : Nat} {ad : Nat → Nat} (hR : rD 19 ad) (hZ : 1 ≤ Z ∧ Z ≤ 6) (st : mS) (a : Int32) : RL l y_Mo_ash (mws y_Mo_ash b_Mo_ash 2 (some .long)) ({ frames := 1, cells := 0, slots := 0, locals := 25 } : Room) D clG (tyM cA) 19 ad (mgx Z ad cA (st)) [.ref (ad 0), .int a] (f_Mo_ash Z st a) (mgx Z ad cA (st)) := by
  refine RL_of (cc := b_Mo_ash) (maxL := 2) (ret := (some .long)) (by decide) (Nat.le_of_ble_eq_true rfl) ?_
  intro p e s m args below meth c ls C hK hP hS hl
  obtain ⟨⟨hx, hb, hml, hown, hts⟩, hr, hlocks, hN⟩ := id C
  have hown : s.vm.findClass R_Mo = some m.cls := hown
  have hr : meth.sig.returnType = (some .long) := hr
  have hl : lv_has ls 2 [(0, .ref (ad 0)), (1, .int a)] := hl
  refine lv_iload_n (pc := 0) hx hb d_Mo_ash_0 rfl (lv_at hl 1 rfl) ?_
  refine lv_i2l (pc := 1) hx hb d_Mo_ash_1 rfl ?_
  refine lv_lconst (v := 0) (pc := 2) hx hb d_Mo_ash_2 (by decide) ?_
  refine lv_ldc2 (v := 9) (pc := 3) hx hb hown (hts _ wd_738) d_Mo_ash_3 ?_
  refine rg_ci (pc := 6) (va_runS (As := [.long a.toInt64, .long 0, .long 9]) (rest := []) ⟨hx, hb, hml, hown, hts⟩ (c_Mo_isIn (l := l) a.toInt64 0 9 _) ⟨callB_of 3 hts (gd_c wd_625) rfl rfl rfl (hts _ wd_9) (hts _ wd_623) hd_Mo_isIn ⟨Nat.le_of_ble_eq_true rfl, Nat.le_of_ble_eq_true rfl⟩, hts _ wd_624⟩ ⟨rPc_blind _ _ _ _ _ _ _ _, rPc_at _ hP hK hN⟩ rfl rfl hl.1 rfl (lv_room (Nat.le_of_ble_eq_true rfl)) d_Mo_ash_6 ⟨Nat.zero_le _, Nat.zero_le _⟩) hS (fun H locs hP hS => ?_)
  refine lv_if_eq (tgt := 21) (pc := 9) hx hb d_Mo_ash_9 (by decide) (fun c_1 => ?_) (fun c_1 => ?_)
  · refine lv_ldc2 (v := (-1)) (pc := 21) hx hb hown (hts _ wd_720) d_Mo_ash_21 ?_
    have e9 : f_Mo_ash Z st a = (-1) := by unfold f_Mo_ash; rw [if_pos c_1]
    exact rg_lret (pc := 24) hx hb hr hlocks hP hS ⟨e9.symm, rfl⟩ d_Mo_ash_24
  · have hax := mat_isIn 9 (by decide) (by decide) c_1
    have hax1 := hax.1
    rw [hax.2] at hl
    refine lv_aload_n (pc := 12) hx hb d_Mo_ash_12 rfl (lv_at hl 0 rfl) ?_
    refine rg_get (C := R_Mo) (T := T_Mo) (N := 28) (v := .ref (ad 17)) (pc := 13) hx hb hts i_Mo hown hK hP 0 (by omega) mgx_M rfl 25 (by decide) (hts _ wd_553) rfl d_Mo_ash_13 ?_
    refine lv_iload_n (pc := 16) hx hb d_Mo_ash_16 rfl (lv_at hl 1 rfl) ?_
    refine rg_lald (pc := 17) hx hb hK hP 17 (by omega) 1 mgx_all rfl a.toNatClampNeg (by omega) (by omega) rfl d_Mo_ash_17 ?_
    refine lv_goto (tgt := 24) (pc := 18) hx hb d_Mo_ash_18 (by decide) ?_
    have e9 : f_Mo_ash Z st a = ms_al st a.toNatClampNeg := by unfold f_Mo_ash; rw [if_neg c_1]
    exact rg_lret (pc := 24) hx hb hr hlocks hP hS ⟨e9.symm, rfl⟩ d_Mo_ash_24

def lm_bal1 (Z : Nat) (a : Int32) : Nat → Nat → Int64 → mS → Int64
  | 0, _, r, _ => r
  | n + 1, j, r, st =>
    lm_bal1 Z a n (j + 1) (r - ((f_Mo_weightOf Z st j).toInt64)) st
set_option maxRecDepth 100000 in
set_option maxHeartbeats 4000000 in
theorem lm_bal1_ok {p : Program} {l : Launch} {e : Env} {s : State} {m : MethodId} {args : Array Value} {below : List Frame} {meth : Method} {c : Code} {D : va_G} {cA : Nat → ClassId} {Z : Nat} {ad : Nat → Nat} {Q : State → Prop} (hR : rD 19 ad) (hZ : 1 ≤ Z ∧ Z ≤ 6) (C : Cx p s m args meth c b_Mo_balance 5 R_Mo (some .long)) (hK : va_K D clG (tyM cA) s) (a : Int32) : ∀ (n : Nat) (j : Nat) (r : Int64) (st : mS) (H : Heap) (locs : List Loc) (ls : Array Slot), j + n = 6 → va_P D clG (pw 19 ad (mgx Z ad cA (st))) H → va_S (rA 19 ad s.heap.size) s.heap H locs → lv_has ls 5 [(0, .ref (ad 0)), (1, .int a), (2, .long r), (4, .int (nI j))] → (∀ (H : Heap) (locs : List Loc) (ls : Array Slot), va_P D clG (pw 19 ad (mgx Z ad cA (st))) H → va_S (rA 19 ad s.heap.size) s.heap H locs → lv_has ls 5 [(0, .ref (ad 0)), (1, .int a), (2, .long ((lm_bal1 Z a n j r st))), (4, .int (nI 6))] → W p l e ({ frames := 1, cells := 0, slots := 0, locals := 21 } : Room) s m args below meth c H locs 0 0 Q (F0 m 105 ls [])) → W p l e ({ frames := 1, cells := 0, slots := 0, locals := 21 } : Room) s m args below meth c H locs 0 0 Q (F0 m 82 ls []) := by
  obtain ⟨⟨hx, hb, hml, hown, hts⟩, hr, hlocks, hN⟩ := id C
  have hown : s.vm.findClass R_Mo = some m.cls := hown
  have hr : meth.sig.returnType = (some .long) := hr
  intro n
  induction n with
  | zero =>
    intro j r st H locs ls hn hP hS hl hk
    have hj9 : j = 6 := by omega
    refine lv_iload (pc := 82) hx hb d_Mo_balance_82 (lv_at hl 3 rfl) ?_
    refine lv_bipush (v := 6) (pc := 84) hx hb d_Mo_balance_84 (by decide) ?_
    refine lv_icmp_ge (tgt := 105) (pc := 86) hx hb d_Mo_balance_86 (by decide) (fun c_1 => ?_) (fun c_1 => absurd (by rw [hj9]; decide) c_1)
    exact hk H locs ls hP hS (by rw [hj9] at hl; exact lv_sub hl [0, 1, 2, 3] rfl)
  | succ n ih =>
    intro j r st H locs ls hn hP hS hl hk
    refine lv_iload (pc := 82) hx hb d_Mo_balance_82 (lv_at hl 3 rfl) ?_
    refine lv_bipush (v := 6) (pc := 84) hx hb d_Mo_balance_84 (by decide) ?_
    refine lv_icmp_ge (tgt := 105) (pc := 86) hx hb d_Mo_balance_86 (by decide) (fun c_1 => absurd c_1 (nI_ge (b := 6) (by omega) (by decide))) (fun c_1 => ?_)
    refine lv_lload_n (pc := 89) hx hb d_Mo_balance_89 rfl (lv_at hl 2 rfl) ?_
    refine lv_aload_n (pc := 90) hx hb d_Mo_balance_90 rfl (lv_at hl 0 rfl) ?_
    refine lv_iload (pc := 91) hx hb d_Mo_balance_91 (lv_at hl 3 rfl) ?_
    refine rg_ci (pc := 93) (va_runV (As := [.int (nI j)]) (rest := [.long r]) ⟨hx, hb, hml, hown, hts⟩ (c_Mo_weightOf (l := l) hR hZ st j (by omega) _) ⟨callB_of 1 hts (gd_c wd_637) rfl rfl rfl (hts _ wd_9) (hts _ wd_634) hd_Mo_weightOf ⟨Nat.le_of_ble_eq_true rfl, Nat.le_of_ble_eq_true rfl⟩, hts _ wd_636, hts _ wp_11⟩ ⟨rPc_blind _ _ _ _ _ _ _ _, rg_rec hK hP 0 (by omega) mgx_M rfl, rPc_at _ hP hK hN⟩ rfl rfl hl.1 rfl (lv_room (Nat.le_of_ble_eq_true rfl)) d_Mo_balance_93 ⟨Nat.zero_le _, Nat.zero_le _⟩) hS (fun H locs hP hS => ?_)
    refine lv_i2l (pc := 96) hx hb d_Mo_balance_96 rfl ?_
    refine lv_lsub (pc := 97) hx hb d_Mo_balance_97 ?_
    refine lv_lstore_n (lv' := [(2, .long (r - ((f_Mo_weightOf Z st j).toInt64))), (0, .ref (ad 0)), (1, .int a), (4, .int (nI j))]) (pc := 98) hx hb d_Mo_balance_98 rfl hl (by decide) rfl (fun ls hl => ?_)
    refine lv_iinc (v := nI (j + 1)) (lv' := [(4, .int (nI (j + 1))), (2, .long (r - ((f_Mo_weightOf Z st j).toInt64))), (0, .ref (ad 0)), (1, .int a)]) (pc := 99) hx hb d_Mo_balance_99 hl (k := 3) rfl (nI_1 _) (by decide) rfl (fun ls hl => ?_)
    refine lv_goto (tgt := 82) (pc := 102) hx hb d_Mo_balance_102 (by decide) ?_
    have hk9 := hk
    unfold lm_bal1 at hk9
    exact ih (j + 1) (r - ((f_Mo_weightOf Z st j).toInt64)) st _ _ ls (by omega) hP hS (lv_sub hl [2, 3, 1, 0] rfl) hk9
def lm_bal2 (Z : Nat) (a : Int32) : Nat → Nat → Int64 → mS → Int64
  | 0, _, r, _ => r
  | n + 1, j, r, st =>
    lm_bal2 Z a n (j + 1) (r - ((ms_pe st j).toInt64)) st
set_option maxRecDepth 100000 in
set_option maxHeartbeats 4000000 in
theorem lm_bal2_ok {p : Program} {l : Launch} {e : Env} {s : State} {m : MethodId} {args : Array Value} {below : List Frame} {meth : Method} {c : Code} {D : va_G} {cA : Nat → ClassId} {Z : Nat} {ad : Nat → Nat} {Q : State → Prop} (hR : rD 19 ad) (hZ : 1 ≤ Z ∧ Z ≤ 6) (C : Cx p s m args meth c b_Mo_balance 5 R_Mo (some .long)) (hK : va_K D clG (tyM cA) s) (a : Int32) : ∀ (n : Nat) (j : Nat) (r : Int64) (st : mS) (H : Heap) (locs : List Loc) (ls : Array Slot), j + n = 4 → va_P D clG (pw 19 ad (mgx Z ad cA (st))) H → va_S (rA 19 ad s.heap.size) s.heap H locs → lv_has ls 5 [(0, .ref (ad 0)), (1, .int a), (2, .long r), (4, .int (nI j))] → (∀ (H : Heap) (locs : List Loc) (ls : Array Slot), va_P D clG (pw 19 ad (mgx Z ad cA (st))) H → va_S (rA 19 ad s.heap.size) s.heap H locs → lv_has ls 5 [(0, .ref (ad 0)), (1, .int a), (2, .long ((lm_bal2 Z a n j r st))), (4, .int (nI 4))] → W p l e ({ frames := 1, cells := 0, slots := 0, locals := 21 } : Room) s m args below meth c H locs 0 0 Q (F0 m 131 ls [])) → W p l e ({ frames := 1, cells := 0, slots := 0, locals := 21 } : Room) s m args below meth c H locs 0 0 Q (F0 m 108 ls []) := by
  obtain ⟨⟨hx, hb, hml, hown, hts⟩, hr, hlocks, hN⟩ := id C
  have hown : s.vm.findClass R_Mo = some m.cls := hown
  have hr : meth.sig.returnType = (some .long) := hr
  intro n
  induction n with
  | zero =>
    intro j r st H locs ls hn hP hS hl hk
    have hj9 : j = 4 := by omega
    refine lv_iload (pc := 108) hx hb d_Mo_balance_108 (lv_at hl 3 rfl) ?_
    refine lv_iconst (v := 4) (pc := 110) hx hb d_Mo_balance_110 (by decide) ?_
    refine lv_icmp_ge (tgt := 131) (pc := 111) hx hb d_Mo_balance_111 (by decide) (fun c_1 => ?_) (fun c_1 => absurd (by rw [hj9]; decide) c_1)
    exact hk H locs ls hP hS (by rw [hj9] at hl; exact lv_sub hl [0, 1, 2, 3] rfl)
  | succ n ih =>
    intro j r st H locs ls hn hP hS hl hk
    refine lv_iload (pc := 108) hx hb d_Mo_balance_108 (lv_at hl 3 rfl) ?_
    refine lv_iconst (v := 4) (pc := 110) hx hb d_Mo_balance_110 (by decide) ?_
    refine lv_icmp_ge (tgt := 131) (pc := 111) hx hb d_Mo_balance_111 (by decide) (fun c_1 => absurd c_1 (nI_ge (b := 4) (by omega) (by decide))) (fun c_1 => ?_)
    refine lv_lload_n (pc := 114) hx hb d_Mo_balance_114 rfl (lv_at hl 2 rfl) ?_
    refine lv_aload_n (pc := 115) hx hb d_Mo_balance_115 rfl (lv_at hl 0 rfl) ?_
    refine rg_get (C := R_Mo) (T := T_Mo) (N := 28) (v := .ref (ad 4)) (pc := 116) hx hb hts i_Mo hown hK hP 0 (by omega) mgx_M rfl 5 (by decide) (hts _ wd_533) rfl d_Mo_balance_116 ?_
    refine lv_iload (pc := 119) hx hb d_Mo_balance_119 (lv_at hl 3 rfl) ?_
    refine rg_iald (pc := 121) hx hb hK hP 4 (by omega) 0 mgx_pending rfl j (by omega) (by omega) rfl d_Mo_balance_121 ?_
    refine lv_i2l (pc := 122) hx hb d_Mo_balance_122 rfl ?_
    refine lv_lsub (pc := 123) hx hb d_Mo_balance_123 ?_
    refine lv_lstore_n (lv' := [(2, .long (r - ((ms_pe st j).toInt64))), (0, .ref (ad 0)), (1, .int a), (4, .int (nI j))]) (pc := 124) hx hb d_Mo_balance_124 rfl hl (by decide) rfl (fun ls hl => ?_)
    refine lv_iinc (v := nI (j + 1)) (lv' := [(4, .int (nI (j + 1))), (2, .long (r - ((ms_pe st j).toInt64))), (0, .ref (ad 0)), (1, .int a)]) (pc := 125) hx hb d_Mo_balance_125 hl (k := 3) rfl (nI_1 _) (by decide) rfl (fun ls hl => ?_)
    refine lv_goto (tgt := 108) (pc := 128) hx hb d_Mo_balance_128 (by decide) ?_
    have hk9 := hk
    unfold lm_bal2 at hk9
    exact ih (j + 1) (r - ((ms_pe st j).toInt64)) st _ _ ls (by omega) hP hS (lv_sub hl [2, 3, 1, 0] rfl) hk9
def lm_bal3 (Z : Nat) (a : Int32) : Nat → Nat → Int64 → mS → Int64
  | 0, _, r, _ => r
  | n + 1, j, r, st =>
    lm_bal3 Z a n (j + 1) (r - (((ms_wa st j) + (ms_fu st j)) + (ms_ah st j))) st
set_option maxRecDepth 100000 in
set_option maxHeartbeats 4000000 in
theorem lm_bal3_ok {p : Program} {l : Launch} {e : Env} {s : State} {m : MethodId} {args : Array Value} {below : List Frame} {meth : Method} {c : Code} {D : va_G} {cA : Nat → ClassId} {Z : Nat} {ad : Nat → Nat} {Q : State → Prop} (hR : rD 19 ad) (hZ : 1 ≤ Z ∧ Z ≤ 6) (C : Cx p s m args meth c b_Mo_balance 5 R_Mo (some .long)) (hK : va_K D clG (tyM cA) s) (a : Int32) : ∀ (n : Nat) (j : Nat) (r : Int64) (st : mS) (H : Heap) (locs : List Loc) (ls : Array Slot), j + n = Z → va_P D clG (pw 19 ad (mgx Z ad cA (st))) H → va_S (rA 19 ad s.heap.size) s.heap H locs → lv_has ls 5 [(0, .ref (ad 0)), (1, .int a), (2, .long r), (4, .int (nI j))] → (∀ (H : Heap) (locs : List Loc) (ls : Array Slot), va_P D clG (pw 19 ad (mgx Z ad cA (st))) H → va_S (rA 19 ad s.heap.size) s.heap H locs → lv_has ls 5 [(0, .ref (ad 0)), (1, .int a), (2, .long ((lm_bal3 Z a n j r st))), (4, .int (nI Z))] → W p l e ({ frames := 1, cells := 0, slots := 0, locals := 21 } : Room) s m args below meth c H locs 0 0 Q (F0 m 175 ls [])) → W p l e ({ frames := 1, cells := 0, slots := 0, locals := 21 } : Room) s m args below meth c H locs 0 0 Q (F0 m 134 ls []) := by
  obtain ⟨⟨hx, hb, hml, hown, hts⟩, hr, hlocks, hN⟩ := id C
  have hown : s.vm.findClass R_Mo = some m.cls := hown
  have hr : meth.sig.returnType = (some .long) := hr
  intro n
  induction n with
  | zero =>
    intro j r st H locs ls hn hP hS hl hk
    have hj9 : j = Z := by omega
    refine lv_iload (pc := 134) hx hb d_Mo_balance_134 (lv_at hl 3 rfl) ?_
    refine lv_aload_n (pc := 136) hx hb d_Mo_balance_136 rfl (lv_at hl 0 rfl) ?_
    refine rg_get (C := R_Mo) (T := T_Mo) (N := 28) (v := .int (nI Z)) (pc := 137) hx hb hts i_Mo hown hK hP 0 (by omega) mgx_M rfl 0 (by decide) (hts _ wd_528) rfl d_Mo_balance_137 ?_
    refine lv_icmp_ge (tgt := 175) (pc := 140) hx hb d_Mo_balance_140 (by decide) (fun c_1 => ?_) (fun c_1 => absurd (by rw [hj9]; exact Int32.le_refl _) c_1)
    exact hk H locs ls hP hS (by rw [hj9] at hl; exact lv_sub hl [0, 1, 2, 3] rfl)
  | succ n ih =>
    intro j r st H locs ls hn hP hS hl hk
    refine lv_iload (pc := 134) hx hb d_Mo_balance_134 (lv_at hl 3 rfl) ?_
    refine lv_aload_n (pc := 136) hx hb d_Mo_balance_136 rfl (lv_at hl 0 rfl) ?_
    refine rg_get (C := R_Mo) (T := T_Mo) (N := 28) (v := .int (nI Z)) (pc := 137) hx hb hts i_Mo hown hK hP 0 (by omega) mgx_M rfl 0 (by decide) (hts _ wd_528) rfl d_Mo_balance_137 ?_
    refine lv_icmp_ge (tgt := 175) (pc := 140) hx hb d_Mo_balance_140 (by decide) (fun c_1 => absurd c_1 (nI_ge (b := Z) (by omega) (by omega))) (fun c_1 => ?_)
    refine lv_lload_n (pc := 143) hx hb d_Mo_balance_143 rfl (lv_at hl 2 rfl) ?_
    refine lv_aload_n (pc := 144) hx hb d_Mo_balance_144 rfl (lv_at hl 0 rfl) ?_
    refine rg_get (C := R_Mo) (T := T_Mo) (N := 28) (v := .ref (ad 5)) (pc := 145) hx hb hts i_Mo hown hK hP 0 (by omega) mgx_M rfl 6 (by decide) (hts _ wd_534) rfl d_Mo_balance_145 ?_
    refine lv_iload (pc := 148) hx hb d_Mo_balance_148 (lv_at hl 3 rfl) ?_
    refine rg_lald (pc := 150) hx hb hK hP 5 (by omega) 1 mgx_waters rfl j (by omega) (by omega) rfl d_Mo_balance_150 ?_
    refine lv_aload_n (pc := 151) hx hb d_Mo_balance_151 rfl (lv_at hl 0 rfl) ?_
    refine rg_get (C := R_Mo) (T := T_Mo) (N := 28) (v := .ref (ad 6)) (pc := 152) hx hb hts i_Mo hown hK hP 0 (by omega) mgx_M rfl 7 (by decide) (hts _ wd_535) rfl d_Mo_balance_152 ?_
    refine lv_iload (pc := 155) hx hb d_Mo_balance_155 (lv_at hl 3 rfl) ?_
    refine rg_lald (pc := 157) hx hb hK hP 6 (by omega) 1 mgx_fuels rfl j (by omega) (by omega) rfl d_Mo_balance_157 ?_
    refine lv_ladd (pc := 158) hx hb d_Mo_balance_158 ?_
    refine lv_aload_n (pc := 159) hx hb d_Mo_balance_159 rfl (lv_at hl 0 rfl) ?_
    refine rg_get (C := R_Mo) (T := T_Mo) (N := 28) (v := .ref (ad 7)) (pc := 160) hx hb hts i_Mo hown hK hP 0 (by omega) mgx_M rfl 8 (by decide) (hts _ wd_536) rfl d_Mo_balance_160 ?_
    refine lv_iload (pc := 163) hx hb d_Mo_balance_163 (lv_at hl 3 rfl) ?_
    refine rg_lald (pc := 165) hx hb hK hP 7 (by omega) 1 mgx_ashes rfl j (by omega) (by omega) rfl d_Mo_balance_165 ?_
    refine lv_ladd (pc := 166) hx hb d_Mo_balance_166 ?_
    refine lv_lsub (pc := 167) hx hb d_Mo_balance_167 ?_
    refine lv_lstore_n (lv' := [(2, .long (r - (((ms_wa st j) + (ms_fu st j)) + (ms_ah st j)))), (0, .ref (ad 0)), (1, .int a), (4, .int (nI j))]) (pc := 168) hx hb d_Mo_balance_168 rfl hl (by decide) rfl (fun ls hl => ?_)
    refine lv_iinc (v := nI (j + 1)) (lv' := [(4, .int (nI (j + 1))), (2, .long (r - (((ms_wa st j) + (ms_fu st j)) + (ms_ah st j)))), (0, .ref (ad 0)), (1, .int a)]) (pc := 169) hx hb d_Mo_balance_169 hl (k := 3) rfl (nI_1 _) (by decide) rfl (fun ls hl => ?_)
    refine lv_goto (tgt := 134) (pc := 172) hx hb d_Mo_balance_172 (by decide) ?_
    have hk9 := hk
    unfold lm_bal3 at hk9
    exact ih (j + 1) (r - (((ms_wa st j) + (ms_fu st j)) + (ms_ah st j))) st _ _ ls (by omega) hP hS (lv_sub hl [2, 3, 1, 0] rfl) hk9
def f_Mo_balance (Z : Nat) (st : mS) (a : Int32) : Int64 :=
  if a = 1 then
    ((((ms_al st 5) + (ms_al st 6)) - (ms_al st 7)) - (ms_al st 8)) - (ms_al st 9)
  else
    if a = 0 then
      (lm_bal3 Z a Z 0 (lm_bal2 Z a 4 0 (lm_bal1 Z a 6 0 (((((ms_al st 0) - (ms_al st 1)) - (ms_al st 2)) - (ms_al st 3)) - (ms_al st 4)) st) st) st)
    else
      (-1)
set_option maxRecDepth 100000 in
set_option maxHeartbeats 4000000 in
theorem c_Mo_balance {l : Launch} {D : va_G} {cA : Nat → ClassId} {Z : Nat} {ad : Nat → Nat} (hR : rD 19 ad) (hZ : 1 ≤ Z ∧ Z ≤ 6) (st : mS) (a : Int32) : RL l y_Mo_balance (mws y_Mo_balance b_Mo_balance 5 (some .long)) ({ frames := 1, cells := 0, slots := 0, locals := 21 } : Room) D clG (tyM cA) 19 ad (mgx Z ad cA (st)) [.ref (ad 0), .int a] (f_Mo_balance Z st a) (mgx Z ad cA (st)) := by
  refine RL_of (cc := b_Mo_balance) (maxL := 5) (ret := (some .long)) (by decide) (Nat.le_of_ble_eq_true rfl) ?_
  intro p e s m args below meth c ls C hK hP hS hl
  obtain ⟨⟨hx, hb, hml, hown, hts⟩, hr, hlocks, hN⟩ := id C
  have hown : s.vm.findClass R_Mo = some m.cls := hown
  have hr : meth.sig.returnType = (some .long) := hr
  have hl : lv_has ls 5 [(0, .ref (ad 0)), (1, .int a)] := hl
  refine lv_iload_n (pc := 0) hx hb d_Mo_balance_0 rfl (lv_at hl 1 rfl) ?_
  refine lv_iconst (v := 1) (pc := 1) hx hb d_Mo_balance_1 (by decide) ?_
  refine lv_icmp_ne (tgt := 44) (pc := 2) hx hb d_Mo_balance_2 (by decide) (fun c_1 => ?_) (fun c_1 => ?_)
  · refine lv_aload_n (pc := 44) hx hb d_Mo_balance_44 rfl (lv_at hl 0 rfl) ?_
    refine rg_get (C := R_Mo) (T := T_Mo) (N := 28) (v := .ref (ad 17)) (pc := 45) hx hb hts i_Mo hown hK hP 0 (by omega) mgx_M rfl 25 (by decide) (hts _ wd_553) rfl d_Mo_balance_45 ?_
    refine lv_iconst (v := 0) (pc := 48) hx hb d_Mo_balance_48 (by decide) ?_
    refine rg_lald (pc := 49) hx hb hK hP 17 (by omega) 1 mgx_all rfl 0 (by omega) (by omega) rfl d_Mo_balance_49 ?_
    refine lv_aload_n (pc := 50) hx hb d_Mo_balance_50 rfl (lv_at hl 0 rfl) ?_
    refine rg_get (C := R_Mo) (T := T_Mo) (N := 28) (v := .ref (ad 17)) (pc := 51) hx hb hts i_Mo hown hK hP 0 (by omega) mgx_M rfl 25 (by decide) (hts _ wd_553) rfl d_Mo_balance_51 ?_
    refine lv_iconst (v := 1) (pc := 54) hx hb d_Mo_balance_54 (by decide) ?_
    refine rg_lald (pc := 55) hx hb hK hP 17 (by omega) 1 mgx_all rfl 1 (by omega) (by omega) rfl d_Mo_balance_55 ?_
    refine lv_lsub (pc := 56) hx hb d_Mo_balance_56 ?_
    refine lv_aload_n (pc := 57) hx hb d_Mo_balance_57 rfl (lv_at hl 0 rfl) ?_
    refine rg_get (C := R_Mo) (T := T_Mo) (N := 28) (v := .ref (ad 17)) (pc := 58) hx hb hts i_Mo hown hK hP 0 (by omega) mgx_M rfl 25 (by decide) (hts _ wd_553) rfl d_Mo_balance_58 ?_
    refine lv_iconst (v := 2) (pc := 61) hx hb d_Mo_balance_61 (by decide) ?_
    refine rg_lald (pc := 62) hx hb hK hP 17 (by omega) 1 mgx_all rfl 2 (by omega) (by omega) rfl d_Mo_balance_62 ?_
    refine lv_lsub (pc := 63) hx hb d_Mo_balance_63 ?_
    refine lv_aload_n (pc := 64) hx hb d_Mo_balance_64 rfl (lv_at hl 0 rfl) ?_
    refine rg_get (C := R_Mo) (T := T_Mo) (N := 28) (v := .ref (ad 17)) (pc := 65) hx hb hts i_Mo hown hK hP 0 (by omega) mgx_M rfl 25 (by decide) (hts _ wd_553) rfl d_Mo_balance_65 ?_
    refine lv_iconst (v := 3) (pc := 68) hx hb d_Mo_balance_68 (by decide) ?_
    refine rg_lald (pc := 69) hx hb hK hP 17 (by omega) 1 mgx_all rfl 3 (by omega) (by omega) rfl d_Mo_balance_69 ?_
    refine lv_lsub (pc := 70) hx hb d_Mo_balance_70 ?_
    refine lv_aload_n (pc := 71) hx hb d_Mo_balance_71 rfl (lv_at hl 0 rfl) ?_
    refine rg_get (C := R_Mo) (T := T_Mo) (N := 28) (v := .ref (ad 17)) (pc := 72) hx hb hts i_Mo hown hK hP 0 (by omega) mgx_M rfl 25 (by decide) (hts _ wd_553) rfl d_Mo_balance_72 ?_
    refine lv_iconst (v := 4) (pc := 75) hx hb d_Mo_balance_75 (by decide) ?_
    refine rg_lald (pc := 76) hx hb hK hP 17 (by omega) 1 mgx_all rfl 4 (by omega) (by omega) rfl d_Mo_balance_76 ?_
    refine lv_lsub (pc := 77) hx hb d_Mo_balance_77 ?_
    refine lv_lstore_n (lv' := [(2, .long (((((ms_al st 0) - (ms_al st 1)) - (ms_al st 2)) - (ms_al st 3)) - (ms_al st 4))), (0, .ref (ad 0)), (1, .int a)]) (pc := 78) hx hb d_Mo_balance_78 rfl hl (by decide) rfl (fun ls hl => ?_)
    refine lv_iconst (v := 0) (pc := 79) hx hb d_Mo_balance_79 (by decide) ?_
    refine lv_istore (lv' := [(4, .int 0), (2, .long (((((ms_al st 0) - (ms_al st 1)) - (ms_al st 2)) - (ms_al st 3)) - (ms_al st 4))), (0, .ref (ad 0)), (1, .int a)]) (pc := 80) hx hb d_Mo_balance_80 hl (by decide) rfl (fun ls hl => ?_)
    refine lm_bal1_ok hR hZ C hK a 6 0 (((((ms_al st 0) - (ms_al st 1)) - (ms_al st 2)) - (ms_al st 3)) - (ms_al st 4)) st _ _ ls (by omega) hP hS (lv_sub hl [2, 3, 1, 0] rfl) (fun H locs ls hP hS hl => ?_)
    refine lv_iconst (v := 0) (pc := 105) hx hb d_Mo_balance_105 (by decide) ?_
    refine lv_istore (lv' := [(4, .int 0), (0, .ref (ad 0)), (1, .int a), (2, .long ((lm_bal1 Z a 6 0 (((((ms_al st 0) - (ms_al st 1)) - (ms_al st 2)) - (ms_al st 3)) - (ms_al st 4)) st)))]) (pc := 106) hx hb d_Mo_balance_106 hl (by decide) rfl (fun ls hl => ?_)
    refine lm_bal2_ok hR hZ C hK a 4 0 (lm_bal1 Z a 6 0 (((((ms_al st 0) - (ms_al st 1)) - (ms_al st 2)) - (ms_al st 3)) - (ms_al st 4)) st) st _ _ ls (by omega) hP hS (lv_sub hl [1, 2, 3, 0] rfl) (fun H locs ls hP hS hl => ?_)
    refine lv_iconst (v := 0) (pc := 131) hx hb d_Mo_balance_131 (by decide) ?_
    refine lv_istore (lv' := [(4, .int 0), (0, .ref (ad 0)), (1, .int a), (2, .long ((lm_bal2 Z a 4 0 (lm_bal1 Z a 6 0 (((((ms_al st 0) - (ms_al st 1)) - (ms_al st 2)) - (ms_al st 3)) - (ms_al st 4)) st) st)))]) (pc := 132) hx hb d_Mo_balance_132 hl (by decide) rfl (fun ls hl => ?_)
    refine lm_bal3_ok hR hZ C hK a Z 0 (lm_bal2 Z a 4 0 (lm_bal1 Z a 6 0 (((((ms_al st 0) - (ms_al st 1)) - (ms_al st 2)) - (ms_al st 3)) - (ms_al st 4)) st) st) st _ _ ls (by omega) hP hS (lv_sub hl [1, 2, 3, 0] rfl) (fun H locs ls hP hS hl => ?_)
    refine lv_iload_n (pc := 175) hx hb d_Mo_balance_175 rfl (lv_at hl 1 rfl) ?_
    refine lv_if_ne (tgt := 183) (pc := 176) hx hb d_Mo_balance_176 (by decide) (fun c_2 => ?_) (fun c_2 => ?_)
    · refine lv_ldc2 (v := (-1)) (pc := 183) hx hb hown (hts _ wd_720) d_Mo_balance_183 ?_
      have e9 : f_Mo_balance Z st a = (-1) := by unfold f_Mo_balance; rw [if_neg c_1, if_neg c_2]
      exact rg_lret (pc := 186) hx hb hr hlocks hP hS ⟨e9.symm, rfl⟩ d_Mo_balance_186
    · refine lv_lload_n (pc := 179) hx hb d_Mo_balance_179 rfl (lv_at hl 2 rfl) ?_
      refine lv_goto (tgt := 186) (pc := 180) hx hb d_Mo_balance_180 (by decide) ?_
      have e9 : f_Mo_balance Z st a = (lm_bal3 Z a Z 0 (lm_bal2 Z a 4 0 (lm_bal1 Z a 6 0 (((((ms_al st 0) - (ms_al st 1)) - (ms_al st 2)) - (ms_al st 3)) - (ms_al st 4)) st) st) st) := by unfold f_Mo_balance; rw [if_neg c_1, if_pos c_2]
      exact rg_lret (pc := 186) hx hb hr hlocks hP hS ⟨e9.symm, rfl⟩ d_Mo_balance_186
  · refine lv_aload_n (pc := 5) hx hb d_Mo_balance_5 rfl (lv_at hl 0 rfl) ?_
    refine rg_get (C := R_Mo) (T := T_Mo) (N := 28) (v := .ref (ad 17)) (pc := 6) hx hb hts i_Mo hown hK hP 0 (by omega) mgx_M rfl 25 (by decide) (hts _ wd_553) rfl d_Mo_balance_6 ?_
    refine lv_iconst (v := 5) (pc := 9) hx hb d_Mo_balance_9 (by decide) ?_
    refine rg_lald (pc := 10) hx hb hK hP 17 (by omega) 1 mgx_all rfl 5 (by omega) (by omega) rfl d_Mo_balance_10 ?_
    refine lv_aload_n (pc := 11) hx hb d_Mo_balance_11 rfl (lv_at hl 0 rfl) ?_
    refine rg_get (C := R_Mo) (T := T_Mo) (N := 28) (v := .ref (ad 17)) (pc := 12) hx hb hts i_Mo hown hK hP 0 (by omega) mgx_M rfl 25 (by decide) (hts _ wd_553) rfl d_Mo_balance_12 ?_
    refine lv_bipush (v := 6) (pc := 15) hx hb d_Mo_balance_15 (by decide) ?_
    refine rg_lald (pc := 17) hx hb hK hP 17 (by omega) 1 mgx_all rfl 6 (by omega) (by omega) rfl d_Mo_balance_17 ?_
    refine lv_ladd (pc := 18) hx hb d_Mo_balance_18 ?_
    refine lv_aload_n (pc := 19) hx hb d_Mo_balance_19 rfl (lv_at hl 0 rfl) ?_
    refine rg_get (C := R_Mo) (T := T_Mo) (N := 28) (v := .ref (ad 17)) (pc := 20) hx hb hts i_Mo hown hK hP 0 (by omega) mgx_M rfl 25 (by decide) (hts _ wd_553) rfl d_Mo_balance_20 ?_
    refine lv_bipush (v := 7) (pc := 23) hx hb d_Mo_balance_23 (by decide) ?_
    refine rg_lald (pc := 25) hx hb hK hP 17 (by omega) 1 mgx_all rfl 7 (by omega) (by omega) rfl d_Mo_balance_25 ?_
    refine lv_lsub (pc := 26) hx hb d_Mo_balance_26 ?_
    refine lv_aload_n (pc := 27) hx hb d_Mo_balance_27 rfl (lv_at hl 0 rfl) ?_
    refine rg_get (C := R_Mo) (T := T_Mo) (N := 28) (v := .ref (ad 17)) (pc := 28) hx hb hts i_Mo hown hK hP 0 (by omega) mgx_M rfl 25 (by decide) (hts _ wd_553) rfl d_Mo_balance_28 ?_
    refine lv_bipush (v := 8) (pc := 31) hx hb d_Mo_balance_31 (by decide) ?_
    refine rg_lald (pc := 33) hx hb hK hP 17 (by omega) 1 mgx_all rfl 8 (by omega) (by omega) rfl d_Mo_balance_33 ?_
    refine lv_lsub (pc := 34) hx hb d_Mo_balance_34 ?_
    refine lv_aload_n (pc := 35) hx hb d_Mo_balance_35 rfl (lv_at hl 0 rfl) ?_
    refine rg_get (C := R_Mo) (T := T_Mo) (N := 28) (v := .ref (ad 17)) (pc := 36) hx hb hts i_Mo hown hK hP 0 (by omega) mgx_M rfl 25 (by decide) (hts _ wd_553) rfl d_Mo_balance_36 ?_
    refine lv_bipush (v := 9) (pc := 39) hx hb d_Mo_balance_39 (by decide) ?_
    refine rg_lald (pc := 41) hx hb hK hP 17 (by omega) 1 mgx_all rfl 9 (by omega) (by omega) rfl d_Mo_balance_41 ?_
    refine lv_lsub (pc := 42) hx hb d_Mo_balance_42 ?_
    have e9 : f_Mo_balance Z st a = ((((ms_al st 5) + (ms_al st 6)) - (ms_al st 7)) - (ms_al st 8)) - (ms_al st 9) := by unfold f_Mo_balance; rw [if_pos c_1]
    exact rg_lret (pc := 43) hx hb hr hlocks hP hS ⟨e9.symm, rfl⟩ d_Mo_balance_43
