theorem nat_plan {a : Int32} (h : ¬ f_GL_within a 1 4 = 0) : (a.toNatClampNeg < 5 ∧ 1 ≤ a.toNatClampNeg) ∧ a = nI a.toNatClampNeg := by
  unfold f_GL_within at h
  by_cases h0 : a < 1
  · rw [if_pos h0] at h; exact absurd rfl h
  · rw [if_neg h0] at h
    by_cases h1 : (4 : Int32) < a
    · rw [if_pos h1] at h; exact absurd rfl h
    · have e0 : (0 : Int32).toInt = 0 := by decide
      have e1 : (1 : Int32).toInt = 1 := by decide
      rw [Int32.lt_iff_toInt_lt, e1] at h0
      have h2 := nat_ix (a := a) (n := 5) (by decide) (fun q => by rw [Int32.lt_iff_toInt_lt, e0] at q; omega) (fun q => h1 (lt_ge9 (n := 4) (by decide) _ q))
      have h3 := congrArg Int32.toInt h2.2
      rw [nI_toInt (by omega)] at h3
      exact ⟨⟨h2.1, by omega⟩, h2.2⟩
theorem nat_ixg {a x : Int32} {g : Nat} (hx : x = nI g) (hg : g ≤ 4) (h0 : ¬ a < 0) (h1 : ¬ x ≤ a) : a.toNatClampNeg < 4 ∧ a = nI a.toNatClampNeg := by
  rw [hx] at h1
  have h2 := nat_ix (by omega) h0 h1
  exact ⟨by omega, h2.2⟩

def f_GL_plan (Z : Nat) (st : xS) (a : Int32) (qn : Nat) : Int32 × xS :=
  if (f_GL_within a 1 4) = 0 then
    ((-1), st)
  else
    ((f_Mi_leastSpread Z (f_Mi_look Z st) a.toNatClampNeg qn).1, (f_Mi_leastSpread Z (f_Mi_look Z st) a.toNatClampNeg qn).2)
set_option maxRecDepth 100000 in
set_option maxHeartbeats 4000000 in
theorem c_GL_plan {l : Launch} {D : va_G} {cA : Nat → ClassId} {Z : Nat} {ad : Nat → Nat} (hR : rD (36 + Z) ad) (hZ : 1 ≤ Z ∧ Z ≤ 6) (st : xS) (a : Int32) (qn : Nat) (hfc : xs_fc (f_Mi_look Z st) = nI qn) (hq6 : qn ≤ 6) (hfi : ∀ i, i < qn → ix6 (xs_fi (f_Mi_look Z st) i)) : RI l y_GL_plan (mws y_GL_plan b_GL_plan 2 (some .int)) ({ frames := 3, cells := 0, slots := 0, locals := 74 } : Room) D clG (tyX cA) (36 + Z) ad (xgx Z ad cA (st)) [.ref (ad 0), .int a] (f_GL_plan Z st a qn).1 (xgx Z ad cA ((f_GL_plan Z st a qn).2)) := by
  refine RI_of (cc := b_GL_plan) (maxL := 2) (ret := (some .int)) (by decide) (Nat.le_of_ble_eq_true rfl) ?_
  intro p e s m args below meth c ls C hK hP hS hl
  obtain ⟨⟨hx, hb, hml, hown, hts⟩, hr, hlocks, hN⟩ := id C
  have hown : s.vm.findClass R_GL = some m.cls := hown
  have hr : meth.sig.returnType = (some .int) := hr
  have hl : lv_has ls 2 [(0, .ref (ad 0)), (1, .int a)] := hl
  refine lv_iload_n (pc := 0) hx hb d_GL_plan_0 rfl (lv_at hl 1 rfl) ?_
  refine lv_iconst (v := 1) (pc := 1) hx hb d_GL_plan_1 (by decide) ?_
  refine lv_iconst (v := 4) (pc := 2) hx hb d_GL_plan_2 (by decide) ?_
  refine rg_ci (pc := 3) (va_runS (As := [.int a, .int 1, .int 4]) (rest := []) ⟨hx, hb, hml, hown, hts⟩ (c_GL_within (l := l) a 1 4 _) ⟨callB_of 3 hts (gd_c wd_112) rfl rfl rfl (hts _ wd_1) (hts _ wd_273) hd_GL_within ⟨Nat.le_of_ble_eq_true rfl, Nat.le_of_ble_eq_true rfl⟩, hts _ wd_111⟩ ⟨rPc_blind _ _ _ _ _ _ _ _, rPc_at _ hP hK hN⟩ rfl rfl hl.1 rfl (lv_room (Nat.le_of_ble_eq_true rfl)) d_GL_plan_3 ⟨Nat.zero_le _, Nat.zero_le _⟩) hS (fun H locs hP hS => ?_)
  refine lv_if_ne (tgt := 11) (pc := 6) hx hb d_GL_plan_6 (by decide) (fun c_1 => ?_) (fun c_1 => ?_)
  · have hax := nat_plan c_1
    have hax1 := hax.1
    rw [hax.2] at hl
    refine lv_aload_n (pc := 11) hx hb d_GL_plan_11 rfl (lv_at hl 0 rfl) ?_
    refine rg_get (C := R_GL) (T := T_GL) (N := 9) (v := .ref (ad 5)) (pc := 12) hx hb hts i_GL hown hK hP 0 (by omega) xgx_X rfl 5 (by decide) (hts _ wd_243) rfl d_GL_plan_12 ?_
    refine lv_aload_n (pc := 15) hx hb d_GL_plan_15 rfl (lv_at hl 0 rfl) ?_
    refine rg_get (C := R_GL) (T := T_GL) (N := 9) (v := .ref (ad 2)) (pc := 16) hx hb hts i_GL hown hK hP 0 (by omega) xgx_X rfl 1 (by decide) (hts _ wd_239) rfl d_GL_plan_16 ?_
    refine rg_cv (pc := 19) (va_runV (As := [.ref (ad 2)]) (rest := []) ⟨hx, hb, hml, hown, hts⟩ (c_Mi_look (l := l) hR hZ st  _) ⟨callB_of 1 hts (gd_c wd_484) rfl rfl rfl (hts _ wd_3) (hts _ wd_481) hd_Mi_look ⟨Nat.le_of_ble_eq_true rfl, Nat.le_of_ble_eq_true rfl⟩, hts _ wd_482, hts _ wd_483⟩ ⟨rPc_blind _ _ _ _ _ _ _ _, rg_rec hK hP 5 (by omega) xgx_mixer rfl, rPc_at _ hP hK hN⟩ rfl rfl hl.1 rfl (lv_room (Nat.le_of_ble_eq_true rfl)) d_GL_plan_19 ⟨Nat.zero_le _, Nat.zero_le _⟩) hS (fun H locs hP hS => ?_)
    refine lv_aload_n (pc := 22) hx hb d_GL_plan_22 rfl (lv_at hl 0 rfl) ?_
    refine rg_get (C := R_GL) (T := T_GL) (N := 9) (v := .ref (ad 5)) (pc := 23) hx hb hts i_GL hown hK hP 0 (by omega) xgx_X rfl 5 (by decide) (hts _ wd_243) rfl d_GL_plan_23 ?_
    refine lv_iload_n (pc := 26) hx hb d_GL_plan_26 rfl (lv_at hl 1 rfl) ?_
    refine rg_ci (pc := 27) (va_runV (As := [.int (nI a.toNatClampNeg)]) (rest := []) ⟨hx, hb, hml, hown, hts⟩ (c_Mi_leastSpread (l := l) hR hZ (f_Mi_look Z st) a.toNatClampNeg (by omega) qn hfc hq6 hfi (by omega) _) ⟨callB_of 1 hts (gd_c wd_490) rfl rfl rfl (hts _ wd_3) (hts _ wd_487) hd_Mi_leastSpread ⟨Nat.le_of_ble_eq_true rfl, Nat.le_of_ble_eq_true rfl⟩, hts _ wd_488, hts _ wd_489⟩ ⟨rPc_blind _ _ _ _ _ _ _ _, rg_rec hK hP 5 (by omega) xgx_mixer rfl, rPc_at _ hP hK hN⟩ rfl rfl hl.1 rfl (lv_room (Nat.le_of_ble_eq_true rfl)) d_GL_plan_27 ⟨Nat.zero_le _, Nat.zero_le _⟩) hS (fun H locs hP hS => ?_)
    have e9 : f_GL_plan Z st a qn = ((f_Mi_leastSpread Z (f_Mi_look Z st) a.toNatClampNeg qn).1, (f_Mi_leastSpread Z (f_Mi_look Z st) a.toNatClampNeg qn).2) := by unfold f_GL_plan; rw [if_neg c_1]
    exact rg_iret (pc := 30) hx hb hr hlocks hP hS ⟨by rw [e9], by rw [e9]⟩ d_GL_plan_30
  · refine lv_iconst (v := (-1)) (pc := 9) hx hb d_GL_plan_9 (by decide) ?_
    have e9 : f_GL_plan Z st a qn = ((-1), st) := by unfold f_GL_plan; rw [if_pos c_1]
    exact rg_iret (pc := 10) hx hb hr hlocks hP hS ⟨by rw [e9], by rw [e9]⟩ d_GL_plan_10

def f_GL_planned (Z : Nat) (st : xS) (a : Int32) : Int32 :=
  if a < 0 then
    (-1)
  else
    if (xs_fg st) ≤ a then
      (-1)
    else
      xs_fo st a.toNatClampNeg
set_option maxRecDepth 100000 in
set_option maxHeartbeats 4000000 in
theorem c_GL_planned {l : Launch} {D : va_G} {cA : Nat → ClassId} {Z : Nat} {ad : Nat → Nat} (hR : rD (36 + Z) ad) (hZ : 1 ≤ Z ∧ Z ≤ 6) (st : xS) (a : Int32) (gn : Nat) (hfg : xs_fg st = nI gn) (hgn : gn ≤ 4) : RI l y_GL_planned (mws y_GL_planned b_GL_planned 2 (some .int)) ({ frames := 0, cells := 0, slots := 0, locals := 0 } : Room) D clG (tyX cA) (36 + Z) ad (xgx Z ad cA (st)) [.ref (ad 0), .int a] (f_GL_planned Z st a) (xgx Z ad cA (st)) := by
  refine RI_of (cc := b_GL_planned) (maxL := 2) (ret := (some .int)) (by decide) (Nat.le_of_ble_eq_true rfl) ?_
  intro p e s m args below meth c ls C hK hP hS hl
  obtain ⟨⟨hx, hb, hml, hown, hts⟩, hr, hlocks, hN⟩ := id C
  have hown : s.vm.findClass R_GL = some m.cls := hown
  have hr : meth.sig.returnType = (some .int) := hr
  have hl : lv_has ls 2 [(0, .ref (ad 0)), (1, .int a)] := hl
  refine lv_iload_n (pc := 0) hx hb d_GL_planned_0 rfl (lv_at hl 1 rfl) ?_
  refine lv_if_lt (tgt := 27) (pc := 1) hx hb d_GL_planned_1 (by decide) (fun c_1 => ?_) (fun c_1 => ?_)
  · refine lv_iconst (v := (-1)) (pc := 27) hx hb d_GL_planned_27 (by decide) ?_
    have e9 : f_GL_planned Z st a = (-1) := by unfold f_GL_planned; rw [if_pos c_1]
    exact rg_iret (pc := 28) hx hb hr hlocks hP hS ⟨e9.symm, rfl⟩ d_GL_planned_28
  · refine lv_iload_n (pc := 4) hx hb d_GL_planned_4 rfl (lv_at hl 1 rfl) ?_
    refine lv_aload_n (pc := 5) hx hb d_GL_planned_5 rfl (lv_at hl 0 rfl) ?_
    refine rg_get (C := R_GL) (T := T_GL) (N := 9) (v := .ref (ad 5)) (pc := 6) hx hb hts i_GL hown hK hP 0 (by omega) xgx_X rfl 5 (by decide) (hts _ wd_243) rfl d_GL_planned_6 ?_
    refine rg_get (C := R_Mi) (T := T_Mi) (N := 6) (v := .int (xs_fg st)) (pc := 9) hx hb hts i_Mi hown hK hP 5 (by omega) xgx_mixer rfl 1 (by decide) (hts _ wd_85) rfl d_GL_planned_9 ?_
    refine lv_icmp_ge (tgt := 27) (pc := 12) hx hb d_GL_planned_12 (by decide) (fun c_2 => ?_) (fun c_2 => ?_)
    · refine lv_iconst (v := (-1)) (pc := 27) hx hb d_GL_planned_27 (by decide) ?_
      have e9 : f_GL_planned Z st a = (-1) := by unfold f_GL_planned; rw [if_neg c_1, if_pos c_2]
      exact rg_iret (pc := 28) hx hb hr hlocks hP hS ⟨e9.symm, rfl⟩ d_GL_planned_28
    · have hax := nat_ixg hfg hgn c_1 c_2
      have hax1 := hax.1
      refine lv_aload_n (pc := 15) hx hb d_GL_planned_15 rfl (lv_at hl 0 rfl) ?_
      refine rg_get (C := R_GL) (T := T_GL) (N := 9) (v := .ref (ad 5)) (pc := 16) hx hb hts i_GL hown hK hP 0 (by omega) xgx_X rfl 5 (by decide) (hts _ wd_243) rfl d_GL_planned_16 ?_
      refine rg_get (C := R_Mi) (T := T_Mi) (N := 6) (v := .ref (ad 6)) (pc := 19) hx hb hts i_Mi hown hK hP 5 (by omega) xgx_mixer rfl 0 (by decide) (hts _ wd_83) rfl d_GL_planned_19 ?_
      refine lv_iload_n (pc := 22) hx hb d_GL_planned_22 rfl (lv_at hl 1 rfl) ?_
      refine rg_iald (pc := 23) hx hb hK hP 6 (by omega) 0 xgx_found rfl a.toNatClampNeg (by omega) (by omega) hax.2 d_GL_planned_23 ?_
      refine lv_goto (tgt := 28) (pc := 24) hx hb d_GL_planned_24 (by decide) ?_
      have e9 : f_GL_planned Z st a = xs_fo st a.toNatClampNeg := by unfold f_GL_planned; rw [if_neg c_1, if_neg c_2]
      exact rg_iret (pc := 28) hx hb hr hlocks hP hS ⟨e9.symm, rfl⟩ d_GL_planned_28
