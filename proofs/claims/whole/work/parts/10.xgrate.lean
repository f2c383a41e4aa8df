/-- a counter that goes down: n rounds are left -/
def dc : Nat → Int32
  | 0 => -1
  | n + 1 => nI n
theorem dc_of (n : Nat) : nI n - 1 = dc n := by
  cases n with
  | zero => decide
  | succ n => exact nI_pred n
theorem dc_dec (n : Nat) : nI n + Int32.ofInt (-1) = dc n := by
  cases n with
  | zero => decide
  | succ n => exact pk_m1 n
theorem nat_ix {a : Int32} {n : Nat} (hn : n < 2 ^ 31) (h0 : ¬ a < 0) (h1 : ¬ nI n ≤ a) : a.toNatClampNeg < n ∧ a = nI a.toNatClampNeg := by
  obtain ⟨i, h2, h3, -, h4, -⟩ := pk_mu h0 h1 hn
  rw [h4]
  exact ⟨h2, h3⟩
theorem nat_within {a : Int32} (n : Nat) (hn : n < 2 ^ 31) {b : Int32} (hb : ∀ x : Int32, nI n ≤ x → b < x) (h : ¬ f_GL_within a 0 b = 0) : a.toNatClampNeg < n ∧ a = nI a.toNatClampNeg := by
  unfold f_GL_within at h
  by_cases h0 : a < 0
  · rw [if_pos h0] at h; exact absurd rfl h
  · rw [if_neg h0] at h
    by_cases h1 : b < a
    · rw [if_pos h1] at h; exact absurd rfl h
    · exact nat_ix hn h0 (fun q => h1 (hb a q))
theorem lt_ge9 {n : Nat} (hn : n + 1 < 2 ^ 31) (x : Int32) (h : nI (n + 1) ≤ x) : nI n < x := by
  rw [Int32.le_iff_toInt_le, nI_toInt hn] at h
  rw [Int32.lt_iff_toInt_lt, nI_toInt (by omega)]
  omega
theorem nat_isKind {a : Int32} (h : ¬ f_GL_isKind a = 0) : a.toNatClampNeg < 4 ∧ a = nI a.toNatClampNeg := nat_within 4 (by decide) (lt_ge9 (n := 3) (by decide)) h
theorem nat_isCell {a : Int32} (h : ¬ f_GL_isCell a = 0) : a.toNatClampNeg < 6 ∧ a = nI a.toNatClampNeg := nat_within 6 (by decide) (lt_ge9 (n := 5) (by decide)) h
theorem nat_isController {a : Int32} (h : ¬ f_GL_isController a = 0) : a.toNatClampNeg < 2 ∧ a = nI a.toNatClampNeg := nat_within 2 (by decide) (lt_ge9 (n := 1) (by decide)) h

def f_Gr_hasZone (Z : Nat) (st : xS) (a : Int32) : Int32 :=
  if a < 0 then
    0
  else
    if (nI Z) ≤ a then
      0
    else
      1
set_option maxRecDepth 100000 in
set_option maxHeartbeats 4000000 in
theorem c_Gr_hasZone {l : Launch} {D : va_G} {cA : Nat → ClassId} {Z : Nat} {ad : Nat → Nat} (hR : rD (36 + Z) ad) (hZ : 1 ≤ Z ∧ Z ≤ 6) (st : xS) (a : Int32) : RI l y_Gr_hasZone (mws y_Gr_hasZone b_Gr_hasZone 2 (some .boolean)) ({ frames := 0, cells := 0, slots := 0, locals := 0 } : Room) D clG (tyX cA) (36 + Z) ad (xgx Z ad cA (st)) [.ref (ad 10), .int a] (f_Gr_hasZone Z st a) (xgx Z ad cA (st)) := by
  refine RI_of (cc := b_Gr_hasZone) (maxL := 2) (ret := (some .boolean)) (by decide) (Nat.le_of_ble_eq_true rfl) ?_
  intro p e s m args below meth c ls C hK hP hS hl
  obtain ⟨⟨hx, hb, hml, hown, hts⟩, hr, hlocks, hN⟩ := id C
  have hown : s.vm.findClass R_Gr = some m.cls := hown
  have hr : meth.sig.returnType = (some .boolean) := hr
  have hl : lv_has ls 2 [(0, .ref (ad 10)), (1, .int a)] := hl
  refine lv_iload_n (pc := 0) hx hb d_Gr_hasZone_0 rfl (lv_at hl 1 rfl) ?_
  refine lv_if_lt (tgt := 17) (pc := 1) hx hb d_Gr_hasZone_1 (by decide) (fun c_1 => ?_) (fun c_1 => ?_)
  · refine lv_iconst (v := 0) (pc := 17) hx hb d_Gr_hasZone_17 (by decide) ?_
    have e9 : f_Gr_hasZone Z st a = 0 := by unfold f_Gr_hasZone; rw [if_pos c_1]
    exact rg_zret (pc := 18) hx hb hr hlocks rfl hP hS ⟨e9.symm, rfl⟩ d_Gr_hasZone_18
  · refine lv_iload_n (pc := 4) hx hb d_Gr_hasZone_4 rfl (lv_at hl 1 rfl) ?_
    refine lv_aload_n (pc := 5) hx hb d_Gr_hasZone_5 rfl (lv_at hl 0 rfl) ?_
    refine rg_get (C := R_Gr) (T := T_Gr) (N := 9) (v := .ref (ad 11)) (pc := 6) hx hb hts i_Gr hown hK hP 10 (by omega) xgx_grate rfl 0 (by decide) (hts _ wd_145) rfl d_Gr_hasZone_6 ?_
    refine rg_alen (v := nI Z) (pc := 9) hx hb hK hP 11 (by omega) 3 xgx_zonesA rfl rfl d_Gr_hasZone_9 ?_
    refine lv_icmp_ge (tgt := 17) (pc := 10) hx hb d_Gr_hasZone_10 (by decide) (fun c_2 => ?_) (fun c_2 => ?_)
    · refine lv_iconst (v := 0) (pc := 17) hx hb d_Gr_hasZone_17 (by decide) ?_
      have e9 : f_Gr_hasZone Z st a = 0 := by unfold f_Gr_hasZone; rw [if_neg c_1, if_pos c_2]
      exact rg_zret (pc := 18) hx hb hr hlocks rfl hP hS ⟨e9.symm, rfl⟩ d_Gr_hasZone_18
    · refine lv_iconst (v := 1) (pc := 13) hx hb d_Gr_hasZone_13 (by decide) ?_
      refine lv_goto (tgt := 18) (pc := 14) hx hb d_Gr_hasZone_14 (by decide) ?_
      have e9 : f_Gr_hasZone Z st a = 1 := by unfold f_Gr_hasZone; rw [if_neg c_1, if_neg c_2]
      exact rg_zret (pc := 18) hx hb hr hlocks rfl hP hS ⟨e9.symm, rfl⟩ d_Gr_hasZone_18

theorem nat_hasZone {Z : Nat} {st : xS} {a : Int32} (hZ : 1 ≤ Z ∧ Z ≤ 6) (h : ¬ f_Gr_hasZone Z st a = 0) : a.toNatClampNeg < Z ∧ a = nI a.toNatClampNeg := by
  unfold f_Gr_hasZone at h
  by_cases h0 : a < 0
  · rw [if_pos h0] at h; exact absurd rfl h
  · rw [if_neg h0] at h
    by_cases h1 : nI Z ≤ a
    · rw [if_pos h1] at h; exact absurd rfl h
    · exact nat_ix (by omega) h0 h1

def lp_moveOn (Z : Nat) : Nat → xS → xS
  | 0, st => st
  | n + 1, st =>
    if (nI Z) ≤ (nI (n + 1)) then
      lp_moveOn Z n (xp_aA (xp_lA (f_Zo_add Z st n (-(f_GL_thousandths (xs_zw st n) (xs_mv st))) (-(f_GL_thousandths (xs_zf st n) (xs_mv st))) (-(f_GL_thousandths (xs_za st n) (xs_mv st)))) ((xs_lA (f_Zo_add Z st n (-(f_GL_thousandths (xs_zw st n) (xs_mv st))) (-(f_GL_thousandths (xs_zf st n) (xs_mv st))) (-(f_GL_thousandths (xs_za st n) (xs_mv st))))) + ((f_GL_thousandths (xs_zw st n) (xs_mv st)) + (f_GL_thousandths (xs_zf st n) (xs_mv st))))) ((xs_aA (xp_lA (f_Zo_add Z st n (-(f_GL_thousandths (xs_zw st n) (xs_mv st))) (-(f_GL_thousandths (xs_zf st n) (xs_mv st))) (-(f_GL_thousandths (xs_za st n) (xs_mv st)))) ((xs_lA (f_Zo_add Z st n (-(f_GL_thousandths (xs_zw st n) (xs_mv st))) (-(f_GL_thousandths (xs_zf st n) (xs_mv st))) (-(f_GL_thousandths (xs_za st n) (xs_mv st))))) + ((f_GL_thousandths (xs_zw st n) (xs_mv st)) + (f_GL_thousandths (xs_zf st n) (xs_mv st)))))) + (f_GL_thousandths (xs_za st n) (xs_mv st))))
    else
      lp_moveOn Z n (f_Zo_add Z (f_Zo_add Z st n (-(f_GL_thousandths (xs_zw st n) (xs_mv st))) (-(f_GL_thousandths (xs_zf st n) (xs_mv st))) (-(f_GL_thousandths (xs_za st n) (xs_mv st)))) (n + 1) (f_GL_thousandths (xs_zw st n) (xs_mv st)) (f_GL_thousandths (xs_zf st n) (xs_mv st)) (f_GL_thousandths (xs_za st n) (xs_mv st)))
set_option maxRecDepth 100000 in
set_option maxHeartbeats 4000000 in
theorem lp_moveOn_ok {p : Program} {l : Launch} {e : Env} {s : State} {m : MethodId} {args : Array Value} {below : List Frame} {meth : Method} {c : Code} {D : va_G} {cA : Nat → ClassId} {Z : Nat} {ad : Nat → Nat} {Q : State → Prop} (hR : rD (36 + Z) ad) (hZ : 1 ≤ Z ∧ Z ≤ 6) (C : Cx p s m args meth c b_Gr_moveOn 9 R_Gr none) (hK : va_K D clG (tyX cA) s) : ∀ (n : Nat) (st : xS) (H : Heap) (locs : List Loc) (ls : Array Slot), n ≤ Z → va_P D clG (pw (36 + Z) ad (xgx Z ad cA (st))) H → va_S (rA (36 + Z) ad s.heap.size) s.heap H locs → lv_has ls 9 [(0, .ref (ad 10)), (1, .int (dc n))] → (∀ (H : Heap) (locs : List Loc) (ls : Array Slot), va_P D clG (pw (36 + Z) ad (xgx Z ad cA ((lp_moveOn Z n st)))) H → va_S (rA (36 + Z) ad s.heap.size) s.heap H locs → lv_has ls 9 [(0, .ref (ad 10)), (1, .int (-1))] → W p l e ({ frames := 1, cells := 0, slots := 0, locals := 26 } : Room) s m args below meth c H locs 0 0 Q (F0 m 129 ls [])) → W p l e ({ frames := 1, cells := 0, slots := 0, locals := 26 } : Room) s m args below meth c H locs 0 0 Q (F0 m 8 ls []) := by
  obtain ⟨⟨hx, hb, hml, hown, hts⟩, hr, hlocks, hN⟩ := id C
  have hown : s.vm.findClass R_Gr = some m.cls := hown
  have hr : meth.sig.returnType = none := hr
  intro n
  induction n with
  | zero =>
    intro st H locs ls hn hP hS hl hk
    have hl : lv_has ls 9 [(0, .ref (ad 10)), (1, .int (-1))] := hl
    refine lv_iload_n (pc := 8) hx hb d_Gr_moveOn_8 rfl (lv_at hl 1 rfl) ?_
    refine lv_if_lt (tgt := 129) (pc := 9) hx hb d_Gr_moveOn_9 (by decide) (fun c_1 => ?_) (fun c_1 => absurd (by decide) c_1)
    exact hk H locs ls hP hS (lv_sub hl [0, 1] rfl)
  | succ n ih =>
    intro st H locs ls hn hP hS hl hk
    have hl : lv_has ls 9 [(0, .ref (ad 10)), (1, .int (nI n))] := hl
    refine lv_iload_n (pc := 8) hx hb d_Gr_moveOn_8 rfl (lv_at hl 1 rfl) ?_
    refine lv_if_lt (tgt := 129) (pc := 9) hx hb d_Gr_moveOn_9 (by decide) (fun c_1 => absurd c_1 (nI_pos (by omega))) (fun c_1 => ?_)
    refine lv_aload_n (pc := 12) hx hb d_Gr_moveOn_12 rfl (lv_at hl 0 rfl) ?_
    refine rg_get (C := R_Gr) (T := T_Gr) (N := 9) (v := .ref (ad 11)) (pc := 13) hx hb hts i_Gr hown hK hP 10 (by omega) xgx_grate rfl 0 (by decide) (hts _ wd_145) rfl d_Gr_moveOn_13 ?_
    refine lv_iload_n (pc := 16) hx hb d_Gr_moveOn_16 rfl (lv_at hl 1 rfl) ?_
    refine rg_aldq (pc := 17) hx hb hK hP 11 (by omega) 3 xgx_zonesA rfl n (by omega) (by omega) rfl rfl d_Gr_moveOn_17 ?_
    refine lv_astore_n (lv' := [(2, .ref (ad (36 + n))), (0, .ref (ad 10)), (1, .int (nI n))]) (pc := 18) hx hb d_Gr_moveOn_18 rfl hl (by decide) rfl (fun ls hl => ?_)
    refine lv_aload_n (pc := 19) hx hb d_Gr_moveOn_19 rfl (lv_at hl 0 rfl) ?_
    refine rg_get (C := R_Zo) (T := T_Zo) (N := 5) (v := .long (xs_zw st n)) (pc := 20) hx hb hts i_Zo hown hK hP (36 + n) (by omega) (xgx_Zone (j := n) (by omega)) rfl 0 (by decide) (hts _ wd_121) rfl d_Gr_moveOn_20 ?_
    refine lv_aload_n (pc := 23) hx hb d_Gr_moveOn_23 rfl (lv_at hl 1 rfl) ?_
    refine rg_get (C := R_Gr) (T := T_Gr) (N := 9) (v := .int (xs_mv st)) (pc := 24) hx hb hts i_Gr hown hK hP 10 (by omega) xgx_grate rfl 1 (by decide) (hts _ wd_147) rfl d_Gr_moveOn_24 ?_
    refine rg_cl (pc := 27) (va_runSN (As := [.long (xs_zw st n), .int (xs_mv st)]) (rest := []) ⟨hx, hb, hml, hown, hts⟩ (c_GL_thousandths (l := l) (xs_zw st n) (xs_mv st) _) ⟨va_cnB 2 hts (gd_c wd_357) rfl rfl rfl (wn_Gr_51 hN) (hts _ wd_1) hd_GL_thousandths ⟨Nat.le_of_ble_eq_true rfl, Nat.le_of_ble_eq_true rfl⟩, hts _ wd_356, trivial⟩ ⟨rPc_blind _ _ _ _ _ _ _ _, rPc_at _ hP hK hN⟩ rfl rfl hl.1 rfl (lv_room (Nat.le_of_ble_eq_true rfl)) d_Gr_moveOn_27 ⟨Nat.zero_le _, Nat.zero_le _⟩) hS (fun H locs hP hS => ?_)
    refine lv_lstore_n (lv' := [(3, .long (f_GL_thousandths (xs_zw st n) (xs_mv st))), (2, .ref (ad (36 + n))), (0, .ref (ad 10)), (1, .int (nI n))]) (pc := 30) hx hb d_Gr_moveOn_30 rfl hl (by decide) rfl (fun ls hl => ?_)
    refine lv_aload_n (pc := 31) hx hb d_Gr_moveOn_31 rfl (lv_at hl 1 rfl) ?_
    refine rg_get (C := R_Zo) (T := T_Zo) (N := 5) (v := .long (xs_zf st n)) (pc := 32) hx hb hts i_Zo hown hK hP (36 + n) (by omega) (xgx_Zone (j := n) (by omega)) rfl 1 (by decide) (hts _ wd_124) rfl d_Gr_moveOn_32 ?_
    refine lv_aload_n (pc := 35) hx hb d_Gr_moveOn_35 rfl (lv_at hl 2 rfl) ?_
    refine rg_get (C := R_Gr) (T := T_Gr) (N := 9) (v := .int (xs_mv st)) (pc := 36) hx hb hts i_Gr hown hK hP 10 (by omega) xgx_grate rfl 1 (by decide) (hts _ wd_147) rfl d_Gr_moveOn_36 ?_
    refine rg_cl (pc := 39) (va_runSN (As := [.long (xs_zf st n), .int (xs_mv st)]) (rest := []) ⟨hx, hb, hml, hown, hts⟩ (c_GL_thousandths (l := l) (xs_zf st n) (xs_mv st) _) ⟨va_cnB 2 hts (gd_c wd_357) rfl rfl rfl (wn_Gr_51 hN) (hts _ wd_1) hd_GL_thousandths ⟨Nat.le_of_ble_eq_true rfl, Nat.le_of_ble_eq_true rfl⟩, hts _ wd_356, trivial⟩ ⟨rPc_blind _ _ _ _ _ _ _ _, rPc_at _ hP hK hN⟩ rfl rfl hl.1 rfl (lv_room (Nat.le_of_ble_eq_true rfl)) d_Gr_moveOn_39 ⟨Nat.zero_le _, Nat.zero_le _⟩) hS (fun H locs hP hS => ?_)
    refine lv_lstore (lv' := [(5, .long (f_GL_thousandths (xs_zf st n) (xs_mv st))), (3, .long (f_GL_thousandths (xs_zw st n) (xs_mv st))), (2, .ref (ad (36 + n))), (0, .ref (ad 10)), (1, .int (nI n))]) (pc := 42) hx hb d_Gr_moveOn_42 hl (by decide) rfl (fun ls hl => ?_)
    refine lv_aload_n (pc := 44) hx hb d_Gr_moveOn_44 rfl (lv_at hl 2 rfl) ?_
    refine rg_get (C := R_Zo) (T := T_Zo) (N := 5) (v := .long (xs_za st n)) (pc := 45) hx hb hts i_Zo hown hK hP (36 + n) (by omega) (xgx_Zone (j := n) (by omega)) rfl 2 (by decide) (hts _ wd_127) rfl d_Gr_moveOn_45 ?_
    refine lv_aload_n (pc := 48) hx hb d_Gr_moveOn_48 rfl (lv_at hl 3 rfl) ?_
    refine rg_get (C := R_Gr) (T := T_Gr) (N := 9) (v := .int (xs_mv st)) (pc := 49) hx hb hts i_Gr hown hK hP 10 (by omega) xgx_grate rfl 1 (by decide) (hts _ wd_147) rfl d_Gr_moveOn_49 ?_
    refine rg_cl (pc := 52) (va_runSN (As := [.long (xs_za st n), .int (xs_mv st)]) (rest := []) ⟨hx, hb, hml, hown, hts⟩ (c_GL_thousandths (l := l) (xs_za st n) (xs_mv st) _) ⟨va_cnB 2 hts (gd_c wd_357) rfl rfl rfl (wn_Gr_51 hN) (hts _ wd_1) hd_GL_thousandths ⟨Nat.le_of_ble_eq_true rfl, Nat.le_of_ble_eq_true rfl⟩, hts _ wd_356, trivial⟩ ⟨rPc_blind _ _ _ _ _ _ _ _, rPc_at _ hP hK hN⟩ rfl rfl hl.1 rfl (lv_room (Nat.le_of_ble_eq_true rfl)) d_Gr_moveOn_52 ⟨Nat.zero_le _, Nat.zero_le _⟩) hS (fun H locs hP hS => ?_)
    refine lv_lstore (lv' := [(7, .long (f_GL_thousandths (xs_za st n) (xs_mv st))), (5, .long (f_GL_thousandths (xs_zf st n) (xs_mv st))), (3, .long (f_GL_thousandths (xs_zw st n) (xs_mv st))), (2, .ref (ad (36 + n))), (0, .ref (ad 10)), (1, .int (nI n))]) (pc := 55) hx hb d_Gr_moveOn_55 hl (by decide) rfl (fun ls hl => ?_)
    refine lv_aload_n (pc := 57) hx hb d_Gr_moveOn_57 rfl (lv_at hl 3 rfl) ?_
    refine lv_lload_n (pc := 58) hx hb d_Gr_moveOn_58 rfl (lv_at hl 2 rfl) ?_
    refine lv_lneg (pc := 59) hx hb d_Gr_moveOn_59 ?_
    refine lv_lload (pc := 60) hx hb d_Gr_moveOn_60 (lv_at hl 1 rfl) ?_
    refine lv_lneg (pc := 62) hx hb d_Gr_moveOn_62 ?_
    refine lv_lload (pc := 63) hx hb d_Gr_moveOn_63 (lv_at hl 0 rfl) ?_
    refine lv_lneg (pc := 65) hx hb d_Gr_moveOn_65 ?_
    refine rg_cv (pc := 66) (va_runV (As := [.long (-(f_GL_thousandths (xs_zw st n) (xs_mv st))), .long (-(f_GL_thousandths (xs_zf st n) (xs_mv st))), .long (-(f_GL_thousandths (xs_za st n) (xs_mv st)))]) (rest := []) ⟨hx, hb, hml, hown, hts⟩ (c_Zo_add (l := l) hR hZ st n (by omega) (-(f_GL_thousandths (xs_zw st n) (xs_mv st))) (-(f_GL_thousandths (xs_zf st n) (xs_mv st))) (-(f_GL_thousandths (xs_za st n) (xs_mv st))) _) ⟨callB_of 3 hts (gd_c wd_362) rfl rfl rfl (hts _ wd_5) (hts _ wd_359) hd_Zo_add ⟨Nat.le_of_ble_eq_true rfl, Nat.le_of_ble_eq_true rfl⟩, hts _ wd_360, hts _ wd_361⟩ ⟨rPc_blind _ _ _ _ _ _ _ _, rg_rec hK hP (36 + n) (by omega) (xgx_Zone (j := n) (by omega)) rfl, rPc_at _ hP hK hN⟩ rfl rfl hl.1 rfl (lv_room (Nat.le_of_ble_eq_true rfl)) d_Gr_moveOn_66 ⟨Nat.zero_le _, Nat.zero_le _⟩) hS (fun H locs hP hS => ?_)
    refine lv_iload_n (pc := 69) hx hb d_Gr_moveOn_69 rfl (lv_at hl 5 rfl) ?_
    refine lv_iconst (v := 1) (pc := 70) hx hb d_Gr_moveOn_70 (by decide) ?_
    refine lv_iadd (pc := 71) hx hb d_Gr_moveOn_71 ?_
    rw [show ((nI n) + 1 : Int32) = nI (n + 1) from nI_add _ _]
    refine lv_aload_n (pc := 72) hx hb d_Gr_moveOn_72 rfl (lv_at hl 4 rfl) ?_
    refine rg_get (C := R_Gr) (T := T_Gr) (N := 9) (v := .ref (ad 11)) (pc := 73) hx hb hts i_Gr hown hK hP 10 (by omega) xgx_grate rfl 0 (by decide) (hts _ wd_145) rfl d_Gr_moveOn_73 ?_
    refine rg_alen (v := nI Z) (pc := 76) hx hb hK hP 11 (by omega) 3 xgx_zonesA rfl rfl d_Gr_moveOn_76 ?_
    refine lv_icmp_ge (tgt := 99) (pc := 77) hx hb d_Gr_moveOn_77 (by decide) (fun c_2 => ?_) (fun c_2 => ?_)
    · refine lv_aload_n (pc := 99) hx hb d_Gr_moveOn_99 rfl (lv_at hl 4 rfl) ?_
      refine lv_dup (pc := 100) hx hb d_Gr_moveOn_100 rfl ?_
      refine rg_get (C := R_Gr) (T := T_Gr) (N := 9) (v := .long (xs_lA (f_Zo_add Z st n (-(f_GL_thousandths (xs_zw st n) (xs_mv st))) (-(f_GL_thousandths (xs_zf st n) (xs_mv st))) (-(f_GL_thousandths (xs_za st n) (xs_mv st)))))) (pc := 101) hx hb hts i_Gr hown hK hP 10 (by omega) xgx_grate rfl 7 (by decide) (hts _ wd_159) rfl d_Gr_moveOn_101 ?_
      refine lv_lload_n (pc := 104) hx hb d_Gr_moveOn_104 rfl (lv_at hl 2 rfl) ?_
      refine lv_lload (pc := 105) hx hb d_Gr_moveOn_105 (lv_at hl 1 rfl) ?_
      refine lv_ladd (pc := 107) hx hb d_Gr_moveOn_107 ?_
      refine lv_ladd (pc := 108) hx hb d_Gr_moveOn_108 ?_
      refine rg_put (C := R_Gr) (T := T_Gr) (N := 9) (pc := 109) hx hb hts i_Gr t_Gr t_Gr_ok n_Gr hown hK hR hP hS 10 (by omega) xgx_grate rfl 7 (by decide) (hts _ wd_159) rfl rfl rfl (Nat.le_of_ble_eq_true rfl) d_Gr_moveOn_109 (xgx_grate_lA ((xs_lA (f_Zo_add Z st n (-(f_GL_thousandths (xs_zw st n) (xs_mv st))) (-(f_GL_thousandths (xs_zf st n) (xs_mv st))) (-(f_GL_thousandths (xs_za st n) (xs_mv st))))) + ((f_GL_thousandths (xs_zw st n) (xs_mv st)) + (f_GL_thousandths (xs_zf st n) (xs_mv st))))) (fun H locs hP hS => ?_)
      refine lv_aload_n (pc := 112) hx hb d_Gr_moveOn_112 rfl (lv_at hl 4 rfl) ?_
      refine lv_dup (pc := 113) hx hb d_Gr_moveOn_113 rfl ?_
      refine rg_get (C := R_Gr) (T := T_Gr) (N := 9) (v := .long (xs_aA (xp_lA (f_Zo_add Z st n (-(f_GL_thousandths (xs_zw st n) (xs_mv st))) (-(f_GL_thousandths (xs_zf st n) (xs_mv st))) (-(f_GL_thousandths (xs_za st n) (xs_mv st)))) ((xs_lA (f_Zo_add Z st n (-(f_GL_thousandths (xs_zw st n) (xs_mv st))) (-(f_GL_thousandths (xs_zf st n) (xs_mv st))) (-(f_GL_thousandths (xs_za st n) (xs_mv st))))) + ((f_GL_thousandths (xs_zw st n) (xs_mv st)) + (f_GL_thousandths (xs_zf st n) (xs_mv st))))))) (pc := 114) hx hb hts i_Gr hown hK hP 10 (by omega) xgx_grate rfl 8 (by decide) (hts _ wd_161) rfl d_Gr_moveOn_114 ?_
      refine lv_lload (pc := 117) hx hb d_Gr_moveOn_117 (lv_at hl 0 rfl) ?_
      refine lv_ladd (pc := 119) hx hb d_Gr_moveOn_119 ?_
      refine rg_put (C := R_Gr) (T := T_Gr) (N := 9) (pc := 120) hx hb hts i_Gr t_Gr t_Gr_ok n_Gr hown hK hR hP hS 10 (by omega) xgx_grate rfl 8 (by decide) (hts _ wd_161) rfl rfl rfl (Nat.le_of_ble_eq_true rfl) d_Gr_moveOn_120 (xgx_grate_aA ((xs_aA (xp_lA (f_Zo_add Z st n (-(f_GL_thousandths (xs_zw st n) (xs_mv st))) (-(f_GL_thousandths (xs_zf st n) (xs_mv st))) (-(f_GL_thousandths (xs_za st n) (xs_mv st)))) ((xs_lA (f_Zo_add Z st n (-(f_GL_thousandths (xs_zw st n) (xs_mv st))) (-(f_GL_thousandths (xs_zf st n) (xs_mv st))) (-(f_GL_thousandths (xs_za st n) (xs_mv st))))) + ((f_GL_thousandths (xs_zw st n) (xs_mv st)) + (f_GL_thousandths (xs_zf st n) (xs_mv st)))))) + (f_GL_thousandths (xs_za st n) (xs_mv st)))) (fun H locs hP hS => ?_)
      refine lv_iinc (v := dc n) (lv' := [(1, .int (dc n)), (7, .long (f_GL_thousandths (xs_za st n) (xs_mv st))), (5, .long (f_GL_thousandths (xs_zf st n) (xs_mv st))), (3, .long (f_GL_thousandths (xs_zw st n) (xs_mv st))), (2, .ref (ad (36 + n))), (0, .ref (ad 10))]) (pc := 123) hx hb d_Gr_moveOn_123 hl (k := 5) rfl (dc_dec n) (by decide) rfl (fun ls hl => ?_)
      refine lv_goto (tgt := 8) (pc := 126) hx hb d_Gr_moveOn_126 (by decide) ?_
      have hk9 := hk
      unfold lp_moveOn at hk9
      rw [if_pos c_2] at hk9
      exact ih (xp_aA (xp_lA (f_Zo_add Z st n (-(f_GL_thousandths (xs_zw st n) (xs_mv st))) (-(f_GL_thousandths (xs_zf st n) (xs_mv st))) (-(f_GL_thousandths (xs_za st n) (xs_mv st)))) ((xs_lA (f_Zo_add Z st n (-(f_GL_thousandths (xs_zw st n) (xs_mv st))) (-(f_GL_thousandths (xs_zf st n) (xs_mv st))) (-(f_GL_thousandths (xs_za st n) (xs_mv st))))) + ((f_GL_thousandths (xs_zw st n) (xs_mv st)) + (f_GL_thousandths (xs_zf st n) (xs_mv st))))) ((xs_aA (xp_lA (f_Zo_add Z st n (-(f_GL_thousandths (xs_zw st n) (xs_mv st))) (-(f_GL_thousandths (xs_zf st n) (xs_mv st))) (-(f_GL_thousandths (xs_za st n) (xs_mv st)))) ((xs_lA (f_Zo_add Z st n (-(f_GL_thousandths (xs_zw st n) (xs_mv st))) (-(f_GL_thousandths (xs_zf st n) (xs_mv st))) (-(f_GL_thousandths (xs_za st n) (xs_mv st))))) + ((f_GL_thousandths (xs_zw st n) (xs_mv st)) + (f_GL_thousandths (xs_zf st n) (xs_mv st)))))) + (f_GL_thousandths (xs_za st n) (xs_mv st)))) _ _ ls (by omega) hP hS (lv_sub hl [5, 0] rfl) hk9
    · have hz9 : ¬ Z ≤ n + 1 := fun q => c_2 ((nI_leI (by omega) (by omega)).mpr q)
      refine lv_aload_n (pc := 80) hx hb d_Gr_moveOn_80 rfl (lv_at hl 4 rfl) ?_
      refine rg_get (C := R_Gr) (T := T_Gr) (N := 9) (v := .ref (ad 11)) (pc := 81) hx hb hts i_Gr hown hK hP 10 (by omega) xgx_grate rfl 0 (by decide) (hts _ wd_145) rfl d_Gr_moveOn_81 ?_
      refine lv_iload_n (pc := 84) hx hb d_Gr_moveOn_84 rfl (lv_at hl 5 rfl) ?_
      refine lv_iconst (v := 1) (pc := 85) hx hb d_Gr_moveOn_85 (by decide) ?_
      refine lv_iadd (pc := 86) hx hb d_Gr_moveOn_86 ?_
      rw [show ((nI n) + 1 : Int32) = nI (n + 1) from nI_add _ _]
      refine rg_aldq (pc := 87) hx hb hK hP 11 (by omega) 3 xgx_zonesA rfl (n + 1) (by omega) (by omega) rfl rfl d_Gr_moveOn_87 ?_
      refine lv_lload_n (pc := 88) hx hb d_Gr_moveOn_88 rfl (lv_at hl 2 rfl) ?_
      refine lv_lload (pc := 89) hx hb d_Gr_moveOn_89 (lv_at hl 1 rfl) ?_
      refine lv_lload (pc := 91) hx hb d_Gr_moveOn_91 (lv_at hl 0 rfl) ?_
      refine rg_cv (pc := 93) (va_runV (As := [.long (f_GL_thousandths (xs_zw st n) (xs_mv st)), .long (f_GL_thousandths (xs_zf st n) (xs_mv st)), .long (f_GL_thousandths (xs_za st n) (xs_mv st))]) (rest := []) ⟨hx, hb, hml, hown, hts⟩ (c_Zo_add (l := l) hR hZ (f_Zo_add Z st n (-(f_GL_thousandths (xs_zw st n) (xs_mv st))) (-(f_GL_thousandths (xs_zf st n) (xs_mv st))) (-(f_GL_thousandths (xs_za st n) (xs_mv st)))) (n + 1) (by omega) (f_GL_thousandths (xs_zw st n) (xs_mv st)) (f_GL_thousandths (xs_zf st n) (xs_mv st)) (f_GL_thousandths (xs_za st n) (xs_mv st)) _) ⟨callB_of 3 hts (gd_c wd_362) rfl rfl rfl (hts _ wd_5) (hts _ wd_359) hd_Zo_add ⟨Nat.le_of_ble_eq_true rfl, Nat.le_of_ble_eq_true rfl⟩, hts _ wd_360, hts _ wd_361⟩ ⟨rPc_blind _ _ _ _ _ _ _ _, rg_rec hK hP (36 + (n + 1)) (by omega) (xgx_Zone (j := (n + 1)) (by omega)) rfl, rPc_at _ hP hK hN⟩ rfl rfl hl.1 rfl (lv_room (Nat.le_of_ble_eq_true rfl)) d_Gr_moveOn_93 ⟨Nat.zero_le _, Nat.zero_le _⟩) hS (fun H locs hP hS => ?_)
      refine lv_goto (tgt := 123) (pc := 96) hx hb d_Gr_moveOn_96 (by decide) ?_
      refine lv_iinc (v := dc n) (lv' := [(1, .int (dc n)), (7, .long (f_GL_thousandths (xs_za st n) (xs_mv st))), (5, .long (f_GL_thousandths (xs_zf st n) (xs_mv st))), (3, .long (f_GL_thousandths (xs_zw st n) (xs_mv st))), (2, .ref (ad (36 + n))), (0, .ref (ad 10))]) (pc := 123) hx hb d_Gr_moveOn_123 hl (k := 5) rfl (dc_dec n) (by decide) rfl (fun ls hl => ?_)
      refine lv_goto (tgt := 8) (pc := 126) hx hb d_Gr_moveOn_126 (by decide) ?_
      have hk9 := hk
      unfold lp_moveOn at hk9
      rw [if_neg c_2] at hk9
      exact ih (f_Zo_add Z (f_Zo_add Z st n (-(f_GL_thousandths (xs_zw st n) (xs_mv st))) (-(f_GL_thousandths (xs_zf st n) (xs_mv st))) (-(f_GL_thousandths (xs_za st n) (xs_mv st)))) (n + 1) (f_GL_thousandths (xs_zw st n) (xs_mv st)) (f_GL_thousandths (xs_zf st n) (xs_mv st)) (f_GL_thousandths (xs_za st n) (xs_mv st))) _ _ ls (by omega) hP hS (lv_sub hl [5, 0] rfl) hk9
def f_Gr_moveOn (Z : Nat) (st : xS) : xS :=
  (lp_moveOn Z Z st)
set_option maxRecDepth 100000 in
set_option maxHeartbeats 4000000 in
theorem c_Gr_moveOn {l : Launch} {D : va_G} {cA : Nat → ClassId} {Z : Nat} {ad : Nat → Nat} (hR : rD (36 + Z) ad) (hZ : 1 ≤ Z ∧ Z ≤ 6) (st : xS) : RV l y_Gr_moveOn (mws y_Gr_moveOn b_Gr_moveOn 9 none) ({ frames := 1, cells := 0, slots := 0, locals := 26 } : Room) D clG (tyX cA) (36 + Z) ad (xgx Z ad cA (st)) [.ref (ad 10)] (xgx Z ad cA (f_Gr_moveOn Z st)) := by
  refine RV_of (cc := b_Gr_moveOn) (maxL := 9) (ret := none) (by decide) (Nat.le_of_ble_eq_true rfl) ?_
  intro p e s m args below meth c ls C hK hP hS hl
  obtain ⟨⟨hx, hb, hml, hown, hts⟩, hr, hlocks, hN⟩ := id C
  have hown : s.vm.findClass R_Gr = some m.cls := hown
  have hr : meth.sig.returnType = none := hr
  have hl : lv_has ls 9 [(0, .ref (ad 10))] := hl
  refine lv_aload_n (pc := 0) hx hb d_Gr_moveOn_0 rfl (lv_at hl 0 rfl) ?_
  refine rg_get (C := R_Gr) (T := T_Gr) (N := 9) (v := .ref (ad 11)) (pc := 1) hx hb hts i_Gr hown hK hP 10 (by omega) xgx_grate rfl 0 (by decide) (hts _ wd_145) rfl d_Gr_moveOn_1 ?_
  refine rg_alen (v := nI Z) (pc := 4) hx hb hK hP 11 (by omega) 3 xgx_zonesA rfl rfl d_Gr_moveOn_4 ?_
  refine lv_iconst (v := 1) (pc := 5) hx hb d_Gr_moveOn_5 (by decide) ?_
  refine lv_isub (pc := 6) hx hb d_Gr_moveOn_6 ?_
  rw [show (nI Z - 1 : Int32) = dc Z from dc_of Z]
  refine lv_istore_n (lv' := [(1, .int (dc Z)), (0, .ref (ad 10))]) (pc := 7) hx hb d_Gr_moveOn_7 rfl hl (by decide) rfl (fun ls hl => ?_)
  refine lp_moveOn_ok hR hZ C hK Z st _ _ ls (by omega) hP hS (lv_sub hl [1, 0] rfl) (fun H locs ls hP hS hl => ?_)
  have e9 : f_Gr_moveOn Z st = (lp_moveOn Z Z st) := rfl
  exact rg_vret (pc := 129) hx hb hr hlocks hP hS (by rw [e9]) d_Gr_moveOn_129

def lp_dryAndBurn (Z : Nat) : Nat → Nat → Int64 → xS → Int64 × xS
  | 0, _, ai, st => (ai, st)
  | n + 1, j, ai, st =>
    lp_dryAndBurn Z n (j + 1) (ai + ((xs_zv (xp_bu ((f_Zo_burn Z (xp_dr ((f_Zo_dry Z st j).2) ((xs_dr st) + ((f_Zo_dry Z st j).1))) j).2) ((xs_bu (xp_dr ((f_Zo_dry Z st j).2) ((xs_dr st) + ((f_Zo_dry Z st j).1)))) + ((f_Zo_burn Z (xp_dr ((f_Zo_dry Z st j).2) ((xs_dr st) + ((f_Zo_dry Z st j).1))) j).1))) j).toInt64)) (xp_bu ((f_Zo_burn Z (xp_dr ((f_Zo_dry Z st j).2) ((xs_dr st) + ((f_Zo_dry Z st j).1))) j).2) ((xs_bu (xp_dr ((f_Zo_dry Z st j).2) ((xs_dr st) + ((f_Zo_dry Z st j).1)))) + ((f_Zo_burn Z (xp_dr ((f_Zo_dry Z st j).2) ((xs_dr st) + ((f_Zo_dry Z st j).1))) j).1)))
set_option maxRecDepth 100000 in
set_option maxHeartbeats 4000000 in
theorem lp_dryAndBurn_ok {p : Program} {l : Launch} {e : Env} {s : State} {m : MethodId} {args : Array Value} {below : List Frame} {meth : Method} {c : Code} {D : va_G} {cA : Nat → ClassId} {Z : Nat} {ad : Nat → Nat} {Q : State → Prop} (hR : rD (36 + Z) ad) (hZ : 1 ≤ Z ∧ Z ≤ 6) (C : Cx p s m args meth c b_Gr_dryAndBurn 8 R_Gr none) (hK : va_K D clG (tyX cA) s) : ∀ (n : Nat) (j : Nat) (ai : Int64) (st : xS) (H : Heap) (locs : List Loc) (ls : Array Slot), j + n = Z → va_P D clG (pw (36 + Z) ad (xgx Z ad cA (st))) H → va_S (rA (36 + Z) ad s.heap.size) s.heap H locs → lv_has ls 8 [(0, .ref (ad 10)), (1, .ref (ad 3)), (2, .long ai), (4, .ref (ad 11)), (5, .int (nI Z)), (6, .int (nI j))] → (∀ (H : Heap) (locs : List Loc) (ls : Array Slot), va_P D clG (pw (36 + Z) ad (xgx Z ad cA ((lp_dryAndBurn Z n j ai st).2))) H → va_S (rA (36 + Z) ad s.heap.size) s.heap H locs → lv_has ls 8 [(0, .ref (ad 10)), (1, .ref (ad 3)), (2, .long ((lp_dryAndBurn Z n j ai st).1)), (4, .ref (ad 11)), (5, .int (nI Z)), (6, .int (nI Z))] → W p l e ({ frames := 2, cells := 0, slots := 0, locals := 48 } : Room) s m args below meth c H locs 0 0 Q (F0 m 85 ls [])) → W p l e ({ frames := 2, cells := 0, slots := 0, locals := 48 } : Room) s m args below meth c H locs 0 0 Q (F0 m 26 ls []) := by
  obtain ⟨⟨hx, hb, hml, hown, hts⟩, hr, hlocks, hN⟩ := id C
  have hown : s.vm.findClass R_Gr = some m.cls := hown
  have hr : meth.sig.returnType = none := hr
  intro n
  induction n with
  | zero =>
    intro j ai st H locs ls hn hP hS hl hk
    have hj9 : j = Z := by omega
    refine lv_iload (pc := 26) hx hb d_Gr_dryAndBurn_26 (lv_at hl 5 rfl) ?_
    refine lv_iload (pc := 28) hx hb d_Gr_dryAndBurn_28 (lv_at hl 4 rfl) ?_
    refine lv_icmp_ge (tgt := 85) (pc := 30) hx hb d_Gr_dryAndBurn_30 (by decide) (fun c_1 => ?_) (fun c_1 => absurd (by rw [hj9]; exact Int32.le_refl _) c_1)
    exact hk H locs ls hP hS (by rw [hj9] at hl; exact lv_sub hl [0, 1, 2, 3, 4, 5] rfl)
  | succ n ih =>
    intro j ai st H locs ls hn hP hS hl hk
    refine lv_iload (pc := 26) hx hb d_Gr_dryAndBurn_26 (lv_at hl 5 rfl) ?_
    refine lv_iload (pc := 28) hx hb d_Gr_dryAndBurn_28 (lv_at hl 4 rfl) ?_
    refine lv_icmp_ge (tgt := 85) (pc := 30) hx hb d_Gr_dryAndBurn_30 (by decide) (fun c_1 => absurd c_1 (nI_ge (b := Z) (by omega) (by omega))) (fun c_1 => ?_)
    refine lv_aload (pc := 33) hx hb d_Gr_dryAndBurn_33 (lv_at hl 3 rfl) ?_
    refine lv_iload (pc := 35) hx hb d_Gr_dryAndBurn_35 (lv_at hl 5 rfl) ?_
    refine rg_aldq (pc := 37) hx hb hK hP 11 (by omega) 3 xgx_zonesA rfl j (by omega) (by omega) rfl rfl d_Gr_dryAndBurn_37 ?_
    refine lv_astore (lv' := [(7, .ref (ad (36 + j))), (0, .ref (ad 10)), (1, .ref (ad 3)), (2, .long ai), (4, .ref (ad 11)), (5, .int (nI Z)), (6, .int (nI j))]) (pc := 38) hx hb d_Gr_dryAndBurn_38 hl (by decide) rfl (fun ls hl => ?_)
    refine lv_aload_n (pc := 40) hx hb d_Gr_dryAndBurn_40 rfl (lv_at hl 1 rfl) ?_
    refine lv_dup (pc := 41) hx hb d_Gr_dryAndBurn_41 rfl ?_
    refine rg_get (C := R_Gr) (T := T_Gr) (N := 9) (v := .long (xs_dr st)) (pc := 42) hx hb hts i_Gr hown hK hP 10 (by omega) xgx_grate rfl 4 (by decide) (hts _ wd_153) rfl d_Gr_dryAndBurn_42 ?_
    refine lv_aload (pc := 45) hx hb d_Gr_dryAndBurn_45 (lv_at hl 0 rfl) ?_
    refine lv_aload_n (pc := 47) hx hb d_Gr_dryAndBurn_47 rfl (lv_at hl 2 rfl) ?_
    refine rg_cl (pc := 48) (va_runV (As := [.ref (ad 3)]) (rest := [.long (xs_dr st), .ref (ad 10)]) ⟨hx, hb, hml, hown, hts⟩ (c_Zo_dry (l := l) hR hZ st j (by omega) _) ⟨callB_of 1 hts (gd_c wd_376) rfl rfl rfl (hts _ wd_5) (hts _ wd_373) hd_Zo_dry ⟨Nat.le_of_ble_eq_true rfl, Nat.le_of_ble_eq_true rfl⟩, hts _ wd_374, hts _ wd_375⟩ ⟨rPc_blind _ _ _ _ _ _ _ _, rg_rec hK hP (36 + j) (by omega) (xgx_Zone (j := j) (by omega)) rfl, rPc_at _ hP hK hN⟩ rfl rfl hl.1 rfl (lv_room (Nat.le_of_ble_eq_true rfl)) d_Gr_dryAndBurn_48 ⟨Nat.zero_le _, Nat.zero_le _⟩) hS (fun H locs hP hS => ?_)
    refine lv_ladd (pc := 51) hx hb d_Gr_dryAndBurn_51 ?_
    refine rg_put (C := R_Gr) (T := T_Gr) (N := 9) (pc := 52) hx hb hts i_Gr t_Gr t_Gr_ok n_Gr hown hK hR hP hS 10 (by omega) xgx_grate rfl 4 (by decide) (hts _ wd_153) rfl rfl rfl (Nat.le_of_ble_eq_true rfl) d_Gr_dryAndBurn_52 (xgx_grate_dr ((xs_dr st) + ((f_Zo_dry Z st j).1))) (fun H locs hP hS => ?_)
    refine lv_aload_n (pc := 55) hx hb d_Gr_dryAndBurn_55 rfl (lv_at hl 1 rfl) ?_
    refine lv_dup (pc := 56) hx hb d_Gr_dryAndBurn_56 rfl ?_
    refine rg_get (C := R_Gr) (T := T_Gr) (N := 9) (v := .long (xs_bu (xp_dr ((f_Zo_dry Z st j).2) ((xs_dr st) + ((f_Zo_dry Z st j).1))))) (pc := 57) hx hb hts i_Gr hown hK hP 10 (by omega) xgx_grate rfl 3 (by decide) (hts _ wd_151) rfl d_Gr_dryAndBurn_57 ?_
    refine lv_aload (pc := 60) hx hb d_Gr_dryAndBurn_60 (lv_at hl 0 rfl) ?_
    refine lv_aload_n (pc := 62) hx hb d_Gr_dryAndBurn_62 rfl (lv_at hl 2 rfl) ?_
    refine rg_cl (pc := 63) (va_runV (As := [.ref (ad 3)]) (rest := [.long (xs_bu (xp_dr ((f_Zo_dry Z st j).2) ((xs_dr st) + ((f_Zo_dry Z st j).1)))), .ref (ad 10)]) ⟨hx, hb, hml, hown, hts⟩ (c_Zo_burn (l := l) hR hZ (xp_dr ((f_Zo_dry Z st j).2) ((xs_dr st) + ((f_Zo_dry Z st j).1))) j (by omega) _) ⟨callB_of 1 hts (gd_c wd_389) rfl rfl rfl (hts _ wd_5) (hts _ wd_386) hd_Zo_burn ⟨Nat.le_of_ble_eq_true rfl, Nat.le_of_ble_eq_true rfl⟩, hts _ wd_387, hts _ wd_388⟩ ⟨rPc_blind _ _ _ _ _ _ _ _, rg_rec hK hP (36 + j) (by omega) (xgx_Zone (j := j) (by omega)) rfl, rPc_at _ hP hK hN⟩ rfl rfl hl.1 rfl (lv_room (Nat.le_of_ble_eq_true rfl)) d_Gr_dryAndBurn_63 ⟨Nat.zero_le _, Nat.zero_le _⟩) hS (fun H locs hP hS => ?_)
    refine lv_ladd (pc := 66) hx hb d_Gr_dryAndBurn_66 ?_
    refine rg_put (C := R_Gr) (T := T_Gr) (N := 9) (pc := 67) hx hb hts i_Gr t_Gr t_Gr_ok n_Gr hown hK hR hP hS 10 (by omega) xgx_grate rfl 3 (by decide) (hts _ wd_151) rfl rfl rfl (Nat.le_of_ble_eq_true rfl) d_Gr_dryAndBurn_67 (xgx_grate_bu ((xs_bu (xp_dr ((f_Zo_dry Z st j).2) ((xs_dr st) + ((f_Zo_dry Z st j).1)))) + ((f_Zo_burn Z (xp_dr ((f_Zo_dry Z st j).2) ((xs_dr st) + ((f_Zo_dry Z st j).1))) j).1))) (fun H locs hP hS => ?_)
    refine lv_lload_n (pc := 70) hx hb d_Gr_dryAndBurn_70 rfl (lv_at hl 3 rfl) ?_
    refine lv_aload (pc := 71) hx hb d_Gr_dryAndBurn_71 (lv_at hl 0 rfl) ?_
    refine rg_get (C := R_Zo) (T := T_Zo) (N := 5) (v := .int (xs_zv (xp_bu ((f_Zo_burn Z (xp_dr ((f_Zo_dry Z st j).2) ((xs_dr st) + ((f_Zo_dry Z st j).1))) j).2) ((xs_bu (xp_dr ((f_Zo_dry Z st j).2) ((xs_dr st) + ((f_Zo_dry Z st j).1)))) + ((f_Zo_burn Z (xp_dr ((f_Zo_dry Z st j).2) ((xs_dr st) + ((f_Zo_dry Z st j).1))) j).1))) j)) (pc := 73) hx hb hts i_Zo hown hK hP (36 + j) (by omega) (xgx_Zone (j := j) (by omega)) rfl 3 (by decide) (hts _ wd_130) rfl d_Gr_dryAndBurn_73 ?_
    refine lv_i2l (pc := 76) hx hb d_Gr_dryAndBurn_76 rfl ?_
    refine lv_ladd (pc := 77) hx hb d_Gr_dryAndBurn_77 ?_
    refine lv_lstore_n (lv' := [(2, .long (ai + ((xs_zv (xp_bu ((f_Zo_burn Z (xp_dr ((f_Zo_dry Z st j).2) ((xs_dr st) + ((f_Zo_dry Z st j).1))) j).2) ((xs_bu (xp_dr ((f_Zo_dry Z st j).2) ((xs_dr st) + ((f_Zo_dry Z st j).1)))) + ((f_Zo_burn Z (xp_dr ((f_Zo_dry Z st j).2) ((xs_dr st) + ((f_Zo_dry Z st j).1))) j).1))) j).toInt64))), (7, .ref (ad (36 + j))), (0, .ref (ad 10)), (1, .ref (ad 3)), (4, .ref (ad 11)), (5, .int (nI Z)), (6, .int (nI j))]) (pc := 78) hx hb d_Gr_dryAndBurn_78 rfl hl (by decide) rfl (fun ls hl => ?_)
    refine lv_iinc (v := nI (j + 1)) (lv' := [(6, .int (nI (j + 1))), (2, .long (ai + ((xs_zv (xp_bu ((f_Zo_burn Z (xp_dr ((f_Zo_dry Z st j).2) ((xs_dr st) + ((f_Zo_dry Z st j).1))) j).2) ((xs_bu (xp_dr ((f_Zo_dry Z st j).2) ((xs_dr st) + ((f_Zo_dry Z st j).1)))) + ((f_Zo_burn Z (xp_dr ((f_Zo_dry Z st j).2) ((xs_dr st) + ((f_Zo_dry Z st j).1))) j).1))) j).toInt64))), (7, .ref (ad (36 + j))), (0, .ref (ad 10)), (1, .ref (ad 3)), (4, .ref (ad 11)), (5, .int (nI Z))]) (pc := 79) hx hb d_Gr_dryAndBurn_79 hl (k := 6) rfl (nI_1 _) (by decide) rfl (fun ls hl => ?_)
    refine lv_goto (tgt := 26) (pc := 82) hx hb d_Gr_dryAndBurn_82 (by decide) ?_
    have hk9 := hk
    unfold lp_dryAndBurn at hk9
    exact ih (j + 1) (ai + ((xs_zv (xp_bu ((f_Zo_burn Z (xp_dr ((f_Zo_dry Z st j).2) ((xs_dr st) + ((f_Zo_dry Z st j).1))) j).2) ((xs_bu (xp_dr ((f_Zo_dry Z st j).2) ((xs_dr st) + ((f_Zo_dry Z st j).1)))) + ((f_Zo_burn Z (xp_dr ((f_Zo_dry Z st j).2) ((xs_dr st) + ((f_Zo_dry Z st j).1))) j).1))) j).toInt64)) (xp_bu ((f_Zo_burn Z (xp_dr ((f_Zo_dry Z st j).2) ((xs_dr st) + ((f_Zo_dry Z st j).1))) j).2) ((xs_bu (xp_dr ((f_Zo_dry Z st j).2) ((xs_dr st) + ((f_Zo_dry Z st j).1)))) + ((f_Zo_burn Z (xp_dr ((f_Zo_dry Z st j).2) ((xs_dr st) + ((f_Zo_dry Z st j).1))) j).1))) _ _ ls (by omega) hP hS (lv_sub hl [3, 4, 1, 5, 6, 0] rfl) hk9
def f_Gr_dryAndBurn (Z : Nat) (st : xS) : xS :=
  xp_bA (xp_dA (xp_ox ((lp_dryAndBurn Z Z 0 0 (xp_bu (xp_dr st 0) 0)).2) (((lp_dryAndBurn Z Z 0 0 (xp_bu (xp_dr st 0) 0)).1) - ((xs_bu ((lp_dryAndBurn Z Z 0 0 (xp_bu (xp_dr st 0) 0)).2)) * 6))) ((xs_dA (xp_ox ((lp_dryAndBurn Z Z 0 0 (xp_bu (xp_dr st 0) 0)).2) (((lp_dryAndBurn Z Z 0 0 (xp_bu (xp_dr st 0) 0)).1) - ((xs_bu ((lp_dryAndBurn Z Z 0 0 (xp_bu (xp_dr st 0) 0)).2)) * 6)))) + (xs_dr (xp_ox ((lp_dryAndBurn Z Z 0 0 (xp_bu (xp_dr st 0) 0)).2) (((lp_dryAndBurn Z Z 0 0 (xp_bu (xp_dr st 0) 0)).1) - ((xs_bu ((lp_dryAndBurn Z Z 0 0 (xp_bu (xp_dr st 0) 0)).2)) * 6)))))) ((xs_bA (xp_dA (xp_ox ((lp_dryAndBurn Z Z 0 0 (xp_bu (xp_dr st 0) 0)).2) (((lp_dryAndBurn Z Z 0 0 (xp_bu (xp_dr st 0) 0)).1) - ((xs_bu ((lp_dryAndBurn Z Z 0 0 (xp_bu (xp_dr st 0) 0)).2)) * 6))) ((xs_dA (xp_ox ((lp_dryAndBurn Z Z 0 0 (xp_bu (xp_dr st 0) 0)).2) (((lp_dryAndBurn Z Z 0 0 (xp_bu (xp_dr st 0) 0)).1) - ((xs_bu ((lp_dryAndBurn Z Z 0 0 (xp_bu (xp_dr st 0) 0)).2)) * 6)))) + (xs_dr (xp_ox ((lp_dryAndBurn Z Z 0 0 (xp_bu (xp_dr st 0) 0)).2) (((lp_dryAndBurn Z Z 0 0 (xp_bu (xp_dr st 0) 0)).1) - ((xs_bu ((lp_dryAndBurn Z Z 0 0 (xp_bu (xp_dr st 0) 0)).2)) * 6))))))) + (xs_bu (xp_dA (xp_ox ((lp_dryAndBurn Z Z 0 0 (xp_bu (xp_dr st 0) 0)).2) (((lp_dryAndBurn Z Z 0 0 (xp_bu (xp_dr st 0) 0)).1) - ((xs_bu ((lp_dryAndBurn Z Z 0 0 (xp_bu (xp_dr st 0) 0)).2)) * 6))) ((xs_dA (xp_ox ((lp_dryAndBurn Z Z 0 0 (xp_bu (xp_dr st 0) 0)).2) (((lp_dryAndBurn Z Z 0 0 (xp_bu (xp_dr st 0) 0)).1) - ((xs_bu ((lp_dryAndBurn Z Z 0 0 (xp_bu (xp_dr st 0) 0)).2)) * 6)))) + (xs_dr (xp_ox ((lp_dryAndBurn Z Z 0 0 (xp_bu (xp_dr st 0) 0)).2) (((lp_dryAndBurn Z Z 0 0 (xp_bu (xp_dr st 0) 0)).1) - ((xs_bu ((lp_dryAndBurn Z Z 0 0 (xp_bu (xp_dr st 0) 0)).2)) * 6))))))))
set_option maxRecDepth 100000 in
set_option maxHeartbeats 4000000 in
theorem c_Gr_dryAndBurn {l : Launch} {D : va_G} {cA : Nat → ClassId} {Z : Nat} {ad : Nat → Nat} (hR : rD (36 + Z) ad) (hZ : 1 ≤ Z ∧ Z ≤ 6) (st : xS) : RV l y_Gr_dryAndBurn (mws y_Gr_dryAndBurn b_Gr_dryAndBurn 8 none) ({ frames := 2, cells := 0, slots := 0, locals := 48 } : Room) D clG (tyX cA) (36 + Z) ad (xgx Z ad cA (st)) [.ref (ad 10), .ref (ad 3)] (xgx Z ad cA (f_Gr_dryAndBurn Z st)) := by
  refine RV_of (cc := b_Gr_dryAndBurn) (maxL := 8) (ret := none) (by decide) (Nat.le_of_ble_eq_true rfl) ?_
  intro p e s m args below meth c ls C hK hP hS hl
  obtain ⟨⟨hx, hb, hml, hown, hts⟩, hr, hlocks, hN⟩ := id C
  have hown : s.vm.findClass R_Gr = some m.cls := hown
  have hr : meth.sig.returnType = none := hr
  have hl : lv_has ls 8 [(0, .ref (ad 10)), (1, .ref (ad 3))] := hl
  refine lv_lconst (v := 0) (pc := 0) hx hb d_Gr_dryAndBurn_0 (by decide) ?_
  refine lv_lstore_n (lv' := [(2, .long 0), (0, .ref (ad 10)), (1, .ref (ad 3))]) (pc := 1) hx hb d_Gr_dryAndBurn_1 rfl hl (by decide) rfl (fun ls hl => ?_)
  refine lv_aload_n (pc := 2) hx hb d_Gr_dryAndBurn_2 rfl (lv_at hl 1 rfl) ?_
  refine lv_lconst (v := 0) (pc := 3) hx hb d_Gr_dryAndBurn_3 (by decide) ?_
  refine rg_put (C := R_Gr) (T := T_Gr) (N := 9) (pc := 4) hx hb hts i_Gr t_Gr t_Gr_ok n_Gr hown hK hR hP hS 10 (by omega) xgx_grate rfl 4 (by decide) (hts _ wd_153) rfl rfl rfl (Nat.le_of_ble_eq_true rfl) d_Gr_dryAndBurn_4 (xgx_grate_dr 0) (fun H locs hP hS => ?_)
  refine lv_aload_n (pc := 7) hx hb d_Gr_dryAndBurn_7 rfl (lv_at hl 1 rfl) ?_
  refine lv_lconst (v := 0) (pc := 8) hx hb d_Gr_dryAndBurn_8 (by decide) ?_
  refine rg_put (C := R_Gr) (T := T_Gr) (N := 9) (pc := 9) hx hb hts i_Gr t_Gr t_Gr_ok n_Gr hown hK hR hP hS 10 (by omega) xgx_grate rfl 3 (by decide) (hts _ wd_151) rfl rfl rfl (Nat.le_of_ble_eq_true rfl) d_Gr_dryAndBurn_9 (xgx_grate_bu 0) (fun H locs hP hS => ?_)
  refine lv_aload_n (pc := 12) hx hb d_Gr_dryAndBurn_12 rfl (lv_at hl 1 rfl) ?_
  refine rg_get (C := R_Gr) (T := T_Gr) (N := 9) (v := .ref (ad 11)) (pc := 13) hx hb hts i_Gr hown hK hP 10 (by omega) xgx_grate rfl 0 (by decide) (hts _ wd_145) rfl d_Gr_dryAndBurn_13 ?_
  refine lv_astore (lv' := [(4, .ref (ad 11)), (2, .long 0), (0, .ref (ad 10)), (1, .ref (ad 3))]) (pc := 16) hx hb d_Gr_dryAndBurn_16 hl (by decide) rfl (fun ls hl => ?_)
  refine lv_aload (pc := 18) hx hb d_Gr_dryAndBurn_18 (lv_at hl 0 rfl) ?_
  refine rg_alen (v := nI Z) (pc := 20) hx hb hK hP 11 (by omega) 3 xgx_zonesA rfl rfl d_Gr_dryAndBurn_20 ?_
  refine lv_istore (lv' := [(5, .int (nI Z)), (4, .ref (ad 11)), (2, .long 0), (0, .ref (ad 10)), (1, .ref (ad 3))]) (pc := 21) hx hb d_Gr_dryAndBurn_21 hl (by decide) rfl (fun ls hl => ?_)
  refine lv_iconst (v := 0) (pc := 23) hx hb d_Gr_dryAndBurn_23 (by decide) ?_
  refine lv_istore (lv' := [(6, .int 0), (5, .int (nI Z)), (4, .ref (ad 11)), (2, .long 0), (0, .ref (ad 10)), (1, .ref (ad 3))]) (pc := 24) hx hb d_Gr_dryAndBurn_24 hl (by decide) rfl (fun ls hl => ?_)
  refine lp_dryAndBurn_ok hR hZ C hK Z 0 0 (xp_bu (xp_dr st 0) 0) _ _ ls (by omega) hP hS (lv_sub hl [4, 5, 3, 2, 1, 0] rfl) (fun H locs ls hP hS hl => ?_)
  refine lv_aload_n (pc := 85) hx hb d_Gr_dryAndBurn_85 rfl (lv_at hl 0 rfl) ?_
  refine lv_lload_n (pc := 86) hx hb d_Gr_dryAndBurn_86 rfl (lv_at hl 2 rfl) ?_
  refine lv_aload_n (pc := 87) hx hb d_Gr_dryAndBurn_87 rfl (lv_at hl 0 rfl) ?_
  refine rg_get (C := R_Gr) (T := T_Gr) (N := 9) (v := .long (xs_bu ((lp_dryAndBurn Z Z 0 0 (xp_bu (xp_dr st 0) 0)).2))) (pc := 88) hx hb hts i_Gr hown hK hP 10 (by omega) xgx_grate rfl 3 (by decide) (hts _ wd_151) rfl d_Gr_dryAndBurn_88 ?_
  refine lv_ldc2 (v := 6) (pc := 91) hx hb hown (hts _ wd_395) d_Gr_dryAndBurn_91 ?_
  refine lv_lmul (pc := 94) hx hb d_Gr_dryAndBurn_94 ?_
  refine lv_lsub (pc := 95) hx hb d_Gr_dryAndBurn_95 ?_
  refine rg_put (C := R_Gr) (T := T_Gr) (N := 9) (pc := 96) hx hb hts i_Gr t_Gr t_Gr_ok n_Gr hown hK hR hP hS 10 (by omega) xgx_grate rfl 2 (by decide) (hts _ wd_149) rfl rfl rfl (Nat.le_of_ble_eq_true rfl) d_Gr_dryAndBurn_96 (xgx_grate_ox (((lp_dryAndBurn Z Z 0 0 (xp_bu (xp_dr st 0) 0)).1) - ((xs_bu ((lp_dryAndBurn Z Z 0 0 (xp_bu (xp_dr st 0) 0)).2)) * 6))) (fun H locs hP hS => ?_)
  refine lv_aload_n (pc := 99) hx hb d_Gr_dryAndBurn_99 rfl (lv_at hl 0 rfl) ?_
  refine lv_dup (pc := 100) hx hb d_Gr_dryAndBurn_100 rfl ?_
  refine rg_get (C := R_Gr) (T := T_Gr) (N := 9) (v := .long (xs_dA (xp_ox ((lp_dryAndBurn Z Z 0 0 (xp_bu (xp_dr st 0) 0)).2) (((lp_dryAndBurn Z Z 0 0 (xp_bu (xp_dr st 0) 0)).1) - ((xs_bu ((lp_dryAndBurn Z Z 0 0 (xp_bu (xp_dr st 0) 0)).2)) * 6))))) (pc := 101) hx hb hts i_Gr hown hK hP 10 (by omega) xgx_grate rfl 5 (by decide) (hts _ wd_155) rfl d_Gr_dryAndBurn_101 ?_
  refine lv_aload_n (pc := 104) hx hb d_Gr_dryAndBurn_104 rfl (lv_at hl 0 rfl) ?_
  refine rg_get (C := R_Gr) (T := T_Gr) (N := 9) (v := .long (xs_dr (xp_ox ((lp_dryAndBurn Z Z 0 0 (xp_bu (xp_dr st 0) 0)).2) (((lp_dryAndBurn Z Z 0 0 (xp_bu (xp_dr st 0) 0)).1) - ((xs_bu ((lp_dryAndBurn Z Z 0 0 (xp_bu (xp_dr st 0) 0)).2)) * 6))))) (pc := 105) hx hb hts i_Gr hown hK hP 10 (by omega) xgx_grate rfl 4 (by decide) (hts _ wd_153) rfl d_Gr_dryAndBurn_105 ?_
  refine lv_ladd (pc := 108) hx hb d_Gr_dryAndBurn_108 ?_
  refine rg_put (C := R_Gr) (T := T_Gr) (N := 9) (pc := 109) hx hb hts i_Gr t_Gr t_Gr_ok n_Gr hown hK hR hP hS 10 (by omega) xgx_grate rfl 5 (by decide) (hts _ wd_155) rfl rfl rfl (Nat.le_of_ble_eq_true rfl) d_Gr_dryAndBurn_109 (xgx_grate_dA ((xs_dA (xp_ox ((lp_dryAndBurn Z Z 0 0 (xp_bu (xp_dr st 0) 0)).2) (((lp_dryAndBurn Z Z 0 0 (xp_bu (xp_dr st 0) 0)).1) - ((xs_bu ((lp_dryAndBurn Z Z 0 0 (xp_bu (xp_dr st 0) 0)).2)) * 6)))) + (xs_dr (xp_ox ((lp_dryAndBurn Z Z 0 0 (xp_bu (xp_dr st 0) 0)).2) (((lp_dryAndBurn Z Z 0 0 (xp_bu (xp_dr st 0) 0)).1) - ((xs_bu ((lp_dryAndBurn Z Z 0 0 (xp_bu (xp_dr st 0) 0)).2)) * 6)))))) (fun H locs hP hS => ?_)
  refine lv_aload_n (pc := 112) hx hb d_Gr_dryAndBurn_112 rfl (lv_at hl 0 rfl) ?_
  refine lv_dup (pc := 113) hx hb d_Gr_dryAndBurn_113 rfl ?_
  refine rg_get (C := R_Gr) (T := T_Gr) (N := 9) (v := .long (xs_bA (xp_dA (xp_ox ((lp_dryAndBurn Z Z 0 0 (xp_bu (xp_dr st 0) 0)).2) (((lp_dryAndBurn Z Z 0 0 (xp_bu (xp_dr st 0) 0)).1) - ((xs_bu ((lp_dryAndBurn Z Z 0 0 (xp_bu (xp_dr st 0) 0)).2)) * 6))) ((xs_dA (xp_ox ((lp_dryAndBurn Z Z 0 0 (xp_bu (xp_dr st 0) 0)).2) (((lp_dryAndBurn Z Z 0 0 (xp_bu (xp_dr st 0) 0)).1) - ((xs_bu ((lp_dryAndBurn Z Z 0 0 (xp_bu (xp_dr st 0) 0)).2)) * 6)))) + (xs_dr (xp_ox ((lp_dryAndBurn Z Z 0 0 (xp_bu (xp_dr st 0) 0)).2) (((lp_dryAndBurn Z Z 0 0 (xp_bu (xp_dr st 0) 0)).1) - ((xs_bu ((lp_dryAndBurn Z Z 0 0 (xp_bu (xp_dr st 0) 0)).2)) * 6)))))))) (pc := 114) hx hb hts i_Gr hown hK hP 10 (by omega) xgx_grate rfl 6 (by decide) (hts _ wd_157) rfl d_Gr_dryAndBurn_114 ?_
  refine lv_aload_n (pc := 117) hx hb d_Gr_dryAndBurn_117 rfl (lv_at hl 0 rfl) ?_
  refine rg_get (C := R_Gr) (T := T_Gr) (N := 9) (v := .long (xs_bu (xp_dA (xp_ox ((lp_dryAndBurn Z Z 0 0 (xp_bu (xp_dr st 0) 0)).2) (((lp_dryAndBurn Z Z 0 0 (xp_bu (xp_dr st 0) 0)).1) - ((xs_bu ((lp_dryAndBurn Z Z 0 0 (xp_bu (xp_dr st 0) 0)).2)) * 6))) ((xs_dA (xp_ox ((lp_dryAndBurn Z Z 0 0 (xp_bu (xp_dr st 0) 0)).2) (((lp_dryAndBurn Z Z 0 0 (xp_bu (xp_dr st 0) 0)).1) - ((xs_bu ((lp_dryAndBurn Z Z 0 0 (xp_bu (xp_dr st 0) 0)).2)) * 6)))) + (xs_dr (xp_ox ((lp_dryAndBurn Z Z 0 0 (xp_bu (xp_dr st 0) 0)).2) (((lp_dryAndBurn Z Z 0 0 (xp_bu (xp_dr st 0) 0)).1) - ((xs_bu ((lp_dryAndBurn Z Z 0 0 (xp_bu (xp_dr st 0) 0)).2)) * 6)))))))) (pc := 118) hx hb hts i_Gr hown hK hP 10 (by omega) xgx_grate rfl 3 (by decide) (hts _ wd_151) rfl d_Gr_dryAndBurn_118 ?_
  refine lv_ladd (pc := 121) hx hb d_Gr_dryAndBurn_121 ?_
  refine rg_put (C := R_Gr) (T := T_Gr) (N := 9) (pc := 122) hx hb hts i_Gr t_Gr t_Gr_ok n_Gr hown hK hR hP hS 10 (by omega) xgx_grate rfl 6 (by decide) (hts _ wd_157) rfl rfl rfl (Nat.le_of_ble_eq_true rfl) d_Gr_dryAndBurn_122 (xgx_grate_bA ((xs_bA (xp_dA (xp_ox ((lp_dryAndBurn Z Z 0 0 (xp_bu (xp_dr st 0) 0)).2) (((lp_dryAndBurn Z Z 0 0 (xp_bu (xp_dr st 0) 0)).1) - ((xs_bu ((lp_dryAndBurn Z Z 0 0 (xp_bu (xp_dr st 0) 0)).2)) * 6))) ((xs_dA (xp_ox ((lp_dryAndBurn Z Z 0 0 (xp_bu (xp_dr st 0) 0)).2) (((lp_dryAndBurn Z Z 0 0 (xp_bu (xp_dr st 0) 0)).1) - ((xs_bu ((lp_dryAndBurn Z Z 0 0 (xp_bu (xp_dr st 0) 0)).2)) * 6)))) + (xs_dr (xp_ox ((lp_dryAndBurn Z Z 0 0 (xp_bu (xp_dr st 0) 0)).2) (((lp_dryAndBurn Z Z 0 0 (xp_bu (xp_dr st 0) 0)).1) - ((xs_bu ((lp_dryAndBurn Z Z 0 0 (xp_bu (xp_dr st 0) 0)).2)) * 6))))))) + (xs_bu (xp_dA (xp_ox ((lp_dryAndBurn Z Z 0 0 (xp_bu (xp_dr st 0) 0)).2) (((lp_dryAndBurn Z Z 0 0 (xp_bu (xp_dr st 0) 0)).1) - ((xs_bu ((lp_dryAndBurn Z Z 0 0 (xp_bu (xp_dr st 0) 0)).2)) * 6))) ((xs_dA (xp_ox ((lp_dryAndBurn Z Z 0 0 (xp_bu (xp_dr st 0) 0)).2) (((lp_dryAndBurn Z Z 0 0 (xp_bu (xp_dr st 0) 0)).1) - ((xs_bu ((lp_dryAndBurn Z Z 0 0 (xp_bu (xp_dr st 0) 0)).2)) * 6)))) + (xs_dr (xp_ox ((lp_dryAndBurn Z Z 0 0 (xp_bu (xp_dr st 0) 0)).2) (((lp_dryAndBurn Z Z 0 0 (xp_bu (xp_dr st 0) 0)).1) - ((xs_bu ((lp_dryAndBurn Z Z 0 0 (xp_bu (xp_dr st 0) 0)).2)) * 6))))))))) (fun H locs hP hS => ?_)
  have e9 : f_Gr_dryAndBurn Z st = xp_bA (xp_dA (xp_ox ((lp_dryAndBurn Z Z 0 0 (xp_bu (xp_dr st 0) 0)).2) (((lp_dryAndBurn Z Z 0 0 (xp_bu (xp_dr st 0) 0)).1) - ((xs_bu ((lp_dryAndBurn Z Z 0 0 (xp_bu (xp_dr st 0) 0)).2)) * 6))) ((xs_dA (xp_ox ((lp_dryAndBurn Z Z 0 0 (xp_bu (xp_dr st 0) 0)).2) (((lp_dryAndBurn Z Z 0 0 (xp_bu (xp_dr st 0) 0)).1) - ((xs_bu ((lp_dryAndBurn Z Z 0 0 (xp_bu (xp_dr st 0) 0)).2)) * 6)))) + (xs_dr (xp_ox ((lp_dryAndBurn Z Z 0 0 (xp_bu (xp_dr st 0) 0)).2) (((lp_dryAndBurn Z Z 0 0 (xp_bu (xp_dr st 0) 0)).1) - ((xs_bu ((lp_dryAndBurn Z Z 0 0 (xp_bu (xp_dr st 0) 0)).2)) * 6)))))) ((xs_bA (xp_dA (xp_ox ((lp_dryAndBurn Z Z 0 0 (xp_bu (xp_dr st 0) 0)).2) (((lp_dryAndBurn Z Z 0 0 (xp_bu (xp_dr st 0) 0)).1) - ((xs_bu ((lp_dryAndBurn Z Z 0 0 (xp_bu (xp_dr st 0) 0)).2)) * 6))) ((xs_dA (xp_ox ((lp_dryAndBurn Z Z 0 0 (xp_bu (xp_dr st 0) 0)).2) (((lp_dryAndBurn Z Z 0 0 (xp_bu (xp_dr st 0) 0)).1) - ((xs_bu ((lp_dryAndBurn Z Z 0 0 (xp_bu (xp_dr st 0) 0)).2)) * 6)))) + (xs_dr (xp_ox ((lp_dryAndBurn Z Z 0 0 (xp_bu (xp_dr st 0) 0)).2) (((lp_dryAndBurn Z Z 0 0 (xp_bu (xp_dr st 0) 0)).1) - ((xs_bu ((lp_dryAndBurn Z Z 0 0 (xp_bu (xp_dr st 0) 0)).2)) * 6))))))) + (xs_bu (xp_dA (xp_ox ((lp_dryAndBurn Z Z 0 0 (xp_bu (xp_dr st 0) 0)).2) (((lp_dryAndBurn Z Z 0 0 (xp_bu (xp_dr st 0) 0)).1) - ((xs_bu ((lp_dryAndBurn Z Z 0 0 (xp_bu (xp_dr st 0) 0)).2)) * 6))) ((xs_dA (xp_ox ((lp_dryAndBurn Z Z 0 0 (xp_bu (xp_dr st 0) 0)).2) (((lp_dryAndBurn Z Z 0 0 (xp_bu (xp_dr st 0) 0)).1) - ((xs_bu ((lp_dryAndBurn Z Z 0 0 (xp_bu (xp_dr st 0) 0)).2)) * 6)))) + (xs_dr (xp_ox ((lp_dryAndBurn Z Z 0 0 (xp_bu (xp_dr st 0) 0)).2) (((lp_dryAndBurn Z Z 0 0 (xp_bu (xp_dr st 0) 0)).1) - ((xs_bu ((lp_dryAndBurn Z Z 0 0 (xp_bu (xp_dr st 0) 0)).2)) * 6)))))))) := rfl
  exact rg_vret (pc := 125) hx hb hr hlocks hP hS (by rw [e9]) d_Gr_dryAndBurn_125

def lp_blow (Z : Nat) (a : Int32) : Nat → Nat → xS → xS
  | 0, _, st => st
  | n + 1, j, st =>
    lp_blow Z a n (j + 1) (xp_zv st j a)
set_option maxRecDepth 100000 in
set_option maxHeartbeats 4000000 in
theorem lp_blow_ok {p : Program} {l : Launch} {e : Env} {s : State} {m : MethodId} {args : Array Value} {below : List Frame} {meth : Method} {c : Code} {D : va_G} {cA : Nat → ClassId} {Z : Nat} {ad : Nat → Nat} {Q : State → Prop} (hR : rD (36 + Z) ad) (hZ : 1 ≤ Z ∧ Z ≤ 6) (C : Cx p s m args meth c b_Gr_blow 6 R_Gr none) (hK : va_K D clG (tyX cA) s) (a : Int32) : ∀ (n : Nat) (j : Nat) (st : xS) (H : Heap) (locs : List Loc) (ls : Array Slot), j + n = Z → va_P D clG (pw (36 + Z) ad (xgx Z ad cA (st))) H → va_S (rA (36 + Z) ad s.heap.size) s.heap H locs → lv_has ls 6 [(0, .ref (ad 10)), (1, .int a), (2, .ref (ad 11)), (3, .int (nI Z)), (4, .int (nI j))] → (∀ (H : Heap) (locs : List Loc) (ls : Array Slot), va_P D clG (pw (36 + Z) ad (xgx Z ad cA ((lp_blow Z a n j st)))) H → va_S (rA (36 + Z) ad s.heap.size) s.heap H locs → lv_has ls 6 [(0, .ref (ad 10)), (1, .int a), (2, .ref (ad 11)), (3, .int (nI Z)), (4, .int (nI Z))] → W p l e ({ frames := 0, cells := 0, slots := 0, locals := 0 } : Room) s m args below meth c H locs 0 0 Q (F0 m 35 ls [])) → W p l e ({ frames := 0, cells := 0, slots := 0, locals := 0 } : Room) s m args below meth c H locs 0 0 Q (F0 m 11 ls []) := by
  obtain ⟨⟨hx, hb, hml, hown, hts⟩, hr, hlocks, hN⟩ := id C
  have hown : s.vm.findClass R_Gr = some m.cls := hown
  have hr : meth.sig.returnType = none := hr
  intro n
  induction n with
  | zero =>
    intro j st H locs ls hn hP hS hl hk
    have hj9 : j = Z := by omega
    refine lv_iload (pc := 11) hx hb d_Gr_blow_11 (lv_at hl 4 rfl) ?_
    refine lv_iload_n (pc := 13) hx hb d_Gr_blow_13 rfl (lv_at hl 3 rfl) ?_
    refine lv_icmp_ge (tgt := 35) (pc := 14) hx hb d_Gr_blow_14 (by decide) (fun c_1 => ?_) (fun c_1 => absurd (by rw [hj9]; exact Int32.le_refl _) c_1)
    exact hk H locs ls hP hS (by rw [hj9] at hl; exact lv_sub hl [0, 1, 2, 3, 4] rfl)
  | succ n ih =>
    intro j st H locs ls hn hP hS hl hk
    refine lv_iload (pc := 11) hx hb d_Gr_blow_11 (lv_at hl 4 rfl) ?_
    refine lv_iload_n (pc := 13) hx hb d_Gr_blow_13 rfl (lv_at hl 3 rfl) ?_
    refine lv_icmp_ge (tgt := 35) (pc := 14) hx hb d_Gr_blow_14 (by decide) (fun c_1 => absurd c_1 (nI_ge (b := Z) (by omega) (by omega))) (fun c_1 => ?_)
    refine lv_aload_n (pc := 17) hx hb d_Gr_blow_17 rfl (lv_at hl 2 rfl) ?_
    refine lv_iload (pc := 18) hx hb d_Gr_blow_18 (lv_at hl 4 rfl) ?_
    refine rg_aldq (pc := 20) hx hb hK hP 11 (by omega) 3 xgx_zonesA rfl j (by omega) (by omega) rfl rfl d_Gr_blow_20 ?_
    refine lv_astore (lv' := [(5, .ref (ad (36 + j))), (0, .ref (ad 10)), (1, .int a), (2, .ref (ad 11)), (3, .int (nI Z)), (4, .int (nI j))]) (pc := 21) hx hb d_Gr_blow_21 hl (by decide) rfl (fun ls hl => ?_)
    refine lv_aload (pc := 23) hx hb d_Gr_blow_23 (lv_at hl 0 rfl) ?_
    refine lv_iload_n (pc := 25) hx hb d_Gr_blow_25 rfl (lv_at hl 2 rfl) ?_
    refine rg_put (C := R_Zo) (T := T_Zo) (N := 5) (pc := 26) hx hb hts i_Zo t_Zo t_Zo_ok n_Zo hown hK hR hP hS (36 + j) (by omega) (xgx_Zone (j := j) (by omega)) rfl 3 (by decide) (hts _ wd_130) rfl rfl rfl (Nat.le_of_ble_eq_true rfl) d_Gr_blow_26 (xgx_Zone_zv (j := j) (by omega) a) (fun H locs hP hS => ?_)
    refine lv_iinc (v := nI (j + 1)) (lv' := [(4, .int (nI (j + 1))), (5, .ref (ad (36 + j))), (0, .ref (ad 10)), (1, .int a), (2, .ref (ad 11)), (3, .int (nI Z))]) (pc := 29) hx hb d_Gr_blow_29 hl (k := 5) rfl (nI_1 _) (by decide) rfl (fun ls hl => ?_)
    refine lv_goto (tgt := 11) (pc := 32) hx hb d_Gr_blow_32 (by decide) ?_
    have hk9 := hk
    unfold lp_blow at hk9
    exact ih (j + 1) (xp_zv st j a) _ _ ls (by omega) hP hS (lv_sub hl [2, 3, 4, 5, 0] rfl) hk9
def f_Gr_blow (Z : Nat) (st : xS) (a : Int32) : xS :=
  (lp_blow Z a Z 0 st)
set_option maxRecDepth 100000 in
set_option maxHeartbeats 4000000 in
theorem c_Gr_blow {l : Launch} {D : va_G} {cA : Nat → ClassId} {Z : Nat} {ad : Nat → Nat} (hR : rD (36 + Z) ad) (hZ : 1 ≤ Z ∧ Z ≤ 6) (st : xS) (a : Int32) : RV l y_Gr_blow (mws y_Gr_blow b_Gr_blow 6 none) ({ frames := 0, cells := 0, slots := 0, locals := 0 } : Room) D clG (tyX cA) (36 + Z) ad (xgx Z ad cA (st)) [.ref (ad 10), .int a] (xgx Z ad cA (f_Gr_blow Z st a)) := by
  refine RV_of (cc := b_Gr_blow) (maxL := 6) (ret := none) (by decide) (Nat.le_of_ble_eq_true rfl) ?_
  intro p e s m args below meth c ls C hK hP hS hl
  obtain ⟨⟨hx, hb, hml, hown, hts⟩, hr, hlocks, hN⟩ := id C
  have hown : s.vm.findClass R_Gr = some m.cls := hown
  have hr : meth.sig.returnType = none := hr
  have hl : lv_has ls 6 [(0, .ref (ad 10)), (1, .int a)] := hl
  refine lv_aload_n (pc := 0) hx hb d_Gr_blow_0 rfl (lv_at hl 0 rfl) ?_
  refine rg_get (C := R_Gr) (T := T_Gr) (N := 9) (v := .ref (ad 11)) (pc := 1) hx hb hts i_Gr hown hK hP 10 (by omega) xgx_grate rfl 0 (by decide) (hts _ wd_145) rfl d_Gr_blow_1 ?_
  refine lv_astore_n (lv' := [(2, .ref (ad 11)), (0, .ref (ad 10)), (1, .int a)]) (pc := 4) hx hb d_Gr_blow_4 rfl hl (by decide) rfl (fun ls hl => ?_)
  refine lv_aload_n (pc := 5) hx hb d_Gr_blow_5 rfl (lv_at hl 0 rfl) ?_
  refine rg_alen (v := nI Z) (pc := 6) hx hb hK hP 11 (by omega) 3 xgx_zonesA rfl rfl d_Gr_blow_6 ?_
  refine lv_istore_n (lv' := [(3, .int (nI Z)), (2, .ref (ad 11)), (0, .ref (ad 10)), (1, .int a)]) (pc := 7) hx hb d_Gr_blow_7 rfl hl (by decide) rfl (fun ls hl => ?_)
  refine lv_iconst (v := 0) (pc := 8) hx hb d_Gr_blow_8 (by decide) ?_
  refine lv_istore (lv' := [(4, .int 0), (3, .int (nI Z)), (2, .ref (ad 11)), (0, .ref (ad 10)), (1, .int a)]) (pc := 9) hx hb d_Gr_blow_9 hl (by decide) rfl (fun ls hl => ?_)
  refine lp_blow_ok hR hZ C hK a Z 0 st _ _ ls (by omega) hP hS (lv_sub hl [3, 4, 2, 1, 0] rfl) (fun H locs ls hP hS hl => ?_)
  have e9 : f_Gr_blow Z st a = (lp_blow Z a Z 0 st) := rfl
  exact rg_vret (pc := 35) hx hb hr hlocks hP hS (by rw [e9]) d_Gr_blow_35

def lp_lying (Z : Nat) : Nat → Nat → Int64 → xS → Int64
  | 0, _, sm, _ => sm
  | n + 1, j, sm, st =>
    lp_lying Z n (j + 1) (sm + (((xs_zw st j) + (xs_zf st j)) + (xs_za st j))) st
set_option maxRecDepth 100000 in
set_option maxHeartbeats 4000000 in
theorem lp_lying_ok {p : Program} {l : Launch} {e : Env} {s : State} {m : MethodId} {args : Array Value} {below : List Frame} {meth : Method} {c : Code} {D : va_G} {cA : Nat → ClassId} {Z : Nat} {ad : Nat → Nat} {Q : State → Prop} (hR : rD (36 + Z) ad) (hZ : 1 ≤ Z ∧ Z ≤ 6) (C : Cx p s m args meth c b_Gr_lying 7 R_Gr (some .long)) (hK : va_K D clG (tyX cA) s) : ∀ (n : Nat) (j : Nat) (sm : Int64) (st : xS) (H : Heap) (locs : List Loc) (ls : Array Slot), j + n = Z → va_P D clG (pw (36 + Z) ad (xgx Z ad cA (st))) H → va_S (rA (36 + Z) ad s.heap.size) s.heap H locs → lv_has ls 7 [(0, .ref (ad 10)), (1, .long sm), (3, .ref (ad 11)), (4, .int (nI Z)), (5, .int (nI j))] → (∀ (H : Heap) (locs : List Loc) (ls : Array Slot), va_P D clG (pw (36 + Z) ad (xgx Z ad cA (st))) H → va_S (rA (36 + Z) ad s.heap.size) s.heap H locs → lv_has ls 7 [(0, .ref (ad 10)), (1, .long ((lp_lying Z n j sm st))), (3, .ref (ad 11)), (4, .int (nI Z)), (5, .int (nI Z))] → W p l e ({ frames := 0, cells := 0, slots := 0, locals := 0 } : Room) s m args below meth c H locs 0 0 Q (F0 m 53 ls [])) → W p l e ({ frames := 0, cells := 0, slots := 0, locals := 0 } : Room) s m args below meth c H locs 0 0 Q (F0 m 14 ls []) := by
  obtain ⟨⟨hx, hb, hml, hown, hts⟩, hr, hlocks, hN⟩ := id C
  have hown : s.vm.findClass R_Gr = some m.cls := hown
  have hr : meth.sig.returnType = (some .long) := hr
  intro n
  induction n with
  | zero =>
    intro j sm st H locs ls hn hP hS hl hk
    have hj9 : j = Z := by omega
    refine lv_iload (pc := 14) hx hb d_Gr_lying_14 (lv_at hl 4 rfl) ?_
    refine lv_iload (pc := 16) hx hb d_Gr_lying_16 (lv_at hl 3 rfl) ?_
    refine lv_icmp_ge (tgt := 53) (pc := 18) hx hb d_Gr_lying_18 (by decide) (fun c_1 => ?_) (fun c_1 => absurd (by rw [hj9]; exact Int32.le_refl _) c_1)
    exact hk H locs ls hP hS (by rw [hj9] at hl; exact lv_sub hl [0, 1, 2, 3, 4] rfl)
  | succ n ih =>
    intro j sm st H locs ls hn hP hS hl hk
    refine lv_iload (pc := 14) hx hb d_Gr_lying_14 (lv_at hl 4 rfl) ?_
    refine lv_iload (pc := 16) hx hb d_Gr_lying_16 (lv_at hl 3 rfl) ?_
    refine lv_icmp_ge (tgt := 53) (pc := 18) hx hb d_Gr_lying_18 (by decide) (fun c_1 => absurd c_1 (nI_ge (b := Z) (by omega) (by omega))) (fun c_1 => ?_)
    refine lv_aload_n (pc := 21) hx hb d_Gr_lying_21 rfl (lv_at hl 2 rfl) ?_
    refine lv_iload (pc := 22) hx hb d_Gr_lying_22 (lv_at hl 4 rfl) ?_
    refine rg_aldq (pc := 24) hx hb hK hP 11 (by omega) 3 xgx_zonesA rfl j (by omega) (by omega) rfl rfl d_Gr_lying_24 ?_
    refine lv_astore (lv' := [(6, .ref (ad (36 + j))), (0, .ref (ad 10)), (1, .long sm), (3, .ref (ad 11)), (4, .int (nI Z)), (5, .int (nI j))]) (pc := 25) hx hb d_Gr_lying_25 hl (by decide) rfl (fun ls hl => ?_)
    refine lv_lload_n (pc := 27) hx hb d_Gr_lying_27 rfl (lv_at hl 2 rfl) ?_
    refine lv_aload (pc := 28) hx hb d_Gr_lying_28 (lv_at hl 0 rfl) ?_
    refine rg_get (C := R_Zo) (T := T_Zo) (N := 5) (v := .long (xs_zw st j)) (pc := 30) hx hb hts i_Zo hown hK hP (36 + j) (by omega) (xgx_Zone (j := j) (by omega)) rfl 0 (by decide) (hts _ wd_121) rfl d_Gr_lying_30 ?_
    refine lv_aload (pc := 33) hx hb d_Gr_lying_33 (lv_at hl 0 rfl) ?_
    refine rg_get (C := R_Zo) (T := T_Zo) (N := 5) (v := .long (xs_zf st j)) (pc := 35) hx hb hts i_Zo hown hK hP (36 + j) (by omega) (xgx_Zone (j := j) (by omega)) rfl 1 (by decide) (hts _ wd_124) rfl d_Gr_lying_35 ?_
    refine lv_ladd (pc := 38) hx hb d_Gr_lying_38 ?_
    refine lv_aload (pc := 39) hx hb d_Gr_lying_39 (lv_at hl 0 rfl) ?_
    refine rg_get (C := R_Zo) (T := T_Zo) (N := 5) (v := .long (xs_za st j)) (pc := 41) hx hb hts i_Zo hown hK hP (36 + j) (by omega) (xgx_Zone (j := j) (by omega)) rfl 2 (by decide) (hts _ wd_127) rfl d_Gr_lying_41 ?_
    refine lv_ladd (pc := 44) hx hb d_Gr_lying_44 ?_
    refine lv_ladd (pc := 45) hx hb d_Gr_lying_45 ?_
    refine lv_lstore_n (lv' := [(1, .long (sm + (((xs_zw st j) + (xs_zf st j)) + (xs_za st j)))), (6, .ref (ad (36 + j))), (0, .ref (ad 10)), (3, .ref (ad 11)), (4, .int (nI Z)), (5, .int (nI j))]) (pc := 46) hx hb d_Gr_lying_46 rfl hl (by decide) rfl (fun ls hl => ?_)
    refine lv_iinc (v := nI (j + 1)) (lv' := [(5, .int (nI (j + 1))), (1, .long (sm + (((xs_zw st j) + (xs_zf st j)) + (xs_za st j)))), (6, .ref (ad (36 + j))), (0, .ref (ad 10)), (3, .ref (ad 11)), (4, .int (nI Z))]) (pc := 47) hx hb d_Gr_lying_47 hl (k := 5) rfl (nI_1 _) (by decide) rfl (fun ls hl => ?_)
    refine lv_goto (tgt := 14) (pc := 50) hx hb d_Gr_lying_50 (by decide) ?_
    have hk9 := hk
    unfold lp_lying at hk9
    exact ih (j + 1) (sm + (((xs_zw st j) + (xs_zf st j)) + (xs_za st j))) st _ _ ls (by omega) hP hS (lv_sub hl [3, 1, 4, 5, 0] rfl) hk9
def f_Gr_lying (Z : Nat) (st : xS) : Int64 :=
  (lp_lying Z Z 0 0 st)
set_option maxRecDepth 100000 in
set_option maxHeartbeats 4000000 in
theorem c_Gr_lying {l : Launch} {D : va_G} {cA : Nat → ClassId} {Z : Nat} {ad : Nat → Nat} (hR : rD (36 + Z) ad) (hZ : 1 ≤ Z ∧ Z ≤ 6) (st : xS) : RL l y_Gr_lying (mws y_Gr_lying b_Gr_lying 7 (some .long)) ({ frames := 0, cells := 0, slots := 0, locals := 0 } : Room) D clG (tyX cA) (36 + Z) ad (xgx Z ad cA (st)) [.ref (ad 10)] (f_Gr_lying Z st) (xgx Z ad cA (st)) := by
  refine RL_of (cc := b_Gr_lying) (maxL := 7) (ret := (some .long)) (by decide) (Nat.le_of_ble_eq_true rfl) ?_
  intro p e s m args below meth c ls C hK hP hS hl
  obtain ⟨⟨hx, hb, hml, hown, hts⟩, hr, hlocks, hN⟩ := id C
  have hown : s.vm.findClass R_Gr = some m.cls := hown
  have hr : meth.sig.returnType = (some .long) := hr
  have hl : lv_has ls 7 [(0, .ref (ad 10))] := hl
  refine lv_lconst (v := 0) (pc := 0) hx hb d_Gr_lying_0 (by decide) ?_
  refine lv_lstore_n (lv' := [(1, .long 0), (0, .ref (ad 10))]) (pc := 1) hx hb d_Gr_lying_1 rfl hl (by decide) rfl (fun ls hl => ?_)
  refine lv_aload_n (pc := 2) hx hb d_Gr_lying_2 rfl (lv_at hl 1 rfl) ?_
  refine rg_get (C := R_Gr) (T := T_Gr) (N := 9) (v := .ref (ad 11)) (pc := 3) hx hb hts i_Gr hown hK hP 10 (by omega) xgx_grate rfl 0 (by decide) (hts _ wd_145) rfl d_Gr_lying_3 ?_
  refine lv_astore_n (lv' := [(3, .ref (ad 11)), (1, .long 0), (0, .ref (ad 10))]) (pc := 6) hx hb d_Gr_lying_6 rfl hl (by decide) rfl (fun ls hl => ?_)
  refine lv_aload_n (pc := 7) hx hb d_Gr_lying_7 rfl (lv_at hl 0 rfl) ?_
  refine rg_alen (v := nI Z) (pc := 8) hx hb hK hP 11 (by omega) 3 xgx_zonesA rfl rfl d_Gr_lying_8 ?_
  refine lv_istore (lv' := [(4, .int (nI Z)), (3, .ref (ad 11)), (1, .long 0), (0, .ref (ad 10))]) (pc := 9) hx hb d_Gr_lying_9 hl (by decide) rfl (fun ls hl => ?_)
  refine lv_iconst (v := 0) (pc := 11) hx hb d_Gr_lying_11 (by decide) ?_
  refine lv_istore (lv' := [(5, .int 0), (4, .int (nI Z)), (3, .ref (ad 11)), (1, .long 0), (0, .ref (ad 10))]) (pc := 12) hx hb d_Gr_lying_12 hl (by decide) rfl (fun ls hl => ?_)
  refine lp_lying_ok hR hZ C hK Z 0 0 st _ _ ls (by omega) hP hS (lv_sub hl [4, 3, 2, 1, 0] rfl) (fun H locs ls hP hS hl => ?_)
  refine lv_lload_n (pc := 53) hx hb d_Gr_lying_53 rfl (lv_at hl 1 rfl) ?_
  have e9 : f_Gr_lying Z st = (lp_lying Z Z 0 0 st) := rfl
  exact rg_lret (pc := 54) hx hb hr hlocks hP hS ⟨e9.symm, rfl⟩ d_Gr_lying_54

def f_Gr_gone (Z : Nat) (st : xS) : Int64 :=
  (((xs_dA st) + (xs_bA st)) + (xs_lA st)) + (xs_aA st)
set_option maxRecDepth 100000 in
set_option maxHeartbeats 4000000 in
theorem c_Gr_gone {l : Launch} {D : va_G} {cA : Nat → ClassId} {Z : Nat} {ad : Nat → Nat} (hR : rD (36 + Z) ad) (hZ : 1 ≤ Z ∧ Z ≤ 6) (st : xS) : RL l y_Gr_gone (mws y_Gr_gone b_Gr_gone 1 (some .long)) ({ frames := 0, cells := 0, slots := 0, locals := 0 } : Room) D clG (tyX cA) (36 + Z) ad (xgx Z ad cA (st)) [.ref (ad 10)] (f_Gr_gone Z st) (xgx Z ad cA (st)) := by
  refine RL_of (cc := b_Gr_gone) (maxL := 1) (ret := (some .long)) (by decide) (Nat.le_of_ble_eq_true rfl) ?_
  intro p e s m args below meth c ls C hK hP hS hl
  obtain ⟨⟨hx, hb, hml, hown, hts⟩, hr, hlocks, hN⟩ := id C
  have hown : s.vm.findClass R_Gr = some m.cls := hown
  have hr : meth.sig.returnType = (some .long) := hr
  have hl : lv_has ls 1 [(0, .ref (ad 10))] := hl
  refine lv_aload_n (pc := 0) hx hb d_Gr_gone_0 rfl (lv_at hl 0 rfl) ?_
  refine rg_get (C := R_Gr) (T := T_Gr) (N := 9) (v := .long (xs_dA st)) (pc := 1) hx hb hts i_Gr hown hK hP 10 (by omega) xgx_grate rfl 5 (by decide) (hts _ wd_155) rfl d_Gr_gone_1 ?_
  refine lv_aload_n (pc := 4) hx hb d_Gr_gone_4 rfl (lv_at hl 0 rfl) ?_
  refine rg_get (C := R_Gr) (T := T_Gr) (N := 9) (v := .long (xs_bA st)) (pc := 5) hx hb hts i_Gr hown hK hP 10 (by omega) xgx_grate rfl 6 (by decide) (hts _ wd_157) rfl d_Gr_gone_5 ?_
  refine lv_ladd (pc := 8) hx hb d_Gr_gone_8 ?_
  refine lv_aload_n (pc := 9) hx hb d_Gr_gone_9 rfl (lv_at hl 0 rfl) ?_
  refine rg_get (C := R_Gr) (T := T_Gr) (N := 9) (v := .long (xs_lA st)) (pc := 10) hx hb hts i_Gr hown hK hP 10 (by omega) xgx_grate rfl 7 (by decide) (hts _ wd_159) rfl d_Gr_gone_10 ?_
  refine lv_ladd (pc := 13) hx hb d_Gr_gone_13 ?_
  refine lv_aload_n (pc := 14) hx hb d_Gr_gone_14 rfl (lv_at hl 0 rfl) ?_
  refine rg_get (C := R_Gr) (T := T_Gr) (N := 9) (v := .long (xs_aA st)) (pc := 15) hx hb hts i_Gr hown hK hP 10 (by omega) xgx_grate rfl 8 (by decide) (hts _ wd_161) rfl d_Gr_gone_15 ?_
  refine lv_ladd (pc := 18) hx hb d_Gr_gone_18 ?_
  have e9 : f_Gr_gone Z st = (((xs_dA st) + (xs_bA st)) + (xs_lA st)) + (xs_aA st) := rfl
  exact rg_lret (pc := 19) hx hb hr hlocks hP hS ⟨e9.symm, rfl⟩ d_Gr_gone_19
