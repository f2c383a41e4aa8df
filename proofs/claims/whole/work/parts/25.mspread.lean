/-- the cell of the i-th of g grabs in the way numbered w -/
def dg (w g i : Nat) : Nat := w / 6 ^ (g - 1 - i) % 6
theorem dg_lt (w g i : Nat) : dg w g i < 6 := Nat.mod_lt _ (by decide)

def lm_spA (Z : Nat) (w9 : Nat) (g9 : Nat) (i0 : Nat) : Nat → Nat → Int32 → mS → Int32
  | 0, _, sm, _ => sm
  | n + 1, j, sm, st =>
    lm_spA Z w9 g9 i0 n (j + 1) (sm + (((ms_cl st ((4 * (dg w9 g9 j)) + 0)) * 1000) / (f_Mo_weightOf Z st (dg w9 g9 j)))) st
set_option maxRecDepth 100000 in
set_option maxHeartbeats 4000000 in
theorem lm_spA_ok {p : Program} {l : Launch} {e : Env} {s : State} {m : MethodId} {args : Array Value} {below : List Frame} {meth : Method} {c : Code} {D : va_G} {cA : Nat → ClassId} {Z : Nat} {ad : Nat → Nat} {Q : State → Prop} (hR : rD 19 ad) (hZ : 1 ≤ Z ∧ Z ≤ 6) (C : Cx p s m args meth c b_Mo_spreadOf 9 R_Mo (some .int)) (hK : va_K D clG (tyM cA) s) (w9 : Nat) (g9 : Nat) (i0 : Nat) (hw9 : w9 < 2147483648) (hg9 : g9 < 5) (hi0 : i0 < g9) : ∀ (n : Nat) (j : Nat) (sm : Int32) (st : mS) (H : Heap) (locs : List Loc) (ls : Array Slot), (j + n = i0 ∧ f_Mo_weightOf Z st (dg w9 g9 i0) = 0 ∧ ∀ i, i < i0 → ¬ f_Mo_weightOf Z st (dg w9 g9 i) = 0) → va_P D clG (pw 19 ad (mgx Z ad cA (st))) H → va_S (rA 19 ad s.heap.size) s.heap H locs → lv_has ls 9 [(0, .ref (ad 0)), (1, .int (nI w9)), (2, .int (nI g9)), (5, .int 0), (6, .int sm), (7, .int (nI j))] → (∀ (H : Heap) (locs : List Loc) (ls : Array Slot) (x9 : Int32), va_P D clG (pw 19 ad (mgx Z ad cA (st))) H → va_S (rA 19 ad s.heap.size) s.heap H locs → lv_has ls 9 [(0, .ref (ad 0)), (1, .int (nI w9)), (2, .int (nI g9)), (5, .int 0), (6, .int ((lm_spA Z w9 g9 i0 n j sm st))), (7, .int x9)] → W p l e ({ frames := 1, cells := 0, slots := 0, locals := 24 } : Room) s m args below meth c H locs 0 0 Q (F0 m 44 ls [])) → W p l e ({ frames := 1, cells := 0, slots := 0, locals := 24 } : Room) s m args below meth c H locs 0 0 Q (F0 m 20 ls []) := by
  obtain ⟨⟨hx, hb, hml, hown, hts⟩, hr, hlocks, hN⟩ := id C
  have hown : s.vm.findClass R_Mo = some m.cls := hown
  have hr : meth.sig.returnType = (some .int) := hr
  intro n
  induction n with
  | zero =>
    intro j sm st H locs ls hn hP hS hl hk
    obtain ⟨hn, hz, hne⟩ := hn
    have hj9 : j = i0 := by omega
    refine lv_iload (pc := 20) hx hb d_Mo_spreadOf_20 (lv_at hl 5 rfl) ?_
    refine lv_iload_n (pc := 22) hx hb d_Mo_spreadOf_22 rfl (lv_at hl 2 rfl) ?_
    refine lv_icmp_ge (tgt := 80) (pc := 23) hx hb d_Mo_spreadOf_23 (by decide) (fun c_1 => absurd c_1 (nI_ge (by omega) (by omega))) (fun c_1 => ?_)
    refine lv_iload_n (pc := 26) hx hb d_Mo_spreadOf_26 rfl (lv_at hl 1 rfl) ?_
    refine lv_iload (pc := 27) hx hb d_Mo_spreadOf_27 (lv_at hl 5 rfl) ?_
    refine lv_iload_n (pc := 29) hx hb d_Mo_spreadOf_29 rfl (lv_at hl 2 rfl) ?_
    refine rg_ci (pc := 30) (va_runS (As := [.int (nI w9), .int (nI j), .int (nI g9)]) (rest := []) ⟨hx, hb, hml, hown, hts⟩ (c_Mo_cellOf (l := l) hR hZ st w9 (by omega) j (by omega) g9 (by omega) (by omega) _) ⟨callB_of 3 hts (gd_c wd_754) rfl rfl rfl (hts _ wd_9) (hts _ wd_752) hd_Mo_cellOf ⟨Nat.le_of_ble_eq_true rfl, Nat.le_of_ble_eq_true rfl⟩, hts _ wd_753⟩ ⟨rPc_blind _ _ _ _ _ _ _ _, rPc_at _ hP hK hN⟩ rfl rfl hl.1 rfl (lv_room (Nat.le_of_ble_eq_true rfl)) d_Mo_spreadOf_30 ⟨Nat.zero_le _, Nat.zero_le _⟩) hS (fun H locs hP hS => ?_)
    have hdg := dg_lt w9 g9 j
    rw [show (f_Mo_cellOf Z st w9 j g9 : Int32) = nI (dg w9 g9 j) from cellOf_eq]
    refine lv_istore (lv' := [(8, .int (nI (dg w9 g9 j))), (0, .ref (ad 0)), (1, .int (nI w9)), (2, .int (nI g9)), (5, .int 0), (6, .int sm), (7, .int (nI j))]) (pc := 33) hx hb d_Mo_spreadOf_33 hl (by decide) rfl (fun ls hl => ?_)
    refine lv_aload_n (pc := 35) hx hb d_Mo_spreadOf_35 rfl (lv_at hl 1 rfl) ?_
    refine lv_iload (pc := 36) hx hb d_Mo_spreadOf_36 (lv_at hl 0 rfl) ?_
    refine rg_ci (pc := 38) (va_runV (As := [.int (nI (dg w9 g9 j))]) (rest := []) ⟨hx, hb, hml, hown, hts⟩ (c_Mo_weightOf (l := l) hR hZ st (dg w9 g9 j) (by omega) _) ⟨callB_of 1 hts (gd_c wd_637) rfl rfl rfl (hts _ wd_9) (hts _ wd_634) hd_Mo_weightOf ⟨Nat.le_of_ble_eq_true rfl, Nat.le_of_ble_eq_true rfl⟩, hts _ wd_636, hts _ wp_11⟩ ⟨rPc_blind _ _ _ _ _ _ _ _, rg_rec hK hP 0 (by omega) mgx_M rfl, rPc_at _ hP hK hN⟩ rfl rfl hl.1 rfl (lv_room (Nat.le_of_ble_eq_true rfl)) d_Mo_spreadOf_38 ⟨Nat.zero_le _, Nat.zero_le _⟩) hS (fun H locs hP hS => ?_)
    refine lv_if_ne (tgt := 46) (pc := 41) hx hb d_Mo_spreadOf_41 (by decide) (fun c_2 => absurd (by rw [hj9]; exact hz) c_2) (fun c_2 => ?_)
    exact hk H locs ls _ hP hS (lv_sub hl [1, 2, 3, 4, 5, 6] rfl)
  | succ n ih =>
    intro j sm st H locs ls hn hP hS hl hk
    obtain ⟨hn, hz, hne⟩ := hn
    refine lv_iload (pc := 20) hx hb d_Mo_spreadOf_20 (lv_at hl 5 rfl) ?_
    refine lv_iload_n (pc := 22) hx hb d_Mo_spreadOf_22 rfl (lv_at hl 2 rfl) ?_
    refine lv_icmp_ge (tgt := 80) (pc := 23) hx hb d_Mo_spreadOf_23 (by decide) (fun c_1 => absurd c_1 (nI_ge (by omega) (by omega))) (fun c_1 => ?_)
    refine lv_iload_n (pc := 26) hx hb d_Mo_spreadOf_26 rfl (lv_at hl 1 rfl) ?_
    refine lv_iload (pc := 27) hx hb d_Mo_spreadOf_27 (lv_at hl 5 rfl) ?_
    refine lv_iload_n (pc := 29) hx hb d_Mo_spreadOf_29 rfl (lv_at hl 2 rfl) ?_
    refine rg_ci (pc := 30) (va_runS (As := [.int (nI w9), .int (nI j), .int (nI g9)]) (rest := []) ⟨hx, hb, hml, hown, hts⟩ (c_Mo_cellOf (l := l) hR hZ st w9 (by omega) j (by omega) g9 (by omega) (by omega) _) ⟨callB_of 3 hts (gd_c wd_754) rfl rfl rfl (hts _ wd_9) (hts _ wd_752) hd_Mo_cellOf ⟨Nat.le_of_ble_eq_true rfl, Nat.le_of_ble_eq_true rfl⟩, hts _ wd_753⟩ ⟨rPc_blind _ _ _ _ _ _ _ _, rPc_at _ hP hK hN⟩ rfl rfl hl.1 rfl (lv_room (Nat.le_of_ble_eq_true rfl)) d_Mo_spreadOf_30 ⟨Nat.zero_le _, Nat.zero_le _⟩) hS (fun H locs hP hS => ?_)
    have hdg := dg_lt w9 g9 j
    rw [show (f_Mo_cellOf Z st w9 j g9 : Int32) = nI (dg w9 g9 j) from cellOf_eq]
    refine lv_istore (lv' := [(8, .int (nI (dg w9 g9 j))), (0, .ref (ad 0)), (1, .int (nI w9)), (2, .int (nI g9)), (5, .int 0), (6, .int sm), (7, .int (nI j))]) (pc := 33) hx hb d_Mo_spreadOf_33 hl (by decide) rfl (fun ls hl => ?_)
    refine lv_aload_n (pc := 35) hx hb d_Mo_spreadOf_35 rfl (lv_at hl 1 rfl) ?_
    refine lv_iload (pc := 36) hx hb d_Mo_spreadOf_36 (lv_at hl 0 rfl) ?_
    refine rg_ci (pc := 38) (va_runV (As := [.int (nI (dg w9 g9 j))]) (rest := []) ⟨hx, hb, hml, hown, hts⟩ (c_Mo_weightOf (l := l) hR hZ st (dg w9 g9 j) (by omega) _) ⟨callB_of 1 hts (gd_c wd_637) rfl rfl rfl (hts _ wd_9) (hts _ wd_634) hd_Mo_weightOf ⟨Nat.le_of_ble_eq_true rfl, Nat.le_of_ble_eq_true rfl⟩, hts _ wd_636, hts _ wp_11⟩ ⟨rPc_blind _ _ _ _ _ _ _ _, rg_rec hK hP 0 (by omega) mgx_M rfl, rPc_at _ hP hK hN⟩ rfl rfl hl.1 rfl (lv_room (Nat.le_of_ble_eq_true rfl)) d_Mo_spreadOf_38 ⟨Nat.zero_le _, Nat.zero_le _⟩) hS (fun H locs hP hS => ?_)
    refine lv_if_ne (tgt := 46) (pc := 41) hx hb d_Mo_spreadOf_41 (by decide) (fun c_2 => ?_) (fun c_2 => absurd c_2 (hne j (by omega)))
    refine lv_iload (pc := 46) hx hb d_Mo_spreadOf_46 (lv_at hl 5 rfl) ?_
    refine lv_aload_n (pc := 48) hx hb d_Mo_spreadOf_48 rfl (lv_at hl 1 rfl) ?_
    refine rg_get (C := R_Mo) (T := T_Mo) (N := 28) (v := .ref (ad 3)) (pc := 49) hx hb hts i_Mo hown hK hP 0 (by omega) mgx_M rfl 3 (by decide) (hts _ wd_531) rfl d_Mo_spreadOf_49 ?_
    refine lv_iconst (v := 4) (pc := 52) hx hb d_Mo_spreadOf_52 (by decide) ?_
    refine lv_iload (pc := 53) hx hb d_Mo_spreadOf_53 (lv_at hl 0 rfl) ?_
    refine lv_imul (pc := 55) hx hb d_Mo_spreadOf_55 ?_
    rw [show (4 * (nI (dg w9 g9 j)) : Int32) = nI (4 * (dg w9 g9 j)) from pk_mul _ _]
    refine lv_iload (pc := 56) hx hb d_Mo_spreadOf_56 (lv_at hl 4 rfl) ?_
    refine lv_iadd (pc := 58) hx hb d_Mo_spreadOf_58 ?_
    rw [show ((nI (4 * (dg w9 g9 j))) + 0 : Int32) = nI ((4 * (dg w9 g9 j)) + 0) from nI_add _ _]
    refine rg_iald (pc := 59) hx hb hK hP 3 (by omega) 0 mgx_cells rfl ((4 * (dg w9 g9 j)) + 0) (by omega) (by omega) rfl d_Mo_spreadOf_59 ?_
    refine lv_sipush (v := 1000) (pc := 60) hx hb d_Mo_spreadOf_60 (by decide) ?_
    refine lv_imul (pc := 63) hx hb d_Mo_spreadOf_63 ?_
    refine lv_aload_n (pc := 64) hx hb d_Mo_spreadOf_64 rfl (lv_at hl 1 rfl) ?_
    refine lv_iload (pc := 65) hx hb d_Mo_spreadOf_65 (lv_at hl 0 rfl) ?_
    refine rg_ci (pc := 67) (va_runV (As := [.int (nI (dg w9 g9 j))]) (rest := [.int ((ms_cl st ((4 * (dg w9 g9 j)) + 0)) * 1000), .int sm]) ⟨hx, hb, hml, hown, hts⟩ (c_Mo_weightOf (l := l) hR hZ st (dg w9 g9 j) (by omega) _) ⟨callB_of 1 hts (gd_c wd_637) rfl rfl rfl (hts _ wd_9) (hts _ wd_634) hd_Mo_weightOf ⟨Nat.le_of_ble_eq_true rfl, Nat.le_of_ble_eq_true rfl⟩, hts _ wd_636, hts _ wp_11⟩ ⟨rPc_blind _ _ _ _ _ _ _ _, rg_rec hK hP 0 (by omega) mgx_M rfl, rPc_at _ hP hK hN⟩ rfl rfl hl.1 rfl (lv_room (Nat.le_of_ble_eq_true rfl)) d_Mo_spreadOf_67 ⟨Nat.zero_le _, Nat.zero_le _⟩) hS (fun H locs hP hS => ?_)
    refine lv_idiv (pc := 70) hx hb d_Mo_spreadOf_70 (hne j (by omega)) ?_
    refine lv_iadd (pc := 71) hx hb d_Mo_spreadOf_71 ?_
    refine lv_istore (lv' := [(6, .int (sm + (((ms_cl st ((4 * (dg w9 g9 j)) + 0)) * 1000) / (f_Mo_weightOf Z st (dg w9 g9 j))))), (8, .int (nI (dg w9 g9 j))), (0, .ref (ad 0)), (1, .int (nI w9)), (2, .int (nI g9)), (5, .int 0), (7, .int (nI j))]) (pc := 72) hx hb d_Mo_spreadOf_72 hl (by decide) rfl (fun ls hl => ?_)
    refine lv_iinc (v := nI (j + 1)) (lv' := [(7, .int (nI (j + 1))), (6, .int (sm + (((ms_cl st ((4 * (dg w9 g9 j)) + 0)) * 1000) / (f_Mo_weightOf Z st (dg w9 g9 j))))), (8, .int (nI (dg w9 g9 j))), (0, .ref (ad 0)), (1, .int (nI w9)), (2, .int (nI g9)), (5, .int 0)]) (pc := 74) hx hb d_Mo_spreadOf_74 hl (k := 6) rfl (nI_1 _) (by decide) rfl (fun ls hl => ?_)
    refine lv_goto (tgt := 20) (pc := 77) hx hb d_Mo_spreadOf_77 (by decide) ?_
    have hk9 := hk
    unfold lm_spA at hk9
    exact ih (j + 1) (sm + (((ms_cl st ((4 * (dg w9 g9 j)) + 0)) * 1000) / (f_Mo_weightOf Z st (dg w9 g9 j)))) st _ _ ls ⟨by omega, hz, hne⟩ hP hS (lv_sub hl [3, 4, 5, 6, 1, 0] rfl) hk9
def f_Mo_spreadOfA (Z : Nat) (st : mS) (w9 : Nat) (g9 : Nat) (i0 : Nat) : Int32 :=
  (-1)
set_option maxRecDepth 100000 in
set_option maxHeartbeats 4000000 in
theorem c_Mo_spreadOfA {l : Launch} {D : va_G} {cA : Nat → ClassId} {Z : Nat} {ad : Nat → Nat} (hR : rD 19 ad) (hZ : 1 ≤ Z ∧ Z ≤ 6) (st : mS) (w9 : Nat) (hw9 : w9 < 2147483648) (g9 : Nat) (hg9 : g9 < 5) (i0 : Nat) (hi0 : i0 < g9) (hz : f_Mo_weightOf Z st (dg w9 g9 i0) = 0) (hne : ∀ i, i < i0 → ¬ f_Mo_weightOf Z st (dg w9 g9 i) = 0) : RI l y_Mo_spreadOf (mws y_Mo_spreadOf b_Mo_spreadOf 9 (some .int)) ({ frames := 1, cells := 0, slots := 0, locals := 24 } : Room) D clG (tyM cA) 19 ad (mgx Z ad cA (st)) [.ref (ad 0), .int (nI w9), .int (nI g9)] (f_Mo_spreadOfA Z st w9 g9 i0) (mgx Z ad cA (st)) := by
  refine RI_of (cc := b_Mo_spreadOf) (maxL := 9) (ret := (some .int)) (by decide) (Nat.le_of_ble_eq_true rfl) ?_
  intro p e s m args below meth c ls C hK hP hS hl
  obtain ⟨⟨hx, hb, hml, hown, hts⟩, hr, hlocks, hN⟩ := id C
  have hown : s.vm.findClass R_Mo = some m.cls := hown
  have hr : meth.sig.returnType = (some .int) := hr
  have hl : lv_has ls 9 [(0, .ref (ad 0)), (1, .int (nI w9)), (2, .int (nI g9))] := hl
  refine lv_iconst (v := (-1)) (pc := 0) hx hb d_Mo_spreadOf_0 (by decide) ?_
  refine lv_istore_n (lv' := [(3, .int (-1)), (0, .ref (ad 0)), (1, .int (nI w9)), (2, .int (nI g9))]) (pc := 1) hx hb d_Mo_spreadOf_1 rfl hl (by decide) rfl (fun ls hl => ?_)
  refine lv_iconst (v := 0) (pc := 2) hx hb d_Mo_spreadOf_2 (by decide) ?_
  refine lv_istore (lv' := [(4, .int 0), (3, .int (-1)), (0, .ref (ad 0)), (1, .int (nI w9)), (2, .int (nI g9))]) (pc := 3) hx hb d_Mo_spreadOf_3 hl (by decide) rfl (fun ls hl => ?_)
  refine lv_iconst (v := 0) (pc := 5) hx hb d_Mo_spreadOf_5 (by decide) ?_
  refine lv_istore (lv' := [(5, .int 0), (4, .int 0), (3, .int (-1)), (0, .ref (ad 0)), (1, .int (nI w9)), (2, .int (nI g9))]) (pc := 6) hx hb d_Mo_spreadOf_6 hl (by decide) rfl (fun ls hl => ?_)
  refine lv_iload (pc := 8) hx hb d_Mo_spreadOf_8 (lv_at hl 0 rfl) ?_
  refine lv_iconst (v := 4) (pc := 10) hx hb d_Mo_spreadOf_10 (by decide) ?_
  refine lv_icmp_ge (tgt := 119) (pc := 11) hx hb d_Mo_spreadOf_11 (by decide) (fun c_1 => absurd c_1 (by decide)) (fun c_1 => ?_)
  refine lv_iconst (v := 0) (pc := 14) hx hb d_Mo_spreadOf_14 (by decide) ?_
  refine lv_istore (lv' := [(6, .int 0), (5, .int 0), (4, .int 0), (3, .int (-1)), (0, .ref (ad 0)), (1, .int (nI w9)), (2, .int (nI g9))]) (pc := 15) hx hb d_Mo_spreadOf_15 hl (by decide) rfl (fun ls hl => ?_)
  refine lv_iconst (v := 0) (pc := 17) hx hb d_Mo_spreadOf_17 (by decide) ?_
  refine lv_istore (lv' := [(7, .int 0), (6, .int 0), (5, .int 0), (4, .int 0), (3, .int (-1)), (0, .ref (ad 0)), (1, .int (nI w9)), (2, .int (nI g9))]) (pc := 18) hx hb d_Mo_spreadOf_18 hl (by decide) rfl (fun ls hl => ?_)
  refine lm_spA_ok hR hZ C hK w9 g9 i0 hw9 hg9 hi0 i0 0 0 st _ _ ls ⟨by omega, hz, hne⟩ hP hS (lv_sub hl [5, 6, 7, 2, 1, 0] rfl) (fun H locs ls x9 hP hS hl => ?_)
  refine lv_iconst (v := (-1)) (pc := 44) hx hb d_Mo_spreadOf_44 (by decide) ?_
  have e9 : f_Mo_spreadOfA Z st w9 g9 i0 = (-1) := rfl
  exact rg_iret (pc := 45) hx hb hr hlocks hP hS ⟨e9.symm, rfl⟩ d_Mo_spreadOf_45

def lm_spB (Z : Nat) (w9 : Nat) (g9 : Nat) (kx : Nat) (mo9 : Int32) (fe9 : Int32) : Nat → Nat → Int32 → mS → Int32
  | 0, _, sm, _ => sm
  | n + 1, j, sm, st =>
    lm_spB Z w9 g9 kx mo9 fe9 n (j + 1) (sm + (((ms_cl st ((4 * (dg w9 g9 j)) + kx)) * 1000) / (f_Mo_weightOf Z st (dg w9 g9 j)))) st
set_option maxRecDepth 100000 in
set_option maxHeartbeats 4000000 in
theorem lm_spB_ok {p : Program} {l : Launch} {e : Env} {s : State} {m : MethodId} {args : Array Value} {below : List Frame} {meth : Method} {c : Code} {D : va_G} {cA : Nat → ClassId} {Z : Nat} {ad : Nat → Nat} {Q : State → Prop} (hR : rD 19 ad) (hZ : 1 ≤ Z ∧ Z ≤ 6) (C : Cx p s m args meth c b_Mo_spreadOf 9 R_Mo (some .int)) (hK : va_K D clG (tyM cA) s) (w9 : Nat) (g9 : Nat) (kx : Nat) (mo9 : Int32) (fe9 : Int32) (hw9 : w9 < 2147483648) (hg9 : g9 < 5) (hkx : kx < 4) : ∀ (n : Nat) (j : Nat) (sm : Int32) (st : mS) (H : Heap) (locs : List Loc) (ls : Array Slot), (j + n = g9 ∧ ∀ i, i < g9 → ¬ f_Mo_weightOf Z st (dg w9 g9 i) = 0) → va_P D clG (pw 19 ad (mgx Z ad cA (st))) H → va_S (rA 19 ad s.heap.size) s.heap H locs → lv_has ls 9 [(0, .ref (ad 0)), (1, .int (nI w9)), (2, .int (nI g9)), (3, .int mo9), (4, .int fe9), (5, .int (nI kx)), (6, .int sm), (7, .int (nI j))] → (∀ (H : Heap) (locs : List Loc) (ls : Array Slot), va_P D clG (pw 19 ad (mgx Z ad cA (st))) H → va_S (rA 19 ad s.heap.size) s.heap H locs → lv_has ls 9 [(0, .ref (ad 0)), (1, .int (nI w9)), (2, .int (nI g9)), (3, .int mo9), (4, .int fe9), (5, .int (nI kx)), (6, .int ((lm_spB Z w9 g9 kx mo9 fe9 n j sm st))), (7, .int (nI g9))] → W p l e ({ frames := 1, cells := 0, slots := 0, locals := 24 } : Room) s m args below meth c H locs 0 0 Q (F0 m 80 ls [])) → W p l e ({ frames := 1, cells := 0, slots := 0, locals := 24 } : Room) s m args below meth c H locs 0 0 Q (F0 m 20 ls []) := by
  obtain ⟨⟨hx, hb, hml, hown, hts⟩, hr, hlocks, hN⟩ := id C
  have hown : s.vm.findClass R_Mo = some m.cls := hown
  have hr : meth.sig.returnType = (some .int) := hr
  intro n
  induction n with
  | zero =>
    intro j sm st H locs ls hn hP hS hl hk
    obtain ⟨hn, hne⟩ := hn
    have hj9 : j = g9 := by omega
    refine lv_iload (pc := 20) hx hb d_Mo_spreadOf_20 (lv_at hl 7 rfl) ?_
    refine lv_iload_n (pc := 22) hx hb d_Mo_spreadOf_22 rfl (lv_at hl 2 rfl) ?_
    refine lv_icmp_ge (tgt := 80) (pc := 23) hx hb d_Mo_spreadOf_23 (by decide) (fun c_1 => ?_) (fun c_1 => absurd (by rw [hj9]; exact Int32.le_refl _) c_1)
    exact hk H locs ls hP hS (by rw [hj9] at hl; exact lv_sub hl [0, 1, 2, 3, 4, 5, 6, 7] rfl)
  | succ n ih =>
    intro j sm st H locs ls hn hP hS hl hk
    obtain ⟨hn, hne⟩ := hn
    refine lv_iload (pc := 20) hx hb d_Mo_spreadOf_20 (lv_at hl 7 rfl) ?_
    refine lv_iload_n (pc := 22) hx hb d_Mo_spreadOf_22 rfl (lv_at hl 2 rfl) ?_
    refine lv_icmp_ge (tgt := 80) (pc := 23) hx hb d_Mo_spreadOf_23 (by decide) (fun c_1 => absurd c_1 (nI_ge (b := g9) (by omega) (by omega))) (fun c_1 => ?_)
    refine lv_iload_n (pc := 26) hx hb d_Mo_spreadOf_26 rfl (lv_at hl 1 rfl) ?_
    refine lv_iload (pc := 27) hx hb d_Mo_spreadOf_27 (lv_at hl 7 rfl) ?_
    refine lv_iload_n (pc := 29) hx hb d_Mo_spreadOf_29 rfl (lv_at hl 2 rfl) ?_
    refine rg_ci (pc := 30) (va_runS (As := [.int (nI w9), .int (nI j), .int (nI g9)]) (rest := []) ⟨hx, hb, hml, hown, hts⟩ (c_Mo_cellOf (l := l) hR hZ st w9 (by omega) j (by omega) g9 (by omega) (by omega) _) ⟨callB_of 3 hts (gd_c wd_754) rfl rfl rfl (hts _ wd_9) (hts _ wd_752) hd_Mo_cellOf ⟨Nat.le_of_ble_eq_true rfl, Nat.le_of_ble_eq_true rfl⟩, hts _ wd_753⟩ ⟨rPc_blind _ _ _ _ _ _ _ _, rPc_at _ hP hK hN⟩ rfl rfl hl.1 rfl (lv_room (Nat.le_of_ble_eq_true rfl)) d_Mo_spreadOf_30 ⟨Nat.zero_le _, Nat.zero_le _⟩) hS (fun H locs hP hS => ?_)
    have hdg := dg_lt w9 g9 j
    rw [show (f_Mo_cellOf Z st w9 j g9 : Int32) = nI (dg w9 g9 j) from cellOf_eq]
    refine lv_istore (lv' := [(8, .int (nI (dg w9 g9 j))), (0, .ref (ad 0)), (1, .int (nI w9)), (2, .int (nI g9)), (3, .int mo9), (4, .int fe9), (5, .int (nI kx)), (6, .int sm), (7, .int (nI j))]) (pc := 33) hx hb d_Mo_spreadOf_33 hl (by decide) rfl (fun ls hl => ?_)
    refine lv_aload_n (pc := 35) hx hb d_Mo_spreadOf_35 rfl (lv_at hl 1 rfl) ?_
    refine lv_iload (pc := 36) hx hb d_Mo_spreadOf_36 (lv_at hl 0 rfl) ?_
    refine rg_ci (pc := 38) (va_runV (As := [.int (nI (dg w9 g9 j))]) (rest := []) ⟨hx, hb, hml, hown, hts⟩ (c_Mo_weightOf (l := l) hR hZ st (dg w9 g9 j) (by omega) _) ⟨callB_of 1 hts (gd_c wd_637) rfl rfl rfl (hts _ wd_9) (hts _ wd_634) hd_Mo_weightOf ⟨Nat.le_of_ble_eq_true rfl, Nat.le_of_ble_eq_true rfl⟩, hts _ wd_636, hts _ wp_11⟩ ⟨rPc_blind _ _ _ _ _ _ _ _, rg_rec hK hP 0 (by omega) mgx_M rfl, rPc_at _ hP hK hN⟩ rfl rfl hl.1 rfl (lv_room (Nat.le_of_ble_eq_true rfl)) d_Mo_spreadOf_38 ⟨Nat.zero_le _, Nat.zero_le _⟩) hS (fun H locs hP hS => ?_)
    refine lv_if_ne (tgt := 46) (pc := 41) hx hb d_Mo_spreadOf_41 (by decide) (fun c_2 => ?_) (fun c_2 => absurd c_2 (hne j (by omega)))
    refine lv_iload (pc := 46) hx hb d_Mo_spreadOf_46 (lv_at hl 7 rfl) ?_
    refine lv_aload_n (pc := 48) hx hb d_Mo_spreadOf_48 rfl (lv_at hl 1 rfl) ?_
    refine rg_get (C := R_Mo) (T := T_Mo) (N := 28) (v := .ref (ad 3)) (pc := 49) hx hb hts i_Mo hown hK hP 0 (by omega) mgx_M rfl 3 (by decide) (hts _ wd_531) rfl d_Mo_spreadOf_49 ?_
    refine lv_iconst (v := 4) (pc := 52) hx hb d_Mo_spreadOf_52 (by decide) ?_
    refine lv_iload (pc := 53) hx hb d_Mo_spreadOf_53 (lv_at hl 0 rfl) ?_
    refine lv_imul (pc := 55) hx hb d_Mo_spreadOf_55 ?_
    rw [show (4 * (nI (dg w9 g9 j)) : Int32) = nI (4 * (dg w9 g9 j)) from pk_mul _ _]
    refine lv_iload (pc := 56) hx hb d_Mo_spreadOf_56 (lv_at hl 6 rfl) ?_
    refine lv_iadd (pc := 58) hx hb d_Mo_spreadOf_58 ?_
    rw [show ((nI (4 * (dg w9 g9 j))) + (nI kx) : Int32) = nI ((4 * (dg w9 g9 j)) + kx) from nI_add _ _]
    refine rg_iald (pc := 59) hx hb hK hP 3 (by omega) 0 mgx_cells rfl ((4 * (dg w9 g9 j)) + kx) (by omega) (by omega) rfl d_Mo_spreadOf_59 ?_
    refine lv_sipush (v := 1000) (pc := 60) hx hb d_Mo_spreadOf_60 (by decide) ?_
    refine lv_imul (pc := 63) hx hb d_Mo_spreadOf_63 ?_
    refine lv_aload_n (pc := 64) hx hb d_Mo_spreadOf_64 rfl (lv_at hl 1 rfl) ?_
    refine lv_iload (pc := 65) hx hb d_Mo_spreadOf_65 (lv_at hl 0 rfl) ?_
    refine rg_ci (pc := 67) (va_runV (As := [.int (nI (dg w9 g9 j))]) (rest := [.int ((ms_cl st ((4 * (dg w9 g9 j)) + kx)) * 1000), .int sm]) ⟨hx, hb, hml, hown, hts⟩ (c_Mo_weightOf (l := l) hR hZ st (dg w9 g9 j) (by omega) _) ⟨callB_of 1 hts (gd_c wd_637) rfl rfl rfl (hts _ wd_9) (hts _ wd_634) hd_Mo_weightOf ⟨Nat.le_of_ble_eq_true rfl, Nat.le_of_ble_eq_true rfl⟩, hts _ wd_636, hts _ wp_11⟩ ⟨rPc_blind _ _ _ _ _ _ _ _, rg_rec hK hP 0 (by omega) mgx_M rfl, rPc_at _ hP hK hN⟩ rfl rfl hl.1 rfl (lv_room (Nat.le_of_ble_eq_true rfl)) d_Mo_spreadOf_67 ⟨Nat.zero_le _, Nat.zero_le _⟩) hS (fun H locs hP hS => ?_)
    refine lv_idiv (pc := 70) hx hb d_Mo_spreadOf_70 (hne j (by omega)) ?_
    refine lv_iadd (pc := 71) hx hb d_Mo_spreadOf_71 ?_
    refine lv_istore (lv' := [(6, .int (sm + (((ms_cl st ((4 * (dg w9 g9 j)) + kx)) * 1000) / (f_Mo_weightOf Z st (dg w9 g9 j))))), (8, .int (nI (dg w9 g9 j))), (0, .ref (ad 0)), (1, .int (nI w9)), (2, .int (nI g9)), (3, .int mo9), (4, .int fe9), (5, .int (nI kx)), (7, .int (nI j))]) (pc := 72) hx hb d_Mo_spreadOf_72 hl (by decide) rfl (fun ls hl => ?_)
    refine lv_iinc (v := nI (j + 1)) (lv' := [(7, .int (nI (j + 1))), (6, .int (sm + (((ms_cl st ((4 * (dg w9 g9 j)) + kx)) * 1000) / (f_Mo_weightOf Z st (dg w9 g9 j))))), (8, .int (nI (dg w9 g9 j))), (0, .ref (ad 0)), (1, .int (nI w9)), (2, .int (nI g9)), (3, .int mo9), (4, .int fe9), (5, .int (nI kx))]) (pc := 74) hx hb d_Mo_spreadOf_74 hl (k := 8) rfl (nI_1 _) (by decide) rfl (fun ls hl => ?_)
    refine lv_goto (tgt := 20) (pc := 77) hx hb d_Mo_spreadOf_77 (by decide) ?_
    have hk9 := hk
    unfold lm_spB at hk9
    exact ih (j + 1) (sm + (((ms_cl st ((4 * (dg w9 g9 j)) + kx)) * 1000) / (f_Mo_weightOf Z st (dg w9 g9 j)))) st _ _ ls ⟨by omega, hne⟩ hP hS (lv_sub hl [3, 4, 5, 6, 7, 8, 1, 0] rfl) hk9
def lm_spO (Z : Nat) (w9 : Nat) (g9 : Nat) : Nat → Nat → Int32 → Int32 → mS → Int32 × Int32
  | 0, _, mo9, fe9, _ => (mo9, fe9)
  | n + 1, j, mo9, fe9, st =>
    if mo9 < 0 then
      if (lm_spB Z w9 g9 j mo9 fe9 g9 0 0 st) ≤ mo9 then
        lm_spO Z w9 g9 n (j + 1) mo9 (lm_spB Z w9 g9 j mo9 fe9 g9 0 0 st) st
      else
        lm_spO Z w9 g9 n (j + 1) (lm_spB Z w9 g9 j mo9 fe9 g9 0 0 st) (lm_spB Z w9 g9 j mo9 fe9 g9 0 0 st) st
    else
      if fe9 ≤ (lm_spB Z w9 g9 j mo9 fe9 g9 0 0 st) then
        if (lm_spB Z w9 g9 j mo9 fe9 g9 0 0 st) ≤ mo9 then
          lm_spO Z w9 g9 n (j + 1) mo9 fe9 st
        else
          lm_spO Z w9 g9 n (j + 1) (lm_spB Z w9 g9 j mo9 fe9 g9 0 0 st) fe9 st
      else
        if (lm_spB Z w9 g9 j mo9 fe9 g9 0 0 st) ≤ mo9 then
          lm_spO Z w9 g9 n (j + 1) mo9 (lm_spB Z w9 g9 j mo9 fe9 g9 0 0 st) st
        else
          lm_spO Z w9 g9 n (j + 1) (lm_spB Z w9 g9 j mo9 fe9 g9 0 0 st) (lm_spB Z w9 g9 j mo9 fe9 g9 0 0 st) st
set_option maxRecDepth 100000 in
set_option maxHeartbeats 4000000 in
theorem lm_spO_ok {p : Program} {l : Launch} {e : Env} {s : State} {m : MethodId} {args : Array Value} {below : List Frame} {meth : Method} {c : Code} {D : va_G} {cA : Nat → ClassId} {Z : Nat} {ad : Nat → Nat} {Q : State → Prop} (hR : rD 19 ad) (hZ : 1 ≤ Z ∧ Z ≤ 6) (C : Cx p s m args meth c b_Mo_spreadOf 9 R_Mo (some .int)) (hK : va_K D clG (tyM cA) s) (w9 : Nat) (g9 : Nat) (hw9 : w9 < 2147483648) (hg9 : g9 < 5) : ∀ (n : Nat) (j : Nat) (mo9 : Int32) (fe9 : Int32) (st : mS) (H : Heap) (locs : List Loc) (ls : Array Slot), (j + n = 4 ∧ ∀ i, i < g9 → ¬ f_Mo_weightOf Z st (dg w9 g9 i) = 0) → va_P D clG (pw 19 ad (mgx Z ad cA (st))) H → va_S (rA 19 ad s.heap.size) s.heap H locs → lv_has ls 9 [(0, .ref (ad 0)), (1, .int (nI w9)), (2, .int (nI g9)), (3, .int mo9), (4, .int fe9), (5, .int (nI j))] → (∀ (H : Heap) (locs : List Loc) (ls : Array Slot), va_P D clG (pw 19 ad (mgx Z ad cA (st))) H → va_S (rA 19 ad s.heap.size) s.heap H locs → lv_has ls 9 [(0, .ref (ad 0)), (1, .int (nI w9)), (2, .int (nI g9)), (3, .int ((lm_spO Z w9 g9 n j mo9 fe9 st).1)), (4, .int ((lm_spO Z w9 g9 n j mo9 fe9 st).2)), (5, .int (nI 4))] → W p l e ({ frames := 1, cells := 0, slots := 0, locals := 24 } : Room) s m args below meth c H locs 0 0 Q (F0 m 119 ls [])) → W p l e ({ frames := 1, cells := 0, slots := 0, locals := 24 } : Room) s m args below meth c H locs 0 0 Q (F0 m 8 ls []) := by
  obtain ⟨⟨hx, hb, hml, hown, hts⟩, hr, hlocks, hN⟩ := id C
  have hown : s.vm.findClass R_Mo = some m.cls := hown
  have hr : meth.sig.returnType = (some .int) := hr
  intro n
  induction n with
  | zero =>
    intro j mo9 fe9 st H locs ls hn hP hS hl hk
    obtain ⟨hn, hne⟩ := hn
    have hj9 : j = 4 := by omega
    refine lv_iload (pc := 8) hx hb d_Mo_spreadOf_8 (lv_at hl 5 rfl) ?_
    refine lv_iconst (v := 4) (pc := 10) hx hb d_Mo_spreadOf_10 (by decide) ?_
    refine lv_icmp_ge (tgt := 119) (pc := 11) hx hb d_Mo_spreadOf_11 (by decide) (fun c_1 => ?_) (fun c_1 => absurd (by rw [hj9]; decide) c_1)
    exact hk H locs ls hP hS (by rw [hj9] at hl; exact lv_sub hl [0, 1, 2, 3, 4, 5] rfl)
  | succ n ih =>
    intro j mo9 fe9 st H locs ls hn hP hS hl hk
    obtain ⟨hn, hne⟩ := hn
    refine lv_iload (pc := 8) hx hb d_Mo_spreadOf_8 (lv_at hl 5 rfl) ?_
    refine lv_iconst (v := 4) (pc := 10) hx hb d_Mo_spreadOf_10 (by decide) ?_
    refine lv_icmp_ge (tgt := 119) (pc := 11) hx hb d_Mo_spreadOf_11 (by decide) (fun c_1 => absurd c_1 (nI_ge (b := 4) (by omega) (by decide))) (fun c_1 => ?_)
    refine lv_iconst (v := 0) (pc := 14) hx hb d_Mo_spreadOf_14 (by decide) ?_
    refine lv_istore (lv' := [(6, .int 0), (0, .ref (ad 0)), (1, .int (nI w9)), (2, .int (nI g9)), (3, .int mo9), (4, .int fe9), (5, .int (nI j))]) (pc := 15) hx hb d_Mo_spreadOf_15 hl (by decide) rfl (fun ls hl => ?_)
    refine lv_iconst (v := 0) (pc := 17) hx hb d_Mo_spreadOf_17 (by decide) ?_
    refine lv_istore (lv' := [(7, .int 0), (6, .int 0), (0, .ref (ad 0)), (1, .int (nI w9)), (2, .int (nI g9)), (3, .int mo9), (4, .int fe9), (5, .int (nI j))]) (pc := 18) hx hb d_Mo_spreadOf_18 hl (by decide) rfl (fun ls hl => ?_)
    refine lm_spB_ok hR hZ C hK w9 g9 j mo9 fe9 hw9 hg9 (by omega) g9 0 0 st _ _ ls ⟨by omega, hne⟩ hP hS (lv_sub hl [2, 3, 4, 5, 6, 7, 1, 0] rfl) (fun H locs ls hP hS hl => ?_)
    refine lv_iload_n (pc := 80) hx hb d_Mo_spreadOf_80 rfl (lv_at hl 3 rfl) ?_
    refine lv_if_lt (tgt := 91) (pc := 81) hx hb d_Mo_spreadOf_81 (by decide) (fun c_2 => ?_) (fun c_2 => ?_)
    · refine lv_iload (pc := 91) hx hb d_Mo_spreadOf_91 (lv_at hl 6 rfl) ?_
      refine lv_goto (tgt := 98) (pc := 93) hx hb d_Mo_spreadOf_93 (by decide) ?_
      refine lv_istore (lv' := [(4, .int ((lm_spB Z w9 g9 j mo9 fe9 g9 0 0 st))), (0, .ref (ad 0)), (1, .int (nI w9)), (2, .int (nI g9)), (3, .int mo9), (5, .int (nI j)), (6, .int ((lm_spB Z w9 g9 j mo9 fe9 g9 0 0 st))), (7, .int (nI g9))]) (pc := 98) hx hb d_Mo_spreadOf_98 hl (by decide) rfl (fun ls hl => ?_)
      refine lv_iload (pc := 100) hx hb d_Mo_spreadOf_100 (lv_at hl 6 rfl) ?_
      refine lv_iload_n (pc := 102) hx hb d_Mo_spreadOf_102 rfl (lv_at hl 4 rfl) ?_
      refine lv_icmp_le (tgt := 111) (pc := 103) hx hb d_Mo_spreadOf_103 (by decide) (fun c_3 => ?_) (fun c_3 => ?_)
      · refine lv_iload_n (pc := 111) hx hb d_Mo_spreadOf_111 rfl (lv_at hl 4 rfl) ?_
        refine lv_istore_n (lv' := [(3, .int mo9), (4, .int ((lm_spB Z w9 g9 j mo9 fe9 g9 0 0 st))), (0, .ref (ad 0)), (1, .int (nI w9)), (2, .int (nI g9)), (5, .int (nI j)), (6, .int ((lm_spB Z w9 g9 j mo9 fe9 g9 0 0 st))), (7, .int (nI g9))]) (pc := 112) hx hb d_Mo_spreadOf_112 rfl hl (by decide) rfl (fun ls hl => ?_)
        refine lv_iinc (v := nI (j + 1)) (lv' := [(5, .int (nI (j + 1))), (3, .int mo9), (4, .int ((lm_spB Z w9 g9 j mo9 fe9 g9 0 0 st))), (0, .ref (ad 0)), (1, .int (nI w9)), (2, .int (nI g9)), (6, .int ((lm_spB Z w9 g9 j mo9 fe9 g9 0 0 st))), (7, .int (nI g9))]) (pc := 113) hx hb d_Mo_spreadOf_113 hl (k := 5) rfl (nI_1 _) (by decide) rfl (fun ls hl => ?_)
        refine lv_goto (tgt := 8) (pc := 116) hx hb d_Mo_spreadOf_116 (by decide) ?_
        have hk9 := hk
        unfold lm_spO at hk9
        rw [if_pos c_2, if_pos c_3] at hk9
        exact ih (j + 1) mo9 (lm_spB Z w9 g9 j mo9 fe9 g9 0 0 st) st _ _ ls ⟨by omega, hne⟩ hP hS (lv_sub hl [3, 4, 5, 1, 2, 0] rfl) hk9
      · refine lv_iload (pc := 106) hx hb d_Mo_spreadOf_106 (lv_at hl 6 rfl) ?_
        refine lv_goto (tgt := 112) (pc := 108) hx hb d_Mo_spreadOf_108 (by decide) ?_
        refine lv_istore_n (lv' := [(3, .int ((lm_spB Z w9 g9 j mo9 fe9 g9 0 0 st))), (4, .int ((lm_spB Z w9 g9 j mo9 fe9 g9 0 0 st))), (0, .ref (ad 0)), (1, .int (nI w9)), (2, .int (nI g9)), (5, .int (nI j)), (6, .int ((lm_spB Z w9 g9 j mo9 fe9 g9 0 0 st))), (7, .int (nI g9))]) (pc := 112) hx hb d_Mo_spreadOf_112 rfl hl (by decide) rfl (fun ls hl => ?_)
        refine lv_iinc (v := nI (j + 1)) (lv' := [(5, .int (nI (j + 1))), (3, .int ((lm_spB Z w9 g9 j mo9 fe9 g9 0 0 st))), (4, .int ((lm_spB Z w9 g9 j mo9 fe9 g9 0 0 st))), (0, .ref (ad 0)), (1, .int (nI w9)), (2, .int (nI g9)), (6, .int ((lm_spB Z w9 g9 j mo9 fe9 g9 0 0 st))), (7, .int (nI g9))]) (pc := 113) hx hb d_Mo_spreadOf_113 hl (k := 5) rfl (nI_1 _) (by decide) rfl (fun ls hl => ?_)
        refine lv_goto (tgt := 8) (pc := 116) hx hb d_Mo_spreadOf_116 (by decide) ?_
        have hk9 := hk
        unfold lm_spO at hk9
        rw [if_pos c_2, if_neg c_3] at hk9
        exact ih (j + 1) (lm_spB Z w9 g9 j mo9 fe9 g9 0 0 st) (lm_spB Z w9 g9 j mo9 fe9 g9 0 0 st) st _ _ ls ⟨by omega, hne⟩ hP hS (lv_sub hl [3, 4, 5, 1, 2, 0] rfl) hk9
    · refine lv_iload (pc := 84) hx hb d_Mo_spreadOf_84 (lv_at hl 6 rfl) ?_
      refine lv_iload (pc := 86) hx hb d_Mo_spreadOf_86 (lv_at hl 4 rfl) ?_
      refine lv_icmp_ge (tgt := 96) (pc := 88) hx hb d_Mo_spreadOf_88 (by decide) (fun c_4 => ?_) (fun c_4 => ?_)
      · refine lv_iload (pc := 96) hx hb d_Mo_spreadOf_96 (lv_at hl 4 rfl) ?_
        refine lv_istore (lv' := [(4, .int fe9), (0, .ref (ad 0)), (1, .int (nI w9)), (2, .int (nI g9)), (3, .int mo9), (5, .int (nI j)), (6, .int ((lm_spB Z w9 g9 j mo9 fe9 g9 0 0 st))), (7, .int (nI g9))]) (pc := 98) hx hb d_Mo_spreadOf_98 hl (by decide) rfl (fun ls hl => ?_)
        refine lv_iload (pc := 100) hx hb d_Mo_spreadOf_100 (lv_at hl 6 rfl) ?_
        refine lv_iload_n (pc := 102) hx hb d_Mo_spreadOf_102 rfl (lv_at hl 4 rfl) ?_
        refine lv_icmp_le (tgt := 111) (pc := 103) hx hb d_Mo_spreadOf_103 (by decide) (fun c_5 => ?_) (fun c_5 => ?_)
        · refine lv_iload_n (pc := 111) hx hb d_Mo_spreadOf_111 rfl (lv_at hl 4 rfl) ?_
          refine lv_istore_n (lv' := [(3, .int mo9), (4, .int fe9), (0, .ref (ad 0)), (1, .int (nI w9)), (2, .int (nI g9)), (5, .int (nI j)), (6, .int ((lm_spB Z w9 g9 j mo9 fe9 g9 0 0 st))), (7, .int (nI g9))]) (pc := 112) hx hb d_Mo_spreadOf_112 rfl hl (by decide) rfl (fun ls hl => ?_)
          refine lv_iinc (v := nI (j + 1)) (lv' := [(5, .int (nI (j + 1))), (3, .int mo9), (4, .int fe9), (0, .ref (ad 0)), (1, .int (nI w9)), (2, .int (nI g9)), (6, .int ((lm_spB Z w9 g9 j mo9 fe9 g9 0 0 st))), (7, .int (nI g9))]) (pc := 113) hx hb d_Mo_spreadOf_113 hl (k := 5) rfl (nI_1 _) (by decide) rfl (fun ls hl => ?_)
          refine lv_goto (tgt := 8) (pc := 116) hx hb d_Mo_spreadOf_116 (by decide) ?_
          have hk9 := hk
          unfold lm_spO at hk9
          rw [if_neg c_2, if_pos c_4, if_pos c_5] at hk9
          exact ih (j + 1) mo9 fe9 st _ _ ls ⟨by omega, hne⟩ hP hS (lv_sub hl [3, 4, 5, 1, 2, 0] rfl) hk9
        · refine lv_iload (pc := 106) hx hb d_Mo_spreadOf_106 (lv_at hl 6 rfl) ?_
          refine lv_goto (tgt := 112) (pc := 108) hx hb d_Mo_spreadOf_108 (by decide) ?_
          refine lv_istore_n (lv' := [(3, .int ((lm_spB Z w9 g9 j mo9 fe9 g9 0 0 st))), (4, .int fe9), (0, .ref (ad 0)), (1, .int (nI w9)), (2, .int (nI g9)), (5, .int (nI j)), (6, .int ((lm_spB Z w9 g9 j mo9 fe9 g9 0 0 st))), (7, .int (nI g9))]) (pc := 112) hx hb d_Mo_spreadOf_112 rfl hl (by decide) rfl (fun ls hl => ?_)
          refine lv_iinc (v := nI (j + 1)) (lv' := [(5, .int (nI (j + 1))), (3, .int ((lm_spB Z w9 g9 j mo9 fe9 g9 0 0 st))), (4, .int fe9), (0, .ref (ad 0)), (1, .int (nI w9)), (2, .int (nI g9)), (6, .int ((lm_spB Z w9 g9 j mo9 fe9 g9 0 0 st))), (7, .int (nI g9))]) (pc := 113) hx hb d_Mo_spreadOf_113 hl (k := 5) rfl (nI_1 _) (by decide) rfl (fun ls hl => ?_)
          refine lv_goto (tgt := 8) (pc := 116) hx hb d_Mo_spreadOf_116 (by decide) ?_
          have hk9 := hk
          unfold lm_spO at hk9
          rw [if_neg c_2, if_pos c_4, if_neg c_5] at hk9
          exact ih (j + 1) (lm_spB Z w9 g9 j mo9 fe9 g9 0 0 st) fe9 st _ _ ls ⟨by omega, hne⟩ hP hS (lv_sub hl [3, 4, 5, 1, 2, 0] rfl) hk9
      · refine lv_iload (pc := 91) hx hb d_Mo_spreadOf_91 (lv_at hl 6 rfl) ?_
        refine lv_goto (tgt := 98) (pc := 93) hx hb d_Mo_spreadOf_93 (by decide) ?_
        refine lv_istore (lv' := [(4, .int ((lm_spB Z w9 g9 j mo9 fe9 g9 0 0 st))), (0, .ref (ad 0)), (1, .int (nI w9)), (2, .int (nI g9)), (3, .int mo9), (5, .int (nI j)), (6, .int ((lm_spB Z w9 g9 j mo9 fe9 g9 0 0 st))), (7, .int (nI g9))]) (pc := 98) hx hb d_Mo_spreadOf_98 hl (by decide) rfl (fun ls hl => ?_)
        refine lv_iload (pc := 100) hx hb d_Mo_spreadOf_100 (lv_at hl 6 rfl) ?_
        refine lv_iload_n (pc := 102) hx hb d_Mo_spreadOf_102 rfl (lv_at hl 4 rfl) ?_
        refine lv_icmp_le (tgt := 111) (pc := 103) hx hb d_Mo_spreadOf_103 (by decide) (fun c_6 => ?_) (fun c_6 => ?_)
        · refine lv_iload_n (pc := 111) hx hb d_Mo_spreadOf_111 rfl (lv_at hl 4 rfl) ?_
          refine lv_istore_n (lv' := [(3, .int mo9), (4, .int ((lm_spB Z w9 g9 j mo9 fe9 g9 0 0 st))), (0, .ref (ad 0)), (1, .int (nI w9)), (2, .int (nI g9)), (5, .int (nI j)), (6, .int ((lm_spB Z w9 g9 j mo9 fe9 g9 0 0 st))), (7, .int (nI g9))]) (pc := 112) hx hb d_Mo_spreadOf_112 rfl hl (by decide) rfl (fun ls hl => ?_)
          refine lv_iinc (v := nI (j + 1)) (lv' := [(5, .int (nI (j + 1))), (3, .int mo9), (4, .int ((lm_spB Z w9 g9 j mo9 fe9 g9 0 0 st))), (0, .ref (ad 0)), (1, .int (nI w9)), (2, .int (nI g9)), (6, .int ((lm_spB Z w9 g9 j mo9 fe9 g9 0 0 st))), (7, .int (nI g9))]) (pc := 113) hx hb d_Mo_spreadOf_113 hl (k := 5) rfl (nI_1 _) (by decide) rfl (fun ls hl => ?_)
          refine lv_goto (tgt := 8) (pc := 116) hx hb d_Mo_spreadOf_116 (by decide) ?_
          have hk9 := hk
          unfold lm_spO at hk9
          rw [if_neg c_2, if_neg c_4, if_pos c_6] at hk9
          exact ih (j + 1) mo9 (lm_spB Z w9 g9 j mo9 fe9 g9 0 0 st) st _ _ ls ⟨by omega, hne⟩ hP hS (lv_sub hl [3, 4, 5, 1, 2, 0] rfl) hk9
        · refine lv_iload (pc := 106) hx hb d_Mo_spreadOf_106 (lv_at hl 6 rfl) ?_
          refine lv_goto (tgt := 112) (pc := 108) hx hb d_Mo_spreadOf_108 (by decide) ?_
          refine lv_istore_n (lv' := [(3, .int ((lm_spB Z w9 g9 j mo9 fe9 g9 0 0 st))), (4, .int ((lm_spB Z w9 g9 j mo9 fe9 g9 0 0 st))), (0, .ref (ad 0)), (1, .int (nI w9)), (2, .int (nI g9)), (5, .int (nI j)), (6, .int ((lm_spB Z w9 g9 j mo9 fe9 g9 0 0 st))), (7, .int (nI g9))]) (pc := 112) hx hb d_Mo_spreadOf_112 rfl hl (by decide) rfl (fun ls hl => ?_)
          refine lv_iinc (v := nI (j + 1)) (lv' := [(5, .int (nI (j + 1))), (3, .int ((lm_spB Z w9 g9 j mo9 fe9 g9 0 0 st))), (4, .int ((lm_spB Z w9 g9 j mo9 fe9 g9 0 0 st))), (0, .ref (ad 0)), (1, .int (nI w9)), (2, .int (nI g9)), (6, .int ((lm_spB Z w9 g9 j mo9 fe9 g9 0 0 st))), (7, .int (nI g9))]) (pc := 113) hx hb d_Mo_spreadOf_113 hl (k := 5) rfl (nI_1 _) (by decide) rfl (fun ls hl => ?_)
          refine lv_goto (tgt := 8) (pc := 116) hx hb d_Mo_spreadOf_116 (by decide) ?_
          have hk9 := hk
          unfold lm_spO at hk9
          rw [if_neg c_2, if_neg c_4, if_neg c_6] at hk9
          exact ih (j + 1) (lm_spB Z w9 g9 j mo9 fe9 g9 0 0 st) (lm_spB Z w9 g9 j mo9 fe9 g9 0 0 st) st _ _ ls ⟨by omega, hne⟩ hP hS (lv_sub hl [3, 4, 5, 1, 2, 0] rfl) hk9
def f_Mo_spreadOfB (Z : Nat) (st : mS) (w9 : Nat) (g9 : Nat) : Int32 :=
  ((lm_spO Z w9 g9 4 0 (-1) 0 st).1) - ((lm_spO Z w9 g9 4 0 (-1) 0 st).2)
set_option maxRecDepth 100000 in
set_option maxHeartbeats 4000000 in
theorem c_Mo_spreadOfB {l : Launch} {D : va_G} {cA : Nat → ClassId} {Z : Nat} {ad : Nat → Nat} (hR : rD 19 ad) (hZ : 1 ≤ Z ∧ Z ≤ 6) (st : mS) (w9 : Nat) (hw9 : w9 < 2147483648) (g9 : Nat) (hg9 : g9 < 5) (hne : ∀ i, i < g9 → ¬ f_Mo_weightOf Z st (dg w9 g9 i) = 0) : RI l y_Mo_spreadOf (mws y_Mo_spreadOf b_Mo_spreadOf 9 (some .int)) ({ frames := 1, cells := 0, slots := 0, locals := 24 } : Room) D clG (tyM cA) 19 ad (mgx Z ad cA (st)) [.ref (ad 0), .int (nI w9), .int (nI g9)] (f_Mo_spreadOfB Z st w9 g9) (mgx Z ad cA (st)) := by
  refine RI_of (cc := b_Mo_spreadOf) (maxL := 9) (ret := (some .int)) (by decide) (Nat.le_of_ble_eq_true rfl) ?_
  intro p e s m args below meth c ls C hK hP hS hl
  obtain ⟨⟨hx, hb, hml, hown, hts⟩, hr, hlocks, hN⟩ := id C
  have hown : s.vm.findClass R_Mo = some m.cls := hown
  have hr : meth.sig.returnType = (some .int) := hr
  have hl : lv_has ls 9 [(0, .ref (ad 0)), (1, .int (nI w9)), (2, .int (nI g9))] := hl
  refine lv_iconst (v := (-1)) (pc := 0) hx hb d_Mo_spreadOf_0 (by decide) ?_
  refine lv_istore_n (lv' := [(3, .int (-1)), (0, .ref (ad 0)), (1, .int (nI w9)), (2, .int (nI g9))]) (pc := 1) hx hb d_Mo_spreadOf_1 rfl hl (by decide) rfl (fun ls hl => ?_)
  refine lv_iconst (v := 0) (pc := 2) hx hb d_Mo_spreadOf_2 (by decide) ?_
  refine lv_istore (lv' := [(4, .int 0), (3, .int (-1)), (0, .ref (ad 0)), (1, .int (nI w9)), (2, .int (nI g9))]) (pc := 3) hx hb d_Mo_spreadOf_3 hl (by decide) rfl (fun ls hl => ?_)
  refine lv_iconst (v := 0) (pc := 5) hx hb d_Mo_spreadOf_5 (by decide) ?_
  refine lv_istore (lv' := [(5, .int 0), (4, .int 0), (3, .int (-1)), (0, .ref (ad 0)), (1, .int (nI w9)), (2, .int (nI g9))]) (pc := 6) hx hb d_Mo_spreadOf_6 hl (by decide) rfl (fun ls hl => ?_)
  refine lm_spO_ok hR hZ C hK w9 g9 hw9 hg9 4 0 (-1) 0 st _ _ ls ⟨by omega, hne⟩ hP hS (lv_sub hl [3, 4, 5, 2, 1, 0] rfl) (fun H locs ls hP hS hl => ?_)
  refine lv_iload_n (pc := 119) hx hb d_Mo_spreadOf_119 rfl (lv_at hl 3 rfl) ?_
  refine lv_iload (pc := 120) hx hb d_Mo_spreadOf_120 (lv_at hl 4 rfl) ?_
  refine lv_isub (pc := 122) hx hb d_Mo_spreadOf_122 ?_
  have e9 : f_Mo_spreadOfB Z st w9 g9 = ((lm_spO Z w9 g9 4 0 (-1) 0 st).1) - ((lm_spO Z w9 g9 4 0 (-1) 0 st).2) := rfl
  exact rg_iret (pc := 123) hx hb hr hlocks hP hS ⟨e9.symm, rfl⟩ d_Mo_spreadOf_123
