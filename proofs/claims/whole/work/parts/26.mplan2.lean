def f_Mo_spreadOf (Z : Nat) (st : mS) (w9 : Nat) (g9 : Nat) : Int32 := if ∀ i, i < g9 → ¬ f_Mo_weightOf Z st (dg w9 g9 i) = 0 then f_Mo_spreadOfB Z st w9 g9 else -1
theorem c_Mo_spreadOf {l : Launch} {D : va_G} {cA : Nat → ClassId} {Z : Nat} {ad : Nat → Nat} (hR : rD 19 ad) (hZ : 1 ≤ Z ∧ Z ≤ 6) (st : mS) (w9 : Nat) (hw9 : w9 < 2147483648) (g9 : Nat) (hg9 : g9 < 5) : RI l y_Mo_spreadOf (mws y_Mo_spreadOf b_Mo_spreadOf 9 (some .int)) ({ frames := 1, cells := 0, slots := 0, locals := 24 } : Room) D clG (tyM cA) 19 ad (mgx Z ad cA (st)) [.ref (ad 0), .int (nI w9), .int (nI g9)] (f_Mo_spreadOf Z st w9 g9) (mgx Z ad cA (st)) := by
  unfold f_Mo_spreadOf
  by_cases h : ∀ i, i < g9 → ¬ f_Mo_weightOf Z st (dg w9 g9 i) = 0
  · rw [if_pos h]
    exact c_Mo_spreadOfB hR hZ st w9 hw9 g9 hg9 h
  · rw [if_neg h]
    obtain ⟨i0, ⟨h1, h2⟩, h3⟩ := pk_least (fun i => i < g9 ∧ f_Mo_weightOf Z st (dg w9 g9 i) = 0) (Classical.byContradiction fun q => h (fun i hi z => q ⟨i, hi, z⟩))
    exact c_Mo_spreadOfA hR hZ st w9 hw9 g9 hg9 i0 h1 h2 (fun i hi q => h3 i hi ⟨by omega, q⟩)

theorem mat_plan {a : Int32} (h : ¬ f_Mo_isIn a.toInt64 1 4 = 0) : (a.toNatClampNeg < 5 ∧ 1 ≤ a.toNatClampNeg) ∧ a = nI a.toNatClampNeg := by
  unfold f_Mo_isIn at h
  have e0 : (1 : Int64).toInt = 1 := by decide
  have e1 : (0 : Int32).toInt = 0 := by decide
  have e2 : (4 : Int64).toInt = 4 := by decide
  by_cases h0 : lg_cmp a.toInt64 1 < 0
  · rw [if_pos h0] at h; exact absurd rfl h
  · rw [if_neg h0] at h
    by_cases h1 : 0 < lg_cmp a.toInt64 4
    · rw [if_pos h1] at h; exact absurd rfl h
    · rw [lg_cmp_lt, Int64.lt_iff_toInt_lt, Int32.toInt_toInt64, e0] at h0
      rw [lg_cmp_gt, Int64.lt_iff_toInt_lt, Int32.toInt_toInt64, e2] at h1
      have h2 := nat_ix (a := a) (n := 5) (by decide) (fun q => by rw [Int32.lt_iff_toInt_lt, e1] at q; omega) (fun q => by rw [Int32.le_iff_toInt_le, nI_toInt (by decide)] at q; omega)
      have h3 := congrArg Int32.toInt h2.2
      rw [nI_toInt (by omega)] at h3
      exact ⟨⟨h2.1, by omega⟩, h2.2⟩
theorem nat_pos {x : Int32} (h : ¬ x < 0) : x.toNatClampNeg < 2147483648 ∧ x = nI x.toNatClampNeg := by
  obtain ⟨i, hi, rfl⟩ := nI_of h
  rw [nI_clamp hi]
  exact ⟨hi, rfl⟩

theorem not_lt_of_ge9 {x : Int32} (h : 0 ≤ x) : ¬ x < 0 := by
  rw [Int32.le_iff_toInt_le] at h
  rw [Int32.lt_iff_toInt_lt]
  omega

def lm_ways (Z : Nat) (g9 : Nat) : Nat → Nat → Nat → mS → Nat
  | 0, _, wy, _ => wy
  | n + 1, j, wy, st =>
    lm_ways Z g9 n (j + 1) (6 * wy) st
set_option maxRecDepth 100000 in
set_option maxHeartbeats 4000000 in
theorem lm_ways_ok {p : Program} {l : Launch} {e : Env} {s : State} {m : MethodId} {args : Array Value} {below : List Frame} {meth : Method} {c : Code} {D : va_G} {cA : Nat → ClassId} {Z : Nat} {ad : Nat → Nat} {Q : State → Prop} (hR : rD 19 ad) (hZ : 1 ≤ Z ∧ Z ≤ 6) (C : Cx p s m args meth c b_Mo_plan 7 R_Mo (some .int)) (hK : va_K D clG (tyM cA) s) (g9 : Nat) (hg9 : g9 < 5) : ∀ (n : Nat) (j : Nat) (wy : Nat) (st : mS) (H : Heap) (locs : List Loc) (ls : Array Slot), j + n = g9 → va_P D clG (pw 19 ad (mgx Z ad cA (st))) H → va_S (rA 19 ad s.heap.size) s.heap H locs → lv_has ls 7 [(0, .ref (ad 0)), (1, .int (nI g9)), (2, .int (nI wy)), (3, .int (nI j))] → (∀ (H : Heap) (locs : List Loc) (ls : Array Slot), va_P D clG (pw 19 ad (mgx Z ad cA (st))) H → va_S (rA 19 ad s.heap.size) s.heap H locs → lv_has ls 7 [(0, .ref (ad 0)), (1, .int (nI g9)), (2, .int (nI (lm_ways Z g9 n j wy st))), (3, .int (nI g9))] → W p l e ({ frames := 2, cells := 0, slots := 0, locals := 52 } : Room) s m args below meth c H locs 0 0 Q (F0 m 34 ls [])) → W p l e ({ frames := 2, cells := 0, slots := 0, locals := 52 } : Room) s m args below meth c H locs 0 0 Q (F0 m 18 ls []) := by
  obtain ⟨⟨hx, hb, hml, hown, hts⟩, hr, hlocks, hN⟩ := id C
  have hown : s.vm.findClass R_Mo = some m.cls := hown
  have hr : meth.sig.returnType = (some .int) := hr
  intro n
  induction n with
  | zero =>
    intro j wy st H locs ls hn hP hS hl hk
    have hj9 : j = g9 := by omega
    refine lv_iload_n (pc := 18) hx hb d_Mo_plan_18 rfl (lv_at hl 3 rfl) ?_
    refine lv_iload_n (pc := 19) hx hb d_Mo_plan_19 rfl (lv_at hl 1 rfl) ?_
    refine lv_icmp_ge (tgt := 34) (pc := 20) hx hb d_Mo_plan_20 (by decide) (fun c_1 => ?_) (fun c_1 => absurd (by rw [hj9]; exact Int32.le_refl _) c_1)
    exact hk H locs ls hP hS (by rw [hj9] at hl; exact lv_sub hl [0, 1, 2, 3] rfl)
  | succ n ih =>
    intro j wy st H locs ls hn hP hS hl hk
    refine lv_iload_n (pc := 18) hx hb d_Mo_plan_18 rfl (lv_at hl 3 rfl) ?_
    refine lv_iload_n (pc := 19) hx hb d_Mo_plan_19 rfl (lv_at hl 1 rfl) ?_
    refine lv_icmp_ge (tgt := 34) (pc := 20) hx hb d_Mo_plan_20 (by decide) (fun c_1 => absurd c_1 (nI_ge (b := g9) (by omega) (by omega))) (fun c_1 => ?_)
    refine lv_bipush (v := 6) (pc := 23) hx hb d_Mo_plan_23 (by decide) ?_
    refine lv_iload_n (pc := 25) hx hb d_Mo_plan_25 rfl (lv_at hl 2 rfl) ?_
    refine lv_imul (pc := 26) hx hb d_Mo_plan_26 ?_
    rw [show (6 * (nI wy) : Int32) = nI (6 * wy) from pk_mul _ _]
    refine lv_istore_n (lv' := [(2, .int (nI (6 * wy))), (0, .ref (ad 0)), (1, .int (nI g9)), (3, .int (nI j))]) (pc := 27) hx hb d_Mo_plan_27 rfl hl (by decide) rfl (fun ls hl => ?_)
    refine lv_iinc (v := nI (j + 1)) (lv' := [(3, .int (nI (j + 1))), (2, .int (nI (6 * wy))), (0, .ref (ad 0)), (1, .int (nI g9))]) (pc := 28) hx hb d_Mo_plan_28 hl (k := 3) rfl (nI_1 _) (by decide) rfl (fun ls hl => ?_)
    refine lv_goto (tgt := 18) (pc := 31) hx hb d_Mo_plan_31 (by decide) ?_
    have hk9 := hk
    unfold lm_ways at hk9
    exact ih (j + 1) (6 * wy) st _ _ ls (by omega) hP hS (lv_sub hl [2, 3, 1, 0] rfl) hk9
theorem lm_ways_eq (Z g9 : Nat) : ∀ (n j wy : Nat) (st : mS), lm_ways Z g9 n j wy st = wy * 6 ^ n
  | 0, _, wy, _ => by rw [Nat.pow_zero, Nat.mul_one]; rfl
  | n + 1, j, wy, st => by unfold lm_ways; rw [lm_ways_eq Z g9 n, Nat.pow_succ', ← Nat.mul_assoc, Nat.mul_comm wy 6]
def lm_best (Z : Nat) (g9 : Nat) (pn : Nat) : Nat → Nat → Int32 → Int32 → mS → Int32 × Int32
  | 0, _, be, le, _ => (be, le)
  | n + 1, j, be, le, st =>
    if (f_Mo_spreadOf Z st j g9) < 0 then
      lm_best Z g9 pn n (j + 1) be le st
    else
      if be < 0 then
        lm_best Z g9 pn n (j + 1) (nI j) (f_Mo_spreadOf Z st j g9) st
      else
        if le ≤ (f_Mo_spreadOf Z st j g9) then
          lm_best Z g9 pn n (j + 1) be le st
        else
          lm_best Z g9 pn n (j + 1) (nI j) (f_Mo_spreadOf Z st j g9) st
set_option maxRecDepth 100000 in
set_option maxHeartbeats 4000000 in
theorem lm_best_ok {p : Program} {l : Launch} {e : Env} {s : State} {m : MethodId} {args : Array Value} {below : List Frame} {meth : Method} {c : Code} {D : va_G} {cA : Nat → ClassId} {Z : Nat} {ad : Nat → Nat} {Q : State → Prop} (hR : rD 19 ad) (hZ : 1 ≤ Z ∧ Z ≤ 6) (C : Cx p s m args meth c b_Mo_plan 7 R_Mo (some .int)) (hK : va_K D clG (tyM cA) s) (g9 : Nat) (pn : Nat) (hg9 : g9 < 5) (hpn : pn ≤ 1296) : ∀ (n : Nat) (j : Nat) (be : Int32) (le : Int32) (st : mS) (H : Heap) (locs : List Loc) (ls : Array Slot), j + n = pn → va_P D clG (pw 19 ad (mgx Z ad cA (st))) H → va_S (rA 19 ad s.heap.size) s.heap H locs → lv_has ls 7 [(0, .ref (ad 0)), (1, .int (nI g9)), (2, .int (nI pn)), (3, .int be), (4, .int le), (5, .int (nI j))] → (∀ (H : Heap) (locs : List Loc) (ls : Array Slot), va_P D clG (pw 19 ad (mgx Z ad cA (st))) H → va_S (rA 19 ad s.heap.size) s.heap H locs → lv_has ls 7 [(0, .ref (ad 0)), (1, .int (nI g9)), (2, .int (nI pn)), (3, .int ((lm_best Z g9 pn n j be le st).1)), (4, .int ((lm_best Z g9 pn n j be le st).2)), (5, .int (nI pn))] → W p l e ({ frames := 2, cells := 0, slots := 0, locals := 52 } : Room) s m args below meth c H locs 0 0 Q (F0 m 86 ls [])) → W p l e ({ frames := 2, cells := 0, slots := 0, locals := 52 } : Room) s m args below meth c H locs 0 0 Q (F0 m 42 ls []) := by
  obtain ⟨⟨hx, hb, hml, hown, hts⟩, hr, hlocks, hN⟩ := id C
  have hown : s.vm.findClass R_Mo = some m.cls := hown
  have hr : meth.sig.returnType = (some .int) := hr
  intro n
  induction n with
  | zero =>
    intro j be le st H locs ls hn hP hS hl hk
    have hj9 : j = pn := by omega
    refine lv_iload (pc := 42) hx hb d_Mo_plan_42 (lv_at hl 5 rfl) ?_
    refine lv_iload_n (pc := 44) hx hb d_Mo_plan_44 rfl (lv_at hl 2 rfl) ?_
    refine lv_icmp_ge (tgt := 86) (pc := 45) hx hb d_Mo_plan_45 (by decide) (fun c_1 => ?_) (fun c_1 => absurd (by rw [hj9]; exact Int32.le_refl _) c_1)
    exact hk H locs ls hP hS (by rw [hj9] at hl; exact lv_sub hl [0, 1, 2, 3, 4, 5] rfl)
  | succ n ih =>
    intro j be le st H locs ls hn hP hS hl hk
    refine lv_iload (pc := 42) hx hb d_Mo_plan_42 (lv_at hl 5 rfl) ?_
    refine lv_iload_n (pc := 44) hx hb d_Mo_plan_44 rfl (lv_at hl 2 rfl) ?_
    refine lv_icmp_ge (tgt := 86) (pc := 45) hx hb d_Mo_plan_45 (by decide) (fun c_1 => absurd c_1 (nI_ge (b := pn) (by omega) (by omega))) (fun c_1 => ?_)
    refine lv_aload_n (pc := 48) hx hb d_Mo_plan_48 rfl (lv_at hl 0 rfl) ?_
    refine lv_iload (pc := 49) hx hb d_Mo_plan_49 (lv_at hl 5 rfl) ?_
    refine lv_iload_n (pc := 51) hx hb d_Mo_plan_51 rfl (lv_at hl 1 rfl) ?_
    refine rg_ci (pc := 52) (va_runV (As := [.int (nI j), .int (nI g9)]) (rest := []) ⟨hx, hb, hml, hown, hts⟩ (c_Mo_spreadOf (l := l) hR hZ st j (by omega) g9 (by omega) _) ⟨callB_of 2 hts (gd_c wd_751) rfl rfl rfl (hts _ wd_9) (hts _ wd_748) hd_Mo_spreadOf ⟨Nat.le_of_ble_eq_true rfl, Nat.le_of_ble_eq_true rfl⟩, hts _ wd_750, hts _ wp_19⟩ ⟨rPc_blind _ _ _ _ _ _ _ _, rg_rec hK hP 0 (by omega) mgx_M rfl, rPc_at _ hP hK hN⟩ rfl rfl hl.1 rfl (lv_room (Nat.le_of_ble_eq_true rfl)) d_Mo_plan_52 ⟨Nat.zero_le _, Nat.zero_le _⟩) hS (fun H locs hP hS => ?_)
    refine lv_istore (lv' := [(6, .int (f_Mo_spreadOf Z st j g9)), (0, .ref (ad 0)), (1, .int (nI g9)), (2, .int (nI pn)), (3, .int be), (4, .int le), (5, .int (nI j))]) (pc := 55) hx hb d_Mo_plan_55 hl (by decide) rfl (fun ls hl => ?_)
    refine lv_iload (pc := 57) hx hb d_Mo_plan_57 (lv_at hl 0 rfl) ?_
    refine lv_if_lt (tgt := 80) (pc := 59) hx hb d_Mo_plan_59 (by decide) (fun c_2 => ?_) (fun c_2 => ?_)
    · refine lv_iinc (v := nI (j + 1)) (lv' := [(5, .int (nI (j + 1))), (6, .int (f_Mo_spreadOf Z st j g9)), (0, .ref (ad 0)), (1, .int (nI g9)), (2, .int (nI pn)), (3, .int be), (4, .int le)]) (pc := 80) hx hb d_Mo_plan_80 hl (k := 6) rfl (nI_1 _) (by decide) rfl (fun ls hl => ?_)
      refine lv_goto (tgt := 42) (pc := 83) hx hb d_Mo_plan_83 (by decide) ?_
      have hk9 := hk
      unfold lm_best at hk9
      rw [if_pos c_2] at hk9
      exact ih (j + 1) be le st _ _ ls (by omega) hP hS (lv_sub hl [2, 3, 4, 5, 6, 0] rfl) hk9
    · refine lv_iload_n (pc := 62) hx hb d_Mo_plan_62 rfl (lv_at hl 4 rfl) ?_
      refine lv_if_lt (tgt := 73) (pc := 63) hx hb d_Mo_plan_63 (by decide) (fun c_3 => ?_) (fun c_3 => ?_)
      · refine lv_iload (pc := 73) hx hb d_Mo_plan_73 (lv_at hl 6 rfl) ?_
        refine lv_istore_n (lv' := [(3, .int (nI j)), (6, .int (f_Mo_spreadOf Z st j g9)), (0, .ref (ad 0)), (1, .int (nI g9)), (2, .int (nI pn)), (4, .int le), (5, .int (nI j))]) (pc := 75) hx hb d_Mo_plan_75 rfl hl (by decide) rfl (fun ls hl => ?_)
        refine lv_iload (pc := 76) hx hb d_Mo_plan_76 (lv_at hl 1 rfl) ?_
        refine lv_istore (lv' := [(4, .int (f_Mo_spreadOf Z st j g9)), (3, .int (nI j)), (6, .int (f_Mo_spreadOf Z st j g9)), (0, .ref (ad 0)), (1, .int (nI g9)), (2, .int (nI pn)), (5, .int (nI j))]) (pc := 78) hx hb d_Mo_plan_78 hl (by decide) rfl (fun ls hl => ?_)
        refine lv_iinc (v := nI (j + 1)) (lv' := [(5, .int (nI (j + 1))), (4, .int (f_Mo_spreadOf Z st j g9)), (3, .int (nI j)), (6, .int (f_Mo_spreadOf Z st j g9)), (0, .ref (ad 0)), (1, .int (nI g9)), (2, .int (nI pn))]) (pc := 80) hx hb d_Mo_plan_80 hl (k := 6) rfl (nI_1 _) (by decide) rfl (fun ls hl => ?_)
        refine lv_goto (tgt := 42) (pc := 83) hx hb d_Mo_plan_83 (by decide) ?_
        have hk9 := hk
        unfold lm_best at hk9
        rw [if_neg c_2, if_pos c_3] at hk9
        exact ih (j + 1) (nI j) (f_Mo_spreadOf Z st j g9) st _ _ ls (by omega) hP hS (lv_sub hl [4, 5, 6, 2, 1, 0] rfl) hk9
      · refine lv_iload (pc := 66) hx hb d_Mo_plan_66 (lv_at hl 0 rfl) ?_
        refine lv_iload (pc := 68) hx hb d_Mo_plan_68 (lv_at hl 5 rfl) ?_
        refine lv_icmp_ge (tgt := 80) (pc := 70) hx hb d_Mo_plan_70 (by decide) (fun c_4 => ?_) (fun c_4 => ?_)
        · refine lv_iinc (v := nI (j + 1)) (lv' := [(5, .int (nI (j + 1))), (6, .int (f_Mo_spreadOf Z st j g9)), (0, .ref (ad 0)), (1, .int (nI g9)), (2, .int (nI pn)), (3, .int be), (4, .int le)]) (pc := 80) hx hb d_Mo_plan_80 hl (k := 6) rfl (nI_1 _) (by decide) rfl (fun ls hl => ?_)
          refine lv_goto (tgt := 42) (pc := 83) hx hb d_Mo_plan_83 (by decide) ?_
          have hk9 := hk
          unfold lm_best at hk9
          rw [if_neg c_2, if_neg c_3, if_pos c_4] at hk9
          exact ih (j + 1) be le st _ _ ls (by omega) hP hS (lv_sub hl [2, 3, 4, 5, 6, 0] rfl) hk9
        · refine lv_iload (pc := 73) hx hb d_Mo_plan_73 (lv_at hl 6 rfl) ?_
          refine lv_istore_n (lv' := [(3, .int (nI j)), (6, .int (f_Mo_spreadOf Z st j g9)), (0, .ref (ad 0)), (1, .int (nI g9)), (2, .int (nI pn)), (4, .int le), (5, .int (nI j))]) (pc := 75) hx hb d_Mo_plan_75 rfl hl (by decide) rfl (fun ls hl => ?_)
          refine lv_iload (pc := 76) hx hb d_Mo_plan_76 (lv_at hl 1 rfl) ?_
          refine lv_istore (lv' := [(4, .int (f_Mo_spreadOf Z st j g9)), (3, .int (nI j)), (6, .int (f_Mo_spreadOf Z st j g9)), (0, .ref (ad 0)), (1, .int (nI g9)), (2, .int (nI pn)), (5, .int (nI j))]) (pc := 78) hx hb d_Mo_plan_78 hl (by decide) rfl (fun ls hl => ?_)
          refine lv_iinc (v := nI (j + 1)) (lv' := [(5, .int (nI (j + 1))), (4, .int (f_Mo_spreadOf Z st j g9)), (3, .int (nI j)), (6, .int (f_Mo_spreadOf Z st j g9)), (0, .ref (ad 0)), (1, .int (nI g9)), (2, .int (nI pn))]) (pc := 80) hx hb d_Mo_plan_80 hl (k := 6) rfl (nI_1 _) (by decide) rfl (fun ls hl => ?_)
          refine lv_goto (tgt := 42) (pc := 83) hx hb d_Mo_plan_83 (by decide) ?_
          have hk9 := hk
          unfold lm_best at hk9
          rw [if_neg c_2, if_neg c_3, if_neg c_4] at hk9
          exact ih (j + 1) (nI j) (f_Mo_spreadOf Z st j g9) st _ _ ls (by omega) hP hS (lv_sub hl [4, 5, 6, 2, 1, 0] rfl) hk9
def lm_plan (Z : Nat) (g9 : Nat) (b9 : Nat) (le : Int32) : Nat → Nat → mS → mS
  | 0, _, st => st
  | n + 1, j, st =>
    lm_plan Z g9 b9 le n (j + 1) (mp_pl st j (f_Mo_cellOf Z st b9 j g9))
set_option maxRecDepth 100000 in
set_option maxHeartbeats 4000000 in
theorem lm_plan_ok {p : Program} {l : Launch} {e : Env} {s : State} {m : MethodId} {args : Array Value} {below : List Frame} {meth : Method} {c : Code} {D : va_G} {cA : Nat → ClassId} {Z : Nat} {ad : Nat → Nat} {Q : State → Prop} (hR : rD 19 ad) (hZ : 1 ≤ Z ∧ Z ≤ 6) (C : Cx p s m args meth c b_Mo_plan 7 R_Mo (some .int)) (hK : va_K D clG (tyM cA) s) (g9 : Nat) (b9 : Nat) (le : Int32) (hg9 : g9 < 5) (hb9 : b9 < 2147483648) : ∀ (n : Nat) (j : Nat) (st : mS) (H : Heap) (locs : List Loc) (ls : Array Slot), j + n = g9 → va_P D clG (pw 19 ad (mgx Z ad cA (st))) H → va_S (rA 19 ad s.heap.size) s.heap H locs → lv_has ls 7 [(0, .ref (ad 0)), (1, .int (nI g9)), (3, .int (nI b9)), (4, .int le), (5, .int (nI j))] → (∀ (H : Heap) (locs : List Loc) (ls : Array Slot), va_P D clG (pw 19 ad (mgx Z ad cA ((lm_plan Z g9 b9 le n j st)))) H → va_S (rA 19 ad s.heap.size) s.heap H locs → lv_has ls 7 [(0, .ref (ad 0)), (1, .int (nI g9)), (3, .int (nI b9)), (4, .int le), (5, .int (nI g9))] → W p l e ({ frames := 2, cells := 0, slots := 0, locals := 52 } : Room) s m args below meth c H locs 0 0 Q (F0 m 126 ls [])) → W p l e ({ frames := 2, cells := 0, slots := 0, locals := 52 } : Room) s m args below meth c H locs 0 0 Q (F0 m 100 ls []) := by
  obtain ⟨⟨hx, hb, hml, hown, hts⟩, hr, hlocks, hN⟩ := id C
  have hown : s.vm.findClass R_Mo = some m.cls := hown
  have hr : meth.sig.returnType = (some .int) := hr
  intro n
  induction n with
  | zero =>
    intro j st H locs ls hn hP hS hl hk
    have hj9 : j = g9 := by omega
    refine lv_iload (pc := 100) hx hb d_Mo_plan_100 (lv_at hl 4 rfl) ?_
    refine lv_iload_n (pc := 102) hx hb d_Mo_plan_102 rfl (lv_at hl 1 rfl) ?_
    refine lv_icmp_ge (tgt := 126) (pc := 103) hx hb d_Mo_plan_103 (by decide) (fun c_1 => ?_) (fun c_1 => absurd (by rw [hj9]; exact Int32.le_refl _) c_1)
    exact hk H locs ls hP hS (by rw [hj9] at hl; exact lv_sub hl [0, 1, 2, 3, 4] rfl)
  | succ n ih =>
    intro j st H locs ls hn hP hS hl hk
    refine lv_iload (pc := 100) hx hb d_Mo_plan_100 (lv_at hl 4 rfl) ?_
    refine lv_iload_n (pc := 102) hx hb d_Mo_plan_102 rfl (lv_at hl 1 rfl) ?_
    refine lv_icmp_ge (tgt := 126) (pc := 103) hx hb d_Mo_plan_103 (by decide) (fun c_1 => absurd c_1 (nI_ge (b := g9) (by omega) (by omega))) (fun c_1 => ?_)
    refine lv_aload_n (pc := 106) hx hb d_Mo_plan_106 rfl (lv_at hl 0 rfl) ?_
    refine rg_get (C := R_Mo) (T := T_Mo) (N := 28) (v := .ref (ad 18)) (pc := 107) hx hb hts i_Mo hown hK hP 0 (by omega) mgx_M rfl 27 (by decide) (hts _ wd_555) rfl d_Mo_plan_107 ?_
    refine lv_iload (pc := 110) hx hb d_Mo_plan_110 (lv_at hl 4 rfl) ?_
    refine lv_iload_n (pc := 112) hx hb d_Mo_plan_112 rfl (lv_at hl 2 rfl) ?_
    refine lv_iload (pc := 113) hx hb d_Mo_plan_113 (lv_at hl 4 rfl) ?_
    refine lv_iload_n (pc := 115) hx hb d_Mo_plan_115 rfl (lv_at hl 1 rfl) ?_
    refine rg_ci (pc := 116) (va_runS (As := [.int (nI b9), .int (nI j), .int (nI g9)]) (rest := [.int (nI j), .ref (ad 18)]) ⟨hx, hb, hml, hown, hts⟩ (c_Mo_cellOf (l := l) hR hZ st b9 (by omega) j (by omega) g9 (by omega) (by omega) _) ⟨callB_of 3 hts (gd_c wd_754) rfl rfl rfl (hts _ wd_9) (hts _ wd_752) hd_Mo_cellOf ⟨Nat.le_of_ble_eq_true rfl, Nat.le_of_ble_eq_true rfl⟩, hts _ wd_753⟩ ⟨rPc_blind _ _ _ _ _ _ _ _, rPc_at _ hP hK hN⟩ rfl rfl hl.1 rfl (lv_room (Nat.le_of_ble_eq_true rfl)) d_Mo_plan_116 ⟨Nat.zero_le _, Nat.zero_le _⟩) hS (fun H locs hP hS => ?_)
    refine rg_iast (pc := 119) hx hb hK hR hP hS 18 (by omega) 0 mgx_plan rfl j (by omega) (by omega) rfl d_Mo_plan_119 (mgx_plan_w j (f_Mo_cellOf Z st b9 j g9)) (fun H locs hP hS => ?_)
    refine lv_iinc (v := nI (j + 1)) (lv' := [(5, .int (nI (j + 1))), (0, .ref (ad 0)), (1, .int (nI g9)), (3, .int (nI b9)), (4, .int le)]) (pc := 120) hx hb d_Mo_plan_120 hl (k := 4) rfl (nI_1 _) (by decide) rfl (fun ls hl => ?_)
    refine lv_goto (tgt := 100) (pc := 123) hx hb d_Mo_plan_123 (by decide) ?_
    have hk9 := hk
    unfold lm_plan at hk9
    exact ih (j + 1) (mp_pl st j (f_Mo_cellOf Z st b9 j g9)) _ _ ls (by omega) hP hS (lv_sub hl [1, 2, 3, 4, 0] rfl) hk9
def f_Mo_plan (Z : Nat) (st : mS) (a : Int32) : Int32 × mS :=
  if (f_Mo_isIn a.toInt64 1 4) = 0 then
    ((-1), st)
  else
    if 0 ≤ ((lm_best Z a.toNatClampNeg (6 ^ a.toNatClampNeg) (6 ^ a.toNatClampNeg) 0 (-1) 0 st).1) then
      ((lm_best Z a.toNatClampNeg (6 ^ a.toNatClampNeg) (6 ^ a.toNatClampNeg) 0 (-1) 0 st).2, (lm_plan Z a.toNatClampNeg (((lm_best Z a.toNatClampNeg (6 ^ a.toNatClampNeg) (6 ^ a.toNatClampNeg) 0 (-1) 0 st).1).toNatClampNeg) ((lm_best Z a.toNatClampNeg (6 ^ a.toNatClampNeg) (6 ^ a.toNatClampNeg) 0 (-1) 0 st).2) a.toNatClampNeg 0 (mp_ps st (nI a.toNatClampNeg))))
    else
      ((-1), st)
set_option maxRecDepth 100000 in
set_option maxHeartbeats 4000000 in
theorem c_Mo_plan {l : Launch} {D : va_G} {cA : Nat → ClassId} {Z : Nat} {ad : Nat → Nat} (hR : rD 19 ad) (hZ : 1 ≤ Z ∧ Z ≤ 6) (st : mS) (a : Int32) : RI l y_Mo_plan (mws y_Mo_plan b_Mo_plan 7 (some .int)) ({ frames := 2, cells := 0, slots := 0, locals := 52 } : Room) D clG (tyM cA) 19 ad (mgx Z ad cA (st)) [.ref (ad 0), .int a] (f_Mo_plan Z st a).1 (mgx Z ad cA ((f_Mo_plan Z st a).2)) := by
  refine RI_of (cc := b_Mo_plan) (maxL := 7) (ret := (some .int)) (by decide) (Nat.le_of_ble_eq_true rfl) ?_
  intro p e s m args below meth c ls C hK hP hS hl
  obtain ⟨⟨hx, hb, hml, hown, hts⟩, hr, hlocks, hN⟩ := id C
  have hown : s.vm.findClass R_Mo = some m.cls := hown
  have hr : meth.sig.returnType = (some .int) := hr
  have hl : lv_has ls 7 [(0, .ref (ad 0)), (1, .int a)] := hl
  refine lv_iload_n (pc := 0) hx hb d_Mo_plan_0 rfl (lv_at hl 1 rfl) ?_
  refine lv_i2l (pc := 1) hx hb d_Mo_plan_1 rfl ?_
  refine lv_lconst (v := 1) (pc := 2) hx hb d_Mo_plan_2 (by decide) ?_
  refine lv_ldc2 (v := 4) (pc := 3) hx hb hown (hts _ wd_747) d_Mo_plan_3 ?_
  refine rg_ci (pc := 6) (va_runS (As := [.long a.toInt64, .long 1, .long 4]) (rest := []) ⟨hx, hb, hml, hown, hts⟩ (c_Mo_isIn (l := l) a.toInt64 1 4 _) ⟨callB_of 3 hts (gd_c wd_625) rfl rfl rfl (hts _ wd_9) (hts _ wd_623) hd_Mo_isIn ⟨Nat.le_of_ble_eq_true rfl, Nat.le_of_ble_eq_true rfl⟩, hts _ wd_624⟩ ⟨rPc_blind _ _ _ _ _ _ _ _, rPc_at _ hP hK hN⟩ rfl rfl hl.1 rfl (lv_room (Nat.le_of_ble_eq_true rfl)) d_Mo_plan_6 ⟨Nat.zero_le _, Nat.zero_le _⟩) hS (fun H locs hP hS => ?_)
  refine lv_if_ne (tgt := 14) (pc := 9) hx hb d_Mo_plan_9 (by decide) (fun c_1 => ?_) (fun c_1 => ?_)
  · have hax := mat_plan c_1
    have hax1 := hax.1
    rw [hax.2] at hl
    refine lv_iconst (v := 1) (pc := 14) hx hb d_Mo_plan_14 (by decide) ?_
    refine lv_istore_n (lv' := [(2, .int 1), (0, .ref (ad 0)), (1, .int (nI a.toNatClampNeg))]) (pc := 15) hx hb d_Mo_plan_15 rfl hl (by decide) rfl (fun ls hl => ?_)
    refine lv_iconst (v := 0) (pc := 16) hx hb d_Mo_plan_16 (by decide) ?_
    refine lv_istore_n (lv' := [(3, .int 0), (2, .int 1), (0, .ref (ad 0)), (1, .int (nI a.toNatClampNeg))]) (pc := 17) hx hb d_Mo_plan_17 rfl hl (by decide) rfl (fun ls hl => ?_)
    refine lm_ways_ok hR hZ C hK a.toNatClampNeg (by omega) a.toNatClampNeg 0 1 st _ _ ls (by omega) hP hS (lv_sub hl [2, 3, 1, 0] rfl) (fun H locs ls hP hS hl => ?_)
    refine lv_iconst (v := (-1)) (pc := 34) hx hb d_Mo_plan_34 (by decide) ?_
    refine lv_istore_n (lv' := [(3, .int (-1)), (0, .ref (ad 0)), (1, .int (nI a.toNatClampNeg)), (2, .int (nI (lm_ways Z a.toNatClampNeg a.toNatClampNeg 0 1 st)))]) (pc := 35) hx hb d_Mo_plan_35 rfl hl (by decide) rfl (fun ls hl => ?_)
    have hpn : 6 ^ a.toNatClampNeg ≤ 1296 := pw6 (Nat.le_refl 6) (by omega)
    rw [show (lm_ways Z a.toNatClampNeg a.toNatClampNeg 0 1 st) = 6 ^ a.toNatClampNeg from (lm_ways_eq Z _ _ _ _ _).trans (Nat.one_mul _)] at hl
    refine lv_iconst (v := 0) (pc := 36) hx hb d_Mo_plan_36 (by decide) ?_
    refine lv_istore (lv' := [(4, .int 0), (3, .int (-1)), (0, .ref (ad 0)), (1, .int (nI a.toNatClampNeg)), (2, .int (nI (6 ^ a.toNatClampNeg)))]) (pc := 37) hx hb d_Mo_plan_37 hl (by decide) rfl (fun ls hl => ?_)
    refine lv_iconst (v := 0) (pc := 39) hx hb d_Mo_plan_39 (by decide) ?_
    refine lv_istore (lv' := [(5, .int 0), (4, .int 0), (3, .int (-1)), (0, .ref (ad 0)), (1, .int (nI a.toNatClampNeg)), (2, .int (nI (6 ^ a.toNatClampNeg)))]) (pc := 40) hx hb d_Mo_plan_40 hl (by decide) rfl (fun ls hl => ?_)
    refine lm_best_ok hR hZ C hK a.toNatClampNeg (6 ^ a.toNatClampNeg) (by omega) hpn (6 ^ a.toNatClampNeg) 0 (-1) 0 st _ _ ls (by omega) hP hS (lv_sub hl [3, 4, 5, 2, 1, 0] rfl) (fun H locs ls hP hS hl => ?_)
    refine lv_iload_n (pc := 86) hx hb d_Mo_plan_86 rfl (lv_at hl 3 rfl) ?_
    refine lv_if_ge (tgt := 92) (pc := 87) hx hb d_Mo_plan_87 (by decide) (fun c_2 => ?_) (fun c_2 => ?_)
    · have hb9 := nat_pos (x := (lm_best Z a.toNatClampNeg (6 ^ a.toNatClampNeg) (6 ^ a.toNatClampNeg) 0 (-1) 0 st).1) (fun q => absurd q (not_lt_of_ge9 c_2))
      have hb8 := hb9.1
      rw [hb9.2] at hl
      refine lv_aload_n (pc := 92) hx hb d_Mo_plan_92 rfl (lv_at hl 0 rfl) ?_
      refine lv_iload_n (pc := 93) hx hb d_Mo_plan_93 rfl (lv_at hl 1 rfl) ?_
      refine rg_put (C := R_Mo) (T := T_Mo) (N := 28) (pc := 94) hx hb hts i_Mo t_Mo t_Mo_ok n_Mo hown hK hR hP hS 0 (by omega) mgx_M rfl 26 (by decide) (hts _ wd_554) rfl rfl rfl (Nat.le_of_ble_eq_true rfl) d_Mo_plan_94 (mgx_M_ps (nI a.toNatClampNeg)) (fun H locs hP hS => ?_)
      refine lv_iconst (v := 0) (pc := 97) hx hb d_Mo_plan_97 (by decide) ?_
      refine lv_istore (lv' := [(5, .int 0), (0, .ref (ad 0)), (1, .int (nI a.toNatClampNeg)), (2, .int (nI (6 ^ a.toNatClampNeg))), (3, .int (nI ((lm_best Z a.toNatClampNeg (6 ^ a.toNatClampNeg) (6 ^ a.toNatClampNeg) 0 (-1) 0 st).1).toNatClampNeg)), (4, .int ((lm_best Z a.toNatClampNeg (6 ^ a.toNatClampNeg) (6 ^ a.toNatClampNeg) 0 (-1) 0 st).2))]) (pc := 98) hx hb d_Mo_plan_98 hl (by decide) rfl (fun ls hl => ?_)
      refine lm_plan_ok hR hZ C hK a.toNatClampNeg (((lm_best Z a.toNatClampNeg (6 ^ a.toNatClampNeg) (6 ^ a.toNatClampNeg) 0 (-1) 0 st).1).toNatClampNeg) ((lm_best Z a.toNatClampNeg (6 ^ a.toNatClampNeg) (6 ^ a.toNatClampNeg) 0 (-1) 0 st).2) (by omega) hb8 a.toNatClampNeg 0 (mp_ps st (nI a.toNatClampNeg)) _ _ ls (by omega) hP hS (lv_sub hl [1, 2, 4, 5, 0] rfl) (fun H locs ls hP hS hl => ?_)
      refine lv_iload (pc := 126) hx hb d_Mo_plan_126 (lv_at hl 3 rfl) ?_
      have e9 : f_Mo_plan Z st a = ((lm_best Z a.toNatClampNeg (6 ^ a.toNatClampNeg) (6 ^ a.toNatClampNeg) 0 (-1) 0 st).2, (lm_plan Z a.toNatClampNeg (((lm_best Z a.toNatClampNeg (6 ^ a.toNatClampNeg) (6 ^ a.toNatClampNeg) 0 (-1) 0 st).1).toNatClampNeg) ((lm_best Z a.toNatClampNeg (6 ^ a.toNatClampNeg) (6 ^ a.toNatClampNeg) 0 (-1) 0 st).2) a.toNatClampNeg 0 (mp_ps st (nI a.toNatClampNeg)))) := by unfold f_Mo_plan; rw [if_neg c_1, if_pos c_2]
      exact rg_iret (pc := 128) hx hb hr hlocks hP hS ⟨by rw [e9], by rw [e9]⟩ d_Mo_plan_128
    · refine lv_iconst (v := (-1)) (pc := 90) hx hb d_Mo_plan_90 (by decide) ?_
      have e9 : f_Mo_plan Z st a = ((-1), st) := by unfold f_Mo_plan; rw [if_neg c_1, if_neg c_2]
      exact rg_iret (pc := 91) hx hb hr hlocks hP hS ⟨by rw [e9], by rw [e9]⟩ d_Mo_plan_91
  · refine lv_iconst (v := (-1)) (pc := 12) hx hb d_Mo_plan_12 (by decide) ?_
    have e9 : f_Mo_plan Z st a = ((-1), st) := by unfold f_Mo_plan; rw [if_pos c_1]
    exact rg_iret (pc := 13) hx hb hr hlocks hP hS ⟨by rw [e9], by rw [e9]⟩ d_Mo_plan_13

def f_Mo_planned (Z : Nat) (st : mS) (a : Int32) : Int32 :=
  if a < 0 then
    (-1)
  else
    if (ms_ps st) ≤ a then
      (-1)
    else
      ms_pl st a.toNatClampNeg
set_option maxRecDepth 100000 in
set_option maxHeartbeats 4000000 in
theorem c_Mo_planned {l : Launch} {D : va_G} {cA : Nat → ClassId} {Z : Nat} {ad : Nat → Nat} (hR : rD 19 ad) (hZ : 1 ≤ Z ∧ Z ≤ 6) (st : mS) (a : Int32) (gn : Nat) (hfg : ms_ps st = nI gn) (hgn : gn ≤ 4) : RI l y_Mo_planned (mws y_Mo_planned b_Mo_planned 2 (some .int)) ({ frames := 0, cells := 0, slots := 0, locals := 0 } : Room) D clG (tyM cA) 19 ad (mgx Z ad cA (st)) [.ref (ad 0), .int a] (f_Mo_planned Z st a) (mgx Z ad cA (st)) := by
  refine RI_of (cc := b_Mo_planned) (maxL := 2) (ret := (some .int)) (by decide) (Nat.le_of_ble_eq_true rfl) ?_
  intro p e s m args below meth c ls C hK hP hS hl
  obtain ⟨⟨hx, hb, hml, hown, hts⟩, hr, hlocks, hN⟩ := id C
  have hown : s.vm.findClass R_Mo = some m.cls := hown
  have hr : meth.sig.returnType = (some .int) := hr
  have hl : lv_has ls 2 [(0, .ref (ad 0)), (1, .int a)] := hl
  refine lv_iload_n (pc := 0) hx hb d_Mo_planned_0 rfl (lv_at hl 1 rfl) ?_
  refine lv_if_lt (tgt := 21) (pc := 1) hx hb d_Mo_planned_1 (by decide) (fun c_1 => ?_) (fun c_1 => ?_)
  · refine lv_iconst (v := (-1)) (pc := 21) hx hb d_Mo_planned_21 (by decide) ?_
    have e9 : f_Mo_planned Z st a = (-1) := by unfold f_Mo_planned; rw [if_pos c_1]
    exact rg_iret (pc := 22) hx hb hr hlocks hP hS ⟨e9.symm, rfl⟩ d_Mo_planned_22
  · refine lv_iload_n (pc := 4) hx hb d_Mo_planned_4 rfl (lv_at hl 1 rfl) ?_
    refine lv_aload_n (pc := 5) hx hb d_Mo_planned_5 rfl (lv_at hl 0 rfl) ?_
    refine rg_get (C := R_Mo) (T := T_Mo) (N := 28) (v := .int (ms_ps st)) (pc := 6) hx hb hts i_Mo hown hK hP 0 (by omega) mgx_M rfl 26 (by decide) (hts _ wd_554) rfl d_Mo_planned_6 ?_
    refine lv_icmp_ge (tgt := 21) (pc := 9) hx hb d_Mo_planned_9 (by decide) (fun c_2 => ?_) (fun c_2 => ?_)
    · refine lv_iconst (v := (-1)) (pc := 21) hx hb d_Mo_planned_21 (by decide) ?_
      have e9 : f_Mo_planned Z st a = (-1) := by unfold f_Mo_planned; rw [if_neg c_1, if_pos c_2]
      exact rg_iret (pc := 22) hx hb hr hlocks hP hS ⟨e9.symm, rfl⟩ d_Mo_planned_22
    · have hax := nat_ixg hfg hgn c_1 c_2
      have hax1 := hax.1
      rw [hax.2] at hl
      refine lv_aload_n (pc := 12) hx hb d_Mo_planned_12 rfl (lv_at hl 0 rfl) ?_
      refine rg_get (C := R_Mo) (T := T_Mo) (N := 28) (v := .ref (ad 18)) (pc := 13) hx hb hts i_Mo hown hK hP 0 (by omega) mgx_M rfl 27 (by decide) (hts _ wd_555) rfl d_Mo_planned_13 ?_
      refine lv_iload_n (pc := 16) hx hb d_Mo_planned_16 rfl (lv_at hl 1 rfl) ?_
      refine rg_iald (pc := 17) hx hb hK hP 18 (by omega) 0 mgx_plan rfl a.toNatClampNeg (by omega) (by omega) rfl d_Mo_planned_17 ?_
      refine lv_goto (tgt := 22) (pc := 18) hx hb d_Mo_planned_18 (by decide) ?_
      have e9 : f_Mo_planned Z st a = ms_pl st a.toNatClampNeg := by unfold f_Mo_planned; rw [if_neg c_1, if_neg c_2]
      exact rg_iret (pc := 22) hx hb hr hlocks hP hS ⟨e9.symm, rfl⟩ d_Mo_planned_22
