def lm_cellOf (Z : Nat) (w9 : Nat) (kx : Nat) (g9 : Nat) : Nat → Nat → Nat → mS → Nat
  | 0, _, r, _ => r
  | n + 1, j, r, st =>
    lm_cellOf Z w9 kx g9 n (j - 1) (r / 6) st
set_option maxRecDepth 100000 in
set_option maxHeartbeats 4000000 in
theorem lm_cellOf_ok {p : Program} {l : Launch} {e : Env} {s : State} {m : MethodId} {args : Array Value} {below : List Frame} {meth : Method} {c : Code} {D : va_G} {cA : Nat → ClassId} {Z : Nat} {ad : Nat → Nat} {Q : State → Prop} (hR : rD 19 ad) (hZ : 1 ≤ Z ∧ Z ≤ 6) (C : Cx p s m args meth c b_Mo_cellOf 5 R_Mo (some .int)) (hK : va_K D clG (tyM cA) s) (w9 : Nat) (kx : Nat) (g9 : Nat) (hkx : kx < 4) (hg9 : g9 < 5) : ∀ (n : Nat) (j : Nat) (r : Nat) (st : mS) (H : Heap) (locs : List Loc) (ls : Array Slot), (j = kx + n ∧ j < 5 ∧ r < 2147483648) → va_P D clG (pw 19 ad (mgx Z ad cA (st))) H → va_S (rA 19 ad s.heap.size) s.heap H locs → lv_has ls 5 [(0, .int (nI w9)), (1, .int (nI kx)), (2, .int (nI g9)), (3, .int (nI r)), (4, .int (nI j))] → (∀ (H : Heap) (locs : List Loc) (ls : Array Slot), va_P D clG (pw 19 ad (mgx Z ad cA (st))) H → va_S (rA 19 ad s.heap.size) s.heap H locs → lv_has ls 5 [(0, .int (nI w9)), (1, .int (nI kx)), (2, .int (nI g9)), (3, .int (nI (lm_cellOf Z w9 kx g9 n j r st))), (4, .int (nI kx))] → W p l e ({ frames := 0, cells := 0, slots := 0, locals := 0 } : Room) s m args below meth c H locs 0 0 Q (F0 m 24 ls [])) → W p l e ({ frames := 0, cells := 0, slots := 0, locals := 0 } : Room) s m args below meth c H locs 0 0 Q (F0 m 7 ls []) := by
  obtain ⟨⟨hx, hb, hml, hown, hts⟩, hr, hlocks, hN⟩ := id C
  have hown : s.vm.findClass R_Mo = some m.cls := hown
  have hr : meth.sig.returnType = (some .int) := hr
  intro n
  induction n with
  | zero =>
    intro j r st H locs ls hn hP hS hl hk
    obtain ⟨hn, hj5, hr9⟩ := hn
    have hj9 : j = kx := by omega
    refine lv_iload (pc := 7) hx hb d_Mo_cellOf_7 (lv_at hl 4 rfl) ?_
    refine lv_iload_n (pc := 9) hx hb d_Mo_cellOf_9 rfl (lv_at hl 1 rfl) ?_
    refine lv_icmp_le (tgt := 24) (pc := 10) hx hb d_Mo_cellOf_10 (by decide) (fun c_1 => ?_) (fun c_1 => absurd (by rw [hj9]; exact Int32.le_refl _) c_1)
    exact hk H locs ls hP hS (by rw [hj9] at hl; exact lv_sub hl [0, 1, 2, 3, 4] rfl)
  | succ n ih =>
    intro j r st H locs ls hn hP hS hl hk
    obtain ⟨hn, hj5, hr9⟩ := hn
    refine lv_iload (pc := 7) hx hb d_Mo_cellOf_7 (lv_at hl 4 rfl) ?_
    refine lv_iload_n (pc := 9) hx hb d_Mo_cellOf_9 rfl (lv_at hl 1 rfl) ?_
    refine lv_icmp_le (tgt := 24) (pc := 10) hx hb d_Mo_cellOf_10 (by decide) (fun c_1 => absurd c_1 (nI_ge (by omega) (by omega))) (fun c_1 => ?_)
    refine lv_iload_n (pc := 13) hx hb d_Mo_cellOf_13 rfl (lv_at hl 3 rfl) ?_
    refine lv_bipush (v := 6) (pc := 14) hx hb d_Mo_cellOf_14 (by decide) ?_
    refine lv_idiv (pc := 16) hx hb d_Mo_cellOf_16 (by decide) ?_
    rw [show ((nI r) / 6 : Int32) = nI (r / 6) from pk_div (d := 6) (by omega) (by omega) (by omega)]
    refine lv_istore_n (lv' := [(3, .int (nI (r / 6))), (0, .int (nI w9)), (1, .int (nI kx)), (2, .int (nI g9)), (4, .int (nI j))]) (pc := 17) hx hb d_Mo_cellOf_17 rfl hl (by decide) rfl (fun ls hl => ?_)
    refine lv_iinc (v := nI (j - 1)) (lv' := [(4, .int (nI (j - 1))), (3, .int (nI (r / 6))), (0, .int (nI w9)), (1, .int (nI kx)), (2, .int (nI g9))]) (pc := 18) hx hb d_Mo_cellOf_18 hl (k := 4) rfl (sb_m1 (by omega)) (by decide) rfl (fun ls hl => ?_)
    refine lv_goto (tgt := 7) (pc := 21) hx hb d_Mo_cellOf_21 (by decide) ?_
    have hk9 := hk
    unfold lm_cellOf at hk9
    exact ih (j - 1) (r / 6) st _ _ ls ⟨by omega, by omega, by omega⟩ hP hS (lv_sub hl [2, 3, 4, 1, 0] rfl) hk9
theorem lm_cellOf_eq (Z w9 kx g9 : Nat) : ∀ (n j r : Nat) (st : mS), lm_cellOf Z w9 kx g9 n j r st = r / 6 ^ n
  | 0, _, r, _ => by rw [Nat.pow_zero, Nat.div_one]; rfl
  | n + 1, j, r, st => by unfold lm_cellOf; rw [lm_cellOf_eq Z w9 kx g9 n, Nat.div_div_eq_div_mul, Nat.pow_succ']
theorem co_lt {Z w9 kx g9 n j : Nat} {st : mS} (h : w9 < 2147483648) : lm_cellOf Z w9 kx g9 n j w9 st < 2 ^ 31 := by
  rw [lm_cellOf_eq]
  exact Nat.lt_of_le_of_lt (Nat.div_le_self _ _) h
def f_Mo_cellOf (Z : Nat) (st : mS) (w9 : Nat) (kx : Nat) (g9 : Nat) : Int32 :=
  nI ((lm_cellOf Z w9 kx g9 (g9 - 1 - kx) (g9 - 1) w9 st) % 6)
set_option maxRecDepth 100000 in
set_option maxHeartbeats 4000000 in
theorem c_Mo_cellOf {l : Launch} {D : va_G} {cA : Nat → ClassId} {Z : Nat} {ad : Nat → Nat} (hR : rD 19 ad) (hZ : 1 ≤ Z ∧ Z ≤ 6) (st : mS) (w9 : Nat) (hw9 : w9 < 2147483648) (kx : Nat) (hkx : kx < 4) (g9 : Nat) (hg9 : g9 < 5) (hkg : kx < g9) : RI l y_Mo_cellOf (mws y_Mo_cellOf b_Mo_cellOf 5 (some .int)) ({ frames := 0, cells := 0, slots := 0, locals := 0 } : Room) D clG (tyM cA) 19 ad (mgx Z ad cA (st)) [.int (nI w9), .int (nI kx), .int (nI g9)] (f_Mo_cellOf Z st w9 kx g9) (mgx Z ad cA (st)) := by
  refine RI_of (cc := b_Mo_cellOf) (maxL := 5) (ret := (some .int)) (by decide) (Nat.le_of_ble_eq_true rfl) ?_
  intro p e s m args below meth c ls C hK hP hS hl
  obtain ⟨⟨hx, hb, hml, hown, hts⟩, hr, hlocks, hN⟩ := id C
  have hown : s.vm.findClass R_Mo = some m.cls := hown
  have hr : meth.sig.returnType = (some .int) := hr
  have hl : lv_has ls 5 [(0, .int (nI w9)), (1, .int (nI kx)), (2, .int (nI g9))] := hl
  refine lv_iload_n (pc := 0) hx hb d_Mo_cellOf_0 rfl (lv_at hl 0 rfl) ?_
  refine lv_istore_n (lv' := [(3, .int (nI w9)), (0, .int (nI w9)), (1, .int (nI kx)), (2, .int (nI g9))]) (pc := 1) hx hb d_Mo_cellOf_1 rfl hl (by decide) rfl (fun ls hl => ?_)
  refine lv_iload_n (pc := 2) hx hb d_Mo_cellOf_2 rfl (lv_at hl 3 rfl) ?_
  refine lv_iconst (v := 1) (pc := 3) hx hb d_Mo_cellOf_3 (by decide) ?_
  refine lv_isub (pc := 4) hx hb d_Mo_cellOf_4 ?_
  rw [show (nI g9 - 1 : Int32) = nI (g9 - 1) from pk_sub (a := g9) (b := 1) (by omega)]
  refine lv_istore (lv' := [(4, .int (nI (g9 - 1))), (3, .int (nI w9)), (0, .int (nI w9)), (1, .int (nI kx)), (2, .int (nI g9))]) (pc := 5) hx hb d_Mo_cellOf_5 hl (by decide) rfl (fun ls hl => ?_)
  refine lm_cellOf_ok hR hZ C hK w9 kx g9 hkx hg9 (g9 - 1 - kx) (g9 - 1) w9 st _ _ ls ⟨by omega, by omega, by omega⟩ hP hS (lv_sub hl [2, 3, 4, 1, 0] rfl) (fun H locs ls hP hS hl => ?_)
  refine lv_iload_n (pc := 24) hx hb d_Mo_cellOf_24 rfl (lv_at hl 3 rfl) ?_
  refine lv_bipush (v := 6) (pc := 25) hx hb d_Mo_cellOf_25 (by decide) ?_
  refine lv_irem (pc := 27) hx hb d_Mo_cellOf_27 (by decide) ?_
  rw [show ((nI (lm_cellOf Z w9 kx g9 (g9 - 1 - kx) (g9 - 1) w9 st)) - (nI (lm_cellOf Z w9 kx g9 (g9 - 1 - kx) (g9 - 1) w9 st)) / 6 * 6 : Int32) = nI ((lm_cellOf Z w9 kx g9 (g9 - 1 - kx) (g9 - 1) w9 st) % 6) from pk_rem (d := 6) (co_lt hw9) (by omega) (by omega)]
  have e9 : f_Mo_cellOf Z st w9 kx g9 = nI ((lm_cellOf Z w9 kx g9 (g9 - 1 - kx) (g9 - 1) w9 st) % 6) := rfl
  exact rg_iret (pc := 28) hx hb hr hlocks hP hS ⟨e9.symm, rfl⟩ d_Mo_cellOf_28

theorem cellOf_eq {Z w9 kx g9 : Nat} {st : mS} : f_Mo_cellOf Z st w9 kx g9 = nI (w9 / 6 ^ (g9 - 1 - kx) % 6) := by
  unfold f_Mo_cellOf
  rw [lm_cellOf_eq]
