theorem pu_total (Z : Nat) (st : xS) (cx : Nat) : f_Ce_total Z st cx = 0 + xs_ck st cx 0 + xs_ck st cx 1 + xs_ck st cx 2 + xs_ck st cx 3 := by
  unfold f_Ce_total
  simp only [lp_total]
theorem pu_weight (Z : Nat) (ms : mS) (cx : Nat) : f_Mo_weightOf Z ms cx = ms_cl ms (4 * cx) + ms_cl ms (4 * cx + 1) + ms_cl ms (4 * cx + 2) + ms_cl ms (4 * cx + 3) := by
  unfold f_Mo_weightOf
  rfl
/-- a cell weighs the same on both sides -/
theorem pu_tw {Z : Nat} {st : xS} {ms : mS} {cx : Nat} (h : ∀ i, i < 4 → xs_ck st cx i = ms_cl ms (4 * cx + i)) : f_Ce_total Z st cx = f_Mo_weightOf Z ms cx := by
  rw [pu_total, pu_weight, h 0 (by decide), h 1 (by decide), h 2 (by decide), h 3 (by decide), Int32.zero_add, Nat.add_zero]
