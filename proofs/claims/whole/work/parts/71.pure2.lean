theorem pu_neg (x : Int64) : x < 0 ↔ x.toBitVec.msb = true := by
  rw [Int64.lt_iff_toInt_lt, BitVec.msb_eq_toInt, decide_eq_true_eq]
  exact Iff.rfl
theorem pu_xor (v : Int64) : (v ^^^ 1000) < 0 ↔ v < 0 := by
  rw [pu_neg, pu_neg, Int64.toBitVec_xor, BitVec.msb_xor]
  have h : (1000 : Int64).toBitVec.msb = false := by decide
  rw [h, Bool.xor_false]
theorem pu_td (x : Int) : (0 ≤ x ∧ x.tdiv 1000 = x / 1000) ∨ (x < 0 ∧ x.tdiv 1000 = -((-x) / 1000)) := by
  by_cases h : 0 ≤ x
  · exact Or.inl ⟨h, Int.tdiv_eq_ediv_of_nonneg h⟩
  · refine Or.inr ⟨by omega, ?_⟩
    have h1 : (-x).tdiv 1000 = (-x) / 1000 := Int.tdiv_eq_ediv_of_nonneg (by omega)
    rw [Int.neg_tdiv] at h1
    omega
theorem pu_div (v : Int64) : (v / 1000).toInt = v.toInt.tdiv 1000 := by
  have h1 := v.toInt_lt
  have h2 := v.le_toInt
  have e : (1000 : Int64).toInt = 1000 := by decide
  rw [Int64.toInt_div, e]
  have ht := pu_td v.toInt
  have h3 : v.toInt.tdiv 1000 ≤ 9223372036854775807 ∧ -9223372036854775808 ≤ v.toInt.tdiv 1000 := by omega
  exact Int.bmod_eq_of_le (by omega) (by omega)
theorem pu_floor (v : Int64) : f_Ma_floorDiv v 1000 = v / 1000 - (if 0 ≤ lg_cmp (v - v / 1000 * 1000) 0 then 0 else 1) := by
  have h1 := v.toInt_lt
  have h2 := v.le_toInt
  have hd := pu_div v
  have ht := pu_td v.toInt
  have e0 : (0 : Int64).toInt = 0 := by decide
  have e : (1000 : Int64).toInt = 1000 := by decide
  have hm : (v / 1000 * 1000).toInt = v.toInt.tdiv 1000 * 1000 := by
    rw [Int64.toInt_mul, hd, e]
    exact Int.bmod_eq_of_le (by omega) (by omega)
  have hs : (v - v / 1000 * 1000).toInt = v.toInt - v.toInt.tdiv 1000 * 1000 := by
    rw [Int64.toInt_sub, hm]
    exact Int.bmod_eq_of_le (by omega) (by omega)
  unfold f_Ma_floorDiv
  simp only [lg_cmp_ge, lg_cmp_eq]
  have hx := pu_xor v
  by_cases hv : v < 0
  · rw [if_neg (show ¬ (0 : Int64) ≤ v ^^^ 1000 by have := hx.mpr hv; rw [Int64.lt_iff_toInt_lt, e0] at this; rw [Int64.le_iff_toInt_le, e0]; omega)]
    rw [Int64.lt_iff_toInt_lt, e0] at hv
    by_cases hq : v / 1000 * 1000 = v
    · rw [if_pos hq]
      have hq2 := congrArg Int64.toInt hq
      rw [hm] at hq2
      rw [if_pos (show (0 : Int64) ≤ v - v / 1000 * 1000 by rw [Int64.le_iff_toInt_le, hs, e0]; omega), Int64.sub_zero]
    · rw [if_neg hq]
      have hq2 : ¬ v.toInt.tdiv 1000 * 1000 = v.toInt := fun z => hq (Int64.toInt_inj.mp (by rw [hm]; exact z))
      rw [if_neg (show ¬ (0 : Int64) ≤ v - v / 1000 * 1000 by rw [Int64.le_iff_toInt_le, hs, e0]; omega)]
  · rw [if_pos (show (0 : Int64) ≤ v ^^^ 1000 by have := mt hx.mp hv; rw [Int64.lt_iff_toInt_lt, e0] at this; rw [Int64.le_iff_toInt_le, e0]; omega)]
    rw [Int64.lt_iff_toInt_lt, e0] at hv
    rw [if_pos (show (0 : Int64) ≤ v - v / 1000 * 1000 by rw [Int64.le_iff_toInt_le, hs, e0]; omega), Int64.sub_zero]
