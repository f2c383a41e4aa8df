/-! pure rows: program and reference, number by number -/
theorem pu_part (a : Int64) (x : Int32) : f_GL_thousandths a x = f_Mo_partOf a x.toInt64 := rfl
theorem pu_cut {a b d : Int64} (h : b ≤ d) : f_GL_cut a b d = f_Mo_cut a b d := by
  unfold f_GL_cut f_Mo_cut
  simp only [lg_cmp_ge, lg_cmp_le]
  rw [Int64.le_iff_toInt_le] at h
  by_cases h1 : a < d
  · rw [if_pos h1]
    by_cases h2 : a < b
    · rw [if_pos h2, if_neg (fun q => by rw [Int64.le_iff_toInt_le] at q; rw [Int64.lt_iff_toInt_lt] at h2; omega)]
    · rw [if_neg h2, if_pos (show b ≤ a by rw [Int64.le_iff_toInt_le]; rw [Int64.lt_iff_toInt_lt] at h2; omega), if_pos (show a ≤ d by rw [Int64.le_iff_toInt_le]; rw [Int64.lt_iff_toInt_lt] at h1; omega)]
  · rw [if_neg h1]
    rw [Int64.lt_iff_toInt_lt] at h1
    rw [if_neg (show ¬ d < b by rw [Int64.lt_iff_toInt_lt]; omega), if_pos (show b ≤ a by rw [Int64.le_iff_toInt_le]; omega)]
    by_cases h2 : a ≤ d
    · rw [if_pos h2]
      rw [Int64.le_iff_toInt_le] at h2
      exact Int64.toInt_inj.mp (by omega)
    · rw [if_neg h2]
theorem pu_min (a b : Int64) : (if b < a then b else a) = f_Mo_least a b := by
  unfold f_Mo_least
  simp only [lg_cmp_ge]
  by_cases h : b < a
  · rw [if_pos h, if_pos (show b ≤ a by rw [Int64.le_iff_toInt_le]; rw [Int64.lt_iff_toInt_lt] at h; omega)]
  · rw [if_neg h]
    by_cases h2 : b ≤ a
    · rw [if_pos h2]
      rw [Int64.le_iff_toInt_le] at h2
      rw [Int64.lt_iff_toInt_lt] at h
      exact Int64.toInt_inj.mp (by omega)
    · rw [if_neg h2]
