theorem fb_K_la {ms : mS} {Z : Nat} {j : Nat} {v : Int64} : sbK Z (mp_la ms j v) = sbK Z ms := (rfl)
theorem fb_M_la {ms : mS} {Z : Nat} {j : Nat} {v : Int64} : sbM Z (mp_la ms j v) = sbM Z ms := (rfl)
theorem fb_F_la {ms : mS} {Z : Nat} {B : Int} {j : Nat} {v : Int64} : sbF Z B (mp_la ms j v) = sbF Z B ms := (rfl)
theorem fb_F_wa {ms : mS} {Z : Nat} {B : Int} {j : Nat} {v : Int64} : sbF Z B (mp_wa ms j v) = sbF Z B ms := (rfl)
theorem rm_pe_al {st : mS} {j : Nat} {v : Int64} : ms_pe (mp_al st j v) = ms_pe st := (rfl)
theorem rm_pe_la {st : mS} {j : Nat} {v : Int64} : ms_pe (mp_la st j v) = ms_pe st := (rfl)
theorem siB_D {Z j : Nat} {B : Int} {ms : mS} (hB : siB Z B ms) : siB Z B (mD ms j) := by
  obtain ⟨bK, bM, bF⟩ := hB
  refine ⟨?_, ?_, ?_⟩
  · simp only [mD, fb_K_al, fb_K_la, fb_K_wa]
    exact bK
  · simp only [mD, fb_M_al, fb_M_la, fb_M_wa]
    exact bM
  · simp only [mD, fb_F_al, fb_F_la, fb_F_wa]
    exact bF
theorem i32div {a : Int32} (h0 : 0 ≤ a.toInt) : (a / 6).toInt = a.toInt / 6 := by
  have h1 := a.toInt_lt
  have e6 : (6 : Int32).toInt = 6 := by decide
  rw [Int32.toInt_div, e6, Int.tdiv_eq_ediv_of_nonneg h0]
  exact Int.bmod_eq_of_le (by omega) (by omega)
theorem mbq_b {Z j : Nat} {B : Int} {ms : mS} (hj : j < Z) (hb : B ≤ 100000000) (bM : sbM Z ms) (bF : sbF Z B ms) : 0 ≤ (mbq ms j).toInt ∧ (mbq ms j).toInt ≤ (ms_fu ms j).toInt ∧ 6 * (mbq ms j).toInt ≤ (ms_ai ms j).toInt := by
  obtain ⟨f1, f2, f3⟩ := bF
  have h4 := (sZ_le (ms_fu ms) Z f2).2 j hj
  have p0 := f1 0 (by decide)
  have p1 := f1 1 (by decide)
  have p2 := f1 2 (by decide)
  have p3 := f1 3 (by decide)
  obtain ⟨a0, a1⟩ := bM.2 j hj
  have hf := f2 j hj
  have e50 : (50 : Int64).toInt = 50 := by decide
  have e1 : (1 : Int64).toInt = 1 := by decide
  obtain ⟨x1, x2, x3⟩ := pu_pt (n := ms_fu ms j) (x := 50) hf (by omega) (by rw [e50]; decide) (by rw [e50]; decide)
  have h5 := i64add (a := f_Mo_partOf (ms_fu ms j) 50) (b := 1) x2 (by rw [e1]; decide) (by rw [e1]; omega)
  rw [e1] at h5
  have h6 : ((ms_ai ms j / 6).toInt64).toInt = (ms_ai ms j).toInt / 6 := by rw [Int32.toInt_toInt64, i32div a0]
  unfold mbq
  rw [least_toInt, least_toInt, h5, h6]
  split <;> split <;> omega
theorem siB_B {Z j : Nat} {B : Int} {ms : mS} (hj : j < Z) (hb : B ≤ 100000000) (hB : siB Z B ms) : siB Z B (mB ms j) := by
  obtain ⟨bK, bM, bF⟩ := hB
  refine ⟨?_, ?_, ?_⟩
  · simp only [mB, fb_K_al, fb_K_fu, fb_K_la]
    exact bK
  · simp only [mB, fb_M_al, fb_M_fu, fb_M_la]
    exact bM
  · have q := mbq_b hj hb bM bF
    have hs := i64sub q.1 q.2.1
    obtain ⟨f1, f2, f3⟩ := bF
    refine ⟨?_, ?_, ?_⟩
    · simp only [mB, rm_pe_al, rm_pe_fu, rm_pe_la]
      exact f1
    · intro i hi
      simp only [mB, rm_fu_al, rm_fu_fu, rm_fu_la]
      unfold vp_updL
      by_cases e : i = j
      · rw [if_pos e, hs]; omega
      · rw [if_neg e]; exact f2 i hi
    · simp only [mB, rm_fu_al, rm_fu_fu, rm_fu_la, rm_pe_al, rm_pe_fu, rm_pe_la]
      rw [sZ_up, if_pos hj, hs]
      omega
def obO (j : Nat) (ai : Int64) (ms : mS) : Prop := 0 ≤ (ms_la ms 2).toInt ∧ 6 * (ms_la ms 2).toInt ≤ ai.toInt ∧ ai.toInt ≤ 100000 * j
theorem mD_la (ms : mS) (j : Nat) : ms_la (mD ms j) 2 = ms_la ms 2 := by
  simp only [mD, rm_la_al, rm_la_la, rm_la_wa, uL_0_1, uL_0_2, uL_0_3, uL_0_4, uL_0_5, uL_0_6, uL_0_7, uL_0_8, uL_0_9, uL_1_0, uL_1_2, uL_1_3, uL_1_4, uL_1_5, uL_1_6, uL_1_7, uL_1_8, uL_1_9, uL_2_0, uL_2_1, uL_2_3, uL_2_4, uL_2_5, uL_2_6, uL_2_7, uL_2_8, uL_2_9, uL_3_0, uL_3_1, uL_3_2, uL_3_4, uL_3_5, uL_3_6, uL_3_7, uL_3_8, uL_3_9, uL_4_0, uL_4_1, uL_4_2, uL_4_3, uL_4_5, uL_4_6, uL_4_7, uL_4_8, uL_4_9, uL_5_0, uL_5_1, uL_5_2, uL_5_3, uL_5_4, uL_5_6, uL_5_7, uL_5_8, uL_5_9, uL_6_0, uL_6_1, uL_6_2, uL_6_3, uL_6_4, uL_6_5, uL_6_7, uL_6_8, uL_6_9, uL_7_0, uL_7_1, uL_7_2, uL_7_3, uL_7_4, uL_7_5, uL_7_6, uL_7_8, uL_7_9, uL_8_0, uL_8_1, uL_8_2, uL_8_3, uL_8_4, uL_8_5, uL_8_6, uL_8_7, uL_8_9, uL_9_0, uL_9_1, uL_9_2, uL_9_3, uL_9_4, uL_9_5, uL_9_6, uL_9_7, uL_9_8]
theorem mB_la (ms : mS) (j : Nat) : ms_la (mB ms j) 2 = ms_la ms 2 + mbq ms j := by
  simp only [mB, updL_eq, rm_la_al, rm_la_fu, rm_la_la, uL_0_1, uL_0_2, uL_0_3, uL_0_4, uL_0_5, uL_0_6, uL_0_7, uL_0_8, uL_0_9, uL_1_0, uL_1_2, uL_1_3, uL_1_4, uL_1_5, uL_1_6, uL_1_7, uL_1_8, uL_1_9, uL_2_0, uL_2_1, uL_2_3, uL_2_4, uL_2_5, uL_2_6, uL_2_7, uL_2_8, uL_2_9, uL_3_0, uL_3_1, uL_3_2, uL_3_4, uL_3_5, uL_3_6, uL_3_7, uL_3_8, uL_3_9, uL_4_0, uL_4_1, uL_4_2, uL_4_3, uL_4_5, uL_4_6, uL_4_7, uL_4_8, uL_4_9, uL_5_0, uL_5_1, uL_5_2, uL_5_3, uL_5_4, uL_5_6, uL_5_7, uL_5_8, uL_5_9, uL_6_0, uL_6_1, uL_6_2, uL_6_3, uL_6_4, uL_6_5, uL_6_7, uL_6_8, uL_6_9, uL_7_0, uL_7_1, uL_7_2, uL_7_3, uL_7_4, uL_7_5, uL_7_6, uL_7_8, uL_7_9, uL_8_0, uL_8_1, uL_8_2, uL_8_3, uL_8_4, uL_8_5, uL_8_6, uL_8_7, uL_8_9, uL_9_0, uL_9_1, uL_9_2, uL_9_3, uL_9_4, uL_9_5, uL_9_6, uL_9_7, uL_9_8]
theorem mD_ai (ms : mS) (j : Nat) : ms_ai (mD ms j) = ms_ai ms := by
  simp only [mD, rm_ai_al, rm_ai_la, rm_ai_wa]
theorem mB_ai (ms : mS) (j : Nat) : ms_ai (mB ms j) = ms_ai ms := by
  simp only [mB, rm_ai_al, rm_ai_fu, rm_ai_la]
theorem bu_step {Z j : Nat} {t : Int32} {B : Int} {ai : Int64} {st : xS} {ms : mS} (hZ : Z ≤ 6) (hj : j < Z) (hb : B ≤ 100000000) (h : siE Z t (xs_dr st) (xs_bu st) st ms) (hB : siB Z B ms) (hO : obO j ai ms) : siE Z t (xs_dr (cS st j)) (xs_bu (cS st j)) (cS st j) (f_Mo_burnsOn Z ms j) ∧ siB Z B (f_Mo_burnsOn Z ms j) ∧ obO (j + 1) (ai + (ms_ai (f_Mo_burnsOn Z ms j) j).toInt64) (f_Mo_burnsOn Z ms j) := by
  have h1 := siE_D hj (cD_q hj h) h
  have b1 := siB_D (j := j) hB
  obtain ⟨o1, o2, o3⟩ := hO
  obtain ⟨a0, a1⟩ := hB.2.1.2 j hj
  have ea : ((ms_ai ms j).toInt64).toInt = (ms_ai ms j).toInt := Int32.toInt_toInt64 _
  have e9 := i64add (a := ai) (b := (ms_ai ms j).toInt64) (by omega) (by rw [ea]; exact a0) (by rw [ea]; omega)
  rw [ea] at e9
  rw [burnsOn_s]
  unfold cS
  rw [(h1.2.2.2.2.2.2.2.2.1 j hj).1, (h1.2.2.2.2.2.2.2.2.1 j hj).2.1]
  by_cases c : lg_cmp (ms_wa (mD ms j) j) (ms_fu (mD ms j) j) ≤ 0
  · rw [if_pos c, if_pos c]
    have q := mbq_b hj hb b1.2.1 b1.2.2
    rw [mD_ai] at q
    refine ⟨siE_B hj (cB_q hj h1) h1, siB_B hj hb b1, ?_⟩
    unfold obO
    rw [mB_la, mD_la, mB_ai, mD_ai, e9]
    have e8 := i64add (a := ms_la ms 2) (b := mbq (mD ms j) j) o1 q.1 (by omega)
    rw [e8]
    refine ⟨by omega, by omega, by omega⟩
  · rw [if_neg c, if_neg c]
    refine ⟨siE_0 h1, b1, ?_⟩
    unfold obO
    rw [mD_la, mD_ai, e9]
    refine ⟨by omega, by omega, by omega⟩
theorem bu_ok {Z : Nat} {t : Int32} {B : Int} (hZ : Z ≤ 6) (hb : B ≤ 100000000) : ∀ (n j : Nat), j + n = Z → ∀ (ai : Int64) (st : xS) (ms : mS), siE Z t (xs_dr st) (xs_bu st) st ms → siB Z B ms → obO j ai ms → (lp_dryAndBurn Z n j ai st).1 = (lm_min Z n j ai ms).1 ∧ siE Z t (xs_dr (lp_dryAndBurn Z n j ai st).2) (xs_bu (lp_dryAndBurn Z n j ai st).2) (lp_dryAndBurn Z n j ai st).2 (lm_min Z n j ai ms).2 ∧ siB Z B (lm_min Z n j ai ms).2 ∧ obO Z (lm_min Z n j ai ms).1 (lm_min Z n j ai ms).2
  | 0, j, hj, ai, st, ms, h, hB, hO => by
    rw [Nat.add_zero] at hj
    subst hj
    exact ⟨rfl, h, hB, hO⟩
  | n + 1, j, hj, ai, st, ms, h, hB, hO => by
    obtain ⟨q1, q2, q3⟩ := bu_step (ai := ai) hZ (show j < Z by omega) hb h hB hO
    rw [lm_min_s, lp_dab_s, q1.2.2.2.2.2.2.1.2 j (by omega)]
    exact bu_ok hZ hb n (j + 1) (by omega) _ _ _ q1 q2 q3
