theorem fx_K_kg {st : xS} {ms : mS} {j : Nat} {v : Int64} : siK (xp_kg st j v) ms = siK st ms := (rfl)
theorem fm_K_pe {st : xS} {ms : mS} {j : Nat} {v : Int32} : siK st (mp_pe ms j v) = siK st ms := (rfl)
theorem rx_kg_kg {st : xS} {j : Nat} {v : Int64} : xs_kg (xp_kg st j v) = vp_updL (xs_kg st) j v := (rfl)
theorem rx_kg_zw {st : xS} {j : Nat} {v : Int64} : xs_kg (xp_zw st j v) = xs_kg st := (rfl)
theorem rx_kg_zf {st : xS} {j : Nat} {v : Int64} : xs_kg (xp_zf st j v) = xs_kg st := (rfl)
theorem rx_kg_za {st : xS} {j : Nat} {v : Int64} : xs_kg (xp_za st j v) = xs_kg st := (rfl)
theorem rm_pe_pe {st : mS} {j : Nat} {v : Int32} : ms_pe (mp_pe st j v) = upd (ms_pe st) j v := (rfl)
theorem fx_T_kg {st : xS} {ms : mS} {Z : Nat} {j : Nat} {v : Int64} : siT Z (xp_kg st j v) ms = siT Z st ms := (rfl)
theorem fm_T_pe {st : xS} {ms : mS} {Z : Nat} {j : Nat} {v : Int32} : siT Z st (mp_pe ms j v) = siT Z st ms := (rfl)
theorem fx_H_kg {st : xS} {ms : mS} {j : Nat} {v : Int64} : siH (xp_kg st j v) ms = siH st ms := (rfl)
theorem fm_H_pe {st : xS} {ms : mS} {j : Nat} {v : Int32} : siH st (mp_pe ms j v) = siH st ms := (rfl)
theorem fx_L_kg {st : xS} {ms : mS} {j : Nat} {v : Int64} : siL (xp_kg st j v) ms = siL st ms := (rfl)
theorem fm_L_pe {st : xS} {ms : mS} {j : Nat} {v : Int32} : siL st (mp_pe ms j v) = siL st ms := (rfl)
theorem fx_C_kg {st : xS} {ms : mS} {j : Nat} {v : Int64} : siC (xp_kg st j v) ms = siC st ms := (rfl)
theorem fm_C_pe {st : xS} {ms : mS} {j : Nat} {v : Int32} : siC st (mp_pe ms j v) = siC st ms := (rfl)
theorem fx_M_kg {st : xS} {ms : mS} {Z : Nat} {j : Nat} {v : Int64} : siM Z (xp_kg st j v) ms = siM Z st ms := (rfl)
theorem fm_M_pe {st : xS} {ms : mS} {Z : Nat} {j : Nat} {v : Int32} : siM Z st (mp_pe ms j v) = siM Z st ms := (rfl)
theorem fx_A_kg {st : xS} {ms : mS} {j : Nat} {v : Int64} : siA (xp_kg st j v) ms = siA st ms := (rfl)
theorem fm_A_pe {st : xS} {ms : mS} {j : Nat} {v : Int32} : siA st (mp_pe ms j v) = siA st ms := (rfl)
theorem rx_zw_kg {st : xS} {j : Nat} {v : Int64} : xs_zw (xp_kg st j v) = xs_zw st := (rfl)
theorem rx_zf_kg {st : xS} {j : Nat} {v : Int64} : xs_zf (xp_kg st j v) = xs_zf st := (rfl)
theorem rx_za_kg {st : xS} {j : Nat} {v : Int64} : xs_za (xp_kg st j v) = xs_za st := (rfl)
theorem rm_ah_pe {st : mS} {j : Nat} {v : Int32} : ms_ah (mp_pe st j v) = ms_ah st := (rfl)
theorem rm_fu_pe {st : mS} {j : Nat} {v : Int32} : ms_fu (mp_pe st j v) = ms_fu st := (rfl)
theorem rm_wa_pe {st : mS} {j : Nat} {v : Int32} : ms_wa (mp_pe st j v) = ms_wa st := (rfl)
theorem fx_D_kg {st : xS} {ms : mS} {d : Int64} {j : Nat} {v : Int64} : siD d (xp_kg st j v) ms = siD d st ms := (rfl)
theorem fm_D_pe {st : xS} {ms : mS} {d : Int64} {j : Nat} {v : Int32} : siD d st (mp_pe ms j v) = siD d st ms := (rfl)
theorem fx_N_kg {st : xS} {ms : mS} {d : Int64} {j : Nat} {v : Int64} : siN d (xp_kg st j v) ms = siN d st ms := (rfl)
theorem fm_N_pe {st : xS} {ms : mS} {d : Int64} {j : Nat} {v : Int32} : siN d st (mp_pe ms j v) = siN d st ms := (rfl)
theorem fx_I_kg {st : xS} {ms : mS} {t : Int32} {j : Nat} {v : Int64} : siI t (xp_kg st j v) ms = siI t st ms := (rfl)
theorem fm_I_pe {st : xS} {ms : mS} {t : Int32} {j : Nat} {v : Int32} : siI t st (mp_pe ms j v) = siI t st ms := (rfl)
theorem fb_K_pe {ms : mS} {Z : Nat} {j : Nat} {v : Int32} : sbK Z (mp_pe ms j v) = sbK Z ms := (rfl)
theorem fb_M_pe {ms : mS} {Z : Nat} {j : Nat} {v : Int32} : sbM Z (mp_pe ms j v) = sbM Z ms := (rfl)
theorem uL_0_1 {f : Nat → Int64} {v : Int64} : vp_updL f 1 v 0 = f 0 := if_neg (by decide)
theorem uL_0_2 {f : Nat → Int64} {v : Int64} : vp_updL f 2 v 0 = f 0 := if_neg (by decide)
theorem uL_0_3 {f : Nat → Int64} {v : Int64} : vp_updL f 3 v 0 = f 0 := if_neg (by decide)
theorem uL_0_4 {f : Nat → Int64} {v : Int64} : vp_updL f 4 v 0 = f 0 := if_neg (by decide)
theorem uL_0_5 {f : Nat → Int64} {v : Int64} : vp_updL f 5 v 0 = f 0 := if_neg (by decide)
theorem uL_0_6 {f : Nat → Int64} {v : Int64} : vp_updL f 6 v 0 = f 0 := if_neg (by decide)
theorem uL_0_7 {f : Nat → Int64} {v : Int64} : vp_updL f 7 v 0 = f 0 := if_neg (by decide)
theorem uL_0_8 {f : Nat → Int64} {v : Int64} : vp_updL f 8 v 0 = f 0 := if_neg (by decide)
theorem uL_0_9 {f : Nat → Int64} {v : Int64} : vp_updL f 9 v 0 = f 0 := if_neg (by decide)
theorem uL_1_0 {f : Nat → Int64} {v : Int64} : vp_updL f 0 v 1 = f 1 := if_neg (by decide)
theorem uL_1_2 {f : Nat → Int64} {v : Int64} : vp_updL f 2 v 1 = f 1 := if_neg (by decide)
theorem uL_1_3 {f : Nat → Int64} {v : Int64} : vp_updL f 3 v 1 = f 1 := if_neg (by decide)
theorem uL_1_4 {f : Nat → Int64} {v : Int64} : vp_updL f 4 v 1 = f 1 := if_neg (by decide)
theorem uL_1_5 {f : Nat → Int64} {v : Int64} : vp_updL f 5 v 1 = f 1 := if_neg (by decide)
theorem uL_1_6 {f : Nat → Int64} {v : Int64} : vp_updL f 6 v 1 = f 1 := if_neg (by decide)
theorem uL_1_7 {f : Nat → Int64} {v : Int64} : vp_updL f 7 v 1 = f 1 := if_neg (by decide)
theorem uL_1_8 {f : Nat → Int64} {v : Int64} : vp_updL f 8 v 1 = f 1 := if_neg (by decide)
theorem uL_1_9 {f : Nat → Int64} {v : Int64} : vp_updL f 9 v 1 = f 1 := if_neg (by decide)
theorem uL_2_0 {f : Nat → Int64} {v : Int64} : vp_updL f 0 v 2 = f 2 := if_neg (by decide)
theorem uL_2_1 {f : Nat → Int64} {v : Int64} : vp_updL f 1 v 2 = f 2 := if_neg (by decide)
theorem uL_2_3 {f : Nat → Int64} {v : Int64} : vp_updL f 3 v 2 = f 2 := if_neg (by decide)
theorem uL_2_4 {f : Nat → Int64} {v : Int64} : vp_updL f 4 v 2 = f 2 := if_neg (by decide)
theorem uL_2_5 {f : Nat → Int64} {v : Int64} : vp_updL f 5 v 2 = f 2 := if_neg (by decide)
theorem uL_2_6 {f : Nat → Int64} {v : Int64} : vp_updL f 6 v 2 = f 2 := if_neg (by decide)
theorem uL_2_7 {f : Nat → Int64} {v : Int64} : vp_updL f 7 v 2 = f 2 := if_neg (by decide)
theorem uL_2_8 {f : Nat → Int64} {v : Int64} : vp_updL f 8 v 2 = f 2 := if_neg (by decide)
theorem uL_2_9 {f : Nat → Int64} {v : Int64} : vp_updL f 9 v 2 = f 2 := if_neg (by decide)
theorem uL_3_0 {f : Nat → Int64} {v : Int64} : vp_updL f 0 v 3 = f 3 := if_neg (by decide)
theorem uL_3_1 {f : Nat → Int64} {v : Int64} : vp_updL f 1 v 3 = f 3 := if_neg (by decide)
theorem uL_3_2 {f : Nat → Int64} {v : Int64} : vp_updL f 2 v 3 = f 3 := if_neg (by decide)
theorem uL_3_4 {f : Nat → Int64} {v : Int64} : vp_updL f 4 v 3 = f 3 := if_neg (by decide)
theorem uL_3_5 {f : Nat → Int64} {v : Int64} : vp_updL f 5 v 3 = f 3 := if_neg (by decide)
theorem uL_3_6 {f : Nat → Int64} {v : Int64} : vp_updL f 6 v 3 = f 3 := if_neg (by decide)
theorem uL_3_7 {f : Nat → Int64} {v : Int64} : vp_updL f 7 v 3 = f 3 := if_neg (by decide)
theorem uL_3_8 {f : Nat → Int64} {v : Int64} : vp_updL f 8 v 3 = f 3 := if_neg (by decide)
theorem uL_3_9 {f : Nat → Int64} {v : Int64} : vp_updL f 9 v 3 = f 3 := if_neg (by decide)
theorem uL_4_0 {f : Nat → Int64} {v : Int64} : vp_updL f 0 v 4 = f 4 := if_neg (by decide)
theorem uL_4_1 {f : Nat → Int64} {v : Int64} : vp_updL f 1 v 4 = f 4 := if_neg (by decide)
theorem uL_4_2 {f : Nat → Int64} {v : Int64} : vp_updL f 2 v 4 = f 4 := if_neg (by decide)
theorem uL_4_3 {f : Nat → Int64} {v : Int64} : vp_updL f 3 v 4 = f 4 := if_neg (by decide)
theorem uL_4_5 {f : Nat → Int64} {v : Int64} : vp_updL f 5 v 4 = f 4 := if_neg (by decide)
theorem uL_4_6 {f : Nat → Int64} {v : Int64} : vp_updL f 6 v 4 = f 4 := if_neg (by decide)
theorem uL_4_7 {f : Nat → Int64} {v : Int64} : vp_updL f 7 v 4 = f 4 := if_neg (by decide)
theorem uL_4_8 {f : Nat → Int64} {v : Int64} : vp_updL f 8 v 4 = f 4 := if_neg (by decide)
theorem uL_4_9 {f : Nat → Int64} {v : Int64} : vp_updL f 9 v 4 = f 4 := if_neg (by decide)
theorem uL_5_0 {f : Nat → Int64} {v : Int64} : vp_updL f 0 v 5 = f 5 := if_neg (by decide)
theorem uL_5_1 {f : Nat → Int64} {v : Int64} : vp_updL f 1 v 5 = f 5 := if_neg (by decide)
theorem uL_5_2 {f : Nat → Int64} {v : Int64} : vp_updL f 2 v 5 = f 5 := if_neg (by decide)
theorem uL_5_3 {f : Nat → Int64} {v : Int64} : vp_updL f 3 v 5 = f 5 := if_neg (by decide)
theorem uL_5_4 {f : Nat → Int64} {v : Int64} : vp_updL f 4 v 5 = f 5 := if_neg (by decide)
theorem uL_5_6 {f : Nat → Int64} {v : Int64} : vp_updL f 6 v 5 = f 5 := if_neg (by decide)
theorem uL_5_7 {f : Nat → Int64} {v : Int64} : vp_updL f 7 v 5 = f 5 := if_neg (by decide)
theorem uL_5_8 {f : Nat → Int64} {v : Int64} : vp_updL f 8 v 5 = f 5 := if_neg (by decide)
theorem uL_5_9 {f : Nat → Int64} {v : Int64} : vp_updL f 9 v 5 = f 5 := if_neg (by decide)
theorem uL_6_0 {f : Nat → Int64} {v : Int64} : vp_updL f 0 v 6 = f 6 := if_neg (by decide)
theorem uL_6_1 {f : Nat → Int64} {v : Int64} : vp_updL f 1 v 6 = f 6 := if_neg (by decide)
theorem uL_6_2 {f : Nat → Int64} {v : Int64} : vp_updL f 2 v 6 = f 6 := if_neg (by decide)
theorem uL_6_3 {f : Nat → Int64} {v : Int64} : vp_updL f 3 v 6 = f 6 := if_neg (by decide)
theorem uL_6_4 {f : Nat → Int64} {v : Int64} : vp_updL f 4 v 6 = f 6 := if_neg (by decide)
theorem uL_6_5 {f : Nat → Int64} {v : Int64} : vp_updL f 5 v 6 = f 6 := if_neg (by decide)
theorem uL_6_7 {f : Nat → Int64} {v : Int64} : vp_updL f 7 v 6 = f 6 := if_neg (by decide)
theorem uL_6_8 {f : Nat → Int64} {v : Int64} : vp_updL f 8 v 6 = f 6 := if_neg (by decide)
theorem uL_6_9 {f : Nat → Int64} {v : Int64} : vp_updL f 9 v 6 = f 6 := if_neg (by decide)
theorem uL_7_0 {f : Nat → Int64} {v : Int64} : vp_updL f 0 v 7 = f 7 := if_neg (by decide)
theorem uL_7_1 {f : Nat → Int64} {v : Int64} : vp_updL f 1 v 7 = f 7 := if_neg (by decide)
theorem uL_7_2 {f : Nat → Int64} {v : Int64} : vp_updL f 2 v 7 = f 7 := if_neg (by decide)
theorem uL_7_3 {f : Nat → Int64} {v : Int64} : vp_updL f 3 v 7 = f 7 := if_neg (by decide)
theorem uL_7_4 {f : Nat → Int64} {v : Int64} : vp_updL f 4 v 7 = f 7 := if_neg (by decide)
theorem uL_7_5 {f : Nat → Int64} {v : Int64} : vp_updL f 5 v 7 = f 7 := if_neg (by decide)
theorem uL_7_6 {f : Nat → Int64} {v : Int64} : vp_updL f 6 v 7 = f 7 := if_neg (by decide)
theorem uL_7_8 {f : Nat → Int64} {v : Int64} : vp_updL f 8 v 7 = f 7 := if_neg (by decide)
theorem uL_7_9 {f : Nat → Int64} {v : Int64} : vp_updL f 9 v 7 = f 7 := if_neg (by decide)
theorem uL_8_0 {f : Nat → Int64} {v : Int64} : vp_updL f 0 v 8 = f 8 := if_neg (by decide)
theorem uL_8_1 {f : Nat → Int64} {v : Int64} : vp_updL f 1 v 8 = f 8 := if_neg (by decide)
theorem uL_8_2 {f : Nat → Int64} {v : Int64} : vp_updL f 2 v 8 = f 8 := if_neg (by decide)
theorem uL_8_3 {f : Nat → Int64} {v : Int64} : vp_updL f 3 v 8 = f 8 := if_neg (by decide)
theorem uL_8_4 {f : Nat → Int64} {v : Int64} : vp_updL f 4 v 8 = f 8 := if_neg (by decide)
theorem uL_8_5 {f : Nat → Int64} {v : Int64} : vp_updL f 5 v 8 = f 8 := if_neg (by decide)
theorem uL_8_6 {f : Nat → Int64} {v : Int64} : vp_updL f 6 v 8 = f 8 := if_neg (by decide)
theorem uL_8_7 {f : Nat → Int64} {v : Int64} : vp_updL f 7 v 8 = f 8 := if_neg (by decide)
theorem uL_8_9 {f : Nat → Int64} {v : Int64} : vp_updL f 9 v 8 = f 8 := if_neg (by decide)
theorem uL_9_0 {f : Nat → Int64} {v : Int64} : vp_updL f 0 v 9 = f 9 := if_neg (by decide)
theorem uL_9_1 {f : Nat → Int64} {v : Int64} : vp_updL f 1 v 9 = f 9 := if_neg (by decide)
theorem uL_9_2 {f : Nat → Int64} {v : Int64} : vp_updL f 2 v 9 = f 9 := if_neg (by decide)
theorem uL_9_3 {f : Nat → Int64} {v : Int64} : vp_updL f 3 v 9 = f 9 := if_neg (by decide)
theorem uL_9_4 {f : Nat → Int64} {v : Int64} : vp_updL f 4 v 9 = f 9 := if_neg (by decide)
theorem uL_9_5 {f : Nat → Int64} {v : Int64} : vp_updL f 5 v 9 = f 9 := if_neg (by decide)
theorem uL_9_6 {f : Nat → Int64} {v : Int64} : vp_updL f 6 v 9 = f 9 := if_neg (by decide)
theorem uL_9_7 {f : Nat → Int64} {v : Int64} : vp_updL f 7 v 9 = f 9 := if_neg (by decide)
theorem uL_9_8 {f : Nat → Int64} {v : Int64} : vp_updL f 8 v 9 = f 9 := if_neg (by decide)
/-! what was grabbed comes into zone 0 -/
theorem s4_up (f : Nat → Int32) (j : Nat) (hj : j < 4) (v : Int32) : (upd f j v 0).toInt + (upd f j v 1).toInt + (upd f j v 2).toInt + (upd f j v 3).toInt = (f 0).toInt + (f 1).toInt + (f 2).toInt + (f 3).toInt - (f j).toInt + v.toInt := by
  rcases (show j = 0 ∨ j = 1 ∨ j = 2 ∨ j = 3 by omega) with rfl | rfl | rfl | rfl <;> simp [upd] <;> omega
def mF (ms : mS) (j : Nat) : mS := mp_pe (mp_fu (mp_ah (mp_wa ms 0 (ms_wa ms 0 + f_Mo_partOf (ms_pe ms j).toInt64 (ms_ws ms j).toInt64)) 0 (ms_ah ms 0 + f_Mo_partOf (ms_pe ms j).toInt64 (ms_ash ms j).toInt64)) 0 (ms_fu ms 0 + ((ms_pe ms j).toInt64 - f_Mo_partOf (ms_pe ms j).toInt64 (ms_ws ms j).toInt64 - f_Mo_partOf (ms_pe ms j).toInt64 (ms_ash ms j).toInt64))) j 0
theorem lm_comes_s (Z n j : Nat) (ms : mS) : lm_comes Z (n + 1) j ms = lm_comes Z n (j + 1) (mF ms j) := by
  simp only [lm_comes, mF, rm_ah_ah, rm_ah_wa, rm_fu_ah, rm_fu_wa, rm_pe_ah, rm_pe_wa]
def cF (st : xS) (j : Nat) : xS := xp_kg (cAdd st 0 (f_Mo_partOf (xs_kg st j) (xs_kw st j).toInt64) (xs_kg st j - f_Mo_partOf (xs_kg st j) (xs_kw st j).toInt64 - f_Mo_partOf (xs_kg st j) (xs_ka st j).toInt64) (f_Mo_partOf (xs_kg st j) (xs_ka st j).toInt64)) j 0
theorem lp_feed_s (Z n j : Nat) (st : xS) : lp_feed Z (n + 1) j st = lp_feed Z n (j + 1) (cF st j) := by
  simp only [lp_feed, cF, pu_part2, cAdd_eq]
theorem siE_F {Z j : Nat} {t : Int32} {d b : Int64} {st : xS} {ms : mS} (hj : j < 4) (h1Z : 0 < Z) (h : siE Z t d b st ms) : siE Z t d b (cF st j) (mF ms j) := by
  obtain ⟨hK, hG, hT, hH, hL, hC, hM, hA, hZ, hD, hN, hI⟩ := h
  refine ⟨?_, ?_, ?_, ?_, ?_, ?_, ?_, ?_, ?_, ?_, ?_, ?_⟩
  · simp only [cF, cAdd, mF, fx_K_zw, fx_K_zf, fx_K_za, fx_K_kg, fm_K_ah, fm_K_fu, fm_K_pe, fm_K_wa]
    exact hK
  · intro i hi
    simp only [cF, cAdd, mF, rx_kg_kg, rx_kg_zw, rx_kg_zf, rx_kg_za, rm_pe_ah, rm_pe_fu, rm_pe_pe, rm_pe_wa]
    unfold vp_updL upd
    by_cases e : i = j
    · rw [if_pos e, if_pos e]; rfl
    · rw [if_neg e, if_neg e]; exact hG i hi
  · simp only [cF, cAdd, mF, fx_T_zw, fx_T_zf, fx_T_za, fx_T_kg, fm_T_ah, fm_T_fu, fm_T_pe, fm_T_wa]
    exact hT
  · simp only [cF, cAdd, mF, fx_H_zw, fx_H_zf, fx_H_za, fx_H_kg, fm_H_ah, fm_H_fu, fm_H_pe, fm_H_wa]
    exact hH
  · simp only [cF, cAdd, mF, fx_L_zw, fx_L_zf, fx_L_za, fx_L_kg, fm_L_ah, fm_L_fu, fm_L_pe, fm_L_wa]
    exact hL
  · simp only [cF, cAdd, mF, fx_C_zw, fx_C_zf, fx_C_za, fx_C_kg, fm_C_ah, fm_C_fu, fm_C_pe, fm_C_wa]
    exact hC
  · simp only [cF, cAdd, mF, fx_M_zw, fx_M_zf, fx_M_za, fx_M_kg, fm_M_ah, fm_M_fu, fm_M_pe, fm_M_wa]
    exact hM
  · simp only [cF, cAdd, mF, fx_A_zw, fx_A_zf, fx_A_za, fx_A_kg, fm_A_ah, fm_A_fu, fm_A_pe, fm_A_wa]
    exact hA
  · intro i hi
    obtain ⟨p1, p2, p3⟩ := hZ i hi
    obtain ⟨g1, g2, g3⟩ := hZ 0 h1Z
    have e1 := hG j hj
    obtain ⟨e2, e3⟩ := hK.2.2.1 j hj
    simp only [cF, cAdd, mF, rx_zw_kg, rx_zw_zw, rx_zw_zf, rx_zw_za, rx_zf_kg, rx_zf_zw, rx_zf_zf, rx_zf_za, rx_za_kg, rx_za_zw, rx_za_zf, rx_za_za, rm_ah_ah, rm_ah_fu, rm_ah_pe, rm_ah_wa, rm_fu_ah, rm_fu_fu, rm_fu_pe, rm_fu_wa, rm_wa_ah, rm_wa_fu, rm_wa_pe, rm_wa_wa]
    refine ⟨?_, ?_, ?_⟩
    · exact updL2 p1 (by rw [g1, e1, e2])
    · exact updL2 p2 (by rw [g2, e1, e2, e3])
    · exact updL2 p3 (by rw [g3, e1, e3])
  · simp only [cF, cAdd, mF, fx_D_zw, fx_D_zf, fx_D_za, fx_D_kg, fm_D_ah, fm_D_fu, fm_D_pe, fm_D_wa]
    exact hD
  · simp only [cF, cAdd, mF, fx_N_zw, fx_N_zf, fx_N_za, fx_N_kg, fm_N_ah, fm_N_fu, fm_N_pe, fm_N_wa]
    exact hN
  · simp only [cF, cAdd, mF, fx_I_zw, fx_I_zf, fx_I_za, fx_I_kg, fm_I_ah, fm_I_fu, fm_I_pe, fm_I_wa]
    exact hI
theorem siB_F {Z j : Nat} {B : Int} {ms : mS} (hj : j < 4) (h1Z : 0 < Z) (hb : B ≤ 100000000) (hB : siB Z B ms) : siB Z B (mF ms j) := by
  obtain ⟨bK, bM, bF⟩ := hB
  refine ⟨?_, ?_, ?_⟩
  · simp only [mF, fb_K_ah, fb_K_fu, fb_K_pe, fb_K_wa]
    exact bK
  · simp only [mF, fb_M_ah, fb_M_fu, fb_M_pe, fb_M_wa]
    exact bM
  · obtain ⟨f1, f2, f3⟩ := bF
    obtain ⟨w0, w1, w2⟩ := bK.2.1 j hj
    have hq := sZ_le (ms_fu ms) Z f2
    have h4 := hq.2 0 h1Z
    have h40 := f2 0 h1Z
    have hq1 := hq.1
    have p0 := f1 0 (by decide)
    have p1 := f1 1 (by decide)
    have p2 := f1 2 (by decide)
    have p3 := f1 3 (by decide)
    have pj := f1 j hj
    have pj1 : (ms_pe ms j).toInt ≤ (ms_pe ms 0).toInt + (ms_pe ms 1).toInt + (ms_pe ms 2).toInt + (ms_pe ms 3).toInt := by
      rcases (show j = 0 ∨ j = 1 ∨ j = 2 ∨ j = 3 by omega) with rfl | rfl | rfl | rfl <;> omega
    have ep : ((ms_pe ms j).toInt64).toInt = (ms_pe ms j).toInt := Int32.toInt_toInt64 _
    have ew : ((ms_ws ms j).toInt64).toInt = (ms_ws ms j).toInt := Int32.toInt_toInt64 _
    have ea : ((ms_ash ms j).toInt64).toInt = (ms_ash ms j).toInt := Int32.toInt_toInt64 _
    obtain ⟨x1, x2, x3⟩ := pu_pt (n := (ms_pe ms j).toInt64) (x := (ms_ws ms j).toInt64) (by rw [ep]; exact pj) (by rw [ep]; omega) (by rw [ew]; exact w0) (by rw [ew]; omega)
    obtain ⟨y1, y2, y3⟩ := pu_pt (n := (ms_pe ms j).toInt64) (x := (ms_ash ms j).toInt64) (by rw [ep]; exact pj) (by rw [ep]; omega) (by rw [ea]; exact w1) (by rw [ea]; omega)
    have hs1 := i64sub x2 x3
    rw [ep, ew] at x1
    rw [ep, ea] at y1
    rw [ep] at hs1 x3 y3
    have hm : (ms_pe ms j).toInt * (ms_ws ms j).toInt + (ms_pe ms j).toInt * (ms_ash ms j).toInt ≤ (ms_pe ms j).toInt * 1000 := by
      rw [← Int.mul_add]
      exact Int.mul_le_mul_of_nonneg_left w2 pj
    have hs2 := i64sub (a := (ms_pe ms j).toInt64 - f_Mo_partOf (ms_pe ms j).toInt64 (ms_ws ms j).toInt64) y2 (by rw [hs1]; omega)
    rw [hs1] at hs2
    have ha := i64add (a := ms_fu ms 0) (b := (ms_pe ms j).toInt64 - f_Mo_partOf (ms_pe ms j).toInt64 (ms_ws ms j).toInt64 - f_Mo_partOf (ms_pe ms j).toInt64 (ms_ash ms j).toInt64) h40 (by rw [hs2]; omega) (by rw [hs2]; omega)
    rw [hs2] at ha
    refine ⟨?_, ?_, ?_⟩
    · intro i hi
      simp only [mF, rm_pe_ah, rm_pe_fu, rm_pe_pe, rm_pe_wa]
      unfold upd
      by_cases e : i = j
      · rw [if_pos e]; decide
      · rw [if_neg e]; exact f1 i hi
    · intro i hi
      simp only [mF, rm_fu_ah, rm_fu_fu, rm_fu_pe, rm_fu_wa]
      unfold vp_updL
      by_cases e : i = 0
      · rw [if_pos e, ha]; omega
      · rw [if_neg e]; exact f2 i hi
    · have e4 := s4_up (ms_pe ms) j hj 0
      rw [show (0 : Int32).toInt = 0 from by decide] at e4
      simp only [mF, rm_fu_ah, rm_fu_fu, rm_fu_pe, rm_fu_wa, rm_pe_ah, rm_pe_fu, rm_pe_pe, rm_pe_wa]
      rw [sZ_up, if_pos h1Z, ha]
      omega
theorem fe_ok {Z : Nat} {t : Int32} {d b : Int64} {B : Int} (hZ : 0 < Z) (hb : B ≤ 100000000) : ∀ (n j : Nat), j + n ≤ 4 → ∀ (st : xS) (ms : mS), siE Z t d b st ms → siB Z B ms → siE Z t d b (lp_feed Z n j st) (lm_comes Z n j ms) ∧ siB Z B (lm_comes Z n j ms)
  | 0, _, _, st, ms, h, hB => ⟨h, hB⟩
  | n + 1, j, hn, st, ms, h, hB => by
    rw [lm_comes_s, lp_feed_s]
    exact fe_ok hZ hb n (j + 1) (by omega) _ _ (siE_F (by omega) hZ h) (siB_F (by omega) hZ hb hB)
