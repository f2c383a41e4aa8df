theorem rm_be_al {st : mS} {j : Nat} {v : Int64} : ms_be (mp_al st j v) = ms_be st := (rfl)
theorem rm_be_bu {st : mS} {v : Bool} : ms_be (mp_bu st v) = ms_be st := (rfl)
theorem rm_be_la {st : mS} {j : Nat} {v : Int64} : ms_be (mp_la st j v) = ms_be st := (rfl)
theorem rm_bh_al {st : mS} {j : Nat} {v : Int64} : ms_bh (mp_al st j v) = ms_bh st := (rfl)
theorem rm_bh_bu {st : mS} {v : Bool} : ms_bh (mp_bu st v) = ms_bh st := (rfl)
theorem rm_bh_la {st : mS} {j : Nat} {v : Int64} : ms_bh (mp_la st j v) = ms_bh st := (rfl)
theorem rm_bo_al {st : mS} {j : Nat} {v : Int64} : ms_bo (mp_al st j v) = ms_bo st := (rfl)
theorem rm_bo_bu {st : mS} {v : Bool} : ms_bo (mp_bu st v) = ms_bo st := (rfl)
theorem rm_bo_la {st : mS} {j : Nat} {v : Int64} : ms_bo (mp_la st j v) = ms_bo st := (rfl)
theorem rm_hb_al {st : mS} {j : Nat} {v : Int64} : ms_hb (mp_al st j v) = ms_hb st := (rfl)
theorem rm_hb_bu {st : mS} {v : Bool} : ms_hb (mp_bu st v) = ms_hb st := (rfl)
theorem rm_hb_la {st : mS} {j : Nat} {v : Int64} : ms_hb (mp_la st j v) = ms_hb st := (rfl)
theorem fm_K_mi {st : xS} {ms : mS} {v : Int32} : siK st (mp_mi ms v) = siK st ms := (rfl)
theorem fm_G_mi {st : xS} {ms : mS} {v : Int32} : siG st (mp_mi ms v) = siG st ms := (rfl)
theorem fm_T_mi {st : xS} {ms : mS} {Z : Nat} {v : Int32} : siT Z st (mp_mi ms v) = siT Z st ms := (rfl)
theorem fm_H_mi {st : xS} {ms : mS} {v : Int32} : siH st (mp_mi ms v) = siH st ms := (rfl)
theorem fm_L_mi {st : xS} {ms : mS} {v : Int32} : siL st (mp_mi ms v) = siL st ms := (rfl)
theorem fm_C_mi {st : xS} {ms : mS} {v : Int32} : siC st (mp_mi ms v) = siC st ms := (rfl)
theorem fm_M_mi {st : xS} {ms : mS} {Z : Nat} {v : Int32} : siM Z st (mp_mi ms v) = siM Z st ms := (rfl)
theorem fm_A_mi {st : xS} {ms : mS} {v : Int32} : siA st (mp_mi ms v) = siA st ms := (rfl)
theorem fm_Z_mi {st : xS} {ms : mS} {Z : Nat} {v : Int32} : siZ Z st (mp_mi ms v) = siZ Z st ms := (rfl)
theorem fm_D_mi {st : xS} {ms : mS} {d : Int64} {v : Int32} : siD d st (mp_mi ms v) = siD d st ms := (rfl)
theorem fm_N_mi {st : xS} {ms : mS} {d : Int64} {v : Int32} : siN d st (mp_mi ms v) = siN d st ms := (rfl)
theorem rm_mi_mi {st : mS} {v : Int32} : ms_mi (mp_mi st v) = v := (rfl)
theorem fb_K_mi {ms : mS} {Z : Nat} {v : Int32} : sbK Z (mp_mi ms v) = sbK Z ms := (rfl)
theorem fb_M_mi {ms : mS} {Z : Nat} {v : Int32} : sbM Z (mp_mi ms v) = sbM Z ms := (rfl)
theorem fb_F_mi {ms : mS} {Z : Nat} {B : Int} {v : Int32} : sbF Z B (mp_mi ms v) = sbF Z B ms := (rfl)
/-! a whole minute, and a run of them -/
def mTail (Z : Nat) (G : mS) : mS := mp_mi (f_Mo_controls Z (f_Mo_controls Z (mSteam G) 0) 1) (ms_mi (f_Mo_controls Z (f_Mo_controls Z (mSteam G) 0) 1) + 1)
set_option maxRecDepth 100000 in
set_option maxHeartbeats 2000000 in
theorem minute_s (Z : Nat) (ms : mS) (D : Int64 × mS) (hD : lm_min Z Z 0 0 (mp_la (mp_la (f_Mo_comes Z (f_Mo_moves Z ms)) 2 0) 3 0) = D) : f_Mo_minute Z ms = mTail Z (mFire (mX D)) := by
  unfold f_Mo_minute mX
  rw [hD]
  by_cases c1 : lg_cmp D.1 (6 * ms_la D.2 2) ≤ 0
  · rw [if_pos c1, if_pos c1]
    generalize hE : mp_la D.2 1 0 = E
    simp only [mTail, mSteam, mFire, updL_eq, b2f, b2t, if_true, if_false, rm_al_al, rm_al_bu, rm_al_la, rm_be_al, rm_be_bu, rm_be_la, rm_bh_al, rm_bh_bu, rm_bh_la, rm_bo_al, rm_bo_bu, rm_bo_la, rm_bu_al, rm_bu_bu, rm_bu_la, rm_hb_al, rm_hb_bu, rm_hb_la, rm_la_al, rm_la_bu, rm_la_la, uL_0_1, uL_0_2, uL_0_3, uL_0_4, uL_0_5, uL_0_6, uL_0_7, uL_0_8, uL_0_9, uL_1_0, uL_1_2, uL_1_3, uL_1_4, uL_1_5, uL_1_6, uL_1_7, uL_1_8, uL_1_9, uL_2_0, uL_2_1, uL_2_3, uL_2_4, uL_2_5, uL_2_6, uL_2_7, uL_2_8, uL_2_9, uL_3_0, uL_3_1, uL_3_2, uL_3_4, uL_3_5, uL_3_6, uL_3_7, uL_3_8, uL_3_9, uL_4_0, uL_4_1, uL_4_2, uL_4_3, uL_4_5, uL_4_6, uL_4_7, uL_4_8, uL_4_9, uL_5_0, uL_5_1, uL_5_2, uL_5_3, uL_5_4, uL_5_6, uL_5_7, uL_5_8, uL_5_9, uL_6_0, uL_6_1, uL_6_2, uL_6_3, uL_6_4, uL_6_5, uL_6_7, uL_6_8, uL_6_9, uL_7_0, uL_7_1, uL_7_2, uL_7_3, uL_7_4, uL_7_5, uL_7_6, uL_7_8, uL_7_9, uL_8_0, uL_8_1, uL_8_2, uL_8_3, uL_8_4, uL_8_5, uL_8_6, uL_8_7, uL_8_9, uL_9_0, uL_9_1, uL_9_2, uL_9_3, uL_9_4, uL_9_5, uL_9_6, uL_9_7, uL_9_8]
    by_cases c2 : b2i (ms_hb E) = 0
    · simp only [c2, if_true, updL_eq, rm_al_al, rm_al_bu, rm_al_la, rm_be_al, rm_be_bu, rm_be_la, rm_bh_al, rm_bh_bu, rm_bh_la, rm_bo_al, rm_bo_bu, rm_bo_la, rm_bu_al, rm_bu_bu, rm_bu_la, rm_hb_al, rm_hb_bu, rm_hb_la, rm_la_al, rm_la_bu, rm_la_la, uL_0_1, uL_0_2, uL_0_3, uL_0_4, uL_0_5, uL_0_6, uL_0_7, uL_0_8, uL_0_9, uL_1_0, uL_1_2, uL_1_3, uL_1_4, uL_1_5, uL_1_6, uL_1_7, uL_1_8, uL_1_9, uL_2_0, uL_2_1, uL_2_3, uL_2_4, uL_2_5, uL_2_6, uL_2_7, uL_2_8, uL_2_9, uL_3_0, uL_3_1, uL_3_2, uL_3_4, uL_3_5, uL_3_6, uL_3_7, uL_3_8, uL_3_9, uL_4_0, uL_4_1, uL_4_2, uL_4_3, uL_4_5, uL_4_6, uL_4_7, uL_4_8, uL_4_9, uL_5_0, uL_5_1, uL_5_2, uL_5_3, uL_5_4, uL_5_6, uL_5_7, uL_5_8, uL_5_9, uL_6_0, uL_6_1, uL_6_2, uL_6_3, uL_6_4, uL_6_5, uL_6_7, uL_6_8, uL_6_9, uL_7_0, uL_7_1, uL_7_2, uL_7_3, uL_7_4, uL_7_5, uL_7_6, uL_7_8, uL_7_9, uL_8_0, uL_8_1, uL_8_2, uL_8_3, uL_8_4, uL_8_5, uL_8_6, uL_8_7, uL_8_9, uL_9_0, uL_9_1, uL_9_2, uL_9_3, uL_9_4, uL_9_5, uL_9_6, uL_9_7, uL_9_8]
    · by_cases c3 : 0 ≤ lg_cmp (ms_al E 9) (ms_be E).toInt64
      · simp only [c2, c3, if_true, if_false, updL_eq, rm_al_al, rm_al_bu, rm_al_la, rm_be_al, rm_be_bu, rm_be_la, rm_bh_al, rm_bh_bu, rm_bh_la, rm_bo_al, rm_bo_bu, rm_bo_la, rm_bu_al, rm_bu_bu, rm_bu_la, rm_hb_al, rm_hb_bu, rm_hb_la, rm_la_al, rm_la_bu, rm_la_la, uL_0_1, uL_0_2, uL_0_3, uL_0_4, uL_0_5, uL_0_6, uL_0_7, uL_0_8, uL_0_9, uL_1_0, uL_1_2, uL_1_3, uL_1_4, uL_1_5, uL_1_6, uL_1_7, uL_1_8, uL_1_9, uL_2_0, uL_2_1, uL_2_3, uL_2_4, uL_2_5, uL_2_6, uL_2_7, uL_2_8, uL_2_9, uL_3_0, uL_3_1, uL_3_2, uL_3_4, uL_3_5, uL_3_6, uL_3_7, uL_3_8, uL_3_9, uL_4_0, uL_4_1, uL_4_2, uL_4_3, uL_4_5, uL_4_6, uL_4_7, uL_4_8, uL_4_9, uL_5_0, uL_5_1, uL_5_2, uL_5_3, uL_5_4, uL_5_6, uL_5_7, uL_5_8, uL_5_9, uL_6_0, uL_6_1, uL_6_2, uL_6_3, uL_6_4, uL_6_5, uL_6_7, uL_6_8, uL_6_9, uL_7_0, uL_7_1, uL_7_2, uL_7_3, uL_7_4, uL_7_5, uL_7_6, uL_7_8, uL_7_9, uL_8_0, uL_8_1, uL_8_2, uL_8_3, uL_8_4, uL_8_5, uL_8_6, uL_8_7, uL_8_9, uL_9_0, uL_9_1, uL_9_2, uL_9_3, uL_9_4, uL_9_5, uL_9_6, uL_9_7, uL_9_8]
      · simp only [c2, c3, if_true, if_false, updL_eq, rm_al_al, rm_al_bu, rm_al_la, rm_be_al, rm_be_bu, rm_be_la, rm_bh_al, rm_bh_bu, rm_bh_la, rm_bo_al, rm_bo_bu, rm_bo_la, rm_bu_al, rm_bu_bu, rm_bu_la, rm_hb_al, rm_hb_bu, rm_hb_la, rm_la_al, rm_la_bu, rm_la_la, uL_0_1, uL_0_2, uL_0_3, uL_0_4, uL_0_5, uL_0_6, uL_0_7, uL_0_8, uL_0_9, uL_1_0, uL_1_2, uL_1_3, uL_1_4, uL_1_5, uL_1_6, uL_1_7, uL_1_8, uL_1_9, uL_2_0, uL_2_1, uL_2_3, uL_2_4, uL_2_5, uL_2_6, uL_2_7, uL_2_8, uL_2_9, uL_3_0, uL_3_1, uL_3_2, uL_3_4, uL_3_5, uL_3_6, uL_3_7, uL_3_8, uL_3_9, uL_4_0, uL_4_1, uL_4_2, uL_4_3, uL_4_5, uL_4_6, uL_4_7, uL_4_8, uL_4_9, uL_5_0, uL_5_1, uL_5_2, uL_5_3, uL_5_4, uL_5_6, uL_5_7, uL_5_8, uL_5_9, uL_6_0, uL_6_1, uL_6_2, uL_6_3, uL_6_4, uL_6_5, uL_6_7, uL_6_8, uL_6_9, uL_7_0, uL_7_1, uL_7_2, uL_7_3, uL_7_4, uL_7_5, uL_7_6, uL_7_8, uL_7_9, uL_8_0, uL_8_1, uL_8_2, uL_8_3, uL_8_4, uL_8_5, uL_8_6, uL_8_7, uL_8_9, uL_9_0, uL_9_1, uL_9_2, uL_9_3, uL_9_4, uL_9_5, uL_9_6, uL_9_7, uL_9_8]
  · rw [if_neg c1, if_neg c1]
    generalize hE : mp_la D.2 1 (D.1 - 6 * ms_la D.2 2) = E
    simp only [mTail, mSteam, mFire, updL_eq, b2f, b2t, if_true, if_false, rm_al_al, rm_al_bu, rm_al_la, rm_be_al, rm_be_bu, rm_be_la, rm_bh_al, rm_bh_bu, rm_bh_la, rm_bo_al, rm_bo_bu, rm_bo_la, rm_bu_al, rm_bu_bu, rm_bu_la, rm_hb_al, rm_hb_bu, rm_hb_la, rm_la_al, rm_la_bu, rm_la_la, uL_0_1, uL_0_2, uL_0_3, uL_0_4, uL_0_5, uL_0_6, uL_0_7, uL_0_8, uL_0_9, uL_1_0, uL_1_2, uL_1_3, uL_1_4, uL_1_5, uL_1_6, uL_1_7, uL_1_8, uL_1_9, uL_2_0, uL_2_1, uL_2_3, uL_2_4, uL_2_5, uL_2_6, uL_2_7, uL_2_8, uL_2_9, uL_3_0, uL_3_1, uL_3_2, uL_3_4, uL_3_5, uL_3_6, uL_3_7, uL_3_8, uL_3_9, uL_4_0, uL_4_1, uL_4_2, uL_4_3, uL_4_5, uL_4_6, uL_4_7, uL_4_8, uL_4_9, uL_5_0, uL_5_1, uL_5_2, uL_5_3, uL_5_4, uL_5_6, uL_5_7, uL_5_8, uL_5_9, uL_6_0, uL_6_1, uL_6_2, uL_6_3, uL_6_4, uL_6_5, uL_6_7, uL_6_8, uL_6_9, uL_7_0, uL_7_1, uL_7_2, uL_7_3, uL_7_4, uL_7_5, uL_7_6, uL_7_8, uL_7_9, uL_8_0, uL_8_1, uL_8_2, uL_8_3, uL_8_4, uL_8_5, uL_8_6, uL_8_7, uL_8_9, uL_9_0, uL_9_1, uL_9_2, uL_9_3, uL_9_4, uL_9_5, uL_9_6, uL_9_7, uL_9_8]
    by_cases c2 : b2i (ms_hb E) = 0
    · simp only [c2, if_true, updL_eq, rm_al_al, rm_al_bu, rm_al_la, rm_be_al, rm_be_bu, rm_be_la, rm_bh_al, rm_bh_bu, rm_bh_la, rm_bo_al, rm_bo_bu, rm_bo_la, rm_bu_al, rm_bu_bu, rm_bu_la, rm_hb_al, rm_hb_bu, rm_hb_la, rm_la_al, rm_la_bu, rm_la_la, uL_0_1, uL_0_2, uL_0_3, uL_0_4, uL_0_5, uL_0_6, uL_0_7, uL_0_8, uL_0_9, uL_1_0, uL_1_2, uL_1_3, uL_1_4, uL_1_5, uL_1_6, uL_1_7, uL_1_8, uL_1_9, uL_2_0, uL_2_1, uL_2_3, uL_2_4, uL_2_5, uL_2_6, uL_2_7, uL_2_8, uL_2_9, uL_3_0, uL_3_1, uL_3_2, uL_3_4, uL_3_5, uL_3_6, uL_3_7, uL_3_8, uL_3_9, uL_4_0, uL_4_1, uL_4_2, uL_4_3, uL_4_5, uL_4_6, uL_4_7, uL_4_8, uL_4_9, uL_5_0, uL_5_1, uL_5_2, uL_5_3, uL_5_4, uL_5_6, uL_5_7, uL_5_8, uL_5_9, uL_6_0, uL_6_1, uL_6_2, uL_6_3, uL_6_4, uL_6_5, uL_6_7, uL_6_8, uL_6_9, uL_7_0, uL_7_1, uL_7_2, uL_7_3, uL_7_4, uL_7_5, uL_7_6, uL_7_8, uL_7_9, uL_8_0, uL_8_1, uL_8_2, uL_8_3, uL_8_4, uL_8_5, uL_8_6, uL_8_7, uL_8_9, uL_9_0, uL_9_1, uL_9_2, uL_9_3, uL_9_4, uL_9_5, uL_9_6, uL_9_7, uL_9_8]
    · by_cases c3 : 0 ≤ lg_cmp (ms_al E 9) (ms_be E).toInt64
      · simp only [c2, c3, if_true, if_false, updL_eq, rm_al_al, rm_al_bu, rm_al_la, rm_be_al, rm_be_bu, rm_be_la, rm_bh_al, rm_bh_bu, rm_bh_la, rm_bo_al, rm_bo_bu, rm_bo_la, rm_bu_al, rm_bu_bu, rm_bu_la, rm_hb_al, rm_hb_bu, rm_hb_la, rm_la_al, rm_la_bu, rm_la_la, uL_0_1, uL_0_2, uL_0_3, uL_0_4, uL_0_5, uL_0_6, uL_0_7, uL_0_8, uL_0_9, uL_1_0, uL_1_2, uL_1_3, uL_1_4, uL_1_5, uL_1_6, uL_1_7, uL_1_8, uL_1_9, uL_2_0, uL_2_1, uL_2_3, uL_2_4, uL_2_5, uL_2_6, uL_2_7, uL_2_8, uL_2_9, uL_3_0, uL_3_1, uL_3_2, uL_3_4, uL_3_5, uL_3_6, uL_3_7, uL_3_8, uL_3_9, uL_4_0, uL_4_1, uL_4_2, uL_4_3, uL_4_5, uL_4_6, uL_4_7, uL_4_8, uL_4_9, uL_5_0, uL_5_1, uL_5_2, uL_5_3, uL_5_4, uL_5_6, uL_5_7, uL_5_8, uL_5_9, uL_6_0, uL_6_1, uL_6_2, uL_6_3, uL_6_4, uL_6_5, uL_6_7, uL_6_8, uL_6_9, uL_7_0, uL_7_1, uL_7_2, uL_7_3, uL_7_4, uL_7_5, uL_7_6, uL_7_8, uL_7_9, uL_8_0, uL_8_1, uL_8_2, uL_8_3, uL_8_4, uL_8_5, uL_8_6, uL_8_7, uL_8_9, uL_9_0, uL_9_1, uL_9_2, uL_9_3, uL_9_4, uL_9_5, uL_9_6, uL_9_7, uL_9_8]
      · simp only [c2, c3, if_true, if_false, updL_eq, rm_al_al, rm_al_bu, rm_al_la, rm_be_al, rm_be_bu, rm_be_la, rm_bh_al, rm_bh_bu, rm_bh_la, rm_bo_al, rm_bo_bu, rm_bo_la, rm_bu_al, rm_bu_bu, rm_bu_la, rm_hb_al, rm_hb_bu, rm_hb_la, rm_la_al, rm_la_bu, rm_la_la, uL_0_1, uL_0_2, uL_0_3, uL_0_4, uL_0_5, uL_0_6, uL_0_7, uL_0_8, uL_0_9, uL_1_0, uL_1_2, uL_1_3, uL_1_4, uL_1_5, uL_1_6, uL_1_7, uL_1_8, uL_1_9, uL_2_0, uL_2_1, uL_2_3, uL_2_4, uL_2_5, uL_2_6, uL_2_7, uL_2_8, uL_2_9, uL_3_0, uL_3_1, uL_3_2, uL_3_4, uL_3_5, uL_3_6, uL_3_7, uL_3_8, uL_3_9, uL_4_0, uL_4_1, uL_4_2, uL_4_3, uL_4_5, uL_4_6, uL_4_7, uL_4_8, uL_4_9, uL_5_0, uL_5_1, uL_5_2, uL_5_3, uL_5_4, uL_5_6, uL_5_7, uL_5_8, uL_5_9, uL_6_0, uL_6_1, uL_6_2, uL_6_3, uL_6_4, uL_6_5, uL_6_7, uL_6_8, uL_6_9, uL_7_0, uL_7_1, uL_7_2, uL_7_3, uL_7_4, uL_7_5, uL_7_6, uL_7_8, uL_7_9, uL_8_0, uL_8_1, uL_8_2, uL_8_3, uL_8_4, uL_8_5, uL_8_6, uL_8_7, uL_8_9, uL_9_0, uL_9_1, uL_9_2, uL_9_3, uL_9_4, uL_9_5, uL_9_6, uL_9_7, uL_9_8]
theorem siE_mi {Z : Nat} {t : Int32} {d b : Int64} {st : xS} {ms : mS} (h : siE Z t d b st ms) : siE Z (t + 1) d b (st) (mp_mi ms (ms_mi ms + 1)) := by
  obtain ⟨hK, hG, hT, hH, hL, hC, hM, hA, hZ, hD, hN, hI⟩ := h
  refine ⟨?_, ?_, ?_, ?_, ?_, ?_, ?_, ?_, ?_, ?_, ?_, ?_⟩
  · simp only [fm_K_mi]
    exact hK
  · simp only [fm_G_mi]
    exact hG
  · simp only [fm_T_mi]
    exact hT
  · simp only [fm_H_mi]
    exact hH
  · simp only [fm_L_mi]
    exact hL
  · simp only [fm_C_mi]
    exact hC
  · simp only [fm_M_mi]
    exact hM
  · simp only [fm_A_mi]
    exact hA
  · simp only [fm_Z_mi]
    exact hZ
  · simp only [fm_D_mi]
    exact hD
  · simp only [fm_N_mi]
    exact hN
  · simp only [siI, rm_mi_mi]
    rw [← Int32.add_assoc]
    exact congrArg (· + 1) hI
theorem siB_mi {Z : Nat} {B : Int} {v : Int32} {ms : mS} (hB : siB Z B ms) : siB Z B (mp_mi ms v) := by
  obtain ⟨bK, bM, bF⟩ := hB
  refine ⟨?_, ?_, ?_⟩
  · simp only [fb_K_mi]
    exact bK
  · simp only [fb_M_mi]
    exact bM
  · simp only [fb_F_mi]
    exact bF
theorem mi_ok {Z : Nat} {t : Int32} {B : Int} {st : xS} {ms : mS} (hZ : 1 ≤ Z ∧ Z ≤ 6) (hb : B ≤ 100000000) (h : siE Z t 0 0 st ms) (hB : siB Z B ms) : siE Z (t + 1) 0 0 (f_GL_passMinute Z st) (f_Mo_minute Z ms) ∧ siB Z B (f_Mo_minute Z ms) := by
  obtain ⟨h1, b1⟩ := mv_ok hZ hb Z (Nat.le_refl _) st ms h hB
  obtain ⟨h2, b2⟩ := fe_ok (show 0 < Z by omega) hb 4 0 (by decide) _ _ h1 b1
  have h3 := siE_S h2
  have b3 := siB_S b2
  have o3 : obO 0 0 (mp_la (mp_la (lm_comes Z 4 0 (lm_moves Z Z ms)) 2 0) 3 0) := by
    unfold obO
    rw [show ms_la (mp_la (mp_la (lm_comes Z 4 0 (lm_moves Z Z ms)) 2 0) 3 0) 2 = 0 by simp only [updL_eq, rm_la_la, uL_0_1, uL_0_2, uL_0_3, uL_0_4, uL_0_5, uL_0_6, uL_0_7, uL_0_8, uL_0_9, uL_1_0, uL_1_2, uL_1_3, uL_1_4, uL_1_5, uL_1_6, uL_1_7, uL_1_8, uL_1_9, uL_2_0, uL_2_1, uL_2_3, uL_2_4, uL_2_5, uL_2_6, uL_2_7, uL_2_8, uL_2_9, uL_3_0, uL_3_1, uL_3_2, uL_3_4, uL_3_5, uL_3_6, uL_3_7, uL_3_8, uL_3_9, uL_4_0, uL_4_1, uL_4_2, uL_4_3, uL_4_5, uL_4_6, uL_4_7, uL_4_8, uL_4_9, uL_5_0, uL_5_1, uL_5_2, uL_5_3, uL_5_4, uL_5_6, uL_5_7, uL_5_8, uL_5_9, uL_6_0, uL_6_1, uL_6_2, uL_6_3, uL_6_4, uL_6_5, uL_6_7, uL_6_8, uL_6_9, uL_7_0, uL_7_1, uL_7_2, uL_7_3, uL_7_4, uL_7_5, uL_7_6, uL_7_8, uL_7_9, uL_8_0, uL_8_1, uL_8_2, uL_8_3, uL_8_4, uL_8_5, uL_8_6, uL_8_7, uL_8_9, uL_9_0, uL_9_1, uL_9_2, uL_9_3, uL_9_4, uL_9_5, uL_9_6, uL_9_7, uL_9_8], i64z]
    decide
  obtain ⟨q1, q2, q3, q4⟩ := bu_ok hZ.2 hb Z 0 (Nat.zero_add _) 0 _ _ h3 b3 o3
  rw [minute_s Z ms _ rfl]
  unfold f_GL_passMinute
  rw [obey_s, steam_s, fire_s, dab_s Z _ _ rfl]
  unfold mTail f_GL_feedGrate f_Gr_moveOn f_Mo_comes f_Mo_moves
  have h5 := siE_St (siE_Fi (siE_X hZ.2 q1 q4 q2))
  have b5 := siB_St (siB_Fi (siB_X q3))
  obtain ⟨h6, b6⟩ := siE_bl h5 b5
  obtain ⟨h7, b7⟩ := siE_cm h6 b6
  exact ⟨siE_mi h7, siB_mi b7⟩
theorem run_ok {Z : Nat} {B : Int} (mn1 mn2 : Nat) (hZ : 1 ≤ Z ∧ Z ≤ 6) (hb : B ≤ 100000000) : ∀ (n j1 j2 : Nat) (t : Int32) (st : xS) (ms : mS), siE Z t 0 0 st ms → siB Z B ms → siE Z (t + nI n) 0 0 (lp_run Z mn1 n j1 st) (lm_run Z mn2 n j2 ms) ∧ siB Z B (lm_run Z mn2 n j2 ms)
  | 0, _, _, t, st, ms, h, hB => by
    rw [show t + nI 0 = t from Int32.add_zero t]
    exact ⟨h, hB⟩
  | n + 1, j1, j2, t, st, ms, h, hB => by
    obtain ⟨h1, b1⟩ := mi_ok hZ hb h hB
    rw [lp_run, lm_run]
    have e : t + nI (n + 1) = t + 1 + nI n := by
      rw [show nI (n + 1) = nI n + 1 from Int32.ofNat_add n 1, Int32.add_assoc, Int32.add_comm 1 (nI n)]
    rw [e]
    exact run_ok mn1 mn2 hZ hb n (j1 + 1) (j2 + 1) (t + 1) _ _ h1 b1
