theorem rx_dA_ox {st : xS} {v : Int64} : xs_dA (xp_ox st v) = xs_dA st := (rfl)
theorem rx_dA_dA {st : xS} {v : Int64} : xs_dA (xp_dA st v) = v := (rfl)
theorem rx_dA_bA {st : xS} {v : Int64} : xs_dA (xp_bA st v) = xs_dA st := (rfl)
theorem rx_dr_ox {st : xS} {v : Int64} : xs_dr (xp_ox st v) = xs_dr st := (rfl)
theorem rx_dr_dA {st : xS} {v : Int64} : xs_dr (xp_dA st v) = xs_dr st := (rfl)
theorem rx_dr_bA {st : xS} {v : Int64} : xs_dr (xp_bA st v) = xs_dr st := (rfl)
theorem rx_bA_ox {st : xS} {v : Int64} : xs_bA (xp_ox st v) = xs_bA st := (rfl)
theorem rx_bA_dA {st : xS} {v : Int64} : xs_bA (xp_dA st v) = xs_bA st := (rfl)
theorem rx_bA_bA {st : xS} {v : Int64} : xs_bA (xp_bA st v) = v := (rfl)
theorem rx_bu_ox {st : xS} {v : Int64} : xs_bu (xp_ox st v) = xs_bu st := (rfl)
theorem rx_bu_dA {st : xS} {v : Int64} : xs_bu (xp_dA st v) = xs_bu st := (rfl)
theorem rx_bu_bA {st : xS} {v : Int64} : xs_bu (xp_bA st v) = xs_bu st := (rfl)
theorem fx_H_dr {st : xS} {ms : mS} {v : Int64} : siH (xp_dr st v) ms = siH st ms := (rfl)
theorem fm_H_la {st : xS} {ms : mS} {j : Nat} {v : Int64} : siH st (mp_la ms j v) = siH st ms := (rfl)
theorem fx_Z_dr {st : xS} {ms : mS} {Z : Nat} {v : Int64} : siZ Z (xp_dr st v) ms = siZ Z st ms := (rfl)
theorem fm_Z_la {st : xS} {ms : mS} {Z : Nat} {j : Nat} {v : Int64} : siZ Z st (mp_la ms j v) = siZ Z st ms := (rfl)
theorem fx_D_dr {st : xS} {ms : mS} {d : Int64} {v : Int64} : siD d (xp_dr st v) ms = siD d st ms := (rfl)
theorem fx_K_ox {st : xS} {ms : mS} {v : Int64} : siK (xp_ox st v) ms = siK st ms := (rfl)
theorem fx_K_dA {st : xS} {ms : mS} {v : Int64} : siK (xp_dA st v) ms = siK st ms := (rfl)
theorem fx_K_bA {st : xS} {ms : mS} {v : Int64} : siK (xp_bA st v) ms = siK st ms := (rfl)
theorem fx_G_ox {st : xS} {ms : mS} {v : Int64} : siG (xp_ox st v) ms = siG st ms := (rfl)
theorem fx_G_dA {st : xS} {ms : mS} {v : Int64} : siG (xp_dA st v) ms = siG st ms := (rfl)
theorem fx_G_bA {st : xS} {ms : mS} {v : Int64} : siG (xp_bA st v) ms = siG st ms := (rfl)
theorem fx_T_ox {st : xS} {ms : mS} {Z : Nat} {v : Int64} : siT Z (xp_ox st v) ms = siT Z st ms := (rfl)
theorem fx_T_dA {st : xS} {ms : mS} {Z : Nat} {v : Int64} : siT Z (xp_dA st v) ms = siT Z st ms := (rfl)
theorem fx_T_bA {st : xS} {ms : mS} {Z : Nat} {v : Int64} : siT Z (xp_bA st v) ms = siT Z st ms := (rfl)
theorem fx_H_ox {st : xS} {ms : mS} {v : Int64} : siH (xp_ox st v) ms = siH st ms := (rfl)
theorem fx_H_dA {st : xS} {ms : mS} {v : Int64} : siH (xp_dA st v) ms = siH st ms := (rfl)
theorem fx_H_bA {st : xS} {ms : mS} {v : Int64} : siH (xp_bA st v) ms = siH st ms := (rfl)
theorem rx_sm_ox {st : xS} {v : Int64} : xs_sm (xp_ox st v) = xs_sm st := (rfl)
theorem rx_sm_dA {st : xS} {v : Int64} : xs_sm (xp_dA st v) = xs_sm st := (rfl)
theorem rx_sm_bA {st : xS} {v : Int64} : xs_sm (xp_bA st v) = xs_sm st := (rfl)
theorem rx_ox_ox {st : xS} {v : Int64} : xs_ox (xp_ox st v) = v := (rfl)
theorem rx_ox_dA {st : xS} {v : Int64} : xs_ox (xp_dA st v) = xs_ox st := (rfl)
theorem rx_ox_bA {st : xS} {v : Int64} : xs_ox (xp_bA st v) = xs_ox st := (rfl)
theorem rx_bb_ox {st : xS} {v : Int64} : xs_bb (xp_ox st v) = xs_bb st := (rfl)
theorem rx_bb_dA {st : xS} {v : Int64} : xs_bb (xp_dA st v) = xs_bb st := (rfl)
theorem rx_bb_bA {st : xS} {v : Int64} : xs_bb (xp_bA st v) = xs_bb st := (rfl)
theorem fx_C_ox {st : xS} {ms : mS} {v : Int64} : siC (xp_ox st v) ms = siC st ms := (rfl)
theorem fx_C_dA {st : xS} {ms : mS} {v : Int64} : siC (xp_dA st v) ms = siC st ms := (rfl)
theorem fx_C_bA {st : xS} {ms : mS} {v : Int64} : siC (xp_bA st v) ms = siC st ms := (rfl)
theorem fx_M_ox {st : xS} {ms : mS} {Z : Nat} {v : Int64} : siM Z (xp_ox st v) ms = siM Z st ms := (rfl)
theorem fx_M_dA {st : xS} {ms : mS} {Z : Nat} {v : Int64} : siM Z (xp_dA st v) ms = siM Z st ms := (rfl)
theorem fx_M_bA {st : xS} {ms : mS} {Z : Nat} {v : Int64} : siM Z (xp_bA st v) ms = siM Z st ms := (rfl)
theorem fx_A_ox {st : xS} {ms : mS} {v : Int64} : siA (xp_ox st v) ms = siA st ms := (rfl)
theorem fx_A_dA {st : xS} {ms : mS} {v : Int64} : siA (xp_dA st v) ms = siA st ms := (rfl)
theorem fx_A_bA {st : xS} {ms : mS} {v : Int64} : siA (xp_bA st v) ms = siA st ms := (rfl)
theorem fx_Z_ox {st : xS} {ms : mS} {Z : Nat} {v : Int64} : siZ Z (xp_ox st v) ms = siZ Z st ms := (rfl)
theorem fx_Z_dA {st : xS} {ms : mS} {Z : Nat} {v : Int64} : siZ Z (xp_dA st v) ms = siZ Z st ms := (rfl)
theorem fx_Z_bA {st : xS} {ms : mS} {Z : Nat} {v : Int64} : siZ Z (xp_bA st v) ms = siZ Z st ms := (rfl)
theorem fx_I_ox {st : xS} {ms : mS} {t : Int32} {v : Int64} : siI t (xp_ox st v) ms = siI t st ms := (rfl)
theorem fx_I_dA {st : xS} {ms : mS} {t : Int32} {v : Int64} : siI t (xp_dA st v) ms = siI t st ms := (rfl)
theorem fx_I_bA {st : xS} {ms : mS} {t : Int32} {v : Int64} : siI t (xp_bA st v) ms = siI t st ms := (rfl)
theorem rx_bb_bb {st : xS} {v : Bool} : xs_bb (xp_bb st v) = v := (rfl)
theorem rx_bb_nA {st : xS} {v : Int64} : xs_bb (xp_nA st v) = xs_bb st := (rfl)
theorem rx_he_bb {st : xS} {v : Bool} : xs_he (xp_bb st v) = xs_he st := (rfl)
theorem rx_he_nA {st : xS} {v : Int64} : xs_he (xp_nA st v) = xs_he st := (rfl)
theorem rx_bh_bb {st : xS} {v : Bool} : xs_bh (xp_bb st v) = xs_bh st := (rfl)
theorem rx_bh_he {st : xS} {v : Int64} : xs_bh (xp_he st v) = xs_bh st := (rfl)
theorem rx_bh_nA {st : xS} {v : Int64} : xs_bh (xp_nA st v) = xs_bh st := (rfl)
theorem rx_nA_bb {st : xS} {v : Bool} : xs_nA (xp_bb st v) = xs_nA st := (rfl)
theorem rx_nA_nA {st : xS} {v : Int64} : xs_nA (xp_nA st v) = v := (rfl)
theorem fx_K_bb {st : xS} {ms : mS} {v : Bool} : siK (xp_bb st v) ms = siK st ms := (rfl)
theorem fm_K_bu {st : xS} {ms : mS} {v : Bool} : siK st (mp_bu ms v) = siK st ms := (rfl)
theorem fx_G_bb {st : xS} {ms : mS} {v : Bool} : siG (xp_bb st v) ms = siG st ms := (rfl)
theorem fm_G_bu {st : xS} {ms : mS} {v : Bool} : siG st (mp_bu ms v) = siG st ms := (rfl)
theorem fx_T_bb {st : xS} {ms : mS} {Z : Nat} {v : Bool} : siT Z (xp_bb st v) ms = siT Z st ms := (rfl)
theorem fm_T_bu {st : xS} {ms : mS} {Z : Nat} {v : Bool} : siT Z st (mp_bu ms v) = siT Z st ms := (rfl)
theorem fx_H_bb {st : xS} {ms : mS} {v : Bool} : siH (xp_bb st v) ms = siH st ms := (rfl)
theorem fm_H_bu {st : xS} {ms : mS} {v : Bool} : siH st (mp_bu ms v) = siH st ms := (rfl)
theorem rx_sm_bb {st : xS} {v : Bool} : xs_sm (xp_bb st v) = xs_sm st := (rfl)
theorem rx_ox_bb {st : xS} {v : Bool} : xs_ox (xp_bb st v) = xs_ox st := (rfl)
theorem rx_bu_bb {st : xS} {v : Bool} : xs_bu (xp_bb st v) = xs_bu st := (rfl)
theorem rx_dr_bb {st : xS} {v : Bool} : xs_dr (xp_bb st v) = xs_dr st := (rfl)
theorem rm_bu_bu {st : mS} {v : Bool} : ms_bu (mp_bu st v) = v := (rfl)
theorem rm_la_bu {st : mS} {v : Bool} : ms_la (mp_bu st v) = ms_la st := (rfl)
theorem fx_C_bb {st : xS} {ms : mS} {v : Bool} : siC (xp_bb st v) ms = siC st ms := (rfl)
theorem fm_C_bu {st : xS} {ms : mS} {v : Bool} : siC st (mp_bu ms v) = siC st ms := (rfl)
theorem fx_M_bb {st : xS} {ms : mS} {Z : Nat} {v : Bool} : siM Z (xp_bb st v) ms = siM Z st ms := (rfl)
theorem fm_M_bu {st : xS} {ms : mS} {Z : Nat} {v : Bool} : siM Z st (mp_bu ms v) = siM Z st ms := (rfl)
theorem fx_A_bb {st : xS} {ms : mS} {v : Bool} : siA (xp_bb st v) ms = siA st ms := (rfl)
theorem fm_A_bu {st : xS} {ms : mS} {v : Bool} : siA st (mp_bu ms v) = siA st ms := (rfl)
theorem fx_Z_bb {st : xS} {ms : mS} {Z : Nat} {v : Bool} : siZ Z (xp_bb st v) ms = siZ Z st ms := (rfl)
theorem fm_Z_bu {st : xS} {ms : mS} {Z : Nat} {v : Bool} : siZ Z st (mp_bu ms v) = siZ Z st ms := (rfl)
theorem fx_D_bb {st : xS} {ms : mS} {d : Int64} {v : Bool} : siD d (xp_bb st v) ms = siD d st ms := (rfl)
theorem fm_D_bu {st : xS} {ms : mS} {d : Int64} {v : Bool} : siD d st (mp_bu ms v) = siD d st ms := (rfl)
theorem fx_N_bb {st : xS} {ms : mS} {d : Int64} {v : Bool} : siN d (xp_bb st v) ms = siN d st ms := (rfl)
theorem fm_N_bu {st : xS} {ms : mS} {d : Int64} {v : Bool} : siN d st (mp_bu ms v) = siN d st ms := (rfl)
theorem fx_I_bb {st : xS} {ms : mS} {t : Int32} {v : Bool} : siI t (xp_bb st v) ms = siI t st ms := (rfl)
theorem fm_I_bu {st : xS} {ms : mS} {t : Int32} {v : Bool} : siI t st (mp_bu ms v) = siI t st ms := (rfl)
theorem fx_K_nA {st : xS} {ms : mS} {v : Int64} : siK (xp_nA st v) ms = siK st ms := (rfl)
theorem fm_K_al6 {st : xS} {ms : mS} {v : Int64} : siK st (mp_al ms 6 v) = siK st ms := (rfl)
theorem fx_G_nA {st : xS} {ms : mS} {v : Int64} : siG (xp_nA st v) ms = siG st ms := (rfl)
theorem fx_T_nA {st : xS} {ms : mS} {Z : Nat} {v : Int64} : siT Z (xp_nA st v) ms = siT Z st ms := (rfl)
theorem rx_fA_bb {st : xS} {v : Bool} : xs_fA (xp_bb st v) = xs_fA st := (rfl)
theorem rx_fA_nA {st : xS} {v : Int64} : xs_fA (xp_nA st v) = xs_fA st := (rfl)
theorem rx_sA_bb {st : xS} {v : Bool} : xs_sA (xp_bb st v) = xs_sA st := (rfl)
theorem rx_sA_nA {st : xS} {v : Int64} : xs_sA (xp_nA st v) = xs_sA st := (rfl)
theorem rx_yA_bb {st : xS} {v : Bool} : xs_yA (xp_bb st v) = xs_yA st := (rfl)
theorem rx_yA_nA {st : xS} {v : Int64} : xs_yA (xp_nA st v) = xs_yA st := (rfl)
theorem rm_al_bu {st : mS} {v : Bool} : ms_al (mp_bu st v) = ms_al st := (rfl)
theorem rx_sm_nA {st : xS} {v : Int64} : xs_sm (xp_nA st v) = xs_sm st := (rfl)
theorem rx_ox_nA {st : xS} {v : Int64} : xs_ox (xp_nA st v) = xs_ox st := (rfl)
theorem rx_bu_nA {st : xS} {v : Int64} : xs_bu (xp_nA st v) = xs_bu st := (rfl)
theorem rx_dr_nA {st : xS} {v : Int64} : xs_dr (xp_nA st v) = xs_dr st := (rfl)
theorem fx_C_nA {st : xS} {ms : mS} {v : Int64} : siC (xp_nA st v) ms = siC st ms := (rfl)
theorem fx_M_nA {st : xS} {ms : mS} {Z : Nat} {v : Int64} : siM Z (xp_nA st v) ms = siM Z st ms := (rfl)
theorem fx_A_nA {st : xS} {ms : mS} {v : Int64} : siA (xp_nA st v) ms = siA st ms := (rfl)
theorem fm_A_al6 {st : xS} {ms : mS} {v : Int64} : siA st (mp_al ms 6 v) = siA st ms := (rfl)
theorem fx_Z_he {st : xS} {ms : mS} {Z : Nat} {v : Int64} : siZ Z (xp_he st v) ms = siZ Z st ms := (rfl)
theorem fx_Z_nA {st : xS} {ms : mS} {Z : Nat} {v : Int64} : siZ Z (xp_nA st v) ms = siZ Z st ms := (rfl)
theorem fx_D_nA {st : xS} {ms : mS} {d : Int64} {v : Int64} : siD d (xp_nA st v) ms = siD d st ms := (rfl)
theorem fm_D_al6 {st : xS} {ms : mS} {d : Int64} {v : Int64} : siD d st (mp_al ms 6 v) = siD d st ms := (rfl)
theorem fx_N_nA {st : xS} {ms : mS} {d : Int64} {v : Int64} : siN d (xp_nA st v) ms = siN d st ms := (rfl)
theorem fm_N_al6 {st : xS} {ms : mS} {d : Int64} {v : Int64} : siN d st (mp_al ms 6 v) = siN d st ms := (rfl)
theorem fx_I_nA {st : xS} {ms : mS} {t : Int32} {v : Int64} : siI t (xp_nA st v) ms = siI t st ms := (rfl)
theorem fb_K_bu {ms : mS} {Z : Nat} {v : Bool} : sbK Z (mp_bu ms v) = sbK Z ms := (rfl)
theorem fb_M_bu {ms : mS} {Z : Nat} {v : Bool} : sbM Z (mp_bu ms v) = sbM Z ms := (rfl)
theorem fb_F_bu {ms : mS} {Z : Nat} {B : Int} {v : Bool} : sbF Z B (mp_bu ms v) = sbF Z B ms := (rfl)
theorem rx_sm_sm {st : xS} {v : Int64} : xs_sm (xp_sm st v) = v := (rfl)
theorem rx_sm_sA {st : xS} {v : Int64} : xs_sm (xp_sA st v) = xs_sm st := (rfl)
theorem rx_he_sm {st : xS} {v : Int64} : xs_he (xp_sm st v) = xs_he st := (rfl)
theorem rx_he_sA {st : xS} {v : Int64} : xs_he (xp_sA st v) = xs_he st := (rfl)
theorem rx_sA_sm {st : xS} {v : Int64} : xs_sA (xp_sm st v) = xs_sA st := (rfl)
theorem rx_sA_sA {st : xS} {v : Int64} : xs_sA (xp_sA st v) = v := (rfl)
theorem rx_bo_sm {st : xS} {v : Int64} : xs_bo (xp_sm st v) = xs_bo st := (rfl)
theorem rx_bo_he {st : xS} {v : Int64} : xs_bo (xp_he st v) = xs_bo st := (rfl)
theorem rx_bo_sA {st : xS} {v : Int64} : xs_bo (xp_sA st v) = xs_bo st := (rfl)
theorem fx_K_sm {st : xS} {ms : mS} {v : Int64} : siK (xp_sm st v) ms = siK st ms := (rfl)
theorem fx_K_sA {st : xS} {ms : mS} {v : Int64} : siK (xp_sA st v) ms = siK st ms := (rfl)
theorem fm_K_al7 {st : xS} {ms : mS} {v : Int64} : siK st (mp_al ms 7 v) = siK st ms := (rfl)
theorem fx_G_sm {st : xS} {ms : mS} {v : Int64} : siG (xp_sm st v) ms = siG st ms := (rfl)
theorem fx_G_sA {st : xS} {ms : mS} {v : Int64} : siG (xp_sA st v) ms = siG st ms := (rfl)
theorem fx_T_sm {st : xS} {ms : mS} {Z : Nat} {v : Int64} : siT Z (xp_sm st v) ms = siT Z st ms := (rfl)
theorem fx_T_sA {st : xS} {ms : mS} {Z : Nat} {v : Int64} : siT Z (xp_sA st v) ms = siT Z st ms := (rfl)
theorem rx_fA_sm {st : xS} {v : Int64} : xs_fA (xp_sm st v) = xs_fA st := (rfl)
theorem rx_fA_sA {st : xS} {v : Int64} : xs_fA (xp_sA st v) = xs_fA st := (rfl)
theorem rx_nA_sm {st : xS} {v : Int64} : xs_nA (xp_sm st v) = xs_nA st := (rfl)
theorem rx_nA_sA {st : xS} {v : Int64} : xs_nA (xp_sA st v) = xs_nA st := (rfl)
theorem rx_yA_sm {st : xS} {v : Int64} : xs_yA (xp_sm st v) = xs_yA st := (rfl)
theorem rx_yA_sA {st : xS} {v : Int64} : xs_yA (xp_sA st v) = xs_yA st := (rfl)
theorem rx_ox_sm {st : xS} {v : Int64} : xs_ox (xp_sm st v) = xs_ox st := (rfl)
theorem rx_ox_sA {st : xS} {v : Int64} : xs_ox (xp_sA st v) = xs_ox st := (rfl)
theorem rx_bu_sm {st : xS} {v : Int64} : xs_bu (xp_sm st v) = xs_bu st := (rfl)
theorem rx_bu_sA {st : xS} {v : Int64} : xs_bu (xp_sA st v) = xs_bu st := (rfl)
theorem rx_dr_sm {st : xS} {v : Int64} : xs_dr (xp_sm st v) = xs_dr st := (rfl)
theorem rx_dr_sA {st : xS} {v : Int64} : xs_dr (xp_sA st v) = xs_dr st := (rfl)
theorem rx_bb_sm {st : xS} {v : Int64} : xs_bb (xp_sm st v) = xs_bb st := (rfl)
theorem rx_bb_sA {st : xS} {v : Int64} : xs_bb (xp_sA st v) = xs_bb st := (rfl)
theorem fx_C_sm {st : xS} {ms : mS} {v : Int64} : siC (xp_sm st v) ms = siC st ms := (rfl)
theorem fx_C_sA {st : xS} {ms : mS} {v : Int64} : siC (xp_sA st v) ms = siC st ms := (rfl)
theorem fx_M_sm {st : xS} {ms : mS} {Z : Nat} {v : Int64} : siM Z (xp_sm st v) ms = siM Z st ms := (rfl)
theorem fx_M_sA {st : xS} {ms : mS} {Z : Nat} {v : Int64} : siM Z (xp_sA st v) ms = siM Z st ms := (rfl)
theorem fx_A_sm {st : xS} {ms : mS} {v : Int64} : siA (xp_sm st v) ms = siA st ms := (rfl)
theorem fx_A_sA {st : xS} {ms : mS} {v : Int64} : siA (xp_sA st v) ms = siA st ms := (rfl)
theorem fm_A_al7 {st : xS} {ms : mS} {v : Int64} : siA st (mp_al ms 7 v) = siA st ms := (rfl)
theorem fx_Z_sm {st : xS} {ms : mS} {Z : Nat} {v : Int64} : siZ Z (xp_sm st v) ms = siZ Z st ms := (rfl)
theorem fx_Z_sA {st : xS} {ms : mS} {Z : Nat} {v : Int64} : siZ Z (xp_sA st v) ms = siZ Z st ms := (rfl)
theorem fx_D_sm {st : xS} {ms : mS} {d : Int64} {v : Int64} : siD d (xp_sm st v) ms = siD d st ms := (rfl)
theorem fx_D_sA {st : xS} {ms : mS} {d : Int64} {v : Int64} : siD d (xp_sA st v) ms = siD d st ms := (rfl)
theorem fm_D_al7 {st : xS} {ms : mS} {d : Int64} {v : Int64} : siD d st (mp_al ms 7 v) = siD d st ms := (rfl)
theorem fx_N_sm {st : xS} {ms : mS} {d : Int64} {v : Int64} : siN d (xp_sm st v) ms = siN d st ms := (rfl)
theorem fx_N_sA {st : xS} {ms : mS} {d : Int64} {v : Int64} : siN d (xp_sA st v) ms = siN d st ms := (rfl)
theorem fm_N_al7 {st : xS} {ms : mS} {d : Int64} {v : Int64} : siN d st (mp_al ms 7 v) = siN d st ms := (rfl)
theorem fx_I_sm {st : xS} {ms : mS} {t : Int32} {v : Int64} : siI t (xp_sm st v) ms = siI t st ms := (rfl)
theorem fx_I_sA {st : xS} {ms : mS} {t : Int32} {v : Int64} : siI t (xp_sA st v) ms = siI t st ms := (rfl)
/-! the minute's other steps -/
def cX (R : Int64 × xS) : xS := xp_bA (xp_dA (xp_ox R.2 (R.1 - xs_bu R.2 * 6)) (xs_dA R.2 + xs_dr R.2)) (xs_bA R.2 + xs_bu R.2)
theorem dab_s (Z : Nat) (st : xS) (R : Int64 × xS) (hR : lp_dryAndBurn Z Z 0 0 (xp_bu (xp_dr st 0) 0) = R) : f_Gr_dryAndBurn Z st = cX R := by
  unfold f_Gr_dryAndBurn
  rw [hR]
  simp only [cX, rx_dA_ox, rx_dA_dA, rx_dA_bA, rx_dr_ox, rx_dr_dA, rx_dr_bA, rx_bA_ox, rx_bA_dA, rx_bA_bA, rx_bu_ox, rx_bu_dA, rx_bu_bA]
def mX (D : Int64 × mS) : mS := mp_la D.2 1 (if lg_cmp D.1 (6 * ms_la D.2 2) ≤ 0 then 0 else D.1 - 6 * ms_la D.2 2)
theorem ox_eq {Z : Nat} {ai x : Int64} (hZ : Z ≤ 6) (h1 : 0 ≤ x.toInt) (h2 : 6 * x.toInt ≤ ai.toInt) (h3 : ai.toInt ≤ 100000 * Z) : ai - x * 6 = if lg_cmp ai (6 * x) ≤ 0 then 0 else ai - 6 * x := by
  have e6 : (6 : Int64).toInt = 6 := by decide
  have hm : (6 * x).toInt = 6 * x.toInt := by
    rw [Int64.toInt_mul, e6]
    exact Int.bmod_eq_of_le (by omega) (by omega)
  rw [Int64.mul_comm x 6]
  by_cases c : lg_cmp ai (6 * x) ≤ 0
  · rw [if_pos c]
    have c2 := Int64.le_iff_toInt_le.mp ((lg_cmp_le _ _).mp c)
    rw [hm] at c2
    have e : ai = 6 * x := Int64.toInt_inj.mp (by rw [hm]; omega)
    rw [e, Int64.sub_self]
  · rw [if_neg c]
theorem siE_S {Z : Nat} {t : Int32} {st : xS} {ms : mS} (h : siE Z t 0 0 st ms) : siE Z t (xs_dr (xp_bu (xp_dr st 0) 0)) (xs_bu (xp_bu (xp_dr st 0) 0)) (xp_bu (xp_dr st 0) 0) (mp_la (mp_la ms 2 0) 3 0) := by
  obtain ⟨hK, hG, hT, hH, hL, hC, hM, hA, hZ, hD, hN, hI⟩ := h
  refine ⟨?_, ?_, ?_, ?_, ?_, ?_, ?_, ?_, ?_, ?_, ?_, ?_⟩
  · simp only [fx_K_bu, fx_K_dr, fm_K_la]
    exact hK
  · simp only [fx_G_bu, fx_G_dr, fm_G_la]
    exact hG
  · simp only [fx_T_bu, fx_T_dr, fm_T_la]
    exact hT
  · simp only [fx_H_bu, fx_H_dr, fm_H_la]
    exact hH
  · simp only [siL, updL_eq, rx_sm_bu, rx_sm_dr, rx_ox_bu, rx_ox_dr, rx_bu_bu, rx_bu_dr, rx_dr_bu, rx_dr_dr, rx_bb_bu, rx_bb_dr, rm_bu_la, rm_la_la, uL_0_1, uL_0_2, uL_0_3, uL_0_4, uL_0_5, uL_0_6, uL_0_7, uL_0_8, uL_0_9, uL_1_0, uL_1_2, uL_1_3, uL_1_4, uL_1_5, uL_1_6, uL_1_7, uL_1_8, uL_1_9, uL_2_0, uL_2_1, uL_2_3, uL_2_4, uL_2_5, uL_2_6, uL_2_7, uL_2_8, uL_2_9, uL_3_0, uL_3_1, uL_3_2, uL_3_4, uL_3_5, uL_3_6, uL_3_7, uL_3_8, uL_3_9, uL_4_0, uL_4_1, uL_4_2, uL_4_3, uL_4_5, uL_4_6, uL_4_7, uL_4_8, uL_4_9, uL_5_0, uL_5_1, uL_5_2, uL_5_3, uL_5_4, uL_5_6, uL_5_7, uL_5_8, uL_5_9, uL_6_0, uL_6_1, uL_6_2, uL_6_3, uL_6_4, uL_6_5, uL_6_7, uL_6_8, uL_6_9, uL_7_0, uL_7_1, uL_7_2, uL_7_3, uL_7_4, uL_7_5, uL_7_6, uL_7_8, uL_7_9, uL_8_0, uL_8_1, uL_8_2, uL_8_3, uL_8_4, uL_8_5, uL_8_6, uL_8_7, uL_8_9, uL_9_0, uL_9_1, uL_9_2, uL_9_3, uL_9_4, uL_9_5, uL_9_6, uL_9_7, uL_9_8]
    obtain ⟨g1, g2, g3, g4, g5⟩ := hL
    exact ⟨g1, g2, trivial, trivial, g5⟩
  · simp only [fx_C_bu, fx_C_dr, fm_C_la]
    exact hC
  · simp only [fx_M_bu, fx_M_dr, fm_M_la]
    exact hM
  · simp only [fx_A_bu, fx_A_dr, fm_A_la]
    exact hA
  · simp only [fx_Z_bu, fx_Z_dr, fm_Z_la]
    exact hZ
  · simp only [rx_dr_bu, rx_dr_dr, fx_D_bu, fx_D_dr, fm_D_la]
    exact hD
  · simp only [rx_bu_bu, rx_bu_dr, fx_N_bu, fx_N_dr, fm_N_la]
    exact hN
  · simp only [fx_I_bu, fx_I_dr, fm_I_la]
    exact hI
theorem siE_X {Z : Nat} {t : Int32} {R : Int64 × xS} {D : Int64 × mS} (hZ6 : Z ≤ 6) (hRD : R.1 = D.1) (hO : obO Z D.1 D.2) (h : siE Z t (xs_dr R.2) (xs_bu R.2) R.2 D.2) : siE Z t 0 0 (cX R) (mX D) := by
  obtain ⟨hK, hG, hT, hH, hL, hC, hM, hA, hZ, hD, hN, hI⟩ := h
  refine ⟨?_, ?_, ?_, ?_, ?_, ?_, ?_, ?_, ?_, ?_, ?_, ?_⟩
  · simp only [cX, mX, fx_K_ox, fx_K_dA, fx_K_bA, fm_K_la]
    exact hK
  · simp only [cX, mX, fx_G_ox, fx_G_dA, fx_G_bA, fm_G_la]
    exact hG
  · simp only [cX, mX, fx_T_ox, fx_T_dA, fx_T_bA, fm_T_la]
    exact hT
  · simp only [cX, mX, fx_H_ox, fx_H_dA, fx_H_bA, fm_H_la]
    exact hH
  · simp only [siL, cX, mX, updL_eq, rx_sm_ox, rx_sm_dA, rx_sm_bA, rx_ox_ox, rx_ox_dA, rx_ox_bA, rx_bu_ox, rx_bu_dA, rx_bu_bA, rx_dr_ox, rx_dr_dA, rx_dr_bA, rx_bb_ox, rx_bb_dA, rx_bb_bA, rm_bu_la, rm_la_la, uL_0_1, uL_0_2, uL_0_3, uL_0_4, uL_0_5, uL_0_6, uL_0_7, uL_0_8, uL_0_9, uL_1_0, uL_1_2, uL_1_3, uL_1_4, uL_1_5, uL_1_6, uL_1_7, uL_1_8, uL_1_9, uL_2_0, uL_2_1, uL_2_3, uL_2_4, uL_2_5, uL_2_6, uL_2_7, uL_2_8, uL_2_9, uL_3_0, uL_3_1, uL_3_2, uL_3_4, uL_3_5, uL_3_6, uL_3_7, uL_3_8, uL_3_9, uL_4_0, uL_4_1, uL_4_2, uL_4_3, uL_4_5, uL_4_6, uL_4_7, uL_4_8, uL_4_9, uL_5_0, uL_5_1, uL_5_2, uL_5_3, uL_5_4, uL_5_6, uL_5_7, uL_5_8, uL_5_9, uL_6_0, uL_6_1, uL_6_2, uL_6_3, uL_6_4, uL_6_5, uL_6_7, uL_6_8, uL_6_9, uL_7_0, uL_7_1, uL_7_2, uL_7_3, uL_7_4, uL_7_5, uL_7_6, uL_7_8, uL_7_9, uL_8_0, uL_8_1, uL_8_2, uL_8_3, uL_8_4, uL_8_5, uL_8_6, uL_8_7, uL_8_9, uL_9_0, uL_9_1, uL_9_2, uL_9_3, uL_9_4, uL_9_5, uL_9_6, uL_9_7, uL_9_8]
    obtain ⟨g1, g2, g3, g4, g5⟩ := hL
    rw [hRD, g3]
    exact ⟨g1, ox_eq hZ6 hO.1 hO.2.1 hO.2.2, rfl, g4, g5⟩
  · simp only [cX, mX, fx_C_ox, fx_C_dA, fx_C_bA, fm_C_la]
    exact hC
  · simp only [cX, mX, fx_M_ox, fx_M_dA, fx_M_bA, fm_M_la]
    exact hM
  · simp only [cX, mX, fx_A_ox, fx_A_dA, fx_A_bA, fm_A_la]
    exact hA
  · simp only [cX, mX, fx_Z_ox, fx_Z_dA, fx_Z_bA, fm_Z_la]
    exact hZ
  · simp only [siD, cX, mX, rx_dA_ox, rx_dA_dA, rx_dA_bA, rx_dr_ox, rx_dr_dA, rx_dr_bA, rm_al_la]
    rw [Int64.add_zero]
    exact hD
  · simp only [siN, cX, mX, rx_bA_ox, rx_bA_dA, rx_bA_bA, rx_bu_ox, rx_bu_dA, rx_bu_bA, rm_al_la]
    rw [Int64.add_zero]
    exact hN
  · simp only [cX, mX, fx_I_ox, fx_I_dA, fx_I_bA, fm_I_la]
    exact hI
theorem siB_X {Z : Nat} {B : Int} {D : Int64 × mS} (hB : siB Z B D.2) : siB Z B (mX D) := by
  obtain ⟨bK, bM, bF⟩ := hB
  refine ⟨?_, ?_, ?_⟩
  · simp only [mX, fb_K_la]
    exact bK
  · simp only [mX, fb_M_la]
    exact bM
  · simp only [mX, fb_F_la]
    exact bF
theorem siB_S {Z : Nat} {B : Int} {ms : mS} (hB : siB Z B ms) : siB Z B (mp_la (mp_la ms 2 0) 3 0) := by
  obtain ⟨bK, bM, bF⟩ := hB
  refine ⟨?_, ?_, ?_⟩
  · simp only [fb_K_la]
    exact bK
  · simp only [fb_M_la]
    exact bM
  · simp only [fb_F_la]
    exact bF
def cFire (st : xS) : xS := if b2i (xs_bt st) = 0 then xp_bb st false else if 0 ≤ lg_cmp (xs_he st) (xs_bl st).toInt64 then xp_bb st false else xp_nA (xp_he (xp_bb st true) (xs_he st + (xs_bh st).toInt64)) (xs_nA st + (xs_bh st).toInt64)
def mFire (E : mS) : mS := if b2i (ms_hb E) = 0 then mp_bu E false else if 0 ≤ lg_cmp (ms_al E 9) (ms_be E).toInt64 then mp_bu E false else mp_al (mp_al (mp_bu E true) 9 (ms_al E 9 + (ms_bh E).toInt64)) 6 (ms_al E 6 + (ms_bh E).toInt64)
theorem b2f : b2i false = 0 := rfl
theorem b2t : ¬ b2i true = 0 := by decide
theorem fire_s (Z : Nat) (st : xS) : f_Fu_fireBurner Z st = cFire st := by
  unfold f_Fu_fireBurner cFire
  simp only [b2f, b2t, if_true, if_false, rx_bb_bb, rx_bb_he, rx_bb_nA, rx_he_bb, rx_he_he, rx_he_nA, rx_bh_bb, rx_bh_he, rx_bh_nA, rx_nA_bb, rx_nA_he, rx_nA_nA]
theorem siE_fi0 {Z : Nat} {t : Int32} {d b : Int64} {st : xS} {ms : mS} (h : siE Z t d b st ms) : siE Z t d b (xp_bb st false) (mp_bu ms false) := by
  obtain ⟨hK, hG, hT, hH, hL, hC, hM, hA, hZ, hD, hN, hI⟩ := h
  refine ⟨?_, ?_, ?_, ?_, ?_, ?_, ?_, ?_, ?_, ?_, ?_, ?_⟩
  · simp only [fx_K_bb, fm_K_bu]
    exact hK
  · simp only [fx_G_bb, fm_G_bu]
    exact hG
  · simp only [fx_T_bb, fm_T_bu]
    exact hT
  · simp only [fx_H_bb, fm_H_bu]
    exact hH
  · simp only [siL, rx_sm_bb, rx_ox_bb, rx_bu_bb, rx_dr_bb, rx_bb_bb, rm_bu_bu, rm_la_bu]
    exact ⟨hL.1, hL.2.1, hL.2.2.1, hL.2.2.2.1, trivial⟩
  · simp only [fx_C_bb, fm_C_bu]
    exact hC
  · simp only [fx_M_bb, fm_M_bu]
    exact hM
  · simp only [fx_A_bb, fm_A_bu]
    exact hA
  · simp only [fx_Z_bb, fm_Z_bu]
    exact hZ
  · simp only [fx_D_bb, fm_D_bu]
    exact hD
  · simp only [fx_N_bb, fm_N_bu]
    exact hN
  · simp only [fx_I_bb, fm_I_bu]
    exact hI
theorem siE_fi1 {Z : Nat} {t : Int32} {d b : Int64} {st : xS} {ms : mS} (h : siE Z t d b st ms) : siE Z t d b (xp_nA (xp_he (xp_bb st true) (xs_he st + (xs_bh st).toInt64)) (xs_nA st + (xs_bh st).toInt64)) (mp_al (mp_al (mp_bu ms true) 9 (ms_al ms 9 + (ms_bh ms).toInt64)) 6 (ms_al ms 6 + (ms_bh ms).toInt64)) := by
  obtain ⟨hK, hG, hT, hH, hL, hC, hM, hA, hZ, hD, hN, hI⟩ := h
  refine ⟨?_, ?_, ?_, ?_, ?_, ?_, ?_, ?_, ?_, ?_, ?_, ?_⟩
  · simp only [fx_K_bb, fx_K_he, fx_K_nA, fm_K_al6, fm_K_al9, fm_K_bu]
    exact hK
  · simp only [fx_G_bb, fx_G_he, fx_G_nA, fm_G_al, fm_G_bu]
    exact hG
  · simp only [fx_T_bb, fx_T_he, fx_T_nA, fm_T_al, fm_T_bu]
    exact hT
  · simp only [siH, updL_eq, rx_he_bb, rx_he_he, rx_he_nA, rx_fA_bb, rx_fA_he, rx_fA_nA, rx_nA_bb, rx_nA_he, rx_nA_nA, rx_sA_bb, rx_sA_he, rx_sA_nA, rx_yA_bb, rx_yA_he, rx_yA_nA, rm_al_al, rm_al_bu, uL_0_1, uL_0_2, uL_0_3, uL_0_4, uL_0_5, uL_0_6, uL_0_7, uL_0_8, uL_0_9, uL_1_0, uL_1_2, uL_1_3, uL_1_4, uL_1_5, uL_1_6, uL_1_7, uL_1_8, uL_1_9, uL_2_0, uL_2_1, uL_2_3, uL_2_4, uL_2_5, uL_2_6, uL_2_7, uL_2_8, uL_2_9, uL_3_0, uL_3_1, uL_3_2, uL_3_4, uL_3_5, uL_3_6, uL_3_7, uL_3_8, uL_3_9, uL_4_0, uL_4_1, uL_4_2, uL_4_3, uL_4_5, uL_4_6, uL_4_7, uL_4_8, uL_4_9, uL_5_0, uL_5_1, uL_5_2, uL_5_3, uL_5_4, uL_5_6, uL_5_7, uL_5_8, uL_5_9, uL_6_0, uL_6_1, uL_6_2, uL_6_3, uL_6_4, uL_6_5, uL_6_7, uL_6_8, uL_6_9, uL_7_0, uL_7_1, uL_7_2, uL_7_3, uL_7_4, uL_7_5, uL_7_6, uL_7_8, uL_7_9, uL_8_0, uL_8_1, uL_8_2, uL_8_3, uL_8_4, uL_8_5, uL_8_6, uL_8_7, uL_8_9, uL_9_0, uL_9_1, uL_9_2, uL_9_3, uL_9_4, uL_9_5, uL_9_6, uL_9_7, uL_9_8]
    obtain ⟨g1, g2, g3, g4, g5⟩ := hH
    rw [g1, g3, hT.2.2.2.1]
    exact ⟨rfl, g2, rfl, g4, g5⟩
  · simp only [siL, rx_sm_bb, rx_sm_he, rx_sm_nA, rx_ox_bb, rx_ox_he, rx_ox_nA, rx_bu_bb, rx_bu_he, rx_bu_nA, rx_dr_bb, rx_dr_he, rx_dr_nA, rx_bb_bb, rx_bb_he, rx_bb_nA, rm_bu_al, rm_bu_bu, rm_la_al, rm_la_bu]
    exact ⟨hL.1, hL.2.1, hL.2.2.1, hL.2.2.2.1, trivial⟩
  · simp only [fx_C_bb, fx_C_he, fx_C_nA, fm_C_al, fm_C_bu]
    exact hC
  · simp only [fx_M_bb, fx_M_he, fx_M_nA, fm_M_al, fm_M_bu]
    exact hM
  · simp only [fx_A_bb, fx_A_he, fx_A_nA, fm_A_al6, fm_A_al9, fm_A_bu]
    exact hA
  · simp only [fx_Z_bb, fx_Z_he, fx_Z_nA, fm_Z_al, fm_Z_bu]
    exact hZ
  · simp only [fx_D_bb, fx_D_he, fx_D_nA, fm_D_al6, fm_D_al9, fm_D_bu]
    exact hD
  · simp only [fx_N_bb, fx_N_he, fx_N_nA, fm_N_al6, fm_N_al9, fm_N_bu]
    exact hN
  · simp only [fx_I_bb, fx_I_he, fx_I_nA, fm_I_al, fm_I_bu]
    exact hI
theorem siE_Fi {Z : Nat} {t : Int32} {d b : Int64} {st : xS} {ms : mS} (h : siE Z t d b st ms) : siE Z t d b (cFire st) (mFire ms) := by
  unfold cFire mFire
  rw [h.2.2.1.2.1, h.2.2.2.1.1, h.2.2.1.2.2.1]
  by_cases c2 : b2i (ms_hb ms) = 0
  · rw [if_pos c2, if_pos c2]
    exact siE_fi0 h
  · rw [if_neg c2, if_neg c2]
    by_cases c3 : 0 ≤ lg_cmp (ms_al ms 9) (ms_be ms).toInt64
    · rw [if_pos c3, if_pos c3]
      exact siE_fi0 h
    · rw [if_neg c3, if_neg c3, ← h.2.2.2.1.1]
      have := siE_fi1 h
      rw [← h.2.2.2.1.1] at this
      exact this
theorem siB_fi0 {Z : Nat} {B : Int} {ms : mS} (hB : siB Z B ms) : siB Z B (mp_bu ms false) := by
  obtain ⟨bK, bM, bF⟩ := hB
  refine ⟨?_, ?_, ?_⟩
  · simp only [fb_K_bu]
    exact bK
  · simp only [fb_M_bu]
    exact bM
  · simp only [fb_F_bu]
    exact bF
theorem siB_fi1 {Z : Nat} {B : Int} {ms : mS} {v w : Int64} (hB : siB Z B ms) : siB Z B (mp_al (mp_al (mp_bu ms true) 9 v) 6 w) := by
  obtain ⟨bK, bM, bF⟩ := hB
  refine ⟨?_, ?_, ?_⟩
  · simp only [fb_K_al, fb_K_bu]
    exact bK
  · simp only [fb_M_al, fb_M_bu]
    exact bM
  · simp only [fb_F_al, fb_F_bu]
    exact bF
theorem siB_Fi {Z : Nat} {B : Int} {ms : mS} (hB : siB Z B ms) : siB Z B (mFire ms) := by
  unfold mFire
  by_cases c2 : b2i (ms_hb ms) = 0
  · rw [if_pos c2]
    exact siB_fi0 hB
  · rw [if_neg c2]
    by_cases c3 : 0 ≤ lg_cmp (ms_al ms 9) (ms_be ms).toInt64
    · rw [if_pos c3]
      exact siB_fi0 hB
    · rw [if_neg c3]
      exact siB_fi1 hB
def mSteam (G : mS) : mS := mp_al (mp_al (mp_la G 0 (f_Mo_partOf (ms_al G 9) (ms_bo G).toInt64)) 9 (ms_al G 9 - f_Mo_partOf (ms_al G 9) (ms_bo G).toInt64)) 7 (ms_al G 7 + f_Mo_partOf (ms_al G 9) (ms_bo G).toInt64)
def cSteam (G : xS) : xS := xp_sA (xp_he (xp_sm G (f_Mo_partOf (xs_he G) (xs_bo G).toInt64)) (xs_he G - f_Mo_partOf (xs_he G) (xs_bo G).toInt64)) (xs_sA G + f_Mo_partOf (xs_he G) (xs_bo G).toInt64)
theorem steam_s (Z : Nat) (st : xS) : f_Fu_makeSteam Z st = cSteam st := by
  unfold f_Fu_makeSteam cSteam
  simp only [pu_part2, rx_sm_sm, rx_sm_he, rx_sm_sA, rx_he_sm, rx_he_he, rx_he_sA, rx_sA_sm, rx_sA_he, rx_sA_sA, rx_bo_sm, rx_bo_he, rx_bo_sA]
theorem siE_St {Z : Nat} {t : Int32} {d b : Int64} {st : xS} {ms : mS} (h : siE Z t d b st ms) : siE Z t d b (cSteam st) (mSteam ms) := by
  obtain ⟨hK, hG, hT, hH, hL, hC, hM, hA, hZ, hD, hN, hI⟩ := h
  refine ⟨?_, ?_, ?_, ?_, ?_, ?_, ?_, ?_, ?_, ?_, ?_, ?_⟩
  · simp only [cSteam, mSteam, fx_K_sm, fx_K_he, fx_K_sA, fm_K_al7, fm_K_al9, fm_K_la]
    exact hK
  · simp only [cSteam, mSteam, fx_G_sm, fx_G_he, fx_G_sA, fm_G_al, fm_G_la]
    exact hG
  · simp only [cSteam, mSteam, fx_T_sm, fx_T_he, fx_T_sA, fm_T_al, fm_T_la]
    exact hT
  · simp only [siH, cSteam, mSteam, updL_eq, rx_he_sm, rx_he_he, rx_he_sA, rx_fA_sm, rx_fA_he, rx_fA_sA, rx_nA_sm, rx_nA_he, rx_nA_sA, rx_sA_sm, rx_sA_he, rx_sA_sA, rx_yA_sm, rx_yA_he, rx_yA_sA, rm_al_al, rm_al_la, uL_0_1, uL_0_2, uL_0_3, uL_0_4, uL_0_5, uL_0_6, uL_0_7, uL_0_8, uL_0_9, uL_1_0, uL_1_2, uL_1_3, uL_1_4, uL_1_5, uL_1_6, uL_1_7, uL_1_8, uL_1_9, uL_2_0, uL_2_1, uL_2_3, uL_2_4, uL_2_5, uL_2_6, uL_2_7, uL_2_8, uL_2_9, uL_3_0, uL_3_1, uL_3_2, uL_3_4, uL_3_5, uL_3_6, uL_3_7, uL_3_8, uL_3_9, uL_4_0, uL_4_1, uL_4_2, uL_4_3, uL_4_5, uL_4_6, uL_4_7, uL_4_8, uL_4_9, uL_5_0, uL_5_1, uL_5_2, uL_5_3, uL_5_4, uL_5_6, uL_5_7, uL_5_8, uL_5_9, uL_6_0, uL_6_1, uL_6_2, uL_6_3, uL_6_4, uL_6_5, uL_6_7, uL_6_8, uL_6_9, uL_7_0, uL_7_1, uL_7_2, uL_7_3, uL_7_4, uL_7_5, uL_7_6, uL_7_8, uL_7_9, uL_8_0, uL_8_1, uL_8_2, uL_8_3, uL_8_4, uL_8_5, uL_8_6, uL_8_7, uL_8_9, uL_9_0, uL_9_1, uL_9_2, uL_9_3, uL_9_4, uL_9_5, uL_9_6, uL_9_7, uL_9_8]
    obtain ⟨g1, g2, g3, g4, g5⟩ := hH
    rw [g1, g4, hT.1]
    exact ⟨rfl, g2, g3, rfl, g5⟩
  · simp only [siL, cSteam, mSteam, updL_eq, rx_sm_sm, rx_sm_he, rx_sm_sA, rx_ox_sm, rx_ox_he, rx_ox_sA, rx_bu_sm, rx_bu_he, rx_bu_sA, rx_dr_sm, rx_dr_he, rx_dr_sA, rx_bb_sm, rx_bb_he, rx_bb_sA, rm_bu_al, rm_bu_la, rm_la_al, rm_la_la, uL_0_1, uL_0_2, uL_0_3, uL_0_4, uL_0_5, uL_0_6, uL_0_7, uL_0_8, uL_0_9, uL_1_0, uL_1_2, uL_1_3, uL_1_4, uL_1_5, uL_1_6, uL_1_7, uL_1_8, uL_1_9, uL_2_0, uL_2_1, uL_2_3, uL_2_4, uL_2_5, uL_2_6, uL_2_7, uL_2_8, uL_2_9, uL_3_0, uL_3_1, uL_3_2, uL_3_4, uL_3_5, uL_3_6, uL_3_7, uL_3_8, uL_3_9, uL_4_0, uL_4_1, uL_4_2, uL_4_3, uL_4_5, uL_4_6, uL_4_7, uL_4_8, uL_4_9, uL_5_0, uL_5_1, uL_5_2, uL_5_3, uL_5_4, uL_5_6, uL_5_7, uL_5_8, uL_5_9, uL_6_0, uL_6_1, uL_6_2, uL_6_3, uL_6_4, uL_6_5, uL_6_7, uL_6_8, uL_6_9, uL_7_0, uL_7_1, uL_7_2, uL_7_3, uL_7_4, uL_7_5, uL_7_6, uL_7_8, uL_7_9, uL_8_0, uL_8_1, uL_8_2, uL_8_3, uL_8_4, uL_8_5, uL_8_6, uL_8_7, uL_8_9, uL_9_0, uL_9_1, uL_9_2, uL_9_3, uL_9_4, uL_9_5, uL_9_6, uL_9_7, uL_9_8]
    rw [hH.1, hT.1]
    exact ⟨rfl, hL.2.1, hL.2.2.1, hL.2.2.2.1, hL.2.2.2.2⟩
  · simp only [cSteam, mSteam, fx_C_sm, fx_C_he, fx_C_sA, fm_C_al, fm_C_la]
    exact hC
  · simp only [cSteam, mSteam, fx_M_sm, fx_M_he, fx_M_sA, fm_M_al, fm_M_la]
    exact hM
  · simp only [cSteam, mSteam, fx_A_sm, fx_A_he, fx_A_sA, fm_A_al7, fm_A_al9, fm_A_la]
    exact hA
  · simp only [cSteam, mSteam, fx_Z_sm, fx_Z_he, fx_Z_sA, fm_Z_al, fm_Z_la]
    exact hZ
  · simp only [cSteam, mSteam, fx_D_sm, fx_D_he, fx_D_sA, fm_D_al7, fm_D_al9, fm_D_la]
    exact hD
  · simp only [cSteam, mSteam, fx_N_sm, fx_N_he, fx_N_sA, fm_N_al7, fm_N_al9, fm_N_la]
    exact hN
  · simp only [cSteam, mSteam, fx_I_sm, fx_I_he, fx_I_sA, fm_I_al, fm_I_la]
    exact hI
theorem siB_St {Z : Nat} {B : Int} {ms : mS} (hB : siB Z B ms) : siB Z B (mSteam ms) := by
  obtain ⟨bK, bM, bF⟩ := hB
  refine ⟨?_, ?_, ?_⟩
  · simp only [mSteam, fb_K_al, fb_K_la]
    exact bK
  · simp only [mSteam, fb_M_al, fb_M_la]
    exact bM
  · simp only [mSteam, fb_F_al, fb_F_la]
    exact bF
