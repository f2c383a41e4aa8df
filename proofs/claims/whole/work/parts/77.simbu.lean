theorem rm_ai_al {st : mS} {j : Nat} {v : Int64} : ms_ai (mp_al st j v) = ms_ai st := (rfl)
theorem rm_ai_fu {st : mS} {j : Nat} {v : Int64} : ms_ai (mp_fu st j v) = ms_ai st := (rfl)
theorem rm_ai_la {st : mS} {j : Nat} {v : Int64} : ms_ai (mp_la st j v) = ms_ai st := (rfl)
theorem rm_ai_wa {st : mS} {j : Nat} {v : Int64} : ms_ai (mp_wa st j v) = ms_ai st := (rfl)
theorem rm_al_la {st : mS} {j : Nat} {v : Int64} : ms_al (mp_la st j v) = ms_al st := (rfl)
theorem rm_dr_al {st : mS} {j : Nat} {v : Int64} : ms_dr (mp_al st j v) = ms_dr st := (rfl)
theorem rm_dr_fu {st : mS} {j : Nat} {v : Int64} : ms_dr (mp_fu st j v) = ms_dr st := (rfl)
theorem rm_dr_la {st : mS} {j : Nat} {v : Int64} : ms_dr (mp_la st j v) = ms_dr st := (rfl)
theorem rm_dr_wa {st : mS} {j : Nat} {v : Int64} : ms_dr (mp_wa st j v) = ms_dr st := (rfl)
theorem rm_fu_al {st : mS} {j : Nat} {v : Int64} : ms_fu (mp_al st j v) = ms_fu st := (rfl)
theorem rm_fu_la {st : mS} {j : Nat} {v : Int64} : ms_fu (mp_la st j v) = ms_fu st := (rfl)
theorem rm_la_al {st : mS} {j : Nat} {v : Int64} : ms_la (mp_al st j v) = ms_la st := (rfl)
theorem rm_la_fu {st : mS} {j : Nat} {v : Int64} : ms_la (mp_fu st j v) = ms_la st := (rfl)
theorem rm_la_la {st : mS} {j : Nat} {v : Int64} : ms_la (mp_la st j v) = vp_updL (ms_la st) j v := (rfl)
theorem rm_la_wa {st : mS} {j : Nat} {v : Int64} : ms_la (mp_wa st j v) = ms_la st := (rfl)
theorem rm_wa_al {st : mS} {j : Nat} {v : Int64} : ms_wa (mp_al st j v) = ms_wa st := (rfl)
theorem rm_wa_la {st : mS} {j : Nat} {v : Int64} : ms_wa (mp_la st j v) = ms_wa st := (rfl)
theorem rx_yA_yA {st : xS} {v : Int64} : xs_yA (xp_yA st v) = v := (rfl)
theorem rx_yA_he {st : xS} {v : Int64} : xs_yA (xp_he st v) = xs_yA st := (rfl)
theorem rx_yA_zw {st : xS} {j : Nat} {v : Int64} : xs_yA (xp_zw st j v) = xs_yA st := (rfl)
theorem rx_yA_dr {st : xS} {v : Int64} : xs_yA (xp_dr st v) = xs_yA st := (rfl)
theorem rx_he_yA {st : xS} {v : Int64} : xs_he (xp_yA st v) = xs_he st := (rfl)
theorem rx_he_he {st : xS} {v : Int64} : xs_he (xp_he st v) = v := (rfl)
theorem rx_he_zw {st : xS} {j : Nat} {v : Int64} : xs_he (xp_zw st j v) = xs_he st := (rfl)
theorem rx_he_dr {st : xS} {v : Int64} : xs_he (xp_dr st v) = xs_he st := (rfl)
theorem rx_dr_yA {st : xS} {v : Int64} : xs_dr (xp_yA st v) = xs_dr st := (rfl)
theorem rx_dr_he {st : xS} {v : Int64} : xs_dr (xp_he st v) = xs_dr st := (rfl)
theorem rx_dr_zw {st : xS} {j : Nat} {v : Int64} : xs_dr (xp_zw st j v) = xs_dr st := (rfl)
theorem rx_dr_dr {st : xS} {v : Int64} : xs_dr (xp_dr st v) = v := (rfl)
theorem rx_fA_fA {st : xS} {v : Int64} : xs_fA (xp_fA st v) = v := (rfl)
theorem rx_fA_he {st : xS} {v : Int64} : xs_fA (xp_he st v) = xs_fA st := (rfl)
theorem rx_fA_zf {st : xS} {j : Nat} {v : Int64} : xs_fA (xp_zf st j v) = xs_fA st := (rfl)
theorem rx_fA_bu {st : xS} {v : Int64} : xs_fA (xp_bu st v) = xs_fA st := (rfl)
theorem rx_he_fA {st : xS} {v : Int64} : xs_he (xp_fA st v) = xs_he st := (rfl)
theorem rx_he_zf {st : xS} {j : Nat} {v : Int64} : xs_he (xp_zf st j v) = xs_he st := (rfl)
theorem rx_he_bu {st : xS} {v : Int64} : xs_he (xp_bu st v) = xs_he st := (rfl)
theorem rx_bu_fA {st : xS} {v : Int64} : xs_bu (xp_fA st v) = xs_bu st := (rfl)
theorem rx_bu_he {st : xS} {v : Int64} : xs_bu (xp_he st v) = xs_bu st := (rfl)
theorem rx_bu_zf {st : xS} {j : Nat} {v : Int64} : xs_bu (xp_zf st j v) = xs_bu st := (rfl)
theorem rx_bu_bu {st : xS} {v : Int64} : xs_bu (xp_bu st v) = v := (rfl)
theorem fx_K_he {st : xS} {ms : mS} {v : Int64} : siK (xp_he st v) ms = siK st ms := (rfl)
theorem fx_K_yA {st : xS} {ms : mS} {v : Int64} : siK (xp_yA st v) ms = siK st ms := (rfl)
theorem fx_K_dr {st : xS} {ms : mS} {v : Int64} : siK (xp_dr st v) ms = siK st ms := (rfl)
theorem fm_K_al1 {st : xS} {ms : mS} {v : Int64} : siK st (mp_al ms 1 v) = siK st ms := (rfl)
theorem fm_K_al8 {st : xS} {ms : mS} {v : Int64} : siK st (mp_al ms 8 v) = siK st ms := (rfl)
theorem fm_K_al9 {st : xS} {ms : mS} {v : Int64} : siK st (mp_al ms 9 v) = siK st ms := (rfl)
theorem fm_K_la {st : xS} {ms : mS} {j : Nat} {v : Int64} : siK st (mp_la ms j v) = siK st ms := (rfl)
theorem fx_G_he {st : xS} {ms : mS} {v : Int64} : siG (xp_he st v) ms = siG st ms := (rfl)
theorem fx_G_yA {st : xS} {ms : mS} {v : Int64} : siG (xp_yA st v) ms = siG st ms := (rfl)
theorem fx_G_dr {st : xS} {ms : mS} {v : Int64} : siG (xp_dr st v) ms = siG st ms := (rfl)
theorem fm_G_la {st : xS} {ms : mS} {j : Nat} {v : Int64} : siG st (mp_la ms j v) = siG st ms := (rfl)
theorem fx_T_he {st : xS} {ms : mS} {Z : Nat} {v : Int64} : siT Z (xp_he st v) ms = siT Z st ms := (rfl)
theorem fx_T_yA {st : xS} {ms : mS} {Z : Nat} {v : Int64} : siT Z (xp_yA st v) ms = siT Z st ms := (rfl)
theorem fx_T_dr {st : xS} {ms : mS} {Z : Nat} {v : Int64} : siT Z (xp_dr st v) ms = siT Z st ms := (rfl)
theorem fm_T_la {st : xS} {ms : mS} {Z : Nat} {j : Nat} {v : Int64} : siT Z st (mp_la ms j v) = siT Z st ms := (rfl)
theorem rx_fA_zw {st : xS} {j : Nat} {v : Int64} : xs_fA (xp_zw st j v) = xs_fA st := (rfl)
theorem rx_fA_yA {st : xS} {v : Int64} : xs_fA (xp_yA st v) = xs_fA st := (rfl)
theorem rx_fA_dr {st : xS} {v : Int64} : xs_fA (xp_dr st v) = xs_fA st := (rfl)
theorem rx_nA_zw {st : xS} {j : Nat} {v : Int64} : xs_nA (xp_zw st j v) = xs_nA st := (rfl)
theorem rx_nA_he {st : xS} {v : Int64} : xs_nA (xp_he st v) = xs_nA st := (rfl)
theorem rx_nA_yA {st : xS} {v : Int64} : xs_nA (xp_yA st v) = xs_nA st := (rfl)
theorem rx_nA_dr {st : xS} {v : Int64} : xs_nA (xp_dr st v) = xs_nA st := (rfl)
theorem rx_sA_zw {st : xS} {j : Nat} {v : Int64} : xs_sA (xp_zw st j v) = xs_sA st := (rfl)
theorem rx_sA_he {st : xS} {v : Int64} : xs_sA (xp_he st v) = xs_sA st := (rfl)
theorem rx_sA_yA {st : xS} {v : Int64} : xs_sA (xp_yA st v) = xs_sA st := (rfl)
theorem rx_sA_dr {st : xS} {v : Int64} : xs_sA (xp_dr st v) = xs_sA st := (rfl)
theorem rx_sm_zw {st : xS} {j : Nat} {v : Int64} : xs_sm (xp_zw st j v) = xs_sm st := (rfl)
theorem rx_sm_he {st : xS} {v : Int64} : xs_sm (xp_he st v) = xs_sm st := (rfl)
theorem rx_sm_yA {st : xS} {v : Int64} : xs_sm (xp_yA st v) = xs_sm st := (rfl)
theorem rx_sm_dr {st : xS} {v : Int64} : xs_sm (xp_dr st v) = xs_sm st := (rfl)
theorem rx_ox_zw {st : xS} {j : Nat} {v : Int64} : xs_ox (xp_zw st j v) = xs_ox st := (rfl)
theorem rx_ox_he {st : xS} {v : Int64} : xs_ox (xp_he st v) = xs_ox st := (rfl)
theorem rx_ox_yA {st : xS} {v : Int64} : xs_ox (xp_yA st v) = xs_ox st := (rfl)
theorem rx_ox_dr {st : xS} {v : Int64} : xs_ox (xp_dr st v) = xs_ox st := (rfl)
theorem rx_bu_zw {st : xS} {j : Nat} {v : Int64} : xs_bu (xp_zw st j v) = xs_bu st := (rfl)
theorem rx_bu_yA {st : xS} {v : Int64} : xs_bu (xp_yA st v) = xs_bu st := (rfl)
theorem rx_bu_dr {st : xS} {v : Int64} : xs_bu (xp_dr st v) = xs_bu st := (rfl)
theorem rx_bb_zw {st : xS} {j : Nat} {v : Int64} : xs_bb (xp_zw st j v) = xs_bb st := (rfl)
theorem rx_bb_he {st : xS} {v : Int64} : xs_bb (xp_he st v) = xs_bb st := (rfl)
theorem rx_bb_yA {st : xS} {v : Int64} : xs_bb (xp_yA st v) = xs_bb st := (rfl)
theorem rx_bb_dr {st : xS} {v : Int64} : xs_bb (xp_dr st v) = xs_bb st := (rfl)
theorem rm_bu_al {st : mS} {j : Nat} {v : Int64} : ms_bu (mp_al st j v) = ms_bu st := (rfl)
theorem rm_bu_la {st : mS} {j : Nat} {v : Int64} : ms_bu (mp_la st j v) = ms_bu st := (rfl)
theorem rm_bu_wa {st : mS} {j : Nat} {v : Int64} : ms_bu (mp_wa st j v) = ms_bu st := (rfl)
theorem fx_C_he {st : xS} {ms : mS} {v : Int64} : siC (xp_he st v) ms = siC st ms := (rfl)
theorem fx_C_yA {st : xS} {ms : mS} {v : Int64} : siC (xp_yA st v) ms = siC st ms := (rfl)
theorem fx_C_dr {st : xS} {ms : mS} {v : Int64} : siC (xp_dr st v) ms = siC st ms := (rfl)
theorem fm_C_la {st : xS} {ms : mS} {j : Nat} {v : Int64} : siC st (mp_la ms j v) = siC st ms := (rfl)
theorem fx_M_he {st : xS} {ms : mS} {Z : Nat} {v : Int64} : siM Z (xp_he st v) ms = siM Z st ms := (rfl)
theorem fx_M_yA {st : xS} {ms : mS} {Z : Nat} {v : Int64} : siM Z (xp_yA st v) ms = siM Z st ms := (rfl)
theorem fx_M_dr {st : xS} {ms : mS} {Z : Nat} {v : Int64} : siM Z (xp_dr st v) ms = siM Z st ms := (rfl)
theorem fm_M_la {st : xS} {ms : mS} {Z : Nat} {j : Nat} {v : Int64} : siM Z st (mp_la ms j v) = siM Z st ms := (rfl)
theorem fx_A_he {st : xS} {ms : mS} {v : Int64} : siA (xp_he st v) ms = siA st ms := (rfl)
theorem fx_A_yA {st : xS} {ms : mS} {v : Int64} : siA (xp_yA st v) ms = siA st ms := (rfl)
theorem fx_A_dr {st : xS} {ms : mS} {v : Int64} : siA (xp_dr st v) ms = siA st ms := (rfl)
theorem fm_A_al1 {st : xS} {ms : mS} {v : Int64} : siA st (mp_al ms 1 v) = siA st ms := (rfl)
theorem fm_A_al8 {st : xS} {ms : mS} {v : Int64} : siA st (mp_al ms 8 v) = siA st ms := (rfl)
theorem fm_A_al9 {st : xS} {ms : mS} {v : Int64} : siA st (mp_al ms 9 v) = siA st ms := (rfl)
theorem fm_A_la {st : xS} {ms : mS} {j : Nat} {v : Int64} : siA st (mp_la ms j v) = siA st ms := (rfl)
theorem rx_zw_he {st : xS} {v : Int64} : xs_zw (xp_he st v) = xs_zw st := (rfl)
theorem rx_zw_yA {st : xS} {v : Int64} : xs_zw (xp_yA st v) = xs_zw st := (rfl)
theorem rx_zw_dr {st : xS} {v : Int64} : xs_zw (xp_dr st v) = xs_zw st := (rfl)
theorem rx_zf_he {st : xS} {v : Int64} : xs_zf (xp_he st v) = xs_zf st := (rfl)
theorem rx_zf_yA {st : xS} {v : Int64} : xs_zf (xp_yA st v) = xs_zf st := (rfl)
theorem rx_zf_dr {st : xS} {v : Int64} : xs_zf (xp_dr st v) = xs_zf st := (rfl)
theorem rx_za_he {st : xS} {v : Int64} : xs_za (xp_he st v) = xs_za st := (rfl)
theorem rx_za_yA {st : xS} {v : Int64} : xs_za (xp_yA st v) = xs_za st := (rfl)
theorem rx_za_dr {st : xS} {v : Int64} : xs_za (xp_dr st v) = xs_za st := (rfl)
theorem rm_ah_al {st : mS} {j : Nat} {v : Int64} : ms_ah (mp_al st j v) = ms_ah st := (rfl)
theorem rm_ah_la {st : mS} {j : Nat} {v : Int64} : ms_ah (mp_la st j v) = ms_ah st := (rfl)
theorem rx_dA_zw {st : xS} {j : Nat} {v : Int64} : xs_dA (xp_zw st j v) = xs_dA st := (rfl)
theorem rx_dA_he {st : xS} {v : Int64} : xs_dA (xp_he st v) = xs_dA st := (rfl)
theorem rx_dA_yA {st : xS} {v : Int64} : xs_dA (xp_yA st v) = xs_dA st := (rfl)
theorem rx_dA_dr {st : xS} {v : Int64} : xs_dA (xp_dr st v) = xs_dA st := (rfl)
theorem fx_N_he {st : xS} {ms : mS} {d : Int64} {v : Int64} : siN d (xp_he st v) ms = siN d st ms := (rfl)
theorem fx_N_yA {st : xS} {ms : mS} {d : Int64} {v : Int64} : siN d (xp_yA st v) ms = siN d st ms := (rfl)
theorem fx_N_dr {st : xS} {ms : mS} {d : Int64} {v : Int64} : siN d (xp_dr st v) ms = siN d st ms := (rfl)
theorem fm_N_al1 {st : xS} {ms : mS} {d : Int64} {v : Int64} : siN d st (mp_al ms 1 v) = siN d st ms := (rfl)
theorem fm_N_al8 {st : xS} {ms : mS} {d : Int64} {v : Int64} : siN d st (mp_al ms 8 v) = siN d st ms := (rfl)
theorem fm_N_al9 {st : xS} {ms : mS} {d : Int64} {v : Int64} : siN d st (mp_al ms 9 v) = siN d st ms := (rfl)
theorem fm_N_la {st : xS} {ms : mS} {d : Int64} {j : Nat} {v : Int64} : siN d st (mp_la ms j v) = siN d st ms := (rfl)
theorem fx_I_he {st : xS} {ms : mS} {t : Int32} {v : Int64} : siI t (xp_he st v) ms = siI t st ms := (rfl)
theorem fx_I_yA {st : xS} {ms : mS} {t : Int32} {v : Int64} : siI t (xp_yA st v) ms = siI t st ms := (rfl)
theorem fx_I_dr {st : xS} {ms : mS} {t : Int32} {v : Int64} : siI t (xp_dr st v) ms = siI t st ms := (rfl)
theorem fm_I_la {st : xS} {ms : mS} {t : Int32} {j : Nat} {v : Int64} : siI t st (mp_la ms j v) = siI t st ms := (rfl)
theorem fx_K_fA {st : xS} {ms : mS} {v : Int64} : siK (xp_fA st v) ms = siK st ms := (rfl)
theorem fx_K_bu {st : xS} {ms : mS} {v : Int64} : siK (xp_bu st v) ms = siK st ms := (rfl)
theorem fm_K_al2 {st : xS} {ms : mS} {v : Int64} : siK st (mp_al ms 2 v) = siK st ms := (rfl)
theorem fm_K_al5 {st : xS} {ms : mS} {v : Int64} : siK st (mp_al ms 5 v) = siK st ms := (rfl)
theorem fx_G_fA {st : xS} {ms : mS} {v : Int64} : siG (xp_fA st v) ms = siG st ms := (rfl)
theorem fx_G_bu {st : xS} {ms : mS} {v : Int64} : siG (xp_bu st v) ms = siG st ms := (rfl)
theorem fx_T_fA {st : xS} {ms : mS} {Z : Nat} {v : Int64} : siT Z (xp_fA st v) ms = siT Z st ms := (rfl)
theorem fx_T_bu {st : xS} {ms : mS} {Z : Nat} {v : Int64} : siT Z (xp_bu st v) ms = siT Z st ms := (rfl)
theorem rx_nA_zf {st : xS} {j : Nat} {v : Int64} : xs_nA (xp_zf st j v) = xs_nA st := (rfl)
theorem rx_nA_fA {st : xS} {v : Int64} : xs_nA (xp_fA st v) = xs_nA st := (rfl)
theorem rx_nA_bu {st : xS} {v : Int64} : xs_nA (xp_bu st v) = xs_nA st := (rfl)
theorem rx_sA_zf {st : xS} {j : Nat} {v : Int64} : xs_sA (xp_zf st j v) = xs_sA st := (rfl)
theorem rx_sA_fA {st : xS} {v : Int64} : xs_sA (xp_fA st v) = xs_sA st := (rfl)
theorem rx_sA_bu {st : xS} {v : Int64} : xs_sA (xp_bu st v) = xs_sA st := (rfl)
theorem rx_yA_zf {st : xS} {j : Nat} {v : Int64} : xs_yA (xp_zf st j v) = xs_yA st := (rfl)
theorem rx_yA_fA {st : xS} {v : Int64} : xs_yA (xp_fA st v) = xs_yA st := (rfl)
theorem rx_yA_bu {st : xS} {v : Int64} : xs_yA (xp_bu st v) = xs_yA st := (rfl)
theorem rx_sm_zf {st : xS} {j : Nat} {v : Int64} : xs_sm (xp_zf st j v) = xs_sm st := (rfl)
theorem rx_sm_fA {st : xS} {v : Int64} : xs_sm (xp_fA st v) = xs_sm st := (rfl)
theorem rx_sm_bu {st : xS} {v : Int64} : xs_sm (xp_bu st v) = xs_sm st := (rfl)
theorem rx_ox_zf {st : xS} {j : Nat} {v : Int64} : xs_ox (xp_zf st j v) = xs_ox st := (rfl)
theorem rx_ox_fA {st : xS} {v : Int64} : xs_ox (xp_fA st v) = xs_ox st := (rfl)
theorem rx_ox_bu {st : xS} {v : Int64} : xs_ox (xp_bu st v) = xs_ox st := (rfl)
theorem rx_dr_zf {st : xS} {j : Nat} {v : Int64} : xs_dr (xp_zf st j v) = xs_dr st := (rfl)
theorem rx_dr_fA {st : xS} {v : Int64} : xs_dr (xp_fA st v) = xs_dr st := (rfl)
theorem rx_dr_bu {st : xS} {v : Int64} : xs_dr (xp_bu st v) = xs_dr st := (rfl)
theorem rx_bb_zf {st : xS} {j : Nat} {v : Int64} : xs_bb (xp_zf st j v) = xs_bb st := (rfl)
theorem rx_bb_fA {st : xS} {v : Int64} : xs_bb (xp_fA st v) = xs_bb st := (rfl)
theorem rx_bb_bu {st : xS} {v : Int64} : xs_bb (xp_bu st v) = xs_bb st := (rfl)
theorem rm_bu_fu {st : mS} {j : Nat} {v : Int64} : ms_bu (mp_fu st j v) = ms_bu st := (rfl)
theorem fx_C_fA {st : xS} {ms : mS} {v : Int64} : siC (xp_fA st v) ms = siC st ms := (rfl)
theorem fx_C_bu {st : xS} {ms : mS} {v : Int64} : siC (xp_bu st v) ms = siC st ms := (rfl)
theorem fx_M_fA {st : xS} {ms : mS} {Z : Nat} {v : Int64} : siM Z (xp_fA st v) ms = siM Z st ms := (rfl)
theorem fx_M_bu {st : xS} {ms : mS} {Z : Nat} {v : Int64} : siM Z (xp_bu st v) ms = siM Z st ms := (rfl)
theorem fx_A_fA {st : xS} {ms : mS} {v : Int64} : siA (xp_fA st v) ms = siA st ms := (rfl)
theorem fx_A_bu {st : xS} {ms : mS} {v : Int64} : siA (xp_bu st v) ms = siA st ms := (rfl)
theorem fm_A_al2 {st : xS} {ms : mS} {v : Int64} : siA st (mp_al ms 2 v) = siA st ms := (rfl)
theorem fm_A_al5 {st : xS} {ms : mS} {v : Int64} : siA st (mp_al ms 5 v) = siA st ms := (rfl)
theorem rx_zw_fA {st : xS} {v : Int64} : xs_zw (xp_fA st v) = xs_zw st := (rfl)
theorem rx_zw_bu {st : xS} {v : Int64} : xs_zw (xp_bu st v) = xs_zw st := (rfl)
theorem rx_zf_fA {st : xS} {v : Int64} : xs_zf (xp_fA st v) = xs_zf st := (rfl)
theorem rx_zf_bu {st : xS} {v : Int64} : xs_zf (xp_bu st v) = xs_zf st := (rfl)
theorem rx_za_fA {st : xS} {v : Int64} : xs_za (xp_fA st v) = xs_za st := (rfl)
theorem rx_za_bu {st : xS} {v : Int64} : xs_za (xp_bu st v) = xs_za st := (rfl)
theorem fx_D_he {st : xS} {ms : mS} {d : Int64} {v : Int64} : siD d (xp_he st v) ms = siD d st ms := (rfl)
theorem fx_D_fA {st : xS} {ms : mS} {d : Int64} {v : Int64} : siD d (xp_fA st v) ms = siD d st ms := (rfl)
theorem fx_D_bu {st : xS} {ms : mS} {d : Int64} {v : Int64} : siD d (xp_bu st v) ms = siD d st ms := (rfl)
theorem fm_D_al2 {st : xS} {ms : mS} {d : Int64} {v : Int64} : siD d st (mp_al ms 2 v) = siD d st ms := (rfl)
theorem fm_D_al5 {st : xS} {ms : mS} {d : Int64} {v : Int64} : siD d st (mp_al ms 5 v) = siD d st ms := (rfl)
theorem fm_D_al9 {st : xS} {ms : mS} {d : Int64} {v : Int64} : siD d st (mp_al ms 9 v) = siD d st ms := (rfl)
theorem fm_D_la {st : xS} {ms : mS} {d : Int64} {j : Nat} {v : Int64} : siD d st (mp_la ms j v) = siD d st ms := (rfl)
theorem rx_bA_zf {st : xS} {j : Nat} {v : Int64} : xs_bA (xp_zf st j v) = xs_bA st := (rfl)
theorem rx_bA_he {st : xS} {v : Int64} : xs_bA (xp_he st v) = xs_bA st := (rfl)
theorem rx_bA_fA {st : xS} {v : Int64} : xs_bA (xp_fA st v) = xs_bA st := (rfl)
theorem rx_bA_bu {st : xS} {v : Int64} : xs_bA (xp_bu st v) = xs_bA st := (rfl)
theorem fx_I_fA {st : xS} {ms : mS} {t : Int32} {v : Int64} : siI t (xp_fA st v) ms = siI t st ms := (rfl)
theorem fx_I_bu {st : xS} {ms : mS} {t : Int32} {v : Int64} : siI t (xp_bu st v) ms = siI t st ms := (rfl)
theorem fx_H_bu {st : xS} {ms : mS} {v : Int64} : siH (xp_bu st v) ms = siH st ms := (rfl)
theorem fx_Z_bu {st : xS} {ms : mS} {Z : Nat} {v : Int64} : siZ Z (xp_bu st v) ms = siZ Z st ms := (rfl)
theorem fx_N_bu {st : xS} {ms : mS} {d : Int64} {v : Int64} : siN d (xp_bu st v) ms = siN d st ms := (rfl)
/-! a zone dries and burns -/
def mdq (ms : mS) (z : Nat) : Int64 := f_Mo_least (f_Mo_partOf (ms_wa ms z) (ms_dr ms z).toInt64) (ms_al ms 9 / 2500)
def mD (ms : mS) (z : Nat) : mS := mp_la (mp_al (mp_al (mp_al (mp_wa ms z (ms_wa ms z - mdq ms z)) 9 (ms_al ms 9 - 2500 * mdq ms z)) 8 (ms_al ms 8 + 2500 * mdq ms z)) 1 (ms_al ms 1 + mdq ms z)) 3 (ms_la ms 3 + mdq ms z)
def mbq (ms : mS) (z : Nat) : Int64 := f_Mo_least (ms_fu ms z) (f_Mo_least ((ms_ai ms z) / 6).toInt64 (f_Mo_partOf (ms_fu ms z) 50 + 1))
def mB (ms : mS) (z : Nat) : mS := mp_la (mp_al (mp_al (mp_al (mp_fu ms z (ms_fu ms z - mbq ms z)) 9 (ms_al ms 9 + 10000 * mbq ms z)) 5 (ms_al ms 5 + 10000 * mbq ms z)) 2 (ms_al ms 2 + mbq ms z)) 2 (ms_la ms 2 + mbq ms z)
set_option maxRecDepth 100000 in
set_option maxHeartbeats 2000000 in
theorem burnsOn_s (Z : Nat) (ms : mS) (z : Nat) : f_Mo_burnsOn Z ms z = if lg_cmp (ms_wa (mD ms z) z) (ms_fu (mD ms z) z) ≤ 0 then mB (mD ms z) z else mD ms z := by
  unfold f_Mo_burnsOn
  simp only [mD, mB, mdq, mbq, updL_eq, rm_ai_al, rm_ai_fu, rm_ai_la, rm_ai_wa, rm_al_al, rm_al_fu, rm_al_la, rm_al_wa, rm_dr_al, rm_dr_fu, rm_dr_la, rm_dr_wa, rm_fu_al, rm_fu_fu, rm_fu_la, rm_fu_wa, rm_la_al, rm_la_fu, rm_la_la, rm_la_wa, rm_wa_al, rm_wa_fu, rm_wa_la, rm_wa_wa, uL_0_1, uL_0_2, uL_0_3, uL_0_4, uL_0_5, uL_0_6, uL_0_7, uL_0_8, uL_0_9, uL_1_0, uL_1_2, uL_1_3, uL_1_4, uL_1_5, uL_1_6, uL_1_7, uL_1_8, uL_1_9, uL_2_0, uL_2_1, uL_2_3, uL_2_4, uL_2_5, uL_2_6, uL_2_7, uL_2_8, uL_2_9, uL_3_0, uL_3_1, uL_3_2, uL_3_4, uL_3_5, uL_3_6, uL_3_7, uL_3_8, uL_3_9, uL_4_0, uL_4_1, uL_4_2, uL_4_3, uL_4_5, uL_4_6, uL_4_7, uL_4_8, uL_4_9, uL_5_0, uL_5_1, uL_5_2, uL_5_3, uL_5_4, uL_5_6, uL_5_7, uL_5_8, uL_5_9, uL_6_0, uL_6_1, uL_6_2, uL_6_3, uL_6_4, uL_6_5, uL_6_7, uL_6_8, uL_6_9, uL_7_0, uL_7_1, uL_7_2, uL_7_3, uL_7_4, uL_7_5, uL_7_6, uL_7_8, uL_7_9, uL_8_0, uL_8_1, uL_8_2, uL_8_3, uL_8_4, uL_8_5, uL_8_6, uL_8_7, uL_8_9, uL_9_0, uL_9_1, uL_9_2, uL_9_3, uL_9_4, uL_9_5, uL_9_6, uL_9_7, uL_9_8]
def cdq (st : xS) (j : Nat) : Int64 := f_Mo_least (f_Mo_partOf (xs_zw st j) (xs_zd st j).toInt64) (xs_he st / 2500)
def cD (st : xS) (j : Nat) : xS := xp_dr (xp_yA (xp_he (xp_zw st j (xs_zw st j - cdq st j)) (xs_he st - cdq st j * 2500)) (xs_yA st + cdq st j * 2500)) (xs_dr st + cdq st j)
def cbq (st : xS) (j : Nat) : Int64 := f_Mo_least (f_Mo_least (xs_zf st j) ((xs_zv st j) / 6).toInt64) (f_Mo_partOf (xs_zf st j) 50 + 1)
def cB (st : xS) (j : Nat) : xS := xp_bu (xp_fA (xp_he (xp_zf st j (xs_zf st j - cbq st j)) (xs_he st + cbq st j * 10000)) (xs_fA st + cbq st j * 10000)) (xs_bu st + cbq st j)
def cS (st : xS) (j : Nat) : xS := if lg_cmp (xs_zw (cD st j) j) (xs_zf (cD st j) j) ≤ 0 then cB (cD st j) j else xp_bu (cD st j) (xs_bu (cD st j) + 0)
theorem pu_min2 (a b : Int64) : (if b < a then b else a) = f_Mo_least a b := pu_min a b
theorem t50 : ((50 : Int32).toInt64) = 50 := by decide
theorem dry_s (Z : Nat) (st : xS) (j : Nat) : xp_dr (f_Zo_dry Z st j).2 (xs_dr st + (f_Zo_dry Z st j).1) = cD st j := by
  simp only [f_Zo_dry, f_Fu_spendOnDrying, cD, cdq, pu_part2, pu_min2, rx_yA_yA, rx_yA_he, rx_yA_zw, rx_yA_dr, rx_he_yA, rx_he_he, rx_he_zw, rx_he_dr, rx_dr_yA, rx_dr_he, rx_dr_zw, rx_dr_dr]
theorem burn_s (Z : Nat) (st : xS) (j : Nat) : xp_bu (f_Zo_burn Z st j).2 (xs_bu st + (f_Zo_burn Z st j).1) = if lg_cmp (xs_zw st j) (xs_zf st j) ≤ 0 then cB st j else xp_bu st (xs_bu st + 0) := by
  unfold f_Zo_burn
  by_cases c : lg_cmp (xs_zw st j) (xs_zf st j) ≤ 0
  · rw [if_pos c, if_pos c]
    simp only [f_Fu_takeFromFuel, cB, cbq, pu_part2, pu_min2, t50, rx_fA_fA, rx_fA_he, rx_fA_zf, rx_fA_bu, rx_he_fA, rx_he_he, rx_he_zf, rx_he_bu, rx_bu_fA, rx_bu_he, rx_bu_zf, rx_bu_bu]
  · rw [if_neg c, if_neg c]
theorem lp_dab_s (Z n j : Nat) (ai : Int64) (st : xS) : lp_dryAndBurn Z (n + 1) j ai st = lp_dryAndBurn Z n (j + 1) (ai + (xs_zv (cS st j) j).toInt64) (cS st j) := by
  rw [lp_dryAndBurn, dry_s, burn_s]
  rfl
theorem lm_min_s (Z n j : Nat) (ai : Int64) (ms : mS) : lm_min Z (n + 1) j ai ms = lm_min Z n (j + 1) (ai + (ms_ai (f_Mo_burnsOn Z ms j) j).toInt64) (f_Mo_burnsOn Z ms j) := by
  rw [lm_min]
theorem least_toInt (a b : Int64) : (f_Mo_least a b).toInt = if b.toInt ≤ a.toInt then b.toInt else a.toInt := by
  unfold f_Mo_least
  by_cases h : b ≤ a
  · rw [if_pos ((lg_cmp_ge _ _).mpr h), if_pos (Int64.le_iff_toInt_le.mp h)]
  · rw [if_neg (fun q => h ((lg_cmp_ge _ _).mp q)), if_neg (fun q => h (Int64.le_iff_toInt_le.mpr q))]
theorem least_assoc (a b c : Int64) : f_Mo_least (f_Mo_least a b) c = f_Mo_least a (f_Mo_least b c) := by
  apply Int64.toInt_inj.mp
  rw [least_toInt, least_toInt, least_toInt, least_toInt]
  repeat' split
  all_goals first | rfl | omega
theorem cD_q {Z j : Nat} {t : Int32} {d b : Int64} {st : xS} {ms : mS} (hj : j < Z) (h : siE Z t d b st ms) : cdq st j = mdq ms j := by
  unfold cdq mdq
  rw [(h.2.2.2.2.2.2.2.2.1 j hj).1, h.2.2.1.2.2.2.2.2 j hj, h.2.2.2.1.1]
theorem cB_q {Z j : Nat} {t : Int32} {d b : Int64} {st : xS} {ms : mS} (hj : j < Z) (h : siE Z t d b st ms) : cbq st j = mbq ms j := by
  unfold cbq mbq
  rw [least_assoc, (h.2.2.2.2.2.2.2.2.1 j hj).2.1, h.2.2.2.2.2.2.1.2 j hj]
theorem siE_D {Z j : Nat} {t : Int32} {st : xS} {ms : mS} (hj : j < Z) (hq : cdq st j = mdq ms j) (h : siE Z t (xs_dr st) (xs_bu st) st ms) : siE Z t (xs_dr (cD st j)) (xs_bu (cD st j)) (cD st j) (mD ms j) := by
  obtain ⟨hK, hG, hT, hH, hL, hC, hM, hA, hZ, hD, hN, hI⟩ := h
  refine ⟨?_, ?_, ?_, ?_, ?_, ?_, ?_, ?_, ?_, ?_, ?_, ?_⟩
  · simp only [cD, mD, fx_K_zw, fx_K_he, fx_K_yA, fx_K_dr, fm_K_al1, fm_K_al8, fm_K_al9, fm_K_la, fm_K_wa]
    exact hK
  · simp only [cD, mD, fx_G_zw, fx_G_he, fx_G_yA, fx_G_dr, fm_G_al, fm_G_la, fm_G_wa]
    exact hG
  · simp only [cD, mD, fx_T_zw, fx_T_he, fx_T_yA, fx_T_dr, fm_T_al, fm_T_la, fm_T_wa]
    exact hT
  · simp only [siH, cD, mD, updL_eq, rx_he_zw, rx_he_he, rx_he_yA, rx_he_dr, rx_fA_zw, rx_fA_he, rx_fA_yA, rx_fA_dr, rx_nA_zw, rx_nA_he, rx_nA_yA, rx_nA_dr, rx_sA_zw, rx_sA_he, rx_sA_yA, rx_sA_dr, rx_yA_zw, rx_yA_he, rx_yA_yA, rx_yA_dr, rm_al_al, rm_al_la, rm_al_wa, uL_0_1, uL_0_2, uL_0_3, uL_0_4, uL_0_5, uL_0_6, uL_0_7, uL_0_8, uL_0_9, uL_1_0, uL_1_2, uL_1_3, uL_1_4, uL_1_5, uL_1_6, uL_1_7, uL_1_8, uL_1_9, uL_2_0, uL_2_1, uL_2_3, uL_2_4, uL_2_5, uL_2_6, uL_2_7, uL_2_8, uL_2_9, uL_3_0, uL_3_1, uL_3_2, uL_3_4, uL_3_5, uL_3_6, uL_3_7, uL_3_8, uL_3_9, uL_4_0, uL_4_1, uL_4_2, uL_4_3, uL_4_5, uL_4_6, uL_4_7, uL_4_8, uL_4_9, uL_5_0, uL_5_1, uL_5_2, uL_5_3, uL_5_4, uL_5_6, uL_5_7, uL_5_8, uL_5_9, uL_6_0, uL_6_1, uL_6_2, uL_6_3, uL_6_4, uL_6_5, uL_6_7, uL_6_8, uL_6_9, uL_7_0, uL_7_1, uL_7_2, uL_7_3, uL_7_4, uL_7_5, uL_7_6, uL_7_8, uL_7_9, uL_8_0, uL_8_1, uL_8_2, uL_8_3, uL_8_4, uL_8_5, uL_8_6, uL_8_7, uL_8_9, uL_9_0, uL_9_1, uL_9_2, uL_9_3, uL_9_4, uL_9_5, uL_9_6, uL_9_7, uL_9_8]
    obtain ⟨g1, g2, g3, g4, g5⟩ := hH
    rw [hq, g1, g5, Int64.mul_comm (mdq ms j) 2500]
    exact ⟨rfl, g2, g3, g4, rfl⟩
  · simp only [siL, cD, mD, updL_eq, rx_sm_zw, rx_sm_he, rx_sm_yA, rx_sm_dr, rx_ox_zw, rx_ox_he, rx_ox_yA, rx_ox_dr, rx_bu_zw, rx_bu_he, rx_bu_yA, rx_bu_dr, rx_dr_zw, rx_dr_he, rx_dr_yA, rx_dr_dr, rx_bb_zw, rx_bb_he, rx_bb_yA, rx_bb_dr, rm_bu_al, rm_bu_la, rm_bu_wa, rm_la_al, rm_la_la, rm_la_wa, uL_0_1, uL_0_2, uL_0_3, uL_0_4, uL_0_5, uL_0_6, uL_0_7, uL_0_8, uL_0_9, uL_1_0, uL_1_2, uL_1_3, uL_1_4, uL_1_5, uL_1_6, uL_1_7, uL_1_8, uL_1_9, uL_2_0, uL_2_1, uL_2_3, uL_2_4, uL_2_5, uL_2_6, uL_2_7, uL_2_8, uL_2_9, uL_3_0, uL_3_1, uL_3_2, uL_3_4, uL_3_5, uL_3_6, uL_3_7, uL_3_8, uL_3_9, uL_4_0, uL_4_1, uL_4_2, uL_4_3, uL_4_5, uL_4_6, uL_4_7, uL_4_8, uL_4_9, uL_5_0, uL_5_1, uL_5_2, uL_5_3, uL_5_4, uL_5_6, uL_5_7, uL_5_8, uL_5_9, uL_6_0, uL_6_1, uL_6_2, uL_6_3, uL_6_4, uL_6_5, uL_6_7, uL_6_8, uL_6_9, uL_7_0, uL_7_1, uL_7_2, uL_7_3, uL_7_4, uL_7_5, uL_7_6, uL_7_8, uL_7_9, uL_8_0, uL_8_1, uL_8_2, uL_8_3, uL_8_4, uL_8_5, uL_8_6, uL_8_7, uL_8_9, uL_9_0, uL_9_1, uL_9_2, uL_9_3, uL_9_4, uL_9_5, uL_9_6, uL_9_7, uL_9_8]
    obtain ⟨g1, g2, g3, g4, g5⟩ := hL
    rw [hq, g4]
    exact ⟨g1, g2, g3, rfl, g5⟩
  · simp only [cD, mD, fx_C_zw, fx_C_he, fx_C_yA, fx_C_dr, fm_C_al, fm_C_la, fm_C_wa]
    exact hC
  · simp only [cD, mD, fx_M_zw, fx_M_he, fx_M_yA, fx_M_dr, fm_M_al, fm_M_la, fm_M_wa]
    exact hM
  · simp only [cD, mD, fx_A_zw, fx_A_he, fx_A_yA, fx_A_dr, fm_A_al1, fm_A_al8, fm_A_al9, fm_A_la, fm_A_wa]
    exact hA
  · intro i hi
    obtain ⟨p1, p2, p3⟩ := hZ i hi
    obtain ⟨g1, g2, g3⟩ := hZ j hj
    simp only [cD, mD, rx_zw_zw, rx_zw_he, rx_zw_yA, rx_zw_dr, rx_zf_zw, rx_zf_he, rx_zf_yA, rx_zf_dr, rx_za_zw, rx_za_he, rx_za_yA, rx_za_dr, rm_ah_al, rm_ah_la, rm_ah_wa, rm_fu_al, rm_fu_la, rm_fu_wa, rm_wa_al, rm_wa_la, rm_wa_wa]
    exact ⟨updL2 p1 (by rw [g1, hq]), p2, p3⟩
  · simp only [siD, cD, mD, updL_eq, rx_dA_zw, rx_dA_he, rx_dA_yA, rx_dA_dr, rx_dr_zw, rx_dr_he, rx_dr_yA, rx_dr_dr, rm_al_al, rm_al_la, rm_al_wa, uL_0_1, uL_0_2, uL_0_3, uL_0_4, uL_0_5, uL_0_6, uL_0_7, uL_0_8, uL_0_9, uL_1_0, uL_1_2, uL_1_3, uL_1_4, uL_1_5, uL_1_6, uL_1_7, uL_1_8, uL_1_9, uL_2_0, uL_2_1, uL_2_3, uL_2_4, uL_2_5, uL_2_6, uL_2_7, uL_2_8, uL_2_9, uL_3_0, uL_3_1, uL_3_2, uL_3_4, uL_3_5, uL_3_6, uL_3_7, uL_3_8, uL_3_9, uL_4_0, uL_4_1, uL_4_2, uL_4_3, uL_4_5, uL_4_6, uL_4_7, uL_4_8, uL_4_9, uL_5_0, uL_5_1, uL_5_2, uL_5_3, uL_5_4, uL_5_6, uL_5_7, uL_5_8, uL_5_9, uL_6_0, uL_6_1, uL_6_2, uL_6_3, uL_6_4, uL_6_5, uL_6_7, uL_6_8, uL_6_9, uL_7_0, uL_7_1, uL_7_2, uL_7_3, uL_7_4, uL_7_5, uL_7_6, uL_7_8, uL_7_9, uL_8_0, uL_8_1, uL_8_2, uL_8_3, uL_8_4, uL_8_5, uL_8_6, uL_8_7, uL_8_9, uL_9_0, uL_9_1, uL_9_2, uL_9_3, uL_9_4, uL_9_5, uL_9_6, uL_9_7, uL_9_8]
    rw [hq, ← Int64.add_assoc]
    exact congrArg (· + mdq ms j) hD
  · simp only [cD, mD, rx_bu_zw, rx_bu_he, rx_bu_yA, rx_bu_dr, fx_N_zw, fx_N_he, fx_N_yA, fx_N_dr, fm_N_al1, fm_N_al8, fm_N_al9, fm_N_la, fm_N_wa]
    exact hN
  · simp only [cD, mD, fx_I_zw, fx_I_he, fx_I_yA, fx_I_dr, fm_I_al, fm_I_la, fm_I_wa]
    exact hI
theorem siE_B {Z j : Nat} {t : Int32} {st : xS} {ms : mS} (hj : j < Z) (hq : cbq st j = mbq ms j) (h : siE Z t (xs_dr st) (xs_bu st) st ms) : siE Z t (xs_dr (cB st j)) (xs_bu (cB st j)) (cB st j) (mB ms j) := by
  obtain ⟨hK, hG, hT, hH, hL, hC, hM, hA, hZ, hD, hN, hI⟩ := h
  refine ⟨?_, ?_, ?_, ?_, ?_, ?_, ?_, ?_, ?_, ?_, ?_, ?_⟩
  · simp only [cB, mB, fx_K_zf, fx_K_he, fx_K_fA, fx_K_bu, fm_K_al2, fm_K_al5, fm_K_al9, fm_K_fu, fm_K_la]
    exact hK
  · simp only [cB, mB, fx_G_zf, fx_G_he, fx_G_fA, fx_G_bu, fm_G_al, fm_G_fu, fm_G_la]
    exact hG
  · simp only [cB, mB, fx_T_zf, fx_T_he, fx_T_fA, fx_T_bu, fm_T_al, fm_T_fu, fm_T_la]
    exact hT
  · simp only [siH, cB, mB, updL_eq, rx_he_zf, rx_he_he, rx_he_fA, rx_he_bu, rx_fA_zf, rx_fA_he, rx_fA_fA, rx_fA_bu, rx_nA_zf, rx_nA_he, rx_nA_fA, rx_nA_bu, rx_sA_zf, rx_sA_he, rx_sA_fA, rx_sA_bu, rx_yA_zf, rx_yA_he, rx_yA_fA, rx_yA_bu, rm_al_al, rm_al_fu, rm_al_la, uL_0_1, uL_0_2, uL_0_3, uL_0_4, uL_0_5, uL_0_6, uL_0_7, uL_0_8, uL_0_9, uL_1_0, uL_1_2, uL_1_3, uL_1_4, uL_1_5, uL_1_6, uL_1_7, uL_1_8, uL_1_9, uL_2_0, uL_2_1, uL_2_3, uL_2_4, uL_2_5, uL_2_6, uL_2_7, uL_2_8, uL_2_9, uL_3_0, uL_3_1, uL_3_2, uL_3_4, uL_3_5, uL_3_6, uL_3_7, uL_3_8, uL_3_9, uL_4_0, uL_4_1, uL_4_2, uL_4_3, uL_4_5, uL_4_6, uL_4_7, uL_4_8, uL_4_9, uL_5_0, uL_5_1, uL_5_2, uL_5_3, uL_5_4, uL_5_6, uL_5_7, uL_5_8, uL_5_9, uL_6_0, uL_6_1, uL_6_2, uL_6_3, uL_6_4, uL_6_5, uL_6_7, uL_6_8, uL_6_9, uL_7_0, uL_7_1, uL_7_2, uL_7_3, uL_7_4, uL_7_5, uL_7_6, uL_7_8, uL_7_9, uL_8_0, uL_8_1, uL_8_2, uL_8_3, uL_8_4, uL_8_5, uL_8_6, uL_8_7, uL_8_9, uL_9_0, uL_9_1, uL_9_2, uL_9_3, uL_9_4, uL_9_5, uL_9_6, uL_9_7, uL_9_8]
    obtain ⟨g1, g2, g3, g4, g5⟩ := hH
    rw [hq, g1, g2, Int64.mul_comm (mbq ms j) 10000]
    exact ⟨rfl, rfl, g3, g4, g5⟩
  · simp only [siL, cB, mB, updL_eq, rx_sm_zf, rx_sm_he, rx_sm_fA, rx_sm_bu, rx_ox_zf, rx_ox_he, rx_ox_fA, rx_ox_bu, rx_bu_zf, rx_bu_he, rx_bu_fA, rx_bu_bu, rx_dr_zf, rx_dr_he, rx_dr_fA, rx_dr_bu, rx_bb_zf, rx_bb_he, rx_bb_fA, rx_bb_bu, rm_bu_al, rm_bu_fu, rm_bu_la, rm_la_al, rm_la_fu, rm_la_la, uL_0_1, uL_0_2, uL_0_3, uL_0_4, uL_0_5, uL_0_6, uL_0_7, uL_0_8, uL_0_9, uL_1_0, uL_1_2, uL_1_3, uL_1_4, uL_1_5, uL_1_6, uL_1_7, uL_1_8, uL_1_9, uL_2_0, uL_2_1, uL_2_3, uL_2_4, uL_2_5, uL_2_6, uL_2_7, uL_2_8, uL_2_9, uL_3_0, uL_3_1, uL_3_2, uL_3_4, uL_3_5, uL_3_6, uL_3_7, uL_3_8, uL_3_9, uL_4_0, uL_4_1, uL_4_2, uL_4_3, uL_4_5, uL_4_6, uL_4_7, uL_4_8, uL_4_9, uL_5_0, uL_5_1, uL_5_2, uL_5_3, uL_5_4, uL_5_6, uL_5_7, uL_5_8, uL_5_9, uL_6_0, uL_6_1, uL_6_2, uL_6_3, uL_6_4, uL_6_5, uL_6_7, uL_6_8, uL_6_9, uL_7_0, uL_7_1, uL_7_2, uL_7_3, uL_7_4, uL_7_5, uL_7_6, uL_7_8, uL_7_9, uL_8_0, uL_8_1, uL_8_2, uL_8_3, uL_8_4, uL_8_5, uL_8_6, uL_8_7, uL_8_9, uL_9_0, uL_9_1, uL_9_2, uL_9_3, uL_9_4, uL_9_5, uL_9_6, uL_9_7, uL_9_8]
    obtain ⟨g1, g2, g3, g4, g5⟩ := hL
    rw [hq, g3]
    exact ⟨g1, g2, rfl, g4, g5⟩
  · simp only [cB, mB, fx_C_zf, fx_C_he, fx_C_fA, fx_C_bu, fm_C_al, fm_C_fu, fm_C_la]
    exact hC
  · simp only [cB, mB, fx_M_zf, fx_M_he, fx_M_fA, fx_M_bu, fm_M_al, fm_M_fu, fm_M_la]
    exact hM
  · simp only [cB, mB, fx_A_zf, fx_A_he, fx_A_fA, fx_A_bu, fm_A_al2, fm_A_al5, fm_A_al9, fm_A_fu, fm_A_la]
    exact hA
  · intro i hi
    obtain ⟨p1, p2, p3⟩ := hZ i hi
    obtain ⟨g1, g2, g3⟩ := hZ j hj
    simp only [cB, mB, rx_zw_zf, rx_zw_he, rx_zw_fA, rx_zw_bu, rx_zf_zf, rx_zf_he, rx_zf_fA, rx_zf_bu, rx_za_zf, rx_za_he, rx_za_fA, rx_za_bu, rm_ah_al, rm_ah_fu, rm_ah_la, rm_fu_al, rm_fu_fu, rm_fu_la, rm_wa_al, rm_wa_fu, rm_wa_la]
    exact ⟨p1, updL2 p2 (by rw [g2, hq]), p3⟩
  · simp only [cB, mB, rx_dr_zf, rx_dr_he, rx_dr_fA, rx_dr_bu, fx_D_zf, fx_D_he, fx_D_fA, fx_D_bu, fm_D_al2, fm_D_al5, fm_D_al9, fm_D_fu, fm_D_la]
    exact hD
  · simp only [siN, cB, mB, updL_eq, rx_bA_zf, rx_bA_he, rx_bA_fA, rx_bA_bu, rx_bu_zf, rx_bu_he, rx_bu_fA, rx_bu_bu, rm_al_al, rm_al_fu, rm_al_la, uL_0_1, uL_0_2, uL_0_3, uL_0_4, uL_0_5, uL_0_6, uL_0_7, uL_0_8, uL_0_9, uL_1_0, uL_1_2, uL_1_3, uL_1_4, uL_1_5, uL_1_6, uL_1_7, uL_1_8, uL_1_9, uL_2_0, uL_2_1, uL_2_3, uL_2_4, uL_2_5, uL_2_6, uL_2_7, uL_2_8, uL_2_9, uL_3_0, uL_3_1, uL_3_2, uL_3_4, uL_3_5, uL_3_6, uL_3_7, uL_3_8, uL_3_9, uL_4_0, uL_4_1, uL_4_2, uL_4_3, uL_4_5, uL_4_6, uL_4_7, uL_4_8, uL_4_9, uL_5_0, uL_5_1, uL_5_2, uL_5_3, uL_5_4, uL_5_6, uL_5_7, uL_5_8, uL_5_9, uL_6_0, uL_6_1, uL_6_2, uL_6_3, uL_6_4, uL_6_5, uL_6_7, uL_6_8, uL_6_9, uL_7_0, uL_7_1, uL_7_2, uL_7_3, uL_7_4, uL_7_5, uL_7_6, uL_7_8, uL_7_9, uL_8_0, uL_8_1, uL_8_2, uL_8_3, uL_8_4, uL_8_5, uL_8_6, uL_8_7, uL_8_9, uL_9_0, uL_9_1, uL_9_2, uL_9_3, uL_9_4, uL_9_5, uL_9_6, uL_9_7, uL_9_8]
    rw [hq, ← Int64.add_assoc]
    exact congrArg (· + mbq ms j) hN
  · simp only [cB, mB, fx_I_zf, fx_I_he, fx_I_fA, fx_I_bu, fm_I_al, fm_I_fu, fm_I_la]
    exact hI
theorem siE_0 {Z : Nat} {t : Int32} {st : xS} {ms : mS} (h : siE Z t (xs_dr st) (xs_bu st) st ms) : siE Z t (xs_dr (xp_bu st (xs_bu st + 0))) (xs_bu (xp_bu st (xs_bu st + 0))) (xp_bu st (xs_bu st + 0)) (ms) := by
  obtain ⟨hK, hG, hT, hH, hL, hC, hM, hA, hZ, hD, hN, hI⟩ := h
  refine ⟨?_, ?_, ?_, ?_, ?_, ?_, ?_, ?_, ?_, ?_, ?_, ?_⟩
  · simp only [fx_K_bu]
    exact hK
  · simp only [fx_G_bu]
    exact hG
  · simp only [fx_T_bu]
    exact hT
  · simp only [fx_H_bu]
    exact hH
  · simp only [siL, rx_sm_bu, rx_ox_bu, rx_bu_bu, rx_dr_bu, rx_bb_bu]
    obtain ⟨g1, g2, g3, g4, g5⟩ := hL
    rw [Int64.add_zero]
    exact ⟨g1, g2, g3, g4, g5⟩
  · simp only [fx_C_bu]
    exact hC
  · simp only [fx_M_bu]
    exact hM
  · simp only [fx_A_bu]
    exact hA
  · simp only [fx_Z_bu]
    exact hZ
  · simp only [rx_dr_bu, fx_D_bu]
    exact hD
  · simp only [rx_bu_bu, Int64.add_zero, fx_N_bu]
    exact hN
  · simp only [fx_I_bu]
    exact hI
