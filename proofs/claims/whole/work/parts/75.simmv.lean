theorem rx_lA_zw {st : xS} {j : Nat} {v : Int64} : xs_lA (xp_zw st j v) = xs_lA st := (rfl)
theorem rx_lA_zf {st : xS} {j : Nat} {v : Int64} : xs_lA (xp_zf st j v) = xs_lA st := (rfl)
theorem rx_lA_za {st : xS} {j : Nat} {v : Int64} : xs_lA (xp_za st j v) = xs_lA st := (rfl)
theorem rx_lA_lA {st : xS} {v : Int64} : xs_lA (xp_lA st v) = v := (rfl)
theorem rx_lA_aA {st : xS} {v : Int64} : xs_lA (xp_aA st v) = xs_lA st := (rfl)
theorem rx_aA_zw {st : xS} {j : Nat} {v : Int64} : xs_aA (xp_zw st j v) = xs_aA st := (rfl)
theorem rx_aA_zf {st : xS} {j : Nat} {v : Int64} : xs_aA (xp_zf st j v) = xs_aA st := (rfl)
theorem rx_aA_za {st : xS} {j : Nat} {v : Int64} : xs_aA (xp_za st j v) = xs_aA st := (rfl)
theorem rx_aA_lA {st : xS} {v : Int64} : xs_aA (xp_lA st v) = xs_aA st := (rfl)
theorem rx_aA_aA {st : xS} {v : Int64} : xs_aA (xp_aA st v) = v := (rfl)
theorem rx_zw_za {st : xS} {j : Nat} {v : Int64} : xs_zw (xp_za st j v) = xs_zw st := (rfl)
theorem rx_zw_zf {st : xS} {j : Nat} {v : Int64} : xs_zw (xp_zf st j v) = xs_zw st := (rfl)
theorem rx_zw_zw {st : xS} {j : Nat} {v : Int64} : xs_zw (xp_zw st j v) = vp_updL (xs_zw st) j v := (rfl)
theorem rx_zf_za {st : xS} {j : Nat} {v : Int64} : xs_zf (xp_za st j v) = xs_zf st := (rfl)
theorem rx_zf_zf {st : xS} {j : Nat} {v : Int64} : xs_zf (xp_zf st j v) = vp_updL (xs_zf st) j v := (rfl)
theorem rx_zf_zw {st : xS} {j : Nat} {v : Int64} : xs_zf (xp_zw st j v) = xs_zf st := (rfl)
theorem rx_za_za {st : xS} {j : Nat} {v : Int64} : xs_za (xp_za st j v) = vp_updL (xs_za st) j v := (rfl)
theorem rx_za_zf {st : xS} {j : Nat} {v : Int64} : xs_za (xp_zf st j v) = xs_za st := (rfl)
theorem rx_za_zw {st : xS} {j : Nat} {v : Int64} : xs_za (xp_zw st j v) = xs_za st := (rfl)
theorem rm_wa_ah {st : mS} {j : Nat} {v : Int64} : ms_wa (mp_ah st j v) = ms_wa st := (rfl)
theorem rm_wa_fu {st : mS} {j : Nat} {v : Int64} : ms_wa (mp_fu st j v) = ms_wa st := (rfl)
theorem rm_wa_wa {st : mS} {j : Nat} {v : Int64} : ms_wa (mp_wa st j v) = vp_updL (ms_wa st) j v := (rfl)
theorem rm_fu_ah {st : mS} {j : Nat} {v : Int64} : ms_fu (mp_ah st j v) = ms_fu st := (rfl)
theorem rm_fu_fu {st : mS} {j : Nat} {v : Int64} : ms_fu (mp_fu st j v) = vp_updL (ms_fu st) j v := (rfl)
theorem rm_fu_wa {st : mS} {j : Nat} {v : Int64} : ms_fu (mp_wa st j v) = ms_fu st := (rfl)
theorem rm_ah_ah {st : mS} {j : Nat} {v : Int64} : ms_ah (mp_ah st j v) = vp_updL (ms_ah st) j v := (rfl)
theorem rm_ah_fu {st : mS} {j : Nat} {v : Int64} : ms_ah (mp_fu st j v) = ms_ah st := (rfl)
theorem rm_ah_wa {st : mS} {j : Nat} {v : Int64} : ms_ah (mp_wa st j v) = ms_ah st := (rfl)
theorem rm_pe_ah {st : mS} {j : Nat} {v : Int64} : ms_pe (mp_ah st j v) = ms_pe st := (rfl)
theorem rm_pe_fu {st : mS} {j : Nat} {v : Int64} : ms_pe (mp_fu st j v) = ms_pe st := (rfl)
theorem rm_pe_wa {st : mS} {j : Nat} {v : Int64} : ms_pe (mp_wa st j v) = ms_pe st := (rfl)
theorem fx_K_zw {st : xS} {ms : mS} {j : Nat} {v : Int64} : siK (xp_zw st j v) ms = siK st ms := (rfl)
theorem fx_K_zf {st : xS} {ms : mS} {j : Nat} {v : Int64} : siK (xp_zf st j v) ms = siK st ms := (rfl)
theorem fx_K_za {st : xS} {ms : mS} {j : Nat} {v : Int64} : siK (xp_za st j v) ms = siK st ms := (rfl)
theorem fx_K_lA {st : xS} {ms : mS} {v : Int64} : siK (xp_lA st v) ms = siK st ms := (rfl)
theorem fx_K_aA {st : xS} {ms : mS} {v : Int64} : siK (xp_aA st v) ms = siK st ms := (rfl)
theorem fm_K_ah {st : xS} {ms : mS} {j : Nat} {v : Int64} : siK st (mp_ah ms j v) = siK st ms := (rfl)
theorem fm_K_al3 {st : xS} {ms : mS} {v : Int64} : siK st (mp_al ms 3 v) = siK st ms := (rfl)
theorem fm_K_al4 {st : xS} {ms : mS} {v : Int64} : siK st (mp_al ms 4 v) = siK st ms := (rfl)
theorem fm_K_fu {st : xS} {ms : mS} {j : Nat} {v : Int64} : siK st (mp_fu ms j v) = siK st ms := (rfl)
theorem fm_K_wa {st : xS} {ms : mS} {j : Nat} {v : Int64} : siK st (mp_wa ms j v) = siK st ms := (rfl)
theorem fx_G_zw {st : xS} {ms : mS} {j : Nat} {v : Int64} : siG (xp_zw st j v) ms = siG st ms := (rfl)
theorem fx_G_zf {st : xS} {ms : mS} {j : Nat} {v : Int64} : siG (xp_zf st j v) ms = siG st ms := (rfl)
theorem fx_G_za {st : xS} {ms : mS} {j : Nat} {v : Int64} : siG (xp_za st j v) ms = siG st ms := (rfl)
theorem fx_G_lA {st : xS} {ms : mS} {v : Int64} : siG (xp_lA st v) ms = siG st ms := (rfl)
theorem fx_G_aA {st : xS} {ms : mS} {v : Int64} : siG (xp_aA st v) ms = siG st ms := (rfl)
theorem fm_G_ah {st : xS} {ms : mS} {j : Nat} {v : Int64} : siG st (mp_ah ms j v) = siG st ms := (rfl)
theorem fm_G_al {st : xS} {ms : mS} {j : Nat} {v : Int64} : siG st (mp_al ms j v) = siG st ms := (rfl)
theorem fm_G_fu {st : xS} {ms : mS} {j : Nat} {v : Int64} : siG st (mp_fu ms j v) = siG st ms := (rfl)
theorem fm_G_wa {st : xS} {ms : mS} {j : Nat} {v : Int64} : siG st (mp_wa ms j v) = siG st ms := (rfl)
theorem fx_T_zw {st : xS} {ms : mS} {Z : Nat} {j : Nat} {v : Int64} : siT Z (xp_zw st j v) ms = siT Z st ms := (rfl)
theorem fx_T_zf {st : xS} {ms : mS} {Z : Nat} {j : Nat} {v : Int64} : siT Z (xp_zf st j v) ms = siT Z st ms := (rfl)
theorem fx_T_za {st : xS} {ms : mS} {Z : Nat} {j : Nat} {v : Int64} : siT Z (xp_za st j v) ms = siT Z st ms := (rfl)
theorem fx_T_lA {st : xS} {ms : mS} {Z : Nat} {v : Int64} : siT Z (xp_lA st v) ms = siT Z st ms := (rfl)
theorem fx_T_aA {st : xS} {ms : mS} {Z : Nat} {v : Int64} : siT Z (xp_aA st v) ms = siT Z st ms := (rfl)
theorem fm_T_ah {st : xS} {ms : mS} {Z : Nat} {j : Nat} {v : Int64} : siT Z st (mp_ah ms j v) = siT Z st ms := (rfl)
theorem fm_T_al {st : xS} {ms : mS} {Z : Nat} {j : Nat} {v : Int64} : siT Z st (mp_al ms j v) = siT Z st ms := (rfl)
theorem fm_T_fu {st : xS} {ms : mS} {Z : Nat} {j : Nat} {v : Int64} : siT Z st (mp_fu ms j v) = siT Z st ms := (rfl)
theorem fm_T_wa {st : xS} {ms : mS} {Z : Nat} {j : Nat} {v : Int64} : siT Z st (mp_wa ms j v) = siT Z st ms := (rfl)
theorem fx_H_zw {st : xS} {ms : mS} {j : Nat} {v : Int64} : siH (xp_zw st j v) ms = siH st ms := (rfl)
theorem fx_H_zf {st : xS} {ms : mS} {j : Nat} {v : Int64} : siH (xp_zf st j v) ms = siH st ms := (rfl)
theorem fx_H_za {st : xS} {ms : mS} {j : Nat} {v : Int64} : siH (xp_za st j v) ms = siH st ms := (rfl)
theorem fx_H_lA {st : xS} {ms : mS} {v : Int64} : siH (xp_lA st v) ms = siH st ms := (rfl)
theorem fx_H_aA {st : xS} {ms : mS} {v : Int64} : siH (xp_aA st v) ms = siH st ms := (rfl)
theorem fm_H_ah {st : xS} {ms : mS} {j : Nat} {v : Int64} : siH st (mp_ah ms j v) = siH st ms := (rfl)
theorem fm_H_al3 {st : xS} {ms : mS} {v : Int64} : siH st (mp_al ms 3 v) = siH st ms := (rfl)
theorem fm_H_al4 {st : xS} {ms : mS} {v : Int64} : siH st (mp_al ms 4 v) = siH st ms := (rfl)
theorem fm_H_fu {st : xS} {ms : mS} {j : Nat} {v : Int64} : siH st (mp_fu ms j v) = siH st ms := (rfl)
theorem fm_H_wa {st : xS} {ms : mS} {j : Nat} {v : Int64} : siH st (mp_wa ms j v) = siH st ms := (rfl)
theorem fx_L_zw {st : xS} {ms : mS} {j : Nat} {v : Int64} : siL (xp_zw st j v) ms = siL st ms := (rfl)
theorem fx_L_zf {st : xS} {ms : mS} {j : Nat} {v : Int64} : siL (xp_zf st j v) ms = siL st ms := (rfl)
theorem fx_L_za {st : xS} {ms : mS} {j : Nat} {v : Int64} : siL (xp_za st j v) ms = siL st ms := (rfl)
theorem fx_L_lA {st : xS} {ms : mS} {v : Int64} : siL (xp_lA st v) ms = siL st ms := (rfl)
theorem fx_L_aA {st : xS} {ms : mS} {v : Int64} : siL (xp_aA st v) ms = siL st ms := (rfl)
theorem fm_L_ah {st : xS} {ms : mS} {j : Nat} {v : Int64} : siL st (mp_ah ms j v) = siL st ms := (rfl)
theorem fm_L_al {st : xS} {ms : mS} {j : Nat} {v : Int64} : siL st (mp_al ms j v) = siL st ms := (rfl)
theorem fm_L_fu {st : xS} {ms : mS} {j : Nat} {v : Int64} : siL st (mp_fu ms j v) = siL st ms := (rfl)
theorem fm_L_wa {st : xS} {ms : mS} {j : Nat} {v : Int64} : siL st (mp_wa ms j v) = siL st ms := (rfl)
theorem fx_C_zw {st : xS} {ms : mS} {j : Nat} {v : Int64} : siC (xp_zw st j v) ms = siC st ms := (rfl)
theorem fx_C_zf {st : xS} {ms : mS} {j : Nat} {v : Int64} : siC (xp_zf st j v) ms = siC st ms := (rfl)
theorem fx_C_za {st : xS} {ms : mS} {j : Nat} {v : Int64} : siC (xp_za st j v) ms = siC st ms := (rfl)
theorem fx_C_lA {st : xS} {ms : mS} {v : Int64} : siC (xp_lA st v) ms = siC st ms := (rfl)
theorem fx_C_aA {st : xS} {ms : mS} {v : Int64} : siC (xp_aA st v) ms = siC st ms := (rfl)
theorem fm_C_ah {st : xS} {ms : mS} {j : Nat} {v : Int64} : siC st (mp_ah ms j v) = siC st ms := (rfl)
theorem fm_C_al {st : xS} {ms : mS} {j : Nat} {v : Int64} : siC st (mp_al ms j v) = siC st ms := (rfl)
theorem fm_C_fu {st : xS} {ms : mS} {j : Nat} {v : Int64} : siC st (mp_fu ms j v) = siC st ms := (rfl)
theorem fm_C_wa {st : xS} {ms : mS} {j : Nat} {v : Int64} : siC st (mp_wa ms j v) = siC st ms := (rfl)
theorem fx_M_zw {st : xS} {ms : mS} {Z : Nat} {j : Nat} {v : Int64} : siM Z (xp_zw st j v) ms = siM Z st ms := (rfl)
theorem fx_M_zf {st : xS} {ms : mS} {Z : Nat} {j : Nat} {v : Int64} : siM Z (xp_zf st j v) ms = siM Z st ms := (rfl)
theorem fx_M_za {st : xS} {ms : mS} {Z : Nat} {j : Nat} {v : Int64} : siM Z (xp_za st j v) ms = siM Z st ms := (rfl)
theorem fx_M_lA {st : xS} {ms : mS} {Z : Nat} {v : Int64} : siM Z (xp_lA st v) ms = siM Z st ms := (rfl)
theorem fx_M_aA {st : xS} {ms : mS} {Z : Nat} {v : Int64} : siM Z (xp_aA st v) ms = siM Z st ms := (rfl)
theorem fm_M_ah {st : xS} {ms : mS} {Z : Nat} {j : Nat} {v : Int64} : siM Z st (mp_ah ms j v) = siM Z st ms := (rfl)
theorem fm_M_al {st : xS} {ms : mS} {Z : Nat} {j : Nat} {v : Int64} : siM Z st (mp_al ms j v) = siM Z st ms := (rfl)
theorem fm_M_fu {st : xS} {ms : mS} {Z : Nat} {j : Nat} {v : Int64} : siM Z st (mp_fu ms j v) = siM Z st ms := (rfl)
theorem fm_M_wa {st : xS} {ms : mS} {Z : Nat} {j : Nat} {v : Int64} : siM Z st (mp_wa ms j v) = siM Z st ms := (rfl)
theorem rm_al_ah {st : mS} {j : Nat} {v : Int64} : ms_al (mp_ah st j v) = ms_al st := (rfl)
theorem rm_al_al {st : mS} {j : Nat} {v : Int64} : ms_al (mp_al st j v) = vp_updL (ms_al st) j v := (rfl)
theorem rm_al_fu {st : mS} {j : Nat} {v : Int64} : ms_al (mp_fu st j v) = ms_al st := (rfl)
theorem rm_al_wa {st : mS} {j : Nat} {v : Int64} : ms_al (mp_wa st j v) = ms_al st := (rfl)
theorem fx_Z_lA {st : xS} {ms : mS} {Z : Nat} {v : Int64} : siZ Z (xp_lA st v) ms = siZ Z st ms := (rfl)
theorem fx_Z_aA {st : xS} {ms : mS} {Z : Nat} {v : Int64} : siZ Z (xp_aA st v) ms = siZ Z st ms := (rfl)
theorem fm_Z_al {st : xS} {ms : mS} {Z : Nat} {j : Nat} {v : Int64} : siZ Z st (mp_al ms j v) = siZ Z st ms := (rfl)
theorem fx_D_zw {st : xS} {ms : mS} {d : Int64} {j : Nat} {v : Int64} : siD d (xp_zw st j v) ms = siD d st ms := (rfl)
theorem fx_D_zf {st : xS} {ms : mS} {d : Int64} {j : Nat} {v : Int64} : siD d (xp_zf st j v) ms = siD d st ms := (rfl)
theorem fx_D_za {st : xS} {ms : mS} {d : Int64} {j : Nat} {v : Int64} : siD d (xp_za st j v) ms = siD d st ms := (rfl)
theorem fx_D_lA {st : xS} {ms : mS} {d : Int64} {v : Int64} : siD d (xp_lA st v) ms = siD d st ms := (rfl)
theorem fx_D_aA {st : xS} {ms : mS} {d : Int64} {v : Int64} : siD d (xp_aA st v) ms = siD d st ms := (rfl)
theorem fm_D_ah {st : xS} {ms : mS} {d : Int64} {j : Nat} {v : Int64} : siD d st (mp_ah ms j v) = siD d st ms := (rfl)
theorem fm_D_al3 {st : xS} {ms : mS} {d : Int64} {v : Int64} : siD d st (mp_al ms 3 v) = siD d st ms := (rfl)
theorem fm_D_al4 {st : xS} {ms : mS} {d : Int64} {v : Int64} : siD d st (mp_al ms 4 v) = siD d st ms := (rfl)
theorem fm_D_fu {st : xS} {ms : mS} {d : Int64} {j : Nat} {v : Int64} : siD d st (mp_fu ms j v) = siD d st ms := (rfl)
theorem fm_D_wa {st : xS} {ms : mS} {d : Int64} {j : Nat} {v : Int64} : siD d st (mp_wa ms j v) = siD d st ms := (rfl)
theorem fx_N_zw {st : xS} {ms : mS} {d : Int64} {j : Nat} {v : Int64} : siN d (xp_zw st j v) ms = siN d st ms := (rfl)
theorem fx_N_zf {st : xS} {ms : mS} {d : Int64} {j : Nat} {v : Int64} : siN d (xp_zf st j v) ms = siN d st ms := (rfl)
theorem fx_N_za {st : xS} {ms : mS} {d : Int64} {j : Nat} {v : Int64} : siN d (xp_za st j v) ms = siN d st ms := (rfl)
theorem fx_N_lA {st : xS} {ms : mS} {d : Int64} {v : Int64} : siN d (xp_lA st v) ms = siN d st ms := (rfl)
theorem fx_N_aA {st : xS} {ms : mS} {d : Int64} {v : Int64} : siN d (xp_aA st v) ms = siN d st ms := (rfl)
theorem fm_N_ah {st : xS} {ms : mS} {d : Int64} {j : Nat} {v : Int64} : siN d st (mp_ah ms j v) = siN d st ms := (rfl)
theorem fm_N_al3 {st : xS} {ms : mS} {d : Int64} {v : Int64} : siN d st (mp_al ms 3 v) = siN d st ms := (rfl)
theorem fm_N_al4 {st : xS} {ms : mS} {d : Int64} {v : Int64} : siN d st (mp_al ms 4 v) = siN d st ms := (rfl)
theorem fm_N_fu {st : xS} {ms : mS} {d : Int64} {j : Nat} {v : Int64} : siN d st (mp_fu ms j v) = siN d st ms := (rfl)
theorem fm_N_wa {st : xS} {ms : mS} {d : Int64} {j : Nat} {v : Int64} : siN d st (mp_wa ms j v) = siN d st ms := (rfl)
theorem fx_I_zw {st : xS} {ms : mS} {t : Int32} {j : Nat} {v : Int64} : siI t (xp_zw st j v) ms = siI t st ms := (rfl)
theorem fx_I_zf {st : xS} {ms : mS} {t : Int32} {j : Nat} {v : Int64} : siI t (xp_zf st j v) ms = siI t st ms := (rfl)
theorem fx_I_za {st : xS} {ms : mS} {t : Int32} {j : Nat} {v : Int64} : siI t (xp_za st j v) ms = siI t st ms := (rfl)
theorem fx_I_lA {st : xS} {ms : mS} {t : Int32} {v : Int64} : siI t (xp_lA st v) ms = siI t st ms := (rfl)
theorem fx_I_aA {st : xS} {ms : mS} {t : Int32} {v : Int64} : siI t (xp_aA st v) ms = siI t st ms := (rfl)
theorem fm_I_ah {st : xS} {ms : mS} {t : Int32} {j : Nat} {v : Int64} : siI t st (mp_ah ms j v) = siI t st ms := (rfl)
theorem fm_I_al {st : xS} {ms : mS} {t : Int32} {j : Nat} {v : Int64} : siI t st (mp_al ms j v) = siI t st ms := (rfl)
theorem fm_I_fu {st : xS} {ms : mS} {t : Int32} {j : Nat} {v : Int64} : siI t st (mp_fu ms j v) = siI t st ms := (rfl)
theorem fm_I_wa {st : xS} {ms : mS} {t : Int32} {j : Nat} {v : Int64} : siI t st (mp_wa ms j v) = siI t st ms := (rfl)
theorem fx_A_zw {st : xS} {ms : mS} {j : Nat} {v : Int64} : siA (xp_zw st j v) ms = siA st ms := (rfl)
theorem fx_A_zf {st : xS} {ms : mS} {j : Nat} {v : Int64} : siA (xp_zf st j v) ms = siA st ms := (rfl)
theorem fx_A_za {st : xS} {ms : mS} {j : Nat} {v : Int64} : siA (xp_za st j v) ms = siA st ms := (rfl)
theorem fm_A_ah {st : xS} {ms : mS} {j : Nat} {v : Int64} : siA st (mp_ah ms j v) = siA st ms := (rfl)
theorem fm_A_fu {st : xS} {ms : mS} {j : Nat} {v : Int64} : siA st (mp_fu ms j v) = siA st ms := (rfl)
theorem fm_A_wa {st : xS} {ms : mS} {j : Nat} {v : Int64} : siA st (mp_wa ms j v) = siA st ms := (rfl)
theorem fb_K_ah {ms : mS} {Z : Nat} {j : Nat} {v : Int64} : sbK Z (mp_ah ms j v) = sbK Z ms := (rfl)
theorem fb_K_al {ms : mS} {Z : Nat} {j : Nat} {v : Int64} : sbK Z (mp_al ms j v) = sbK Z ms := (rfl)
theorem fb_K_fu {ms : mS} {Z : Nat} {j : Nat} {v : Int64} : sbK Z (mp_fu ms j v) = sbK Z ms := (rfl)
theorem fb_K_wa {ms : mS} {Z : Nat} {j : Nat} {v : Int64} : sbK Z (mp_wa ms j v) = sbK Z ms := (rfl)
theorem fb_M_ah {ms : mS} {Z : Nat} {j : Nat} {v : Int64} : sbM Z (mp_ah ms j v) = sbM Z ms := (rfl)
theorem fb_M_al {ms : mS} {Z : Nat} {j : Nat} {v : Int64} : sbM Z (mp_al ms j v) = sbM Z ms := (rfl)
theorem fb_M_fu {ms : mS} {Z : Nat} {j : Nat} {v : Int64} : sbM Z (mp_fu ms j v) = sbM Z ms := (rfl)
theorem fb_M_wa {ms : mS} {Z : Nat} {j : Nat} {v : Int64} : sbM Z (mp_wa ms j v) = sbM Z ms := (rfl)
theorem fb_F_al {ms : mS} {Z : Nat} {B : Int} {j : Nat} {v : Int64} : sbF Z B (mp_al ms j v) = sbF Z B ms := (rfl)
theorem fb_F_ah {ms : mS} {Z : Nat} {B : Int} {j : Nat} {v : Int64} : sbF Z B (mp_ah ms j v) = sbF Z B ms := (rfl)
/-- zone n gives its part -/
def mG (ms : mS) (n : Nat) : mS := mp_ah (mp_fu (mp_wa ms n (ms_wa ms n - f_Mo_partOf (ms_wa ms n) (ms_mv ms).toInt64)) n (ms_fu ms n - f_Mo_partOf (ms_fu ms n) (ms_mv ms).toInt64)) n (ms_ah ms n - f_Mo_partOf (ms_ah ms n) (ms_mv ms).toInt64)
def mO (ms : mS) (n : Nat) : mS := mp_al (mp_al (mG ms n) 3 (ms_al ms 3 + (f_Mo_partOf (ms_wa ms n) (ms_mv ms).toInt64 + f_Mo_partOf (ms_fu ms n) (ms_mv ms).toInt64))) 4 (ms_al ms 4 + f_Mo_partOf (ms_ah ms n) (ms_mv ms).toInt64)
def mI (ms : mS) (n : Nat) : mS := mp_ah (mp_fu (mp_wa (mG ms n) (n + 1) (ms_wa (mG ms n) (n + 1) + f_Mo_partOf (ms_wa ms n) (ms_mv ms).toInt64)) (n + 1) (ms_fu (mG ms n) (n + 1) + f_Mo_partOf (ms_fu ms n) (ms_mv ms).toInt64)) (n + 1) (ms_ah (mG ms n) (n + 1) + f_Mo_partOf (ms_ah ms n) (ms_mv ms).toInt64)
set_option maxRecDepth 100000 in
theorem lm_moves_s (Z n : Nat) (ms : mS) : lm_moves Z (n + 1) ms = if nI Z ≤ nI (n + 1) then lm_moves Z n (mO ms n) else lm_moves Z n (mI ms n) := rfl
def cAdd (st : xS) (j : Nat) (a b d : Int64) : xS := xp_za (xp_zf (xp_zw st j (xs_zw st j + a)) j (xs_zf st j + b)) j (xs_za st j + d)
theorem cAdd_eq (Z : Nat) (st : xS) (j : Nat) (a b d : Int64) : f_Zo_add Z st j a b d = cAdd st j a b d := (rfl)
def cG (st : xS) (n : Nat) : xS := cAdd st n (-(f_Mo_partOf (xs_zw st n) (xs_mv st).toInt64)) (-(f_Mo_partOf (xs_zf st n) (xs_mv st).toInt64)) (-(f_Mo_partOf (xs_za st n) (xs_mv st).toInt64))
def cO (st : xS) (n : Nat) : xS := xp_aA (xp_lA (cG st n) (xs_lA st + (f_Mo_partOf (xs_zw st n) (xs_mv st).toInt64 + f_Mo_partOf (xs_zf st n) (xs_mv st).toInt64))) (xs_aA st + f_Mo_partOf (xs_za st n) (xs_mv st).toInt64)
def cI (st : xS) (n : Nat) : xS := cAdd (cG st n) (n + 1) (f_Mo_partOf (xs_zw st n) (xs_mv st).toInt64) (f_Mo_partOf (xs_zf st n) (xs_mv st).toInt64) (f_Mo_partOf (xs_za st n) (xs_mv st).toInt64)
set_option maxRecDepth 100000 in
theorem lp_moveOn_s (Z n : Nat) (st : xS) : lp_moveOn Z (n + 1) st = if nI Z ≤ nI (n + 1) then lp_moveOn Z n (cO st n) else lp_moveOn Z n (cI st n) := by
  simp only [lp_moveOn, cO, cI, cG, pu_part2, cAdd_eq, cAdd, rx_lA_zw, rx_lA_zf, rx_lA_za, rx_lA_lA, rx_lA_aA, rx_aA_zw, rx_aA_zf, rx_aA_za, rx_aA_lA, rx_aA_aA]
theorem cG_zw (st : xS) (n : Nat) : xs_zw (cG st n) = vp_updL (xs_zw st) n (xs_zw st n + -(f_Mo_partOf (xs_zw st n) (xs_mv st).toInt64)) := by simp only [cG, cAdd, rx_zw_za, rx_zw_zf, rx_zw_zw]
theorem cG_zf (st : xS) (n : Nat) : xs_zf (cG st n) = vp_updL (xs_zf st) n (xs_zf st n + -(f_Mo_partOf (xs_zf st n) (xs_mv st).toInt64)) := by simp only [cG, cAdd, rx_zf_za, rx_zf_zf, rx_zf_zw]
theorem cG_za (st : xS) (n : Nat) : xs_za (cG st n) = vp_updL (xs_za st) n (xs_za st n + -(f_Mo_partOf (xs_za st n) (xs_mv st).toInt64)) := by simp only [cG, cAdd, rx_za_za, rx_za_zf, rx_za_zw]
theorem mG_wa (ms : mS) (n : Nat) : ms_wa (mG ms n) = vp_updL (ms_wa ms) n (ms_wa ms n - f_Mo_partOf (ms_wa ms n) (ms_mv ms).toInt64) := by simp only [mG, rm_wa_ah, rm_wa_fu, rm_wa_wa]
theorem mG_fu (ms : mS) (n : Nat) : ms_fu (mG ms n) = vp_updL (ms_fu ms) n (ms_fu ms n - f_Mo_partOf (ms_fu ms n) (ms_mv ms).toInt64) := by simp only [mG, rm_fu_ah, rm_fu_fu, rm_fu_wa]
theorem mG_ah (ms : mS) (n : Nat) : ms_ah (mG ms n) = vp_updL (ms_ah ms) n (ms_ah ms n - f_Mo_partOf (ms_ah ms n) (ms_mv ms).toInt64) := by simp only [mG, rm_ah_ah, rm_ah_fu, rm_ah_wa]
theorem mG_pe (ms : mS) (n : Nat) : ms_pe (mG ms n) = ms_pe ms := by simp only [mG, rm_pe_ah, rm_pe_fu, rm_pe_wa]
theorem siZ_G {Z n : Nat} {st : xS} {ms : mS} (hn : n < Z) (hm : siM Z st ms) (h : siZ Z st ms) : siZ Z (cG st n) (mG ms n) := by
  intro j hj
  obtain ⟨h1, h2, h3⟩ := h j hj
  obtain ⟨g1, g2, g3⟩ := h n hn
  have e := hm.1
  rw [cG_zw, cG_zf, cG_za, mG_wa, mG_fu, mG_ah]
  refine ⟨?_, ?_, ?_⟩
  · exact updL2 h1 (by rw [g1, e, Int64.sub_eq_add_neg])
  · exact updL2 h2 (by rw [g2, e, Int64.sub_eq_add_neg])
  · exact updL2 h3 (by rw [g3, e, Int64.sub_eq_add_neg])
theorem siE_O {Z n : Nat} {t : Int32} {d b : Int64} {st : xS} {ms : mS} (hn : n < Z) (h : siE Z t d b st ms) : siE Z t d b (cO st n) (mO ms n) := by
  obtain ⟨hK, hG, hT, hH, hL, hC, hM, hA, hZ, hD, hN, hI⟩ := h
  obtain ⟨g1, g2, g3⟩ := hZ n hn
  refine ⟨?_, ?_, ?_, ?_, ?_, ?_, ?_, ?_, ?_, ?_, ?_, ?_⟩
  · simp only [cO, cG, cAdd, mO, mG, fx_K_zw, fx_K_zf, fx_K_za, fx_K_lA, fx_K_aA, fm_K_ah, fm_K_al3, fm_K_al4, fm_K_fu, fm_K_wa]
    exact hK
  · simp only [cO, cG, cAdd, mO, mG, fx_G_zw, fx_G_zf, fx_G_za, fx_G_lA, fx_G_aA, fm_G_ah, fm_G_al, fm_G_fu, fm_G_wa]
    exact hG
  · simp only [cO, cG, cAdd, mO, mG, fx_T_zw, fx_T_zf, fx_T_za, fx_T_lA, fx_T_aA, fm_T_ah, fm_T_al, fm_T_fu, fm_T_wa]
    exact hT
  · simp only [cO, cG, cAdd, mO, mG, fx_H_zw, fx_H_zf, fx_H_za, fx_H_lA, fx_H_aA, fm_H_ah, fm_H_al3, fm_H_al4, fm_H_fu, fm_H_wa]
    exact hH
  · simp only [cO, cG, cAdd, mO, mG, fx_L_zw, fx_L_zf, fx_L_za, fx_L_lA, fx_L_aA, fm_L_ah, fm_L_al, fm_L_fu, fm_L_wa]
    exact hL
  · simp only [cO, cG, cAdd, mO, mG, fx_C_zw, fx_C_zf, fx_C_za, fx_C_lA, fx_C_aA, fm_C_ah, fm_C_al, fm_C_fu, fm_C_wa]
    exact hC
  · simp only [cO, cG, cAdd, mO, mG, fx_M_zw, fx_M_zf, fx_M_za, fx_M_lA, fx_M_aA, fm_M_ah, fm_M_al, fm_M_fu, fm_M_wa]
    exact hM
  · simp only [siA, mO, mG, cO, cG, cAdd, rx_lA_zw, rx_lA_zf, rx_lA_za, rx_lA_lA, rx_lA_aA, rx_aA_zw, rx_aA_zf, rx_aA_za, rx_aA_lA, rx_aA_aA, rm_al_ah, rm_al_al, rm_al_fu, rm_al_wa]
    refine ⟨?_, ?_⟩
    · rw [updL_ne (by decide), updL_eq, hA.1, g1, g2, hM.1]
    · rw [updL_eq, hA.2, g3, hM.1]
  · simp only [mO, cO, fx_Z_lA, fx_Z_aA, fm_Z_al]
    exact siZ_G hn hM hZ
  · simp only [cO, cG, cAdd, mO, mG, fx_D_zw, fx_D_zf, fx_D_za, fx_D_lA, fx_D_aA, fm_D_ah, fm_D_al3, fm_D_al4, fm_D_fu, fm_D_wa]
    exact hD
  · simp only [cO, cG, cAdd, mO, mG, fx_N_zw, fx_N_zf, fx_N_za, fx_N_lA, fx_N_aA, fm_N_ah, fm_N_al3, fm_N_al4, fm_N_fu, fm_N_wa]
    exact hN
  · simp only [cO, cG, cAdd, mO, mG, fx_I_zw, fx_I_zf, fx_I_za, fx_I_lA, fx_I_aA, fm_I_ah, fm_I_al, fm_I_fu, fm_I_wa]
    exact hI
theorem siE_I {Z n : Nat} {t : Int32} {d b : Int64} {st : xS} {ms : mS} (hn : n + 1 < Z) (h : siE Z t d b st ms) : siE Z t d b (cI st n) (mI ms n) := by
  obtain ⟨hK, hG, hT, hH, hL, hC, hM, hA, hZ, hD, hN, hI⟩ := h
  obtain ⟨g1, g2, g3⟩ := hZ n (by omega)
  have hQ := siZ_G (n := n) (by omega) hM hZ
  obtain ⟨q1, q2, q3⟩ := hQ (n + 1) hn
  have e := hM.1
  refine ⟨?_, ?_, ?_, ?_, ?_, ?_, ?_, ?_, ?_, ?_, ?_, ?_⟩
  · simp only [cI, cG, cAdd, mI, mG, fx_K_zw, fx_K_zf, fx_K_za, fm_K_ah, fm_K_fu, fm_K_wa]
    exact hK
  · simp only [cI, cG, cAdd, mI, mG, fx_G_zw, fx_G_zf, fx_G_za, fm_G_ah, fm_G_fu, fm_G_wa]
    exact hG
  · simp only [cI, cG, cAdd, mI, mG, fx_T_zw, fx_T_zf, fx_T_za, fm_T_ah, fm_T_fu, fm_T_wa]
    exact hT
  · simp only [cI, cG, cAdd, mI, mG, fx_H_zw, fx_H_zf, fx_H_za, fm_H_ah, fm_H_fu, fm_H_wa]
    exact hH
  · simp only [cI, cG, cAdd, mI, mG, fx_L_zw, fx_L_zf, fx_L_za, fm_L_ah, fm_L_fu, fm_L_wa]
    exact hL
  · simp only [cI, cG, cAdd, mI, mG, fx_C_zw, fx_C_zf, fx_C_za, fm_C_ah, fm_C_fu, fm_C_wa]
    exact hC
  · simp only [cI, cG, cAdd, mI, mG, fx_M_zw, fx_M_zf, fx_M_za, fm_M_ah, fm_M_fu, fm_M_wa]
    exact hM
  · simp only [cI, cG, cAdd, mI, mG, fx_A_zw, fx_A_zf, fx_A_za, fm_A_ah, fm_A_fu, fm_A_wa]
    exact hA
  · intro j hj
    obtain ⟨p1, p2, p3⟩ := hQ j hj
    simp only [cI, cAdd, mI, rx_zw_zw, rx_zw_zf, rx_zw_za, rx_zf_zw, rx_zf_zf, rx_zf_za, rx_za_zw, rx_za_zf, rx_za_za, rm_ah_ah, rm_ah_fu, rm_ah_wa, rm_fu_ah, rm_fu_fu, rm_fu_wa, rm_wa_ah, rm_wa_fu, rm_wa_wa]
    refine ⟨?_, ?_, ?_⟩
    · exact updL2 p1 (by rw [q1, g1, e])
    · exact updL2 p2 (by rw [q2, g2, e])
    · exact updL2 p3 (by rw [q3, g3, e])
  · simp only [cI, cG, cAdd, mI, mG, fx_D_zw, fx_D_zf, fx_D_za, fm_D_ah, fm_D_fu, fm_D_wa]
    exact hD
  · simp only [cI, cG, cAdd, mI, mG, fx_N_zw, fx_N_zf, fx_N_za, fm_N_ah, fm_N_fu, fm_N_wa]
    exact hN
  · simp only [cI, cG, cAdd, mI, mG, fx_I_zw, fx_I_zf, fx_I_za, fm_I_ah, fm_I_fu, fm_I_wa]
    exact hI
/-- what a zone gives of its fuel -/
theorem mv_part {Z n : Nat} {B : Int} {ms : mS} (hn : n < Z) (hb : B ≤ 100000000) (bM : sbM Z ms) (bF : sbF Z B ms) : 0 ≤ (f_Mo_partOf (ms_fu ms n) (ms_mv ms).toInt64).toInt ∧ (f_Mo_partOf (ms_fu ms n) (ms_mv ms).toInt64).toInt ≤ (ms_fu ms n).toInt ∧ (ms_fu ms n).toInt ≤ B := by
  obtain ⟨f1, f2, f3⟩ := bF
  have h4 := (sZ_le (ms_fu ms) Z f2).2 n hn
  have p0 := f1 0 (by decide)
  have p1 := f1 1 (by decide)
  have p2 := f1 2 (by decide)
  have p3 := f1 3 (by decide)
  have hx : ((ms_mv ms).toInt64).toInt = (ms_mv ms).toInt := Int32.toInt_toInt64 _
  have h := pu_pt (n := ms_fu ms n) (x := (ms_mv ms).toInt64) (f2 n hn) (by omega) (by rw [hx]; exact bM.1.1) (by rw [hx]; exact bM.1.2)
  exact ⟨h.2.1, h.2.2, by omega⟩
theorem sbF_G {Z n : Nat} {B : Int} {ms : mS} (hn : n < Z) (hb : B ≤ 100000000) (bM : sbM Z ms) (bF : sbF Z B ms) : sbF Z (B - (f_Mo_partOf (ms_fu ms n) (ms_mv ms).toInt64).toInt) (mG ms n) := by
  obtain ⟨h1, h2, h3⟩ := mv_part hn hb bM bF
  obtain ⟨f1, f2, f3⟩ := bF
  have hs := i64sub h1 h2
  refine ⟨?_, ?_, ?_⟩
  · rw [mG_pe]
    exact f1
  · intro j hj
    rw [mG_fu]
    unfold vp_updL
    by_cases e : j = n
    · rw [if_pos e, hs]; omega
    · rw [if_neg e]; exact f2 j hj
  · rw [mG_pe, mG_fu, sZ_up, if_pos hn, hs]
    omega
theorem siB_O {Z n : Nat} {B : Int} {ms : mS} (hn : n < Z) (hb : B ≤ 100000000) (hB : siB Z B ms) : siB Z B (mO ms n) := by
  obtain ⟨bK, bM, bF⟩ := hB
  have hp := mv_part hn hb bM bF
  refine ⟨?_, ?_, ?_⟩
  · simp only [mO, mG, fb_K_ah, fb_K_al, fb_K_fu, fb_K_wa]
    exact bK
  · simp only [mO, mG, fb_M_ah, fb_M_al, fb_M_fu, fb_M_wa]
    exact bM
  · simp only [mO, fb_F_al]
    have q := sbF_G hn hb bM bF
    exact ⟨q.1, q.2.1, by have := q.2.2; omega⟩
theorem siB_I {Z n : Nat} {B : Int} {ms : mS} (hn : n + 1 < Z) (hb : B ≤ 100000000) (hB : siB Z B ms) : siB Z B (mI ms n) := by
  obtain ⟨bK, bM, bF⟩ := hB
  have hp := mv_part (n := n) (by omega) hb bM bF
  refine ⟨?_, ?_, ?_⟩
  · simp only [mI, mG, fb_K_ah, fb_K_fu, fb_K_wa]
    exact bK
  · simp only [mI, mG, fb_M_ah, fb_M_fu, fb_M_wa]
    exact bM
  · simp only [mI, fb_F_ah]
    have q := sbF_G (n := n) (by omega) hb bM bF
    obtain ⟨q1, q2, q3⟩ := q
    have r0 := (sZ_le (ms_fu (mG ms n)) Z q2).2 (n + 1) hn
    have r1 := q2 (n + 1) hn
    have p0 := q1 0 (by decide)
    have p1 := q1 1 (by decide)
    have p2 := q1 2 (by decide)
    have p3 := q1 3 (by decide)
    have ha := i64add r1 hp.1 (by omega)
    refine ⟨?_, ?_, ?_⟩
    · simp only [rm_pe_fu, rm_pe_wa]
      exact q1
    · intro j hj
      simp only [rm_fu_fu, rm_fu_wa]
      unfold vp_updL
      by_cases e : j = n + 1
      · rw [if_pos e, ha]; omega
      · rw [if_neg e]; exact q2 j hj
    · simp only [rm_fu_fu, rm_fu_wa, rm_pe_fu, rm_pe_wa]
      rw [sZ_up, if_pos hn, ha]
      omega
theorem nI_le6 {a b : Nat} (ha : a ≤ 6) (hb : b ≤ 6) : (nI a ≤ nI b) ↔ a ≤ b := by
  have h : ∀ a : Fin 7, ∀ b : Fin 7, (nI a.1 ≤ nI b.1) ↔ a.1 ≤ b.1 := by decide
  exact h ⟨a, by omega⟩ ⟨b, by omega⟩
theorem mv_ok {Z : Nat} {t : Int32} {d b : Int64} {B : Int} (hZ : 1 ≤ Z ∧ Z ≤ 6) (hb : B ≤ 100000000) : ∀ (n : Nat), n ≤ Z → ∀ (st : xS) (ms : mS), siE Z t d b st ms → siB Z B ms → siE Z t d b (lp_moveOn Z n st) (lm_moves Z n ms) ∧ siB Z B (lm_moves Z n ms)
  | 0, _, st, ms, h, hB => ⟨h, hB⟩
  | n + 1, hn, st, ms, h, hB => by
    rw [lm_moves_s, lp_moveOn_s]
    by_cases e : Z ≤ n + 1
    · rw [if_pos ((nI_le6 hZ.2 (by omega)).mpr e), if_pos ((nI_le6 hZ.2 (by omega)).mpr e)]
      exact mv_ok hZ hb n (by omega) _ _ (siE_O (by omega) h) (siB_O (by omega) hb hB)
    · rw [if_neg (fun q => e ((nI_le6 hZ.2 (by omega)).mp q)), if_neg (fun q => e ((nI_le6 hZ.2 (by omega)).mp q))]
      exact mv_ok hZ hb n (by omega) _ _ (siE_I (by omega) h) (siB_I (by omega) hb hB)
