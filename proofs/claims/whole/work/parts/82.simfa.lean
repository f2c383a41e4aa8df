theorem rx_gs_ka {st : xS} {j : Nat} {v : Int32} : xs_gs (xp_ka st j v) = xs_gs st := (rfl)
theorem rx_gs_kw {st : xS} {j : Nat} {v : Int32} : xs_gs (xp_kw st j v) = xs_gs st := (rfl)
theorem rx_bk_ka {st : xS} {j : Nat} {v : Int32} : xs_bk (xp_ka st j v) = xs_bk st := (rfl)
theorem rx_bk_kw {st : xS} {j : Nat} {v : Int32} : xs_bk (xp_kw st j v) = xs_bk st := (rfl)
theorem rx_kw_ka {st : xS} {j : Nat} {v : Int32} : xs_kw (xp_ka st j v) = xs_kw st := (rfl)
theorem rx_kw_kw {st : xS} {j : Nat} {v : Int32} : xs_kw (xp_kw st j v) = upd (xs_kw st) j v := (rfl)
theorem rx_ka_ka {st : xS} {j : Nat} {v : Int32} : xs_ka (xp_ka st j v) = upd (xs_ka st) j v := (rfl)
theorem rx_ka_kw {st : xS} {j : Nat} {v : Int32} : xs_ka (xp_kw st j v) = xs_ka st := (rfl)
theorem rx_ck_ka {st : xS} {j : Nat} {v : Int32} : xs_ck (xp_ka st j v) = xs_ck st := (rfl)
theorem rx_ck_kw {st : xS} {j : Nat} {v : Int32} : xs_ck (xp_kw st j v) = xs_ck st := (rfl)
theorem rx_fg_ka {st : xS} {j : Nat} {v : Int32} : xs_fg (xp_ka st j v) = xs_fg st := (rfl)
theorem rx_fg_kw {st : xS} {j : Nat} {v : Int32} : xs_fg (xp_kw st j v) = xs_fg st := (rfl)
theorem rx_fo_ka {st : xS} {j : Nat} {v : Int32} : xs_fo (xp_ka st j v) = xs_fo st := (rfl)
theorem rx_fo_kw {st : xS} {j : Nat} {v : Int32} : xs_fo (xp_kw st j v) = xs_fo st := (rfl)
theorem rm_al_ash {st : mS} {j : Nat} {v : Int32} : ms_al (mp_ash st j v) = ms_al st := (rfl)
theorem rm_al_ws {st : mS} {j : Nat} {v : Int32} : ms_al (mp_ws st j v) = ms_al st := (rfl)
theorem rm_ash_ash {st : mS} {j : Nat} {v : Int32} : ms_ash (mp_ash st j v) = upd (ms_ash st) j v := (rfl)
theorem rm_ash_ws {st : mS} {j : Nat} {v : Int32} : ms_ash (mp_ws st j v) = ms_ash st := (rfl)
theorem rm_cl_ash {st : mS} {j : Nat} {v : Int32} : ms_cl (mp_ash st j v) = ms_cl st := (rfl)
theorem rm_cl_ws {st : mS} {j : Nat} {v : Int32} : ms_cl (mp_ws st j v) = ms_cl st := (rfl)
theorem rm_cr_ash {st : mS} {j : Nat} {v : Int32} : ms_cr (mp_ash st j v) = ms_cr st := (rfl)
theorem rm_cr_ws {st : mS} {j : Nat} {v : Int32} : ms_cr (mp_ws st j v) = ms_cr st := (rfl)
theorem rm_pl_ash {st : mS} {j : Nat} {v : Int32} : ms_pl (mp_ash st j v) = ms_pl st := (rfl)
theorem rm_pl_ws {st : mS} {j : Nat} {v : Int32} : ms_pl (mp_ws st j v) = ms_pl st := (rfl)
theorem rm_ps_ash {st : mS} {j : Nat} {v : Int32} : ms_ps (mp_ash st j v) = ms_ps st := (rfl)
theorem rm_ps_ws {st : mS} {j : Nat} {v : Int32} : ms_ps (mp_ws st j v) = ms_ps st := (rfl)
theorem rm_ws_ash {st : mS} {j : Nat} {v : Int32} : ms_ws (mp_ash st j v) = ms_ws st := (rfl)
theorem rm_ws_ws {st : mS} {j : Nat} {v : Int32} : ms_ws (mp_ws st j v) = upd (ms_ws st) j v := (rfl)
theorem fx_G_ka {st : xS} {ms : mS} {j : Nat} {v : Int32} : siG (xp_ka st j v) ms = siG st ms := (rfl)
theorem fx_G_kw {st : xS} {ms : mS} {j : Nat} {v : Int32} : siG (xp_kw st j v) ms = siG st ms := (rfl)
theorem fm_G_ash {st : xS} {ms : mS} {j : Nat} {v : Int32} : siG st (mp_ash ms j v) = siG st ms := (rfl)
theorem fm_G_ws {st : xS} {ms : mS} {j : Nat} {v : Int32} : siG st (mp_ws ms j v) = siG st ms := (rfl)
theorem fx_T_ka {st : xS} {ms : mS} {Z : Nat} {j : Nat} {v : Int32} : siT Z (xp_ka st j v) ms = siT Z st ms := (rfl)
theorem fx_T_kw {st : xS} {ms : mS} {Z : Nat} {j : Nat} {v : Int32} : siT Z (xp_kw st j v) ms = siT Z st ms := (rfl)
theorem fm_T_ash {st : xS} {ms : mS} {Z : Nat} {j : Nat} {v : Int32} : siT Z st (mp_ash ms j v) = siT Z st ms := (rfl)
theorem fm_T_ws {st : xS} {ms : mS} {Z : Nat} {j : Nat} {v : Int32} : siT Z st (mp_ws ms j v) = siT Z st ms := (rfl)
theorem fx_H_ka {st : xS} {ms : mS} {j : Nat} {v : Int32} : siH (xp_ka st j v) ms = siH st ms := (rfl)
theorem fx_H_kw {st : xS} {ms : mS} {j : Nat} {v : Int32} : siH (xp_kw st j v) ms = siH st ms := (rfl)
theorem fm_H_ash {st : xS} {ms : mS} {j : Nat} {v : Int32} : siH st (mp_ash ms j v) = siH st ms := (rfl)
theorem fm_H_ws {st : xS} {ms : mS} {j : Nat} {v : Int32} : siH st (mp_ws ms j v) = siH st ms := (rfl)
theorem fx_L_ka {st : xS} {ms : mS} {j : Nat} {v : Int32} : siL (xp_ka st j v) ms = siL st ms := (rfl)
theorem fx_L_kw {st : xS} {ms : mS} {j : Nat} {v : Int32} : siL (xp_kw st j v) ms = siL st ms := (rfl)
theorem fm_L_ash {st : xS} {ms : mS} {j : Nat} {v : Int32} : siL st (mp_ash ms j v) = siL st ms := (rfl)
theorem fm_L_ws {st : xS} {ms : mS} {j : Nat} {v : Int32} : siL st (mp_ws ms j v) = siL st ms := (rfl)
theorem fx_C_ka {st : xS} {ms : mS} {j : Nat} {v : Int32} : siC (xp_ka st j v) ms = siC st ms := (rfl)
theorem fx_C_kw {st : xS} {ms : mS} {j : Nat} {v : Int32} : siC (xp_kw st j v) ms = siC st ms := (rfl)
theorem fm_C_ash {st : xS} {ms : mS} {j : Nat} {v : Int32} : siC st (mp_ash ms j v) = siC st ms := (rfl)
theorem fm_C_ws {st : xS} {ms : mS} {j : Nat} {v : Int32} : siC st (mp_ws ms j v) = siC st ms := (rfl)
theorem fx_M_ka {st : xS} {ms : mS} {Z : Nat} {j : Nat} {v : Int32} : siM Z (xp_ka st j v) ms = siM Z st ms := (rfl)
theorem fx_M_kw {st : xS} {ms : mS} {Z : Nat} {j : Nat} {v : Int32} : siM Z (xp_kw st j v) ms = siM Z st ms := (rfl)
theorem fm_M_ash {st : xS} {ms : mS} {Z : Nat} {j : Nat} {v : Int32} : siM Z st (mp_ash ms j v) = siM Z st ms := (rfl)
theorem fm_M_ws {st : xS} {ms : mS} {Z : Nat} {j : Nat} {v : Int32} : siM Z st (mp_ws ms j v) = siM Z st ms := (rfl)
theorem fx_A_ka {st : xS} {ms : mS} {j : Nat} {v : Int32} : siA (xp_ka st j v) ms = siA st ms := (rfl)
theorem fx_A_kw {st : xS} {ms : mS} {j : Nat} {v : Int32} : siA (xp_kw st j v) ms = siA st ms := (rfl)
theorem fm_A_ash {st : xS} {ms : mS} {j : Nat} {v : Int32} : siA st (mp_ash ms j v) = siA st ms := (rfl)
theorem fm_A_ws {st : xS} {ms : mS} {j : Nat} {v : Int32} : siA st (mp_ws ms j v) = siA st ms := (rfl)
theorem fx_Z_ka {st : xS} {ms : mS} {Z : Nat} {j : Nat} {v : Int32} : siZ Z (xp_ka st j v) ms = siZ Z st ms := (rfl)
theorem fx_Z_kw {st : xS} {ms : mS} {Z : Nat} {j : Nat} {v : Int32} : siZ Z (xp_kw st j v) ms = siZ Z st ms := (rfl)
theorem fm_Z_ash {st : xS} {ms : mS} {Z : Nat} {j : Nat} {v : Int32} : siZ Z st (mp_ash ms j v) = siZ Z st ms := (rfl)
theorem fm_Z_ws {st : xS} {ms : mS} {Z : Nat} {j : Nat} {v : Int32} : siZ Z st (mp_ws ms j v) = siZ Z st ms := (rfl)
theorem fx_D_ka {st : xS} {ms : mS} {d : Int64} {j : Nat} {v : Int32} : siD d (xp_ka st j v) ms = siD d st ms := (rfl)
theorem fx_D_kw {st : xS} {ms : mS} {d : Int64} {j : Nat} {v : Int32} : siD d (xp_kw st j v) ms = siD d st ms := (rfl)
theorem fm_D_ash {st : xS} {ms : mS} {d : Int64} {j : Nat} {v : Int32} : siD d st (mp_ash ms j v) = siD d st ms := (rfl)
theorem fm_D_ws {st : xS} {ms : mS} {d : Int64} {j : Nat} {v : Int32} : siD d st (mp_ws ms j v) = siD d st ms := (rfl)
theorem fx_N_ka {st : xS} {ms : mS} {d : Int64} {j : Nat} {v : Int32} : siN d (xp_ka st j v) ms = siN d st ms := (rfl)
theorem fx_N_kw {st : xS} {ms : mS} {d : Int64} {j : Nat} {v : Int32} : siN d (xp_kw st j v) ms = siN d st ms := (rfl)
theorem fm_N_ash {st : xS} {ms : mS} {d : Int64} {j : Nat} {v : Int32} : siN d st (mp_ash ms j v) = siN d st ms := (rfl)
theorem fm_N_ws {st : xS} {ms : mS} {d : Int64} {j : Nat} {v : Int32} : siN d st (mp_ws ms j v) = siN d st ms := (rfl)
theorem fx_I_ka {st : xS} {ms : mS} {t : Int32} {j : Nat} {v : Int32} : siI t (xp_ka st j v) ms = siI t st ms := (rfl)
theorem fx_I_kw {st : xS} {ms : mS} {t : Int32} {j : Nat} {v : Int32} : siI t (xp_kw st j v) ms = siI t st ms := (rfl)
theorem fm_I_ash {st : xS} {ms : mS} {t : Int32} {j : Nat} {v : Int32} : siI t st (mp_ash ms j v) = siI t st ms := (rfl)
theorem fm_I_ws {st : xS} {ms : mS} {t : Int32} {j : Nat} {v : Int32} : siI t st (mp_ws ms j v) = siI t st ms := (rfl)
theorem fb_M_ash {ms : mS} {Z : Nat} {j : Nat} {v : Int32} : sbM Z (mp_ash ms j v) = sbM Z ms := (rfl)
theorem fb_M_ws {ms : mS} {Z : Nat} {j : Nat} {v : Int32} : sbM Z (mp_ws ms j v) = sbM Z ms := (rfl)
theorem fb_F_ash {ms : mS} {Z : Nat} {B : Int} {j : Nat} {v : Int32} : sbF Z B (mp_ash ms j v) = sbF Z B ms := (rfl)
theorem fb_F_ws {ms : mS} {Z : Nat} {B : Int} {j : Nat} {v : Int32} : sbF Z B (mp_ws ms j v) = sbF Z B ms := (rfl)
theorem rx_gs_gs {st : xS} {v : Int32} : xs_gs (xp_gs st v) = v := (rfl)
theorem rx_bk_gs {st : xS} {v : Int32} : xs_bk (xp_gs st v) = xs_bk st := (rfl)
theorem rx_kw_gs {st : xS} {v : Int32} : xs_kw (xp_gs st v) = xs_kw st := (rfl)
theorem rx_ka_gs {st : xS} {v : Int32} : xs_ka (xp_gs st v) = xs_ka st := (rfl)
theorem rx_ck_gs {st : xS} {v : Int32} : xs_ck (xp_gs st v) = xs_ck st := (rfl)
theorem rx_fg_gs {st : xS} {v : Int32} : xs_fg (xp_gs st v) = xs_fg st := (rfl)
theorem rx_fo_gs {st : xS} {v : Int32} : xs_fo (xp_gs st v) = xs_fo st := (rfl)
theorem rm_al_cr {st : mS} {v : Int32} : ms_al (mp_cr st v) = ms_al st := (rfl)
theorem rm_ash_cr {st : mS} {v : Int32} : ms_ash (mp_cr st v) = ms_ash st := (rfl)
theorem rm_cl_cr {st : mS} {v : Int32} : ms_cl (mp_cr st v) = ms_cl st := (rfl)
theorem rm_cr_cr {st : mS} {v : Int32} : ms_cr (mp_cr st v) = v := (rfl)
theorem rm_pl_cr {st : mS} {v : Int32} : ms_pl (mp_cr st v) = ms_pl st := (rfl)
theorem rm_ps_cr {st : mS} {v : Int32} : ms_ps (mp_cr st v) = ms_ps st := (rfl)
theorem rm_ws_cr {st : mS} {v : Int32} : ms_ws (mp_cr st v) = ms_ws st := (rfl)
theorem fx_G_gs {st : xS} {ms : mS} {v : Int32} : siG (xp_gs st v) ms = siG st ms := (rfl)
theorem fm_G_cr {st : xS} {ms : mS} {v : Int32} : siG st (mp_cr ms v) = siG st ms := (rfl)
theorem fx_T_gs {st : xS} {ms : mS} {Z : Nat} {v : Int32} : siT Z (xp_gs st v) ms = siT Z st ms := (rfl)
theorem fm_T_cr {st : xS} {ms : mS} {Z : Nat} {v : Int32} : siT Z st (mp_cr ms v) = siT Z st ms := (rfl)
theorem fx_H_gs {st : xS} {ms : mS} {v : Int32} : siH (xp_gs st v) ms = siH st ms := (rfl)
theorem fm_H_cr {st : xS} {ms : mS} {v : Int32} : siH st (mp_cr ms v) = siH st ms := (rfl)
theorem fx_L_gs {st : xS} {ms : mS} {v : Int32} : siL (xp_gs st v) ms = siL st ms := (rfl)
theorem fm_L_cr {st : xS} {ms : mS} {v : Int32} : siL st (mp_cr ms v) = siL st ms := (rfl)
theorem fx_C_gs {st : xS} {ms : mS} {v : Int32} : siC (xp_gs st v) ms = siC st ms := (rfl)
theorem fm_C_cr {st : xS} {ms : mS} {v : Int32} : siC st (mp_cr ms v) = siC st ms := (rfl)
theorem fx_M_gs {st : xS} {ms : mS} {Z : Nat} {v : Int32} : siM Z (xp_gs st v) ms = siM Z st ms := (rfl)
theorem fm_M_cr {st : xS} {ms : mS} {Z : Nat} {v : Int32} : siM Z st (mp_cr ms v) = siM Z st ms := (rfl)
theorem fx_A_gs {st : xS} {ms : mS} {v : Int32} : siA (xp_gs st v) ms = siA st ms := (rfl)
theorem fm_A_cr {st : xS} {ms : mS} {v : Int32} : siA st (mp_cr ms v) = siA st ms := (rfl)
theorem fx_Z_gs {st : xS} {ms : mS} {Z : Nat} {v : Int32} : siZ Z (xp_gs st v) ms = siZ Z st ms := (rfl)
theorem fm_Z_cr {st : xS} {ms : mS} {Z : Nat} {v : Int32} : siZ Z st (mp_cr ms v) = siZ Z st ms := (rfl)
theorem fx_D_gs {st : xS} {ms : mS} {d : Int64} {v : Int32} : siD d (xp_gs st v) ms = siD d st ms := (rfl)
theorem fm_D_cr {st : xS} {ms : mS} {d : Int64} {v : Int32} : siD d st (mp_cr ms v) = siD d st ms := (rfl)
theorem fx_N_gs {st : xS} {ms : mS} {d : Int64} {v : Int32} : siN d (xp_gs st v) ms = siN d st ms := (rfl)
theorem fm_N_cr {st : xS} {ms : mS} {d : Int64} {v : Int32} : siN d st (mp_cr ms v) = siN d st ms := (rfl)
theorem fx_I_gs {st : xS} {ms : mS} {t : Int32} {v : Int32} : siI t (xp_gs st v) ms = siI t st ms := (rfl)
theorem fm_I_cr {st : xS} {ms : mS} {t : Int32} {v : Int32} : siI t st (mp_cr ms v) = siI t st ms := (rfl)
theorem fb_M_cr {ms : mS} {Z : Nat} {v : Int32} : sbM Z (mp_cr ms v) = sbM Z ms := (rfl)
theorem fb_F_cr {ms : mS} {Z : Nat} {B : Int} {v : Int32} : sbF Z B (mp_cr ms v) = sbF Z B ms := (rfl)
theorem fx_K_zd {st : xS} {ms : mS} {j : Nat} {v : Int32} : siK (xp_zd st j v) ms = siK st ms := (rfl)
theorem fm_K_dr {st : xS} {ms : mS} {j : Nat} {v : Int32} : siK st (mp_dr ms j v) = siK st ms := (rfl)
theorem fx_G_zd {st : xS} {ms : mS} {j : Nat} {v : Int32} : siG (xp_zd st j v) ms = siG st ms := (rfl)
theorem fm_G_dr {st : xS} {ms : mS} {j : Nat} {v : Int32} : siG st (mp_dr ms j v) = siG st ms := (rfl)
theorem rx_bo_zd {st : xS} {j : Nat} {v : Int32} : xs_bo (xp_zd st j v) = xs_bo st := (rfl)
theorem rx_bo_zv {st : xS} {j : Nat} {v : Int32} : xs_bo (xp_zv st j v) = xs_bo st := (rfl)
theorem rx_bt_zd {st : xS} {j : Nat} {v : Int32} : xs_bt (xp_zd st j v) = xs_bt st := (rfl)
theorem rx_bt_zv {st : xS} {j : Nat} {v : Int32} : xs_bt (xp_zv st j v) = xs_bt st := (rfl)
theorem rx_bl_zd {st : xS} {j : Nat} {v : Int32} : xs_bl (xp_zd st j v) = xs_bl st := (rfl)
theorem rx_bl_zv {st : xS} {j : Nat} {v : Int32} : xs_bl (xp_zv st j v) = xs_bl st := (rfl)
theorem rx_bh_zd {st : xS} {j : Nat} {v : Int32} : xs_bh (xp_zd st j v) = xs_bh st := (rfl)
theorem rx_bh_zv {st : xS} {j : Nat} {v : Int32} : xs_bh (xp_zv st j v) = xs_bh st := (rfl)
theorem rx_ct_zd {st : xS} {j : Nat} {v : Int32} : xs_ct (xp_zd st j v) = xs_ct st := (rfl)
theorem rx_ct_zv {st : xS} {j : Nat} {v : Int32} : xs_ct (xp_zv st j v) = xs_ct st := (rfl)
theorem rx_cg_zd {st : xS} {j : Nat} {v : Int32} : xs_cg (xp_zd st j v) = xs_cg st := (rfl)
theorem rx_cg_zv {st : xS} {j : Nat} {v : Int32} : xs_cg (xp_zv st j v) = xs_cg st := (rfl)
theorem rx_cp_zd {st : xS} {j : Nat} {v : Int32} : xs_cp (xp_zd st j v) = xs_cp st := (rfl)
theorem rx_cp_zv {st : xS} {j : Nat} {v : Int32} : xs_cp (xp_zv st j v) = xs_cp st := (rfl)
theorem rx_ci_zd {st : xS} {j : Nat} {v : Int32} : xs_ci (xp_zd st j v) = xs_ci st := (rfl)
theorem rx_ci_zv {st : xS} {j : Nat} {v : Int32} : xs_ci (xp_zv st j v) = xs_ci st := (rfl)
theorem rx_zd_zd {st : xS} {j : Nat} {v : Int32} : xs_zd (xp_zd st j v) = upd (xs_zd st) j v := (rfl)
theorem rx_zd_zv {st : xS} {j : Nat} {v : Int32} : xs_zd (xp_zv st j v) = xs_zd st := (rfl)
theorem rm_be_ai {st : mS} {j : Nat} {v : Int32} : ms_be (mp_ai st j v) = ms_be st := (rfl)
theorem rm_be_dr {st : mS} {j : Nat} {v : Int32} : ms_be (mp_dr st j v) = ms_be st := (rfl)
theorem rm_bh_ai {st : mS} {j : Nat} {v : Int32} : ms_bh (mp_ai st j v) = ms_bh st := (rfl)
theorem rm_bh_dr {st : mS} {j : Nat} {v : Int32} : ms_bh (mp_dr st j v) = ms_bh st := (rfl)
theorem rm_bn_ai {st : mS} {j : Nat} {v : Int32} : ms_bn (mp_ai st j v) = ms_bn st := (rfl)
theorem rm_bn_dr {st : mS} {j : Nat} {v : Int32} : ms_bn (mp_dr st j v) = ms_bn st := (rfl)
theorem rm_bo_ai {st : mS} {j : Nat} {v : Int32} : ms_bo (mp_ai st j v) = ms_bo st := (rfl)
theorem rm_bo_dr {st : mS} {j : Nat} {v : Int32} : ms_bo (mp_dr st j v) = ms_bo st := (rfl)
theorem rm_bs_ai {st : mS} {j : Nat} {v : Int32} : ms_bs (mp_ai st j v) = ms_bs st := (rfl)
theorem rm_bs_dr {st : mS} {j : Nat} {v : Int32} : ms_bs (mp_dr st j v) = ms_bs st := (rfl)
theorem rm_dr_ai {st : mS} {j : Nat} {v : Int32} : ms_dr (mp_ai st j v) = ms_dr st := (rfl)
theorem rm_dr_dr {st : mS} {j : Nat} {v : Int32} : ms_dr (mp_dr st j v) = upd (ms_dr st) j v := (rfl)
theorem rm_hb_ai {st : mS} {j : Nat} {v : Int32} : ms_hb (mp_ai st j v) = ms_hb st := (rfl)
theorem rm_hb_dr {st : mS} {j : Nat} {v : Int32} : ms_hb (mp_dr st j v) = ms_hb st := (rfl)
theorem rm_hc_ai {st : mS} {j : Nat} {v : Int32} : ms_hc (mp_ai st j v) = ms_hc st := (rfl)
theorem rm_hc_dr {st : mS} {j : Nat} {v : Int32} : ms_hc (mp_dr st j v) = ms_hc st := (rfl)
theorem rm_tg_ai {st : mS} {j : Nat} {v : Int32} : ms_tg (mp_ai st j v) = ms_tg st := (rfl)
theorem rm_tg_dr {st : mS} {j : Nat} {v : Int32} : ms_tg (mp_dr st j v) = ms_tg st := (rfl)
theorem fx_H_zd {st : xS} {ms : mS} {j : Nat} {v : Int32} : siH (xp_zd st j v) ms = siH st ms := (rfl)
theorem fm_H_dr {st : xS} {ms : mS} {j : Nat} {v : Int32} : siH st (mp_dr ms j v) = siH st ms := (rfl)
theorem fx_L_zd {st : xS} {ms : mS} {j : Nat} {v : Int32} : siL (xp_zd st j v) ms = siL st ms := (rfl)
theorem fm_L_dr {st : xS} {ms : mS} {j : Nat} {v : Int32} : siL st (mp_dr ms j v) = siL st ms := (rfl)
theorem fx_C_zd {st : xS} {ms : mS} {j : Nat} {v : Int32} : siC (xp_zd st j v) ms = siC st ms := (rfl)
theorem fm_C_dr {st : xS} {ms : mS} {j : Nat} {v : Int32} : siC st (mp_dr ms j v) = siC st ms := (rfl)
theorem rx_mv_zd {st : xS} {j : Nat} {v : Int32} : xs_mv (xp_zd st j v) = xs_mv st := (rfl)
theorem rx_zv_zd {st : xS} {j : Nat} {v : Int32} : xs_zv (xp_zd st j v) = xs_zv st := (rfl)
theorem rm_ai_dr {st : mS} {j : Nat} {v : Int32} : ms_ai (mp_dr st j v) = ms_ai st := (rfl)
theorem rm_mv_dr {st : mS} {j : Nat} {v : Int32} : ms_mv (mp_dr st j v) = ms_mv st := (rfl)
theorem fx_A_zd {st : xS} {ms : mS} {j : Nat} {v : Int32} : siA (xp_zd st j v) ms = siA st ms := (rfl)
theorem fm_A_dr {st : xS} {ms : mS} {j : Nat} {v : Int32} : siA st (mp_dr ms j v) = siA st ms := (rfl)
theorem fx_Z_zd {st : xS} {ms : mS} {Z : Nat} {j : Nat} {v : Int32} : siZ Z (xp_zd st j v) ms = siZ Z st ms := (rfl)
theorem fm_Z_dr {st : xS} {ms : mS} {Z : Nat} {j : Nat} {v : Int32} : siZ Z st (mp_dr ms j v) = siZ Z st ms := (rfl)
theorem fx_D_zd {st : xS} {ms : mS} {d : Int64} {j : Nat} {v : Int32} : siD d (xp_zd st j v) ms = siD d st ms := (rfl)
theorem fm_D_dr {st : xS} {ms : mS} {d : Int64} {j : Nat} {v : Int32} : siD d st (mp_dr ms j v) = siD d st ms := (rfl)
theorem fx_N_zd {st : xS} {ms : mS} {d : Int64} {j : Nat} {v : Int32} : siN d (xp_zd st j v) ms = siN d st ms := (rfl)
theorem fm_N_dr {st : xS} {ms : mS} {d : Int64} {j : Nat} {v : Int32} : siN d st (mp_dr ms j v) = siN d st ms := (rfl)
theorem fx_I_zd {st : xS} {ms : mS} {t : Int32} {j : Nat} {v : Int32} : siI t (xp_zd st j v) ms = siI t st ms := (rfl)
theorem fm_I_dr {st : xS} {ms : mS} {t : Int32} {j : Nat} {v : Int32} : siI t st (mp_dr ms j v) = siI t st ms := (rfl)
theorem fb_K_dr {ms : mS} {Z : Nat} {j : Nat} {v : Int32} : sbK Z (mp_dr ms j v) = sbK Z ms := (rfl)
theorem fb_F_dr {ms : mS} {Z : Nat} {B : Int} {j : Nat} {v : Int32} : sbF Z B (mp_dr ms j v) = sbF Z B ms := (rfl)
theorem fx_K_bo {st : xS} {ms : mS} {v : Int32} : siK (xp_bo st v) ms = siK st ms := (rfl)
theorem fm_K_bo {st : xS} {ms : mS} {v : Int32} : siK st (mp_bo ms v) = siK st ms := (rfl)
theorem fx_G_bo {st : xS} {ms : mS} {v : Int32} : siG (xp_bo st v) ms = siG st ms := (rfl)
theorem fm_G_bo {st : xS} {ms : mS} {v : Int32} : siG st (mp_bo ms v) = siG st ms := (rfl)
theorem rx_bo_bo {st : xS} {v : Int32} : xs_bo (xp_bo st v) = v := (rfl)
theorem rx_bo_mv {st : xS} {v : Int32} : xs_bo (xp_mv st v) = xs_bo st := (rfl)
theorem rx_bt_bo {st : xS} {v : Int32} : xs_bt (xp_bo st v) = xs_bt st := (rfl)
theorem rx_bt_mv {st : xS} {v : Int32} : xs_bt (xp_mv st v) = xs_bt st := (rfl)
theorem rx_bl_bo {st : xS} {v : Int32} : xs_bl (xp_bo st v) = xs_bl st := (rfl)
theorem rx_bl_mv {st : xS} {v : Int32} : xs_bl (xp_mv st v) = xs_bl st := (rfl)
theorem rx_bh_bo {st : xS} {v : Int32} : xs_bh (xp_bo st v) = xs_bh st := (rfl)
theorem rx_bh_mv {st : xS} {v : Int32} : xs_bh (xp_mv st v) = xs_bh st := (rfl)
theorem rx_ct_bo {st : xS} {v : Int32} : xs_ct (xp_bo st v) = xs_ct st := (rfl)
theorem rx_ct_mv {st : xS} {v : Int32} : xs_ct (xp_mv st v) = xs_ct st := (rfl)
theorem rx_cg_bo {st : xS} {v : Int32} : xs_cg (xp_bo st v) = xs_cg st := (rfl)
theorem rx_cg_mv {st : xS} {v : Int32} : xs_cg (xp_mv st v) = xs_cg st := (rfl)
theorem rx_cp_bo {st : xS} {v : Int32} : xs_cp (xp_bo st v) = xs_cp st := (rfl)
theorem rx_cp_mv {st : xS} {v : Int32} : xs_cp (xp_mv st v) = xs_cp st := (rfl)
theorem rx_ci_bo {st : xS} {v : Int32} : xs_ci (xp_bo st v) = xs_ci st := (rfl)
theorem rx_ci_mv {st : xS} {v : Int32} : xs_ci (xp_mv st v) = xs_ci st := (rfl)
theorem rx_zd_bo {st : xS} {v : Int32} : xs_zd (xp_bo st v) = xs_zd st := (rfl)
theorem rx_zd_mv {st : xS} {v : Int32} : xs_zd (xp_mv st v) = xs_zd st := (rfl)
theorem rm_be_bo {st : mS} {v : Int32} : ms_be (mp_bo st v) = ms_be st := (rfl)
theorem rm_be_mv {st : mS} {v : Int32} : ms_be (mp_mv st v) = ms_be st := (rfl)
theorem rm_bh_bo {st : mS} {v : Int32} : ms_bh (mp_bo st v) = ms_bh st := (rfl)
theorem rm_bh_mv {st : mS} {v : Int32} : ms_bh (mp_mv st v) = ms_bh st := (rfl)
theorem rm_bn_bo {st : mS} {v : Int32} : ms_bn (mp_bo st v) = ms_bn st := (rfl)
theorem rm_bn_mv {st : mS} {v : Int32} : ms_bn (mp_mv st v) = ms_bn st := (rfl)
theorem rm_bo_bo {st : mS} {v : Int32} : ms_bo (mp_bo st v) = v := (rfl)
theorem rm_bo_mv {st : mS} {v : Int32} : ms_bo (mp_mv st v) = ms_bo st := (rfl)
theorem rm_bs_bo {st : mS} {v : Int32} : ms_bs (mp_bo st v) = ms_bs st := (rfl)
theorem rm_bs_mv {st : mS} {v : Int32} : ms_bs (mp_mv st v) = ms_bs st := (rfl)
theorem rm_dr_bo {st : mS} {v : Int32} : ms_dr (mp_bo st v) = ms_dr st := (rfl)
theorem rm_dr_mv {st : mS} {v : Int32} : ms_dr (mp_mv st v) = ms_dr st := (rfl)
theorem rm_hb_bo {st : mS} {v : Int32} : ms_hb (mp_bo st v) = ms_hb st := (rfl)
theorem rm_hb_mv {st : mS} {v : Int32} : ms_hb (mp_mv st v) = ms_hb st := (rfl)
theorem rm_hc_bo {st : mS} {v : Int32} : ms_hc (mp_bo st v) = ms_hc st := (rfl)
theorem rm_hc_mv {st : mS} {v : Int32} : ms_hc (mp_mv st v) = ms_hc st := (rfl)
theorem rm_tg_bo {st : mS} {v : Int32} : ms_tg (mp_bo st v) = ms_tg st := (rfl)
theorem rm_tg_mv {st : mS} {v : Int32} : ms_tg (mp_mv st v) = ms_tg st := (rfl)
theorem fx_H_bo {st : xS} {ms : mS} {v : Int32} : siH (xp_bo st v) ms = siH st ms := (rfl)
theorem fm_H_bo {st : xS} {ms : mS} {v : Int32} : siH st (mp_bo ms v) = siH st ms := (rfl)
theorem fx_L_bo {st : xS} {ms : mS} {v : Int32} : siL (xp_bo st v) ms = siL st ms := (rfl)
theorem fm_L_bo {st : xS} {ms : mS} {v : Int32} : siL st (mp_bo ms v) = siL st ms := (rfl)
theorem fx_C_bo {st : xS} {ms : mS} {v : Int32} : siC (xp_bo st v) ms = siC st ms := (rfl)
theorem fm_C_bo {st : xS} {ms : mS} {v : Int32} : siC st (mp_bo ms v) = siC st ms := (rfl)
theorem rx_mv_bo {st : xS} {v : Int32} : xs_mv (xp_bo st v) = xs_mv st := (rfl)
theorem rx_zv_bo {st : xS} {v : Int32} : xs_zv (xp_bo st v) = xs_zv st := (rfl)
theorem rm_ai_bo {st : mS} {v : Int32} : ms_ai (mp_bo st v) = ms_ai st := (rfl)
theorem rm_mv_bo {st : mS} {v : Int32} : ms_mv (mp_bo st v) = ms_mv st := (rfl)
theorem fx_A_bo {st : xS} {ms : mS} {v : Int32} : siA (xp_bo st v) ms = siA st ms := (rfl)
theorem fm_A_bo {st : xS} {ms : mS} {v : Int32} : siA st (mp_bo ms v) = siA st ms := (rfl)
theorem fx_Z_bo {st : xS} {ms : mS} {Z : Nat} {v : Int32} : siZ Z (xp_bo st v) ms = siZ Z st ms := (rfl)
theorem fm_Z_bo {st : xS} {ms : mS} {Z : Nat} {v : Int32} : siZ Z st (mp_bo ms v) = siZ Z st ms := (rfl)
theorem fx_D_bo {st : xS} {ms : mS} {d : Int64} {v : Int32} : siD d (xp_bo st v) ms = siD d st ms := (rfl)
theorem fm_D_bo {st : xS} {ms : mS} {d : Int64} {v : Int32} : siD d st (mp_bo ms v) = siD d st ms := (rfl)
theorem fx_N_bo {st : xS} {ms : mS} {d : Int64} {v : Int32} : siN d (xp_bo st v) ms = siN d st ms := (rfl)
theorem fm_N_bo {st : xS} {ms : mS} {d : Int64} {v : Int32} : siN d st (mp_bo ms v) = siN d st ms := (rfl)
theorem fx_I_bo {st : xS} {ms : mS} {t : Int32} {v : Int32} : siI t (xp_bo st v) ms = siI t st ms := (rfl)
theorem fm_I_bo {st : xS} {ms : mS} {t : Int32} {v : Int32} : siI t st (mp_bo ms v) = siI t st ms := (rfl)
theorem fb_K_bo {ms : mS} {Z : Nat} {v : Int32} : sbK Z (mp_bo ms v) = sbK Z ms := (rfl)
theorem fb_F_bo {ms : mS} {Z : Nat} {B : Int} {v : Int32} : sbF Z B (mp_bo ms v) = sbF Z B ms := (rfl)
theorem fx_K_bh {st : xS} {ms : mS} {v : Int32} : siK (xp_bh st v) ms = siK st ms := (rfl)
theorem fx_K_bl {st : xS} {ms : mS} {v : Int32} : siK (xp_bl st v) ms = siK st ms := (rfl)
theorem fx_K_bt {st : xS} {ms : mS} {v : Bool} : siK (xp_bt st v) ms = siK st ms := (rfl)
theorem fm_K_be {st : xS} {ms : mS} {v : Int32} : siK st (mp_be ms v) = siK st ms := (rfl)
theorem fm_K_bh {st : xS} {ms : mS} {v : Int32} : siK st (mp_bh ms v) = siK st ms := (rfl)
theorem fm_K_hb {st : xS} {ms : mS} {v : Bool} : siK st (mp_hb ms v) = siK st ms := (rfl)
theorem fx_G_bh {st : xS} {ms : mS} {v : Int32} : siG (xp_bh st v) ms = siG st ms := (rfl)
theorem fx_G_bl {st : xS} {ms : mS} {v : Int32} : siG (xp_bl st v) ms = siG st ms := (rfl)
theorem fx_G_bt {st : xS} {ms : mS} {v : Bool} : siG (xp_bt st v) ms = siG st ms := (rfl)
theorem fm_G_be {st : xS} {ms : mS} {v : Int32} : siG st (mp_be ms v) = siG st ms := (rfl)
theorem fm_G_bh {st : xS} {ms : mS} {v : Int32} : siG st (mp_bh ms v) = siG st ms := (rfl)
theorem fm_G_hb {st : xS} {ms : mS} {v : Bool} : siG st (mp_hb ms v) = siG st ms := (rfl)
theorem rx_bo_bh {st : xS} {v : Int32} : xs_bo (xp_bh st v) = xs_bo st := (rfl)
theorem rx_bo_bl {st : xS} {v : Int32} : xs_bo (xp_bl st v) = xs_bo st := (rfl)
theorem rx_bo_bt {st : xS} {v : Bool} : xs_bo (xp_bt st v) = xs_bo st := (rfl)
theorem rx_bt_bh {st : xS} {v : Int32} : xs_bt (xp_bh st v) = xs_bt st := (rfl)
theorem rx_bt_bl {st : xS} {v : Int32} : xs_bt (xp_bl st v) = xs_bt st := (rfl)
theorem rx_bt_bt {st : xS} {v : Bool} : xs_bt (xp_bt st v) = v := (rfl)
theorem rx_bl_bh {st : xS} {v : Int32} : xs_bl (xp_bh st v) = xs_bl st := (rfl)
theorem rx_bl_bl {st : xS} {v : Int32} : xs_bl (xp_bl st v) = v := (rfl)
theorem rx_bl_bt {st : xS} {v : Bool} : xs_bl (xp_bt st v) = xs_bl st := (rfl)
theorem rx_bh_bh {st : xS} {v : Int32} : xs_bh (xp_bh st v) = v := (rfl)
theorem rx_bh_bl {st : xS} {v : Int32} : xs_bh (xp_bl st v) = xs_bh st := (rfl)
theorem rx_bh_bt {st : xS} {v : Bool} : xs_bh (xp_bt st v) = xs_bh st := (rfl)
theorem rx_ct_bh {st : xS} {v : Int32} : xs_ct (xp_bh st v) = xs_ct st := (rfl)
theorem rx_ct_bl {st : xS} {v : Int32} : xs_ct (xp_bl st v) = xs_ct st := (rfl)
theorem rx_ct_bt {st : xS} {v : Bool} : xs_ct (xp_bt st v) = xs_ct st := (rfl)
theorem rx_cg_bh {st : xS} {v : Int32} : xs_cg (xp_bh st v) = xs_cg st := (rfl)
theorem rx_cg_bl {st : xS} {v : Int32} : xs_cg (xp_bl st v) = xs_cg st := (rfl)
theorem rx_cg_bt {st : xS} {v : Bool} : xs_cg (xp_bt st v) = xs_cg st := (rfl)
theorem rx_cp_bh {st : xS} {v : Int32} : xs_cp (xp_bh st v) = xs_cp st := (rfl)
theorem rx_cp_bl {st : xS} {v : Int32} : xs_cp (xp_bl st v) = xs_cp st := (rfl)
theorem rx_cp_bt {st : xS} {v : Bool} : xs_cp (xp_bt st v) = xs_cp st := (rfl)
theorem rx_ci_bh {st : xS} {v : Int32} : xs_ci (xp_bh st v) = xs_ci st := (rfl)
theorem rx_ci_bl {st : xS} {v : Int32} : xs_ci (xp_bl st v) = xs_ci st := (rfl)
theorem rx_ci_bt {st : xS} {v : Bool} : xs_ci (xp_bt st v) = xs_ci st := (rfl)
theorem rx_zd_bh {st : xS} {v : Int32} : xs_zd (xp_bh st v) = xs_zd st := (rfl)
theorem rx_zd_bl {st : xS} {v : Int32} : xs_zd (xp_bl st v) = xs_zd st := (rfl)
theorem rx_zd_bt {st : xS} {v : Bool} : xs_zd (xp_bt st v) = xs_zd st := (rfl)
theorem rm_be_be {st : mS} {v : Int32} : ms_be (mp_be st v) = v := (rfl)
theorem rm_be_bh {st : mS} {v : Int32} : ms_be (mp_bh st v) = ms_be st := (rfl)
theorem rm_be_hb {st : mS} {v : Bool} : ms_be (mp_hb st v) = ms_be st := (rfl)
theorem rm_bh_be {st : mS} {v : Int32} : ms_bh (mp_be st v) = ms_bh st := (rfl)
theorem rm_bh_bh {st : mS} {v : Int32} : ms_bh (mp_bh st v) = v := (rfl)
theorem rm_bh_hb {st : mS} {v : Bool} : ms_bh (mp_hb st v) = ms_bh st := (rfl)
theorem rm_bn_be {st : mS} {v : Int32} : ms_bn (mp_be st v) = ms_bn st := (rfl)
theorem rm_bn_bh {st : mS} {v : Int32} : ms_bn (mp_bh st v) = ms_bn st := (rfl)
theorem rm_bn_hb {st : mS} {v : Bool} : ms_bn (mp_hb st v) = ms_bn st := (rfl)
theorem rm_bo_be {st : mS} {v : Int32} : ms_bo (mp_be st v) = ms_bo st := (rfl)
theorem rm_bo_bh {st : mS} {v : Int32} : ms_bo (mp_bh st v) = ms_bo st := (rfl)
theorem rm_bo_hb {st : mS} {v : Bool} : ms_bo (mp_hb st v) = ms_bo st := (rfl)
theorem rm_bs_be {st : mS} {v : Int32} : ms_bs (mp_be st v) = ms_bs st := (rfl)
theorem rm_bs_bh {st : mS} {v : Int32} : ms_bs (mp_bh st v) = ms_bs st := (rfl)
theorem rm_bs_hb {st : mS} {v : Bool} : ms_bs (mp_hb st v) = ms_bs st := (rfl)
theorem rm_dr_be {st : mS} {v : Int32} : ms_dr (mp_be st v) = ms_dr st := (rfl)
theorem rm_dr_bh {st : mS} {v : Int32} : ms_dr (mp_bh st v) = ms_dr st := (rfl)
theorem rm_dr_hb {st : mS} {v : Bool} : ms_dr (mp_hb st v) = ms_dr st := (rfl)
theorem rm_hb_be {st : mS} {v : Int32} : ms_hb (mp_be st v) = ms_hb st := (rfl)
theorem rm_hb_bh {st : mS} {v : Int32} : ms_hb (mp_bh st v) = ms_hb st := (rfl)
theorem rm_hb_hb {st : mS} {v : Bool} : ms_hb (mp_hb st v) = v := (rfl)
theorem rm_hc_be {st : mS} {v : Int32} : ms_hc (mp_be st v) = ms_hc st := (rfl)
theorem rm_hc_bh {st : mS} {v : Int32} : ms_hc (mp_bh st v) = ms_hc st := (rfl)
theorem rm_hc_hb {st : mS} {v : Bool} : ms_hc (mp_hb st v) = ms_hc st := (rfl)
theorem rm_tg_be {st : mS} {v : Int32} : ms_tg (mp_be st v) = ms_tg st := (rfl)
theorem rm_tg_bh {st : mS} {v : Int32} : ms_tg (mp_bh st v) = ms_tg st := (rfl)
theorem rm_tg_hb {st : mS} {v : Bool} : ms_tg (mp_hb st v) = ms_tg st := (rfl)
theorem fx_H_bh {st : xS} {ms : mS} {v : Int32} : siH (xp_bh st v) ms = siH st ms := (rfl)
theorem fx_H_bl {st : xS} {ms : mS} {v : Int32} : siH (xp_bl st v) ms = siH st ms := (rfl)
theorem fx_H_bt {st : xS} {ms : mS} {v : Bool} : siH (xp_bt st v) ms = siH st ms := (rfl)
theorem fm_H_be {st : xS} {ms : mS} {v : Int32} : siH st (mp_be ms v) = siH st ms := (rfl)
theorem fm_H_bh {st : xS} {ms : mS} {v : Int32} : siH st (mp_bh ms v) = siH st ms := (rfl)
theorem fm_H_hb {st : xS} {ms : mS} {v : Bool} : siH st (mp_hb ms v) = siH st ms := (rfl)
theorem fx_L_bh {st : xS} {ms : mS} {v : Int32} : siL (xp_bh st v) ms = siL st ms := (rfl)
theorem fx_L_bl {st : xS} {ms : mS} {v : Int32} : siL (xp_bl st v) ms = siL st ms := (rfl)
theorem fx_L_bt {st : xS} {ms : mS} {v : Bool} : siL (xp_bt st v) ms = siL st ms := (rfl)
theorem fm_L_be {st : xS} {ms : mS} {v : Int32} : siL st (mp_be ms v) = siL st ms := (rfl)
theorem fm_L_bh {st : xS} {ms : mS} {v : Int32} : siL st (mp_bh ms v) = siL st ms := (rfl)
theorem fm_L_hb {st : xS} {ms : mS} {v : Bool} : siL st (mp_hb ms v) = siL st ms := (rfl)
theorem fx_C_bh {st : xS} {ms : mS} {v : Int32} : siC (xp_bh st v) ms = siC st ms := (rfl)
theorem fx_C_bl {st : xS} {ms : mS} {v : Int32} : siC (xp_bl st v) ms = siC st ms := (rfl)
theorem fx_C_bt {st : xS} {ms : mS} {v : Bool} : siC (xp_bt st v) ms = siC st ms := (rfl)
theorem fm_C_be {st : xS} {ms : mS} {v : Int32} : siC st (mp_be ms v) = siC st ms := (rfl)
theorem fm_C_bh {st : xS} {ms : mS} {v : Int32} : siC st (mp_bh ms v) = siC st ms := (rfl)
theorem fm_C_hb {st : xS} {ms : mS} {v : Bool} : siC st (mp_hb ms v) = siC st ms := (rfl)
theorem fx_M_bh {st : xS} {ms : mS} {Z : Nat} {v : Int32} : siM Z (xp_bh st v) ms = siM Z st ms := (rfl)
theorem fx_M_bl {st : xS} {ms : mS} {Z : Nat} {v : Int32} : siM Z (xp_bl st v) ms = siM Z st ms := (rfl)
theorem fx_M_bt {st : xS} {ms : mS} {Z : Nat} {v : Bool} : siM Z (xp_bt st v) ms = siM Z st ms := (rfl)
theorem fm_M_be {st : xS} {ms : mS} {Z : Nat} {v : Int32} : siM Z st (mp_be ms v) = siM Z st ms := (rfl)
theorem fm_M_bh {st : xS} {ms : mS} {Z : Nat} {v : Int32} : siM Z st (mp_bh ms v) = siM Z st ms := (rfl)
theorem fm_M_hb {st : xS} {ms : mS} {Z : Nat} {v : Bool} : siM Z st (mp_hb ms v) = siM Z st ms := (rfl)
theorem fx_A_bh {st : xS} {ms : mS} {v : Int32} : siA (xp_bh st v) ms = siA st ms := (rfl)
theorem fx_A_bl {st : xS} {ms : mS} {v : Int32} : siA (xp_bl st v) ms = siA st ms := (rfl)
theorem fx_A_bt {st : xS} {ms : mS} {v : Bool} : siA (xp_bt st v) ms = siA st ms := (rfl)
theorem fm_A_be {st : xS} {ms : mS} {v : Int32} : siA st (mp_be ms v) = siA st ms := (rfl)
theorem fm_A_bh {st : xS} {ms : mS} {v : Int32} : siA st (mp_bh ms v) = siA st ms := (rfl)
theorem fm_A_hb {st : xS} {ms : mS} {v : Bool} : siA st (mp_hb ms v) = siA st ms := (rfl)
theorem fx_Z_bh {st : xS} {ms : mS} {Z : Nat} {v : Int32} : siZ Z (xp_bh st v) ms = siZ Z st ms := (rfl)
theorem fx_Z_bl {st : xS} {ms : mS} {Z : Nat} {v : Int32} : siZ Z (xp_bl st v) ms = siZ Z st ms := (rfl)
theorem fx_Z_bt {st : xS} {ms : mS} {Z : Nat} {v : Bool} : siZ Z (xp_bt st v) ms = siZ Z st ms := (rfl)
theorem fm_Z_be {st : xS} {ms : mS} {Z : Nat} {v : Int32} : siZ Z st (mp_be ms v) = siZ Z st ms := (rfl)
theorem fm_Z_bh {st : xS} {ms : mS} {Z : Nat} {v : Int32} : siZ Z st (mp_bh ms v) = siZ Z st ms := (rfl)
theorem fm_Z_hb {st : xS} {ms : mS} {Z : Nat} {v : Bool} : siZ Z st (mp_hb ms v) = siZ Z st ms := (rfl)
theorem fx_D_bh {st : xS} {ms : mS} {d : Int64} {v : Int32} : siD d (xp_bh st v) ms = siD d st ms := (rfl)
theorem fx_D_bl {st : xS} {ms : mS} {d : Int64} {v : Int32} : siD d (xp_bl st v) ms = siD d st ms := (rfl)
theorem fx_D_bt {st : xS} {ms : mS} {d : Int64} {v : Bool} : siD d (xp_bt st v) ms = siD d st ms := (rfl)
theorem fm_D_be {st : xS} {ms : mS} {d : Int64} {v : Int32} : siD d st (mp_be ms v) = siD d st ms := (rfl)
theorem fm_D_bh {st : xS} {ms : mS} {d : Int64} {v : Int32} : siD d st (mp_bh ms v) = siD d st ms := (rfl)
theorem fm_D_hb {st : xS} {ms : mS} {d : Int64} {v : Bool} : siD d st (mp_hb ms v) = siD d st ms := (rfl)
theorem fx_N_bh {st : xS} {ms : mS} {d : Int64} {v : Int32} : siN d (xp_bh st v) ms = siN d st ms := (rfl)
theorem fx_N_bl {st : xS} {ms : mS} {d : Int64} {v : Int32} : siN d (xp_bl st v) ms = siN d st ms := (rfl)
theorem fx_N_bt {st : xS} {ms : mS} {d : Int64} {v : Bool} : siN d (xp_bt st v) ms = siN d st ms := (rfl)
theorem fm_N_be {st : xS} {ms : mS} {d : Int64} {v : Int32} : siN d st (mp_be ms v) = siN d st ms := (rfl)
theorem fm_N_bh {st : xS} {ms : mS} {d : Int64} {v : Int32} : siN d st (mp_bh ms v) = siN d st ms := (rfl)
theorem fm_N_hb {st : xS} {ms : mS} {d : Int64} {v : Bool} : siN d st (mp_hb ms v) = siN d st ms := (rfl)
theorem fx_I_bh {st : xS} {ms : mS} {t : Int32} {v : Int32} : siI t (xp_bh st v) ms = siI t st ms := (rfl)
theorem fx_I_bl {st : xS} {ms : mS} {t : Int32} {v : Int32} : siI t (xp_bl st v) ms = siI t st ms := (rfl)
theorem fx_I_bt {st : xS} {ms : mS} {t : Int32} {v : Bool} : siI t (xp_bt st v) ms = siI t st ms := (rfl)
theorem fm_I_be {st : xS} {ms : mS} {t : Int32} {v : Int32} : siI t st (mp_be ms v) = siI t st ms := (rfl)
theorem fm_I_bh {st : xS} {ms : mS} {t : Int32} {v : Int32} : siI t st (mp_bh ms v) = siI t st ms := (rfl)
theorem fm_I_hb {st : xS} {ms : mS} {t : Int32} {v : Bool} : siI t st (mp_hb ms v) = siI t st ms := (rfl)
theorem fb_K_be {ms : mS} {Z : Nat} {v : Int32} : sbK Z (mp_be ms v) = sbK Z ms := (rfl)
theorem fb_K_bh {ms : mS} {Z : Nat} {v : Int32} : sbK Z (mp_bh ms v) = sbK Z ms := (rfl)
theorem fb_K_hb {ms : mS} {Z : Nat} {v : Bool} : sbK Z (mp_hb ms v) = sbK Z ms := (rfl)
theorem fb_M_be {ms : mS} {Z : Nat} {v : Int32} : sbM Z (mp_be ms v) = sbM Z ms := (rfl)
theorem fb_M_bh {ms : mS} {Z : Nat} {v : Int32} : sbM Z (mp_bh ms v) = sbM Z ms := (rfl)
theorem fb_M_hb {ms : mS} {Z : Nat} {v : Bool} : sbM Z (mp_hb ms v) = sbM Z ms := (rfl)
theorem fb_F_be {ms : mS} {Z : Nat} {B : Int} {v : Int32} : sbF Z B (mp_be ms v) = sbF Z B ms := (rfl)
theorem fb_F_bh {ms : mS} {Z : Nat} {B : Int} {v : Int32} : sbF Z B (mp_bh ms v) = sbF Z B ms := (rfl)
theorem fb_F_hb {ms : mS} {Z : Nat} {B : Int} {v : Bool} : sbF Z B (mp_hb ms v) = sbF Z B ms := (rfl)
theorem fx_K_ci {st : xS} {ms : mS} {j : Nat} {v : Int32} : siK (xp_ci st j v) ms = siK st ms := (rfl)
theorem fx_K_cp {st : xS} {ms : mS} {j : Nat} {v : Int32} : siK (xp_cp st j v) ms = siK st ms := (rfl)
theorem fx_K_cg {st : xS} {ms : mS} {j : Nat} {v : Int32} : siK (xp_cg st j v) ms = siK st ms := (rfl)
theorem fx_K_ct {st : xS} {ms : mS} {j : Nat} {v : Bool} : siK (xp_ct st j v) ms = siK st ms := (rfl)
theorem fm_K_bn {st : xS} {ms : mS} {j : Nat} {v : Int32} : siK st (mp_bn ms j v) = siK st ms := (rfl)
theorem fm_K_bs {st : xS} {ms : mS} {j : Nat} {v : Int32} : siK st (mp_bs ms j v) = siK st ms := (rfl)
theorem fm_K_hc {st : xS} {ms : mS} {j : Nat} {v : Int32} : siK st (mp_hc ms j v) = siK st ms := (rfl)
theorem fm_K_tg {st : xS} {ms : mS} {j : Nat} {v : Int32} : siK st (mp_tg ms j v) = siK st ms := (rfl)
theorem fx_G_ci {st : xS} {ms : mS} {j : Nat} {v : Int32} : siG (xp_ci st j v) ms = siG st ms := (rfl)
theorem fx_G_cp {st : xS} {ms : mS} {j : Nat} {v : Int32} : siG (xp_cp st j v) ms = siG st ms := (rfl)
theorem fx_G_cg {st : xS} {ms : mS} {j : Nat} {v : Int32} : siG (xp_cg st j v) ms = siG st ms := (rfl)
theorem fx_G_ct {st : xS} {ms : mS} {j : Nat} {v : Bool} : siG (xp_ct st j v) ms = siG st ms := (rfl)
theorem fm_G_bn {st : xS} {ms : mS} {j : Nat} {v : Int32} : siG st (mp_bn ms j v) = siG st ms := (rfl)
theorem fm_G_bs {st : xS} {ms : mS} {j : Nat} {v : Int32} : siG st (mp_bs ms j v) = siG st ms := (rfl)
theorem fm_G_hc {st : xS} {ms : mS} {j : Nat} {v : Int32} : siG st (mp_hc ms j v) = siG st ms := (rfl)
theorem fm_G_tg {st : xS} {ms : mS} {j : Nat} {v : Int32} : siG st (mp_tg ms j v) = siG st ms := (rfl)
theorem rx_bo_co {st : xS} {j : Nat} {v : Int32} : xs_bo (xp_co st j v) = xs_bo st := (rfl)
theorem rx_bo_cs {st : xS} {j : Nat} {v : Int64} : xs_bo (xp_cs st j v) = xs_bo st := (rfl)
theorem rx_bo_ci {st : xS} {j : Nat} {v : Int32} : xs_bo (xp_ci st j v) = xs_bo st := (rfl)
theorem rx_bo_cp {st : xS} {j : Nat} {v : Int32} : xs_bo (xp_cp st j v) = xs_bo st := (rfl)
theorem rx_bo_cg {st : xS} {j : Nat} {v : Int32} : xs_bo (xp_cg st j v) = xs_bo st := (rfl)
theorem rx_bo_ct {st : xS} {j : Nat} {v : Bool} : xs_bo (xp_ct st j v) = xs_bo st := (rfl)
theorem rx_bt_co {st : xS} {j : Nat} {v : Int32} : xs_bt (xp_co st j v) = xs_bt st := (rfl)
theorem rx_bt_cs {st : xS} {j : Nat} {v : Int64} : xs_bt (xp_cs st j v) = xs_bt st := (rfl)
theorem rx_bt_ci {st : xS} {j : Nat} {v : Int32} : xs_bt (xp_ci st j v) = xs_bt st := (rfl)
theorem rx_bt_cp {st : xS} {j : Nat} {v : Int32} : xs_bt (xp_cp st j v) = xs_bt st := (rfl)
theorem rx_bt_cg {st : xS} {j : Nat} {v : Int32} : xs_bt (xp_cg st j v) = xs_bt st := (rfl)
theorem rx_bt_ct {st : xS} {j : Nat} {v : Bool} : xs_bt (xp_ct st j v) = xs_bt st := (rfl)
theorem rx_bl_co {st : xS} {j : Nat} {v : Int32} : xs_bl (xp_co st j v) = xs_bl st := (rfl)
theorem rx_bl_cs {st : xS} {j : Nat} {v : Int64} : xs_bl (xp_cs st j v) = xs_bl st := (rfl)
theorem rx_bl_ci {st : xS} {j : Nat} {v : Int32} : xs_bl (xp_ci st j v) = xs_bl st := (rfl)
theorem rx_bl_cp {st : xS} {j : Nat} {v : Int32} : xs_bl (xp_cp st j v) = xs_bl st := (rfl)
theorem rx_bl_cg {st : xS} {j : Nat} {v : Int32} : xs_bl (xp_cg st j v) = xs_bl st := (rfl)
theorem rx_bl_ct {st : xS} {j : Nat} {v : Bool} : xs_bl (xp_ct st j v) = xs_bl st := (rfl)
theorem rx_bh_co {st : xS} {j : Nat} {v : Int32} : xs_bh (xp_co st j v) = xs_bh st := (rfl)
theorem rx_bh_cs {st : xS} {j : Nat} {v : Int64} : xs_bh (xp_cs st j v) = xs_bh st := (rfl)
theorem rx_bh_ci {st : xS} {j : Nat} {v : Int32} : xs_bh (xp_ci st j v) = xs_bh st := (rfl)
theorem rx_bh_cp {st : xS} {j : Nat} {v : Int32} : xs_bh (xp_cp st j v) = xs_bh st := (rfl)
theorem rx_bh_cg {st : xS} {j : Nat} {v : Int32} : xs_bh (xp_cg st j v) = xs_bh st := (rfl)
theorem rx_bh_ct {st : xS} {j : Nat} {v : Bool} : xs_bh (xp_ct st j v) = xs_bh st := (rfl)
theorem rx_ct_co {st : xS} {j : Nat} {v : Int32} : xs_ct (xp_co st j v) = xs_ct st := (rfl)
theorem rx_ct_cs {st : xS} {j : Nat} {v : Int64} : xs_ct (xp_cs st j v) = xs_ct st := (rfl)
theorem rx_ct_ci {st : xS} {j : Nat} {v : Int32} : xs_ct (xp_ci st j v) = xs_ct st := (rfl)
theorem rx_ct_cp {st : xS} {j : Nat} {v : Int32} : xs_ct (xp_cp st j v) = xs_ct st := (rfl)
theorem rx_ct_cg {st : xS} {j : Nat} {v : Int32} : xs_ct (xp_cg st j v) = xs_ct st := (rfl)
theorem rx_ct_ct {st : xS} {j : Nat} {v : Bool} : xs_ct (xp_ct st j v) = va_up (xs_ct st) j v := (rfl)
theorem rx_cg_co {st : xS} {j : Nat} {v : Int32} : xs_cg (xp_co st j v) = xs_cg st := (rfl)
theorem rx_cg_cs {st : xS} {j : Nat} {v : Int64} : xs_cg (xp_cs st j v) = xs_cg st := (rfl)
theorem rx_cg_ci {st : xS} {j : Nat} {v : Int32} : xs_cg (xp_ci st j v) = xs_cg st := (rfl)
theorem rx_cg_cp {st : xS} {j : Nat} {v : Int32} : xs_cg (xp_cp st j v) = xs_cg st := (rfl)
theorem rx_cg_cg {st : xS} {j : Nat} {v : Int32} : xs_cg (xp_cg st j v) = upd (xs_cg st) j v := (rfl)
theorem rx_cg_ct {st : xS} {j : Nat} {v : Bool} : xs_cg (xp_ct st j v) = xs_cg st := (rfl)
theorem rx_cp_co {st : xS} {j : Nat} {v : Int32} : xs_cp (xp_co st j v) = xs_cp st := (rfl)
theorem rx_cp_ci {st : xS} {j : Nat} {v : Int32} : xs_cp (xp_ci st j v) = xs_cp st := (rfl)
theorem rx_cp_cp {st : xS} {j : Nat} {v : Int32} : xs_cp (xp_cp st j v) = upd (xs_cp st) j v := (rfl)
theorem rx_cp_cg {st : xS} {j : Nat} {v : Int32} : xs_cp (xp_cg st j v) = xs_cp st := (rfl)
theorem rx_cp_ct {st : xS} {j : Nat} {v : Bool} : xs_cp (xp_ct st j v) = xs_cp st := (rfl)
theorem rx_ci_co {st : xS} {j : Nat} {v : Int32} : xs_ci (xp_co st j v) = xs_ci st := (rfl)
theorem rx_ci_ci {st : xS} {j : Nat} {v : Int32} : xs_ci (xp_ci st j v) = upd (xs_ci st) j v := (rfl)
theorem rx_ci_cp {st : xS} {j : Nat} {v : Int32} : xs_ci (xp_cp st j v) = xs_ci st := (rfl)
theorem rx_ci_cg {st : xS} {j : Nat} {v : Int32} : xs_ci (xp_cg st j v) = xs_ci st := (rfl)
theorem rx_ci_ct {st : xS} {j : Nat} {v : Bool} : xs_ci (xp_ct st j v) = xs_ci st := (rfl)
theorem rx_zd_co {st : xS} {j : Nat} {v : Int32} : xs_zd (xp_co st j v) = xs_zd st := (rfl)
theorem rx_zd_cs {st : xS} {j : Nat} {v : Int64} : xs_zd (xp_cs st j v) = xs_zd st := (rfl)
theorem rx_zd_ci {st : xS} {j : Nat} {v : Int32} : xs_zd (xp_ci st j v) = xs_zd st := (rfl)
theorem rx_zd_cp {st : xS} {j : Nat} {v : Int32} : xs_zd (xp_cp st j v) = xs_zd st := (rfl)
theorem rx_zd_cg {st : xS} {j : Nat} {v : Int32} : xs_zd (xp_cg st j v) = xs_zd st := (rfl)
theorem rx_zd_ct {st : xS} {j : Nat} {v : Bool} : xs_zd (xp_ct st j v) = xs_zd st := (rfl)
theorem rm_be_bn {st : mS} {j : Nat} {v : Int32} : ms_be (mp_bn st j v) = ms_be st := (rfl)
theorem rm_be_bs {st : mS} {j : Nat} {v : Int32} : ms_be (mp_bs st j v) = ms_be st := (rfl)
theorem rm_be_hc {st : mS} {j : Nat} {v : Int32} : ms_be (mp_hc st j v) = ms_be st := (rfl)
theorem rm_be_ou {st : mS} {j : Nat} {v : Int32} : ms_be (mp_ou st j v) = ms_be st := (rfl)
theorem rm_be_su {st : mS} {j : Nat} {v : Int64} : ms_be (mp_su st j v) = ms_be st := (rfl)
theorem rm_be_tg {st : mS} {j : Nat} {v : Int32} : ms_be (mp_tg st j v) = ms_be st := (rfl)
theorem rm_bh_bn {st : mS} {j : Nat} {v : Int32} : ms_bh (mp_bn st j v) = ms_bh st := (rfl)
theorem rm_bh_bs {st : mS} {j : Nat} {v : Int32} : ms_bh (mp_bs st j v) = ms_bh st := (rfl)
theorem rm_bh_hc {st : mS} {j : Nat} {v : Int32} : ms_bh (mp_hc st j v) = ms_bh st := (rfl)
theorem rm_bh_ou {st : mS} {j : Nat} {v : Int32} : ms_bh (mp_ou st j v) = ms_bh st := (rfl)
theorem rm_bh_su {st : mS} {j : Nat} {v : Int64} : ms_bh (mp_su st j v) = ms_bh st := (rfl)
theorem rm_bh_tg {st : mS} {j : Nat} {v : Int32} : ms_bh (mp_tg st j v) = ms_bh st := (rfl)
theorem rm_bn_bn {st : mS} {j : Nat} {v : Int32} : ms_bn (mp_bn st j v) = upd (ms_bn st) j v := (rfl)
theorem rm_bn_bs {st : mS} {j : Nat} {v : Int32} : ms_bn (mp_bs st j v) = ms_bn st := (rfl)
theorem rm_bn_hc {st : mS} {j : Nat} {v : Int32} : ms_bn (mp_hc st j v) = ms_bn st := (rfl)
theorem rm_bn_tg {st : mS} {j : Nat} {v : Int32} : ms_bn (mp_tg st j v) = ms_bn st := (rfl)
theorem rm_bo_bn {st : mS} {j : Nat} {v : Int32} : ms_bo (mp_bn st j v) = ms_bo st := (rfl)
theorem rm_bo_bs {st : mS} {j : Nat} {v : Int32} : ms_bo (mp_bs st j v) = ms_bo st := (rfl)
theorem rm_bo_hc {st : mS} {j : Nat} {v : Int32} : ms_bo (mp_hc st j v) = ms_bo st := (rfl)
theorem rm_bo_ou {st : mS} {j : Nat} {v : Int32} : ms_bo (mp_ou st j v) = ms_bo st := (rfl)
theorem rm_bo_su {st : mS} {j : Nat} {v : Int64} : ms_bo (mp_su st j v) = ms_bo st := (rfl)
theorem rm_bo_tg {st : mS} {j : Nat} {v : Int32} : ms_bo (mp_tg st j v) = ms_bo st := (rfl)
theorem rm_bs_bn {st : mS} {j : Nat} {v : Int32} : ms_bs (mp_bn st j v) = ms_bs st := (rfl)
theorem rm_bs_bs {st : mS} {j : Nat} {v : Int32} : ms_bs (mp_bs st j v) = upd (ms_bs st) j v := (rfl)
theorem rm_bs_hc {st : mS} {j : Nat} {v : Int32} : ms_bs (mp_hc st j v) = ms_bs st := (rfl)
theorem rm_bs_tg {st : mS} {j : Nat} {v : Int32} : ms_bs (mp_tg st j v) = ms_bs st := (rfl)
theorem rm_dr_bn {st : mS} {j : Nat} {v : Int32} : ms_dr (mp_bn st j v) = ms_dr st := (rfl)
theorem rm_dr_bs {st : mS} {j : Nat} {v : Int32} : ms_dr (mp_bs st j v) = ms_dr st := (rfl)
theorem rm_dr_hc {st : mS} {j : Nat} {v : Int32} : ms_dr (mp_hc st j v) = ms_dr st := (rfl)
theorem rm_dr_ou {st : mS} {j : Nat} {v : Int32} : ms_dr (mp_ou st j v) = ms_dr st := (rfl)
theorem rm_dr_su {st : mS} {j : Nat} {v : Int64} : ms_dr (mp_su st j v) = ms_dr st := (rfl)
theorem rm_dr_tg {st : mS} {j : Nat} {v : Int32} : ms_dr (mp_tg st j v) = ms_dr st := (rfl)
theorem rm_hb_bn {st : mS} {j : Nat} {v : Int32} : ms_hb (mp_bn st j v) = ms_hb st := (rfl)
theorem rm_hb_bs {st : mS} {j : Nat} {v : Int32} : ms_hb (mp_bs st j v) = ms_hb st := (rfl)
theorem rm_hb_hc {st : mS} {j : Nat} {v : Int32} : ms_hb (mp_hc st j v) = ms_hb st := (rfl)
theorem rm_hb_ou {st : mS} {j : Nat} {v : Int32} : ms_hb (mp_ou st j v) = ms_hb st := (rfl)
theorem rm_hb_su {st : mS} {j : Nat} {v : Int64} : ms_hb (mp_su st j v) = ms_hb st := (rfl)
theorem rm_hb_tg {st : mS} {j : Nat} {v : Int32} : ms_hb (mp_tg st j v) = ms_hb st := (rfl)
theorem rm_hc_bn {st : mS} {j : Nat} {v : Int32} : ms_hc (mp_bn st j v) = ms_hc st := (rfl)
theorem rm_hc_bs {st : mS} {j : Nat} {v : Int32} : ms_hc (mp_bs st j v) = ms_hc st := (rfl)
theorem rm_hc_hc {st : mS} {j : Nat} {v : Int32} : ms_hc (mp_hc st j v) = upd (ms_hc st) j v := (rfl)
theorem rm_hc_ou {st : mS} {j : Nat} {v : Int32} : ms_hc (mp_ou st j v) = ms_hc st := (rfl)
theorem rm_hc_su {st : mS} {j : Nat} {v : Int64} : ms_hc (mp_su st j v) = ms_hc st := (rfl)
theorem rm_hc_tg {st : mS} {j : Nat} {v : Int32} : ms_hc (mp_tg st j v) = ms_hc st := (rfl)
theorem rm_tg_bn {st : mS} {j : Nat} {v : Int32} : ms_tg (mp_bn st j v) = ms_tg st := (rfl)
theorem rm_tg_bs {st : mS} {j : Nat} {v : Int32} : ms_tg (mp_bs st j v) = ms_tg st := (rfl)
theorem rm_tg_hc {st : mS} {j : Nat} {v : Int32} : ms_tg (mp_hc st j v) = ms_tg st := (rfl)
theorem rm_tg_ou {st : mS} {j : Nat} {v : Int32} : ms_tg (mp_ou st j v) = ms_tg st := (rfl)
theorem rm_tg_su {st : mS} {j : Nat} {v : Int64} : ms_tg (mp_su st j v) = ms_tg st := (rfl)
theorem rm_tg_tg {st : mS} {j : Nat} {v : Int32} : ms_tg (mp_tg st j v) = upd (ms_tg st) j v := (rfl)
theorem fx_H_ci {st : xS} {ms : mS} {j : Nat} {v : Int32} : siH (xp_ci st j v) ms = siH st ms := (rfl)
theorem fx_H_cp {st : xS} {ms : mS} {j : Nat} {v : Int32} : siH (xp_cp st j v) ms = siH st ms := (rfl)
theorem fx_H_cg {st : xS} {ms : mS} {j : Nat} {v : Int32} : siH (xp_cg st j v) ms = siH st ms := (rfl)
theorem fx_H_ct {st : xS} {ms : mS} {j : Nat} {v : Bool} : siH (xp_ct st j v) ms = siH st ms := (rfl)
theorem fm_H_bn {st : xS} {ms : mS} {j : Nat} {v : Int32} : siH st (mp_bn ms j v) = siH st ms := (rfl)
theorem fm_H_bs {st : xS} {ms : mS} {j : Nat} {v : Int32} : siH st (mp_bs ms j v) = siH st ms := (rfl)
theorem fm_H_hc {st : xS} {ms : mS} {j : Nat} {v : Int32} : siH st (mp_hc ms j v) = siH st ms := (rfl)
theorem fm_H_tg {st : xS} {ms : mS} {j : Nat} {v : Int32} : siH st (mp_tg ms j v) = siH st ms := (rfl)
theorem fx_L_ci {st : xS} {ms : mS} {j : Nat} {v : Int32} : siL (xp_ci st j v) ms = siL st ms := (rfl)
theorem fx_L_cp {st : xS} {ms : mS} {j : Nat} {v : Int32} : siL (xp_cp st j v) ms = siL st ms := (rfl)
theorem fx_L_cg {st : xS} {ms : mS} {j : Nat} {v : Int32} : siL (xp_cg st j v) ms = siL st ms := (rfl)
theorem fx_L_ct {st : xS} {ms : mS} {j : Nat} {v : Bool} : siL (xp_ct st j v) ms = siL st ms := (rfl)
theorem fm_L_bn {st : xS} {ms : mS} {j : Nat} {v : Int32} : siL st (mp_bn ms j v) = siL st ms := (rfl)
theorem fm_L_bs {st : xS} {ms : mS} {j : Nat} {v : Int32} : siL st (mp_bs ms j v) = siL st ms := (rfl)
theorem fm_L_hc {st : xS} {ms : mS} {j : Nat} {v : Int32} : siL st (mp_hc ms j v) = siL st ms := (rfl)
theorem fm_L_tg {st : xS} {ms : mS} {j : Nat} {v : Int32} : siL st (mp_tg ms j v) = siL st ms := (rfl)
theorem rx_co_ci {st : xS} {j : Nat} {v : Int32} : xs_co (xp_ci st j v) = xs_co st := (rfl)
theorem rx_co_cp {st : xS} {j : Nat} {v : Int32} : xs_co (xp_cp st j v) = xs_co st := (rfl)
theorem rx_co_cg {st : xS} {j : Nat} {v : Int32} : xs_co (xp_cg st j v) = xs_co st := (rfl)
theorem rx_co_ct {st : xS} {j : Nat} {v : Bool} : xs_co (xp_ct st j v) = xs_co st := (rfl)
theorem rx_cs_ci {st : xS} {j : Nat} {v : Int32} : xs_cs (xp_ci st j v) = xs_cs st := (rfl)
theorem rx_cs_cp {st : xS} {j : Nat} {v : Int32} : xs_cs (xp_cp st j v) = xs_cs st := (rfl)
theorem rx_cs_cg {st : xS} {j : Nat} {v : Int32} : xs_cs (xp_cg st j v) = xs_cs st := (rfl)
theorem rx_cs_ct {st : xS} {j : Nat} {v : Bool} : xs_cs (xp_ct st j v) = xs_cs st := (rfl)
theorem rm_ou_bn {st : mS} {j : Nat} {v : Int32} : ms_ou (mp_bn st j v) = ms_ou st := (rfl)
theorem rm_ou_bs {st : mS} {j : Nat} {v : Int32} : ms_ou (mp_bs st j v) = ms_ou st := (rfl)
theorem rm_ou_hc {st : mS} {j : Nat} {v : Int32} : ms_ou (mp_hc st j v) = ms_ou st := (rfl)
theorem rm_ou_tg {st : mS} {j : Nat} {v : Int32} : ms_ou (mp_tg st j v) = ms_ou st := (rfl)
theorem rm_su_bn {st : mS} {j : Nat} {v : Int32} : ms_su (mp_bn st j v) = ms_su st := (rfl)
theorem rm_su_bs {st : mS} {j : Nat} {v : Int32} : ms_su (mp_bs st j v) = ms_su st := (rfl)
theorem rm_su_hc {st : mS} {j : Nat} {v : Int32} : ms_su (mp_hc st j v) = ms_su st := (rfl)
theorem rm_su_tg {st : mS} {j : Nat} {v : Int32} : ms_su (mp_tg st j v) = ms_su st := (rfl)
theorem fx_M_ci {st : xS} {ms : mS} {Z : Nat} {j : Nat} {v : Int32} : siM Z (xp_ci st j v) ms = siM Z st ms := (rfl)
theorem fx_M_cp {st : xS} {ms : mS} {Z : Nat} {j : Nat} {v : Int32} : siM Z (xp_cp st j v) ms = siM Z st ms := (rfl)
theorem fx_M_cg {st : xS} {ms : mS} {Z : Nat} {j : Nat} {v : Int32} : siM Z (xp_cg st j v) ms = siM Z st ms := (rfl)
theorem fx_M_ct {st : xS} {ms : mS} {Z : Nat} {j : Nat} {v : Bool} : siM Z (xp_ct st j v) ms = siM Z st ms := (rfl)
theorem fm_M_bn {st : xS} {ms : mS} {Z : Nat} {j : Nat} {v : Int32} : siM Z st (mp_bn ms j v) = siM Z st ms := (rfl)
theorem fm_M_bs {st : xS} {ms : mS} {Z : Nat} {j : Nat} {v : Int32} : siM Z st (mp_bs ms j v) = siM Z st ms := (rfl)
theorem fm_M_hc {st : xS} {ms : mS} {Z : Nat} {j : Nat} {v : Int32} : siM Z st (mp_hc ms j v) = siM Z st ms := (rfl)
theorem fm_M_tg {st : xS} {ms : mS} {Z : Nat} {j : Nat} {v : Int32} : siM Z st (mp_tg ms j v) = siM Z st ms := (rfl)
theorem fx_A_ci {st : xS} {ms : mS} {j : Nat} {v : Int32} : siA (xp_ci st j v) ms = siA st ms := (rfl)
theorem fx_A_cp {st : xS} {ms : mS} {j : Nat} {v : Int32} : siA (xp_cp st j v) ms = siA st ms := (rfl)
theorem fx_A_cg {st : xS} {ms : mS} {j : Nat} {v : Int32} : siA (xp_cg st j v) ms = siA st ms := (rfl)
theorem fx_A_ct {st : xS} {ms : mS} {j : Nat} {v : Bool} : siA (xp_ct st j v) ms = siA st ms := (rfl)
theorem fm_A_bn {st : xS} {ms : mS} {j : Nat} {v : Int32} : siA st (mp_bn ms j v) = siA st ms := (rfl)
theorem fm_A_bs {st : xS} {ms : mS} {j : Nat} {v : Int32} : siA st (mp_bs ms j v) = siA st ms := (rfl)
theorem fm_A_hc {st : xS} {ms : mS} {j : Nat} {v : Int32} : siA st (mp_hc ms j v) = siA st ms := (rfl)
theorem fm_A_tg {st : xS} {ms : mS} {j : Nat} {v : Int32} : siA st (mp_tg ms j v) = siA st ms := (rfl)
theorem fx_Z_ci {st : xS} {ms : mS} {Z : Nat} {j : Nat} {v : Int32} : siZ Z (xp_ci st j v) ms = siZ Z st ms := (rfl)
theorem fx_Z_cp {st : xS} {ms : mS} {Z : Nat} {j : Nat} {v : Int32} : siZ Z (xp_cp st j v) ms = siZ Z st ms := (rfl)
theorem fx_Z_cg {st : xS} {ms : mS} {Z : Nat} {j : Nat} {v : Int32} : siZ Z (xp_cg st j v) ms = siZ Z st ms := (rfl)
theorem fx_Z_ct {st : xS} {ms : mS} {Z : Nat} {j : Nat} {v : Bool} : siZ Z (xp_ct st j v) ms = siZ Z st ms := (rfl)
theorem fm_Z_bn {st : xS} {ms : mS} {Z : Nat} {j : Nat} {v : Int32} : siZ Z st (mp_bn ms j v) = siZ Z st ms := (rfl)
theorem fm_Z_bs {st : xS} {ms : mS} {Z : Nat} {j : Nat} {v : Int32} : siZ Z st (mp_bs ms j v) = siZ Z st ms := (rfl)
theorem fm_Z_hc {st : xS} {ms : mS} {Z : Nat} {j : Nat} {v : Int32} : siZ Z st (mp_hc ms j v) = siZ Z st ms := (rfl)
theorem fm_Z_tg {st : xS} {ms : mS} {Z : Nat} {j : Nat} {v : Int32} : siZ Z st (mp_tg ms j v) = siZ Z st ms := (rfl)
theorem fx_D_ci {st : xS} {ms : mS} {d : Int64} {j : Nat} {v : Int32} : siD d (xp_ci st j v) ms = siD d st ms := (rfl)
theorem fx_D_cp {st : xS} {ms : mS} {d : Int64} {j : Nat} {v : Int32} : siD d (xp_cp st j v) ms = siD d st ms := (rfl)
theorem fx_D_cg {st : xS} {ms : mS} {d : Int64} {j : Nat} {v : Int32} : siD d (xp_cg st j v) ms = siD d st ms := (rfl)
theorem fx_D_ct {st : xS} {ms : mS} {d : Int64} {j : Nat} {v : Bool} : siD d (xp_ct st j v) ms = siD d st ms := (rfl)
theorem fm_D_bn {st : xS} {ms : mS} {d : Int64} {j : Nat} {v : Int32} : siD d st (mp_bn ms j v) = siD d st ms := (rfl)
theorem fm_D_bs {st : xS} {ms : mS} {d : Int64} {j : Nat} {v : Int32} : siD d st (mp_bs ms j v) = siD d st ms := (rfl)
theorem fm_D_hc {st : xS} {ms : mS} {d : Int64} {j : Nat} {v : Int32} : siD d st (mp_hc ms j v) = siD d st ms := (rfl)
theorem fm_D_tg {st : xS} {ms : mS} {d : Int64} {j : Nat} {v : Int32} : siD d st (mp_tg ms j v) = siD d st ms := (rfl)
theorem fx_N_ci {st : xS} {ms : mS} {d : Int64} {j : Nat} {v : Int32} : siN d (xp_ci st j v) ms = siN d st ms := (rfl)
theorem fx_N_cp {st : xS} {ms : mS} {d : Int64} {j : Nat} {v : Int32} : siN d (xp_cp st j v) ms = siN d st ms := (rfl)
theorem fx_N_cg {st : xS} {ms : mS} {d : Int64} {j : Nat} {v : Int32} : siN d (xp_cg st j v) ms = siN d st ms := (rfl)
theorem fx_N_ct {st : xS} {ms : mS} {d : Int64} {j : Nat} {v : Bool} : siN d (xp_ct st j v) ms = siN d st ms := (rfl)
theorem fm_N_bn {st : xS} {ms : mS} {d : Int64} {j : Nat} {v : Int32} : siN d st (mp_bn ms j v) = siN d st ms := (rfl)
theorem fm_N_bs {st : xS} {ms : mS} {d : Int64} {j : Nat} {v : Int32} : siN d st (mp_bs ms j v) = siN d st ms := (rfl)
theorem fm_N_hc {st : xS} {ms : mS} {d : Int64} {j : Nat} {v : Int32} : siN d st (mp_hc ms j v) = siN d st ms := (rfl)
theorem fm_N_tg {st : xS} {ms : mS} {d : Int64} {j : Nat} {v : Int32} : siN d st (mp_tg ms j v) = siN d st ms := (rfl)
theorem fx_I_ci {st : xS} {ms : mS} {t : Int32} {j : Nat} {v : Int32} : siI t (xp_ci st j v) ms = siI t st ms := (rfl)
theorem fx_I_cp {st : xS} {ms : mS} {t : Int32} {j : Nat} {v : Int32} : siI t (xp_cp st j v) ms = siI t st ms := (rfl)
theorem fx_I_cg {st : xS} {ms : mS} {t : Int32} {j : Nat} {v : Int32} : siI t (xp_cg st j v) ms = siI t st ms := (rfl)
theorem fx_I_ct {st : xS} {ms : mS} {t : Int32} {j : Nat} {v : Bool} : siI t (xp_ct st j v) ms = siI t st ms := (rfl)
theorem fm_I_bn {st : xS} {ms : mS} {t : Int32} {j : Nat} {v : Int32} : siI t st (mp_bn ms j v) = siI t st ms := (rfl)
theorem fm_I_bs {st : xS} {ms : mS} {t : Int32} {j : Nat} {v : Int32} : siI t st (mp_bs ms j v) = siI t st ms := (rfl)
theorem fm_I_hc {st : xS} {ms : mS} {t : Int32} {j : Nat} {v : Int32} : siI t st (mp_hc ms j v) = siI t st ms := (rfl)
theorem fm_I_tg {st : xS} {ms : mS} {t : Int32} {j : Nat} {v : Int32} : siI t st (mp_tg ms j v) = siI t st ms := (rfl)
theorem fb_K_bn {ms : mS} {Z : Nat} {j : Nat} {v : Int32} : sbK Z (mp_bn ms j v) = sbK Z ms := (rfl)
theorem fb_K_bs {ms : mS} {Z : Nat} {j : Nat} {v : Int32} : sbK Z (mp_bs ms j v) = sbK Z ms := (rfl)
theorem fb_K_hc {ms : mS} {Z : Nat} {j : Nat} {v : Int32} : sbK Z (mp_hc ms j v) = sbK Z ms := (rfl)
theorem fb_K_tg {ms : mS} {Z : Nat} {j : Nat} {v : Int32} : sbK Z (mp_tg ms j v) = sbK Z ms := (rfl)
theorem fb_M_bn {ms : mS} {Z : Nat} {j : Nat} {v : Int32} : sbM Z (mp_bn ms j v) = sbM Z ms := (rfl)
theorem fb_M_bs {ms : mS} {Z : Nat} {j : Nat} {v : Int32} : sbM Z (mp_bs ms j v) = sbM Z ms := (rfl)
theorem fb_M_hc {ms : mS} {Z : Nat} {j : Nat} {v : Int32} : sbM Z (mp_hc ms j v) = sbM Z ms := (rfl)
theorem fb_M_tg {ms : mS} {Z : Nat} {j : Nat} {v : Int32} : sbM Z (mp_tg ms j v) = sbM Z ms := (rfl)
theorem fb_F_bn {ms : mS} {Z : Nat} {B : Int} {j : Nat} {v : Int32} : sbF Z B (mp_bn ms j v) = sbF Z B ms := (rfl)
theorem fb_F_bs {ms : mS} {Z : Nat} {B : Int} {j : Nat} {v : Int32} : sbF Z B (mp_bs ms j v) = sbF Z B ms := (rfl)
theorem fb_F_hc {ms : mS} {Z : Nat} {B : Int} {j : Nat} {v : Int32} : sbF Z B (mp_hc ms j v) = sbF Z B ms := (rfl)
theorem fb_F_tg {ms : mS} {Z : Nat} {B : Int} {j : Nat} {v : Int32} : sbF Z B (mp_tg ms j v) = sbF Z B ms := (rfl)
/-! the questions and the orders -/
def siS (Z k : Nat) (st : xS) (ms : mS) : Prop := siE Z 0 0 0 st ms ∧ siB Z (10000 * (k : Int)) ms
theorem siB_up {Z : Nat} {B C : Int} {ms : mS} (h : B ≤ C) (hB : siB Z B ms) : siB Z C ms := ⟨hB.1, hB.2.1, hB.2.2.1, hB.2.2.2.1, Int.le_trans hB.2.2.2.2 h⟩
theorem siS_up {Z k : Nat} {st : xS} {ms : mS} (h : siS Z k st ms) : siS Z (k + 1) st ms := ⟨h.1, siB_up (by omega) h.2⟩
theorem siS_mk {Z k : Nat} {st : xS} {ms : mS} (h1 : siE Z 0 0 0 st ms) (h2 : siB Z (10000 * (k : Int)) ms) : siS Z (k + 1) st ms := ⟨h1, siB_up (by omega) h2⟩
def siR (Z k : Nat) (x : Int32 × xS) (y : Int32 × mS) : Prop := x.1 = y.1 ∧ siS Z k x.2 y.2
theorem iz32 : (0 : Int32).toInt = 0 := by decide
theorem wi (a b d : Int32) : f_GL_within a b d = 0 ↔ ¬ (b.toInt ≤ a.toInt ∧ a.toInt ≤ d.toInt) := by
  unfold f_GL_within
  by_cases c1 : a < b
  · rw [if_pos c1]
    have := Int32.lt_iff_toInt_lt.mp c1
    exact ⟨fun _ q => by omega, fun _ => rfl⟩
  · rw [if_neg c1]
    have h1 : ¬ a.toInt < b.toInt := fun q => c1 (Int32.lt_iff_toInt_lt.mpr q)
    by_cases c2 : d < a
    · rw [if_pos c2]
      have := Int32.lt_iff_toInt_lt.mp c2
      exact ⟨fun _ q => by omega, fun _ => rfl⟩
    · rw [if_neg c2]
      have h2 : ¬ d.toInt < a.toInt := fun q => c2 (Int32.lt_iff_toInt_lt.mpr q)
      exact ⟨fun q => absurd q (by decide), fun q => absurd ⟨by omega, by omega⟩ q⟩
theorem ii (a : Int32) (b d : Int64) : f_Mo_isIn a.toInt64 b d = 0 ↔ ¬ (b.toInt ≤ a.toInt ∧ a.toInt ≤ d.toInt) := by
  have e : a.toInt64.toInt = a.toInt := Int32.toInt_toInt64 a
  unfold f_Mo_isIn
  by_cases c1 : lg_cmp a.toInt64 b < 0
  · rw [if_pos c1]
    have := Int64.lt_iff_toInt_lt.mp ((lg_cmp_lt _ _).mp c1)
    exact ⟨fun _ q => by omega, fun _ => rfl⟩
  · rw [if_neg c1]
    have h1 : ¬ a.toInt64.toInt < b.toInt := fun q => c1 ((lg_cmp_lt _ _).mpr (Int64.lt_iff_toInt_lt.mpr q))
    by_cases c2 : 0 < lg_cmp a.toInt64 d
    · rw [if_pos c2]
      have := Int64.lt_iff_toInt_lt.mp ((lg_cmp_gt _ _).mp c2)
      exact ⟨fun _ q => by omega, fun _ => rfl⟩
    · rw [if_neg c2]
      have h2 : ¬ d.toInt < a.toInt64.toInt := fun q => c2 ((lg_cmp_gt _ _).mpr (Int64.lt_iff_toInt_lt.mpr q))
      exact ⟨fun q => absurd q (by decide), fun q => absurd ⟨by omega, by omega⟩ q⟩
theorem bnd (a n : Int32) : (if a < 0 then (0 : Int32) else if n ≤ a then 0 else 1) = 0 ↔ ¬ (0 ≤ a.toInt ∧ a.toInt < n.toInt) := by
  by_cases c1 : a < 0
  · rw [if_pos c1]
    have := Int32.lt_iff_toInt_lt.mp c1
    rw [iz32] at this
    exact ⟨fun _ q => by omega, fun _ => rfl⟩
  · rw [if_neg c1]
    have h1 : ¬ a.toInt < (0 : Int32).toInt := fun q => c1 (Int32.lt_iff_toInt_lt.mpr q)
    rw [iz32] at h1
    by_cases c2 : n ≤ a
    · rw [if_pos c2]
      have := Int32.le_iff_toInt_le.mp c2
      exact ⟨fun _ q => by omega, fun _ => rfl⟩
    · rw [if_neg c2]
      have h2 : ¬ n.toInt ≤ a.toInt := fun q => c2 (Int32.le_iff_toInt_le.mpr q)
      exact ⟨fun q => absurd q (by decide), fun q => absurd ⟨by omega, by omega⟩ q⟩
theorem gk (a : Int32) : f_GL_isKind a = 0 ↔ ¬ (0 ≤ a.toInt ∧ a.toInt ≤ 3) := wi a 0 3
theorem gc (a : Int32) : f_GL_isCell a = 0 ↔ ¬ (0 ≤ a.toInt ∧ a.toInt ≤ 5) := wi a 0 5
theorem gct (a : Int32) : f_GL_isController a = 0 ↔ ¬ (0 ≤ a.toInt ∧ a.toInt ≤ 1) := wi a 0 1
theorem mk (a : Int32) : f_Mo_isKind a = 0 ↔ ¬ (0 ≤ a.toInt ∧ a.toInt ≤ 3) := by
  have h := bnd a 4
  rw [show (4 : Int32).toInt = 4 by decide] at h
  exact ⟨fun q r => h.mp q ⟨r.1, by omega⟩, fun q => h.mpr (fun r => q ⟨r.1, by omega⟩)⟩
theorem mc (a : Int32) : f_Mo_isCell a = 0 ↔ ¬ (0 ≤ a.toInt ∧ a.toInt ≤ 5) := by
  have h := bnd a 6
  rw [show (6 : Int32).toInt = 6 by decide] at h
  exact ⟨fun q r => h.mp q ⟨r.1, by omega⟩, fun q => h.mpr (fun r => q ⟨r.1, by omega⟩)⟩
theorem nIz {Z : Nat} (hZ : Z ≤ 6) : (nI Z).toInt = Z := by
  have h : ∀ z : Fin 7, (nI z.1).toInt = (z.1 : Int) := by decide
  exact h ⟨Z, by omega⟩
theorem mz {Z : Nat} (hZ : Z ≤ 6) (ms : mS) (a : Int32) : f_Mo_isZone Z ms a = 0 ↔ ¬ (0 ≤ a.toInt ∧ a.toInt < Z) := by
  have h := bnd a (nI Z)
  rw [nIz hZ] at h
  exact h
theorem gz {Z : Nat} (hZ : Z ≤ 6) (st : xS) (a : Int32) : f_Gr_hasZone Z st a = 0 ↔ ¬ (0 ≤ a.toInt ∧ a.toInt < Z) := by
  have h := bnd a (nI Z)
  rw [nIz hZ] at h
  exact h
theorem cln (a : Int32) : a.toNatClampNeg = a.toInt.toNat := rfl
/-- one test on both sides -/
theorem if2 {α β : Type} {p q : Prop} [Decidable p] [Decidable q] {R : α → β → Prop} {x y : α} {z w : β} (h : p ↔ q) (h1 : p → R x z) (h2 : ¬ p → R y w) : R (if p then x else y) (if q then z else w) := by
  by_cases c : p
  · rw [if_pos c, if_pos (h.mp c)]; exact h1 c
  · rw [if_neg c, if_neg (fun r => c (h.mpr r))]; exact h2 c
theorem siE_kind {Z j : Nat} {t v w : Int32} {d b : Int64} {st : xS} {ms : mS} (h : siE Z t d b st ms) : siE Z t d b (xp_ka (xp_kw st j v) j w) (mp_ash (mp_ws ms j v) j w) := by
  obtain ⟨hK, hG, hT, hH, hL, hC, hM, hA, hZ, hD, hN, hI⟩ := h
  refine ⟨?_, ?_, ?_, ?_, ?_, ?_, ?_, ?_, ?_, ?_, ?_, ?_⟩
  · simp only [siK, rx_gs_ka, rx_gs_kw, rx_bk_ka, rx_bk_kw, rx_kw_ka, rx_kw_kw, rx_ka_ka, rx_ka_kw, rx_ck_ka, rx_ck_kw, rx_fg_ka, rx_fg_kw, rx_fo_ka, rx_fo_kw, rm_al_ash, rm_al_ws, rm_ash_ash, rm_ash_ws, rm_cl_ash, rm_cl_ws, rm_cr_ash, rm_cr_ws, rm_pl_ash, rm_pl_ws, rm_ps_ash, rm_ps_ws, rm_ws_ash, rm_ws_ws]
    exact ⟨hK.1, hK.2.1, fun i hi => ⟨updI2 (hK.2.2.1 i hi).1 rfl, updI2 (hK.2.2.1 i hi).2 rfl⟩, hK.2.2.2⟩
  · simp only [fx_G_ka, fx_G_kw, fm_G_ash, fm_G_ws]
    exact hG
  · simp only [fx_T_ka, fx_T_kw, fm_T_ash, fm_T_ws]
    exact hT
  · simp only [fx_H_ka, fx_H_kw, fm_H_ash, fm_H_ws]
    exact hH
  · simp only [fx_L_ka, fx_L_kw, fm_L_ash, fm_L_ws]
    exact hL
  · simp only [fx_C_ka, fx_C_kw, fm_C_ash, fm_C_ws]
    exact hC
  · simp only [fx_M_ka, fx_M_kw, fm_M_ash, fm_M_ws]
    exact hM
  · simp only [fx_A_ka, fx_A_kw, fm_A_ash, fm_A_ws]
    exact hA
  · simp only [fx_Z_ka, fx_Z_kw, fm_Z_ash, fm_Z_ws]
    exact hZ
  · simp only [fx_D_ka, fx_D_kw, fm_D_ash, fm_D_ws]
    exact hD
  · simp only [fx_N_ka, fx_N_kw, fm_N_ash, fm_N_ws]
    exact hN
  · simp only [fx_I_ka, fx_I_kw, fm_I_ash, fm_I_ws]
    exact hI
theorem siB_kind {Z j : Nat} {B : Int} {v w : Int32} {ms : mS} (h0 : 0 ≤ v.toInt) (h1 : 0 ≤ w.toInt) (h2 : v.toInt + w.toInt ≤ 1000) (hB : siB Z B ms) : siB Z B (mp_ash (mp_ws ms j v) j w) := by
  obtain ⟨bK, bM, bF⟩ := hB
  refine ⟨?_, ?_, ?_⟩
  · simp only [sbK, rm_ash_ash, rm_ash_ws, rm_cl_ash, rm_cl_ws, rm_cr_ash, rm_cr_ws, rm_ws_ash, rm_ws_ws]
    refine ⟨bK.1, fun i hi => ?_, bK.2.2⟩
    unfold upd
    by_cases e : i = j
    · rw [if_pos e, if_pos e]; exact ⟨h0, h1, h2⟩
    · rw [if_neg e, if_neg e]; exact bK.2.1 i hi
  · simp only [fb_M_ash, fb_M_ws]
    exact bM
  · simp only [fb_F_ash, fb_F_ws]
    exact bF
theorem ok_kind {Z k : Nat} {st : xS} {ms : mS} (a b d : Int32) (h : siS Z k st ms) : siR Z (k + 1) (f_GL_kind Z st a b d) (f_Mo_kind Z ms a b d) := by
  have no : siR Z (k + 1) ((0 : Int32), st) ((0 : Int32), ms) := ⟨rfl, siS_up h⟩
  have e : (1000 : Int32).toInt = 1000 := by decide
  unfold f_GL_kind f_Mo_kind
  refine if2 (R := siR Z (k + 1)) ((gk a).trans (mk a).symm) (fun _ => no) (fun c1 => ?_)
  refine if2 (R := siR Z (k + 1)) ((wi b 0 1000).trans (ii b 0 1000).symm) (fun _ => no) (fun c2 => ?_)
  have c2 : 0 ≤ b.toInt ∧ b.toInt ≤ 1000 := Decidable.not_not.mp (fun q => c2 ((wi b 0 1000).mpr q))
  have e1 : (1000 - b).toInt = 1000 - b.toInt := by
    rw [Int32.toInt_sub, e]
    exact Int.bmod_eq_of_le (by omega) (by omega)
  by_cases c3 : 0 ≤ d.toInt ∧ d.toInt ≤ 1000 - b.toInt
  · have e2 : (b + d).toInt = b.toInt + d.toInt := by
      rw [Int32.toInt_add]
      exact Int.bmod_eq_of_le (by omega) (by omega)
    rw [if_neg (fun q => (wi d 0 (1000 - b)).mp q ⟨c3.1, by rw [e1]; exact c3.2⟩), if_neg (fun q => (ii d 0 1000).mp q ⟨c3.1, (by omega : d.toInt ≤ 1000)⟩), if_pos (Int32.le_iff_toInt_le.mpr (by rw [e2, e]; omega))]
    exact ⟨rfl, siS_mk (siE_kind h.1) (siB_kind c2.1 c3.1 (by omega) h.2)⟩
  · rw [if_pos ((wi d 0 (1000 - b)).mpr (fun q => c3 ⟨q.1, by rw [e1] at q; exact q.2⟩))]
    by_cases c4 : 0 ≤ d.toInt ∧ d.toInt ≤ 1000
    · have e2 : (b + d).toInt = b.toInt + d.toInt := by
        rw [Int32.toInt_add]
        exact Int.bmod_eq_of_le (by omega) (by omega)
      rw [if_neg (fun q => (ii d 0 1000).mp q c4), if_neg (fun q => by have := Int32.le_iff_toInt_le.mp q; rw [e2, e] at this; omega)]
      exact no
    · rw [if_pos ((ii d 0 1000).mpr c4)]
      exact no
theorem siE_crane {Z : Nat} {t v : Int32} {d b : Int64} {st : xS} {ms : mS} (h : siE Z t d b st ms) : siE Z t d b (xp_gs st v) (mp_cr ms v) := by
  obtain ⟨hK, hG, hT, hH, hL, hC, hM, hA, hZ, hD, hN, hI⟩ := h
  refine ⟨?_, ?_, ?_, ?_, ?_, ?_, ?_, ?_, ?_, ?_, ?_, ?_⟩
  · simp only [siK, rx_gs_gs, rx_bk_gs, rx_kw_gs, rx_ka_gs, rx_ck_gs, rx_fg_gs, rx_fo_gs, rm_al_cr, rm_ash_cr, rm_cl_cr, rm_cr_cr, rm_pl_cr, rm_ps_cr, rm_ws_cr]
    exact ⟨trivial, hK.2⟩
  · simp only [fx_G_gs, fm_G_cr]
    exact hG
  · simp only [fx_T_gs, fm_T_cr]
    exact hT
  · simp only [fx_H_gs, fm_H_cr]
    exact hH
  · simp only [fx_L_gs, fm_L_cr]
    exact hL
  · simp only [fx_C_gs, fm_C_cr]
    exact hC
  · simp only [fx_M_gs, fm_M_cr]
    exact hM
  · simp only [fx_A_gs, fm_A_cr]
    exact hA
  · simp only [fx_Z_gs, fm_Z_cr]
    exact hZ
  · simp only [fx_D_gs, fm_D_cr]
    exact hD
  · simp only [fx_N_gs, fm_N_cr]
    exact hN
  · simp only [fx_I_gs, fm_I_cr]
    exact hI
theorem siB_crane {Z : Nat} {B : Int} {v : Int32} {ms : mS} (h0 : 1 ≤ v.toInt ∧ v.toInt ≤ 10000) (hB : siB Z B ms) : siB Z B (mp_cr ms v) := by
  obtain ⟨bK, bM, bF⟩ := hB
  refine ⟨?_, ?_, ?_⟩
  · simp only [sbK, rm_ash_cr, rm_cl_cr, rm_cr_cr, rm_ws_cr]
    exact ⟨h0, bK.2⟩
  · simp only [fb_M_cr]
    exact bM
  · simp only [fb_F_cr]
    exact bF
theorem ok_crane {Z k : Nat} {st : xS} {ms : mS} (a : Int32) (h : siS Z k st ms) : siR Z (k + 1) (f_GL_crane Z st a) (f_Mo_crane Z ms a) := by
  unfold f_GL_crane f_Mo_crane
  refine if2 (R := siR Z (k + 1)) ((wi a 1 10000).trans (ii a 1 10000).symm) (fun _ => ⟨rfl, siS_up h⟩) (fun c => ?_)
  have c : 1 ≤ a.toInt ∧ a.toInt ≤ 10000 := Decidable.not_not.mp (fun q => c ((wi a 1 10000).mpr q))
  exact ⟨rfl, siS_mk (siE_crane h.1) (siB_crane c h.2)⟩
theorem ok_share {Z k : Nat} {st : xS} {ms : mS} (a b : Int32) (h : siS Z k st ms) : f_GL_share Z st a b = f_Mo_share Z ms a b := by
  unfold f_GL_share f_Mo_share
  refine if2 (R := fun x y => x = y) ((gc a).trans (mc a).symm) (fun _ => rfl) (fun c1 => ?_)
  refine if2 (R := fun x y => x = y) ((gk b).trans (mk b).symm) (fun _ => rfl) (fun c2 => ?_)
  have c1 : 0 ≤ a.toInt ∧ a.toInt ≤ 5 := Decidable.not_not.mp (fun q => c1 ((gc a).mpr q))
  have c2 : 0 ≤ b.toInt ∧ b.toInt ≤ 3 := Decidable.not_not.mp (fun q => c2 ((gk b).mpr q))
  exact h.1.1.2.2.2.1 _ _ (by rw [cln]; omega) (by rw [cln]; omega)
theorem siE_air {Z j : Nat} {t v w : Int32} {d b : Int64} {st : xS} {ms : mS} (h : siE Z t d b st ms) : siE Z t d b (xp_zd (xp_zv st j v) j w) (mp_dr (mp_ai ms j v) j w) := by
  obtain ⟨hK, hG, hT, hH, hL, hC, hM, hA, hZ, hD, hN, hI⟩ := h
  refine ⟨?_, ?_, ?_, ?_, ?_, ?_, ?_, ?_, ?_, ?_, ?_, ?_⟩
  · simp only [fx_K_zd, fx_K_zv, fm_K_ai, fm_K_dr]
    exact hK
  · simp only [fx_G_zd, fx_G_zv, fm_G_ai, fm_G_dr]
    exact hG
  · simp only [siT, rx_bo_zd, rx_bo_zv, rx_bt_zd, rx_bt_zv, rx_bl_zd, rx_bl_zv, rx_bh_zd, rx_bh_zv, rx_ct_zd, rx_ct_zv, rx_cg_zd, rx_cg_zv, rx_cp_zd, rx_cp_zv, rx_ci_zd, rx_ci_zv, rx_zd_zd, rx_zd_zv, rm_be_ai, rm_be_dr, rm_bh_ai, rm_bh_dr, rm_bn_ai, rm_bn_dr, rm_bo_ai, rm_bo_dr, rm_bs_ai, rm_bs_dr, rm_dr_ai, rm_dr_dr, rm_hb_ai, rm_hb_dr, rm_hc_ai, rm_hc_dr, rm_tg_ai, rm_tg_dr]
    exact ⟨hT.1, hT.2.1, hT.2.2.1, hT.2.2.2.1, hT.2.2.2.2.1, fun i hi => updI2 (hT.2.2.2.2.2 i hi) rfl⟩
  · simp only [fx_H_zd, fx_H_zv, fm_H_ai, fm_H_dr]
    exact hH
  · simp only [fx_L_zd, fx_L_zv, fm_L_ai, fm_L_dr]
    exact hL
  · simp only [fx_C_zd, fx_C_zv, fm_C_ai, fm_C_dr]
    exact hC
  · simp only [siM, rx_mv_zd, rx_mv_zv, rx_zv_zd, rx_zv_zv, rm_ai_ai, rm_ai_dr, rm_mv_ai, rm_mv_dr]
    exact ⟨hM.1, fun i hi => updI2 (hM.2 i hi) rfl⟩
  · simp only [fx_A_zd, fx_A_zv, fm_A_ai, fm_A_dr]
    exact hA
  · simp only [fx_Z_zd, fx_Z_zv, fm_Z_ai, fm_Z_dr]
    exact hZ
  · simp only [fx_D_zd, fx_D_zv, fm_D_ai, fm_D_dr]
    exact hD
  · simp only [fx_N_zd, fx_N_zv, fm_N_ai, fm_N_dr]
    exact hN
  · simp only [fx_I_zd, fx_I_zv, fm_I_ai, fm_I_dr]
    exact hI
theorem siB_air {Z j : Nat} {B : Int} {v w : Int32} {ms : mS} (h0 : 0 ≤ v.toInt ∧ v.toInt ≤ 100000) (hB : siB Z B ms) : siB Z B (mp_dr (mp_ai ms j v) j w) := by
  obtain ⟨bK, bM, bF⟩ := hB
  refine ⟨?_, ?_, ?_⟩
  · simp only [fb_K_ai, fb_K_dr]
    exact bK
  · simp only [sbM, rm_ai_ai, rm_ai_dr, rm_mv_ai, rm_mv_dr]
    refine ⟨bM.1, fun i hi => ?_⟩
    unfold upd
    by_cases e : i = j
    · rw [if_pos e]; exact h0
    · rw [if_neg e]; exact bM.2 i hi
  · simp only [fb_F_ai, fb_F_dr]
    exact bF
theorem siE_set {Z : Nat} {t v w : Int32} {d b : Int64} {st : xS} {ms : mS} (h : siE Z t d b st ms) : siE Z t d b (xp_bo (xp_mv st v) w) (mp_bo (mp_mv ms v) w) := by
  obtain ⟨hK, hG, hT, hH, hL, hC, hM, hA, hZ, hD, hN, hI⟩ := h
  refine ⟨?_, ?_, ?_, ?_, ?_, ?_, ?_, ?_, ?_, ?_, ?_, ?_⟩
  · simp only [fx_K_bo, fx_K_mv, fm_K_bo, fm_K_mv]
    exact hK
  · simp only [fx_G_bo, fx_G_mv, fm_G_bo, fm_G_mv]
    exact hG
  · simp only [siT, rx_bo_bo, rx_bo_mv, rx_bt_bo, rx_bt_mv, rx_bl_bo, rx_bl_mv, rx_bh_bo, rx_bh_mv, rx_ct_bo, rx_ct_mv, rx_cg_bo, rx_cg_mv, rx_cp_bo, rx_cp_mv, rx_ci_bo, rx_ci_mv, rx_zd_bo, rx_zd_mv, rm_be_bo, rm_be_mv, rm_bh_bo, rm_bh_mv, rm_bn_bo, rm_bn_mv, rm_bo_bo, rm_bo_mv, rm_bs_bo, rm_bs_mv, rm_dr_bo, rm_dr_mv, rm_hb_bo, rm_hb_mv, rm_hc_bo, rm_hc_mv, rm_tg_bo, rm_tg_mv]
    exact ⟨trivial, hT.2⟩
  · simp only [fx_H_bo, fx_H_mv, fm_H_bo, fm_H_mv]
    exact hH
  · simp only [fx_L_bo, fx_L_mv, fm_L_bo, fm_L_mv]
    exact hL
  · simp only [fx_C_bo, fx_C_mv, fm_C_bo, fm_C_mv]
    exact hC
  · simp only [siM, rx_mv_bo, rx_mv_mv, rx_zv_bo, rx_zv_mv, rm_ai_bo, rm_ai_mv, rm_mv_bo, rm_mv_mv]
    exact ⟨trivial, hM.2⟩
  · simp only [fx_A_bo, fx_A_mv, fm_A_bo, fm_A_mv]
    exact hA
  · simp only [fx_Z_bo, fx_Z_mv, fm_Z_bo, fm_Z_mv]
    exact hZ
  · simp only [fx_D_bo, fx_D_mv, fm_D_bo, fm_D_mv]
    exact hD
  · simp only [fx_N_bo, fx_N_mv, fm_N_bo, fm_N_mv]
    exact hN
  · simp only [fx_I_bo, fx_I_mv, fm_I_bo, fm_I_mv]
    exact hI
theorem siB_set {Z : Nat} {B : Int} {v w : Int32} {ms : mS} (h0 : 0 ≤ v.toInt ∧ v.toInt ≤ 1000) (hB : siB Z B ms) : siB Z B (mp_bo (mp_mv ms v) w) := by
  obtain ⟨bK, bM, bF⟩ := hB
  refine ⟨?_, ?_, ?_⟩
  · simp only [fb_K_bo, fb_K_mv]
    exact bK
  · simp only [sbM, rm_ai_bo, rm_ai_mv, rm_mv_bo, rm_mv_mv]
    exact ⟨h0, bM.2⟩
  · simp only [fb_F_bo, fb_F_mv]
    exact bF
theorem siE_bur {Z : Nat} {t v w : Int32} {d b : Int64} {st : xS} {ms : mS} (h : siE Z t d b st ms) : siE Z t d b (xp_bh (xp_bl (xp_bt st true) v) w) (mp_bh (mp_be (mp_hb ms true) v) w) := by
  obtain ⟨hK, hG, hT, hH, hL, hC, hM, hA, hZ, hD, hN, hI⟩ := h
  refine ⟨?_, ?_, ?_, ?_, ?_, ?_, ?_, ?_, ?_, ?_, ?_, ?_⟩
  · simp only [fx_K_bh, fx_K_bl, fx_K_bt, fm_K_be, fm_K_bh, fm_K_hb]
    exact hK
  · simp only [fx_G_bh, fx_G_bl, fx_G_bt, fm_G_be, fm_G_bh, fm_G_hb]
    exact hG
  · simp only [siT, rx_bo_bh, rx_bo_bl, rx_bo_bt, rx_bt_bh, rx_bt_bl, rx_bt_bt, rx_bl_bh, rx_bl_bl, rx_bl_bt, rx_bh_bh, rx_bh_bl, rx_bh_bt, rx_ct_bh, rx_ct_bl, rx_ct_bt, rx_cg_bh, rx_cg_bl, rx_cg_bt, rx_cp_bh, rx_cp_bl, rx_cp_bt, rx_ci_bh, rx_ci_bl, rx_ci_bt, rx_zd_bh, rx_zd_bl, rx_zd_bt, rm_be_be, rm_be_bh, rm_be_hb, rm_bh_be, rm_bh_bh, rm_bh_hb, rm_bn_be, rm_bn_bh, rm_bn_hb, rm_bo_be, rm_bo_bh, rm_bo_hb, rm_bs_be, rm_bs_bh, rm_bs_hb, rm_dr_be, rm_dr_bh, rm_dr_hb, rm_hb_be, rm_hb_bh, rm_hb_hb, rm_hc_be, rm_hc_bh, rm_hc_hb, rm_tg_be, rm_tg_bh, rm_tg_hb]
    exact ⟨hT.1, trivial, trivial, trivial, hT.2.2.2.2⟩
  · simp only [fx_H_bh, fx_H_bl, fx_H_bt, fm_H_be, fm_H_bh, fm_H_hb]
    exact hH
  · simp only [fx_L_bh, fx_L_bl, fx_L_bt, fm_L_be, fm_L_bh, fm_L_hb]
    exact hL
  · simp only [fx_C_bh, fx_C_bl, fx_C_bt, fm_C_be, fm_C_bh, fm_C_hb]
    exact hC
  · simp only [fx_M_bh, fx_M_bl, fx_M_bt, fm_M_be, fm_M_bh, fm_M_hb]
    exact hM
  · simp only [fx_A_bh, fx_A_bl, fx_A_bt, fm_A_be, fm_A_bh, fm_A_hb]
    exact hA
  · simp only [fx_Z_bh, fx_Z_bl, fx_Z_bt, fm_Z_be, fm_Z_bh, fm_Z_hb]
    exact hZ
  · simp only [fx_D_bh, fx_D_bl, fx_D_bt, fm_D_be, fm_D_bh, fm_D_hb]
    exact hD
  · simp only [fx_N_bh, fx_N_bl, fx_N_bt, fm_N_be, fm_N_bh, fm_N_hb]
    exact hN
  · simp only [fx_I_bh, fx_I_bl, fx_I_bt, fm_I_be, fm_I_bh, fm_I_hb]
    exact hI
theorem siB_bur {Z : Nat} {B : Int} {v w : Int32} {ms : mS} (hB : siB Z B ms) : siB Z B (mp_bh (mp_be (mp_hb ms true) v) w) := by
  obtain ⟨bK, bM, bF⟩ := hB
  refine ⟨?_, ?_, ?_⟩
  · simp only [fb_K_be, fb_K_bh, fb_K_hb]
    exact bK
  · simp only [fb_M_be, fb_M_bh, fb_M_hb]
    exact bM
  · simp only [fb_F_be, fb_F_bh, fb_F_hb]
    exact bF
theorem siE_con {Z j : Nat} {t a1 a2 a3 : Int32} {d b : Int64} {st : xS} {ms : mS} (h : siE Z t d b st ms) : siE Z t d b (xp_co (xp_cs (xp_ci (xp_cp (xp_cg (xp_ct st j true) j a1) j a2) j a3) j 0) j 0) (mp_ou (mp_su (mp_bs (mp_bn (mp_tg (mp_hc ms j 1) j a1) j a2) j a3) j 0) j 0) := by
  obtain ⟨hK, hG, hT, hH, hL, hC, hM, hA, hZ, hD, hN, hI⟩ := h
  refine ⟨?_, ?_, ?_, ?_, ?_, ?_, ?_, ?_, ?_, ?_, ?_, ?_⟩
  · simp only [fx_K_co, fx_K_cs, fx_K_ci, fx_K_cp, fx_K_cg, fx_K_ct, fm_K_bn, fm_K_bs, fm_K_hc, fm_K_ou, fm_K_su, fm_K_tg]
    exact hK
  · simp only [fx_G_co, fx_G_cs, fx_G_ci, fx_G_cp, fx_G_cg, fx_G_ct, fm_G_bn, fm_G_bs, fm_G_hc, fm_G_ou, fm_G_su, fm_G_tg]
    exact hG
  · simp only [siT, rx_bo_co, rx_bo_cs, rx_bo_ci, rx_bo_cp, rx_bo_cg, rx_bo_ct, rx_bt_co, rx_bt_cs, rx_bt_ci, rx_bt_cp, rx_bt_cg, rx_bt_ct, rx_bl_co, rx_bl_cs, rx_bl_ci, rx_bl_cp, rx_bl_cg, rx_bl_ct, rx_bh_co, rx_bh_cs, rx_bh_ci, rx_bh_cp, rx_bh_cg, rx_bh_ct, rx_ct_co, rx_ct_cs, rx_ct_ci, rx_ct_cp, rx_ct_cg, rx_ct_ct, rx_cg_co, rx_cg_cs, rx_cg_ci, rx_cg_cp, rx_cg_cg, rx_cg_ct, rx_cp_co, rx_cp_cs, rx_cp_ci, rx_cp_cp, rx_cp_cg, rx_cp_ct, rx_ci_co, rx_ci_cs, rx_ci_ci, rx_ci_cp, rx_ci_cg, rx_ci_ct, rx_zd_co, rx_zd_cs, rx_zd_ci, rx_zd_cp, rx_zd_cg, rx_zd_ct, rm_be_bn, rm_be_bs, rm_be_hc, rm_be_ou, rm_be_su, rm_be_tg, rm_bh_bn, rm_bh_bs, rm_bh_hc, rm_bh_ou, rm_bh_su, rm_bh_tg, rm_bn_bn, rm_bn_bs, rm_bn_hc, rm_bn_ou, rm_bn_su, rm_bn_tg, rm_bo_bn, rm_bo_bs, rm_bo_hc, rm_bo_ou, rm_bo_su, rm_bo_tg, rm_bs_bn, rm_bs_bs, rm_bs_hc, rm_bs_ou, rm_bs_su, rm_bs_tg, rm_dr_bn, rm_dr_bs, rm_dr_hc, rm_dr_ou, rm_dr_su, rm_dr_tg, rm_hb_bn, rm_hb_bs, rm_hb_hc, rm_hb_ou, rm_hb_su, rm_hb_tg, rm_hc_bn, rm_hc_bs, rm_hc_hc, rm_hc_ou, rm_hc_su, rm_hc_tg, rm_tg_bn, rm_tg_bs, rm_tg_hc, rm_tg_ou, rm_tg_su, rm_tg_tg]
    refine ⟨hT.1, hT.2.1, hT.2.2.1, hT.2.2.2.1, fun i hi => ?_, hT.2.2.2.2.2⟩
    obtain ⟨g1, g2, g3, g4⟩ := hT.2.2.2.2.1 i hi
    refine ⟨?_, updI2 g2 rfl, updI2 g3 rfl, updI2 g4 rfl⟩
    unfold va_up upd
    by_cases e : i = j
    · rw [if_pos e, if_pos e]; rfl
    · rw [if_neg e, if_neg e]; exact g1
  · simp only [fx_H_co, fx_H_cs, fx_H_ci, fx_H_cp, fx_H_cg, fx_H_ct, fm_H_bn, fm_H_bs, fm_H_hc, fm_H_ou, fm_H_su, fm_H_tg]
    exact hH
  · simp only [fx_L_co, fx_L_cs, fx_L_ci, fx_L_cp, fx_L_cg, fx_L_ct, fm_L_bn, fm_L_bs, fm_L_hc, fm_L_ou, fm_L_su, fm_L_tg]
    exact hL
  · simp only [siC, rx_co_co, rx_co_cs, rx_co_ci, rx_co_cp, rx_co_cg, rx_co_ct, rx_cs_co, rx_cs_cs, rx_cs_ci, rx_cs_cp, rx_cs_cg, rx_cs_ct, rm_ou_bn, rm_ou_bs, rm_ou_hc, rm_ou_ou, rm_ou_su, rm_ou_tg, rm_su_bn, rm_su_bs, rm_su_hc, rm_su_ou, rm_su_su, rm_su_tg]
    exact fun i hi => ⟨updI2 (hC i hi).1 rfl, updL2 (hC i hi).2 rfl⟩
  · simp only [fx_M_co, fx_M_cs, fx_M_ci, fx_M_cp, fx_M_cg, fx_M_ct, fm_M_bn, fm_M_bs, fm_M_hc, fm_M_ou, fm_M_su, fm_M_tg]
    exact hM
  · simp only [fx_A_co, fx_A_cs, fx_A_ci, fx_A_cp, fx_A_cg, fx_A_ct, fm_A_bn, fm_A_bs, fm_A_hc, fm_A_ou, fm_A_su, fm_A_tg]
    exact hA
  · simp only [fx_Z_co, fx_Z_cs, fx_Z_ci, fx_Z_cp, fx_Z_cg, fx_Z_ct, fm_Z_bn, fm_Z_bs, fm_Z_hc, fm_Z_ou, fm_Z_su, fm_Z_tg]
    exact hZ
  · simp only [fx_D_co, fx_D_cs, fx_D_ci, fx_D_cp, fx_D_cg, fx_D_ct, fm_D_bn, fm_D_bs, fm_D_hc, fm_D_ou, fm_D_su, fm_D_tg]
    exact hD
  · simp only [fx_N_co, fx_N_cs, fx_N_ci, fx_N_cp, fx_N_cg, fx_N_ct, fm_N_bn, fm_N_bs, fm_N_hc, fm_N_ou, fm_N_su, fm_N_tg]
    exact hN
  · simp only [fx_I_co, fx_I_cs, fx_I_ci, fx_I_cp, fx_I_cg, fx_I_ct, fm_I_bn, fm_I_bs, fm_I_hc, fm_I_ou, fm_I_su, fm_I_tg]
    exact hI
theorem siB_con {Z j : Nat} {B : Int} {a1 a2 a3 : Int32} {ms : mS} (hB : siB Z B ms) : siB Z B (mp_ou (mp_su (mp_bs (mp_bn (mp_tg (mp_hc ms j 1) j a1) j a2) j a3) j 0) j 0) := by
  obtain ⟨bK, bM, bF⟩ := hB
  refine ⟨?_, ?_, ?_⟩
  · simp only [fb_K_bn, fb_K_bs, fb_K_hc, fb_K_ou, fb_K_su, fb_K_tg]
    exact bK
  · simp only [fb_M_bn, fb_M_bs, fb_M_hc, fb_M_ou, fb_M_su, fb_M_tg]
    exact bM
  · simp only [fb_F_bn, fb_F_bs, fb_F_hc, fb_F_ou, fb_F_su, fb_F_tg]
    exact bF
theorem ok_air {Z k : Nat} {st : xS} {ms : mS} (hZ : Z ≤ 6) (a b d : Int32) (h : siS Z k st ms) : siR Z (k + 1) (f_GL_air Z st a b d) (f_Mo_air Z ms a b d) := by
  have no : siR Z (k + 1) ((0 : Int32), st) ((0 : Int32), ms) := ⟨rfl, siS_up h⟩
  unfold f_GL_air f_Mo_air
  refine if2 (R := siR Z (k + 1)) ((gz hZ st a).trans (mz hZ ms a).symm) (fun _ => no) (fun _ => ?_)
  refine if2 (R := siR Z (k + 1)) ((wi b 0 100000).trans (ii b 0 100000).symm) (fun _ => no) (fun c => ?_)
  refine if2 (R := siR Z (k + 1)) ((wi d 0 1000).trans (ii d 0 1000).symm) (fun _ => no) (fun _ => ?_)
  have c : 0 ≤ b.toInt ∧ b.toInt ≤ 100000 := Decidable.not_not.mp (fun q => c ((wi b 0 100000).mpr q))
  exact ⟨rfl, siS_mk (siE_air h.1) (siB_air c h.2)⟩
theorem ok_set {Z k : Nat} {st : xS} {ms : mS} (a b : Int32) (h : siS Z k st ms) : siR Z (k + 1) (f_GL_set Z st a b) (f_Mo_set Z ms a b) := by
  have no : siR Z (k + 1) ((0 : Int32), st) ((0 : Int32), ms) := ⟨rfl, siS_up h⟩
  unfold f_GL_set f_Mo_set
  refine if2 (R := siR Z (k + 1)) ((wi a 0 1000).trans (ii a 0 1000).symm) (fun _ => no) (fun c => ?_)
  refine if2 (R := siR Z (k + 1)) ((wi b 0 1000).trans (ii b 0 1000).symm) (fun _ => no) (fun _ => ?_)
  have c : 0 ≤ a.toInt ∧ a.toInt ≤ 1000 := Decidable.not_not.mp (fun q => c ((wi a 0 1000).mpr q))
  exact ⟨rfl, siS_mk (siE_set h.1) (siB_set c h.2)⟩
theorem ok_control {Z k : Nat} {st : xS} {ms : mS} (a b d f4 : Int32) (h : siS Z k st ms) : siR Z (k + 1) (f_GL_control Z st a b d f4) (f_Mo_control Z ms a b d f4) := by
  have no : siR Z (k + 1) ((0 : Int32), st) ((0 : Int32), ms) := ⟨rfl, siS_up h⟩
  unfold f_GL_control f_Mo_control
  refine if2 (R := siR Z (k + 1)) ((gct a).trans (ii a 0 1).symm) (fun _ => no) (fun _ => ?_)
  refine if2 (R := siR Z (k + 1)) ((wi b 0 1000000000).trans (ii b 0 1000000000).symm) (fun _ => no) (fun _ => ?_)
  refine if2 (R := siR Z (k + 1)) ((wi d (-1000) 1000).trans (ii d (-1000) 1000).symm) (fun _ => no) (fun _ => ?_)
  refine if2 (R := siR Z (k + 1)) ((wi f4 (-1000) 1000).trans (ii f4 (-1000) 1000).symm) (fun _ => no) (fun _ => ?_)
  exact ⟨rfl, siS_mk (siE_con h.1) (siB_con h.2)⟩
theorem ok_burner {Z k : Nat} {st : xS} {ms : mS} (a b : Int32) (h : siS Z k st ms) : siR Z (k + 1) (f_GL_burner Z st a b) (f_Mo_burner Z ms a b) := by
  have no : siR Z (k + 1) ((0 : Int32), st) ((0 : Int32), ms) := ⟨rfl, siS_up h⟩
  unfold f_GL_burner f_Mo_burner
  refine if2 (R := siR Z (k + 1)) ((wi a 0 1000000000).trans (ii a 0 1000000000).symm) (fun _ => no) (fun _ => ?_)
  refine if2 (R := siR Z (k + 1)) ((wi b 0 1000000).trans (ii b 0 1000000).symm) (fun _ => no) (fun _ => ?_)
  exact ⟨rfl, siS_mk (siE_bur h.1) (siB_bur h.2)⟩
