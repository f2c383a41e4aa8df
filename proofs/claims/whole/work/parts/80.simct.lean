theorem rx_cp_cs {st : xS} {j : Nat} {v : Int64} : xs_cp (xp_cs st j v) = xs_cp st := (rfl)
theorem rx_ci_cs {st : xS} {j : Nat} {v : Int64} : xs_ci (xp_cs st j v) = xs_ci st := (rfl)
theorem rx_cs_cs {st : xS} {j : Nat} {v : Int64} : xs_cs (xp_cs st j v) = vp_updL (xs_cs st) j v := (rfl)
theorem rm_bn_ou {st : mS} {j : Nat} {v : Int32} : ms_bn (mp_ou st j v) = ms_bn st := (rfl)
theorem rm_bn_su {st : mS} {j : Nat} {v : Int64} : ms_bn (mp_su st j v) = ms_bn st := (rfl)
theorem rm_bs_ou {st : mS} {j : Nat} {v : Int32} : ms_bs (mp_ou st j v) = ms_bs st := (rfl)
theorem rm_bs_su {st : mS} {j : Nat} {v : Int64} : ms_bs (mp_su st j v) = ms_bs st := (rfl)
theorem rm_ou_ou {st : mS} {j : Nat} {v : Int32} : ms_ou (mp_ou st j v) = upd (ms_ou st) j v := (rfl)
theorem rm_ou_su {st : mS} {j : Nat} {v : Int64} : ms_ou (mp_su st j v) = ms_ou st := (rfl)
theorem rm_su_ou {st : mS} {j : Nat} {v : Int32} : ms_su (mp_ou st j v) = ms_su st := (rfl)
theorem rm_su_su {st : mS} {j : Nat} {v : Int64} : ms_su (mp_su st j v) = vp_updL (ms_su st) j v := (rfl)
theorem fx_K_co {st : xS} {ms : mS} {j : Nat} {v : Int32} : siK (xp_co st j v) ms = siK st ms := (rfl)
theorem fx_K_cs {st : xS} {ms : mS} {j : Nat} {v : Int64} : siK (xp_cs st j v) ms = siK st ms := (rfl)
theorem fm_K_ou {st : xS} {ms : mS} {j : Nat} {v : Int32} : siK st (mp_ou ms j v) = siK st ms := (rfl)
theorem fm_K_su {st : xS} {ms : mS} {j : Nat} {v : Int64} : siK st (mp_su ms j v) = siK st ms := (rfl)
theorem fx_G_co {st : xS} {ms : mS} {j : Nat} {v : Int32} : siG (xp_co st j v) ms = siG st ms := (rfl)
theorem fx_G_cs {st : xS} {ms : mS} {j : Nat} {v : Int64} : siG (xp_cs st j v) ms = siG st ms := (rfl)
theorem fm_G_ou {st : xS} {ms : mS} {j : Nat} {v : Int32} : siG st (mp_ou ms j v) = siG st ms := (rfl)
theorem fm_G_su {st : xS} {ms : mS} {j : Nat} {v : Int64} : siG st (mp_su ms j v) = siG st ms := (rfl)
theorem fx_T_co {st : xS} {ms : mS} {Z : Nat} {j : Nat} {v : Int32} : siT Z (xp_co st j v) ms = siT Z st ms := (rfl)
theorem fx_T_cs {st : xS} {ms : mS} {Z : Nat} {j : Nat} {v : Int64} : siT Z (xp_cs st j v) ms = siT Z st ms := (rfl)
theorem fm_T_ou {st : xS} {ms : mS} {Z : Nat} {j : Nat} {v : Int32} : siT Z st (mp_ou ms j v) = siT Z st ms := (rfl)
theorem fm_T_su {st : xS} {ms : mS} {Z : Nat} {j : Nat} {v : Int64} : siT Z st (mp_su ms j v) = siT Z st ms := (rfl)
theorem fx_H_co {st : xS} {ms : mS} {j : Nat} {v : Int32} : siH (xp_co st j v) ms = siH st ms := (rfl)
theorem fx_H_cs {st : xS} {ms : mS} {j : Nat} {v : Int64} : siH (xp_cs st j v) ms = siH st ms := (rfl)
theorem fm_H_ou {st : xS} {ms : mS} {j : Nat} {v : Int32} : siH st (mp_ou ms j v) = siH st ms := (rfl)
theorem fm_H_su {st : xS} {ms : mS} {j : Nat} {v : Int64} : siH st (mp_su ms j v) = siH st ms := (rfl)
theorem fx_L_co {st : xS} {ms : mS} {j : Nat} {v : Int32} : siL (xp_co st j v) ms = siL st ms := (rfl)
theorem fx_L_cs {st : xS} {ms : mS} {j : Nat} {v : Int64} : siL (xp_cs st j v) ms = siL st ms := (rfl)
theorem fm_L_ou {st : xS} {ms : mS} {j : Nat} {v : Int32} : siL st (mp_ou ms j v) = siL st ms := (rfl)
theorem fm_L_su {st : xS} {ms : mS} {j : Nat} {v : Int64} : siL st (mp_su ms j v) = siL st ms := (rfl)
theorem rx_co_co {st : xS} {j : Nat} {v : Int32} : xs_co (xp_co st j v) = upd (xs_co st) j v := (rfl)
theorem rx_co_cs {st : xS} {j : Nat} {v : Int64} : xs_co (xp_cs st j v) = xs_co st := (rfl)
theorem rx_cs_co {st : xS} {j : Nat} {v : Int32} : xs_cs (xp_co st j v) = xs_cs st := (rfl)
theorem fx_M_co {st : xS} {ms : mS} {Z : Nat} {j : Nat} {v : Int32} : siM Z (xp_co st j v) ms = siM Z st ms := (rfl)
theorem fx_M_cs {st : xS} {ms : mS} {Z : Nat} {j : Nat} {v : Int64} : siM Z (xp_cs st j v) ms = siM Z st ms := (rfl)
theorem fm_M_ou {st : xS} {ms : mS} {Z : Nat} {j : Nat} {v : Int32} : siM Z st (mp_ou ms j v) = siM Z st ms := (rfl)
theorem fm_M_su {st : xS} {ms : mS} {Z : Nat} {j : Nat} {v : Int64} : siM Z st (mp_su ms j v) = siM Z st ms := (rfl)
theorem fx_A_co {st : xS} {ms : mS} {j : Nat} {v : Int32} : siA (xp_co st j v) ms = siA st ms := (rfl)
theorem fx_A_cs {st : xS} {ms : mS} {j : Nat} {v : Int64} : siA (xp_cs st j v) ms = siA st ms := (rfl)
theorem fm_A_ou {st : xS} {ms : mS} {j : Nat} {v : Int32} : siA st (mp_ou ms j v) = siA st ms := (rfl)
theorem fm_A_su {st : xS} {ms : mS} {j : Nat} {v : Int64} : siA st (mp_su ms j v) = siA st ms := (rfl)
theorem fx_Z_co {st : xS} {ms : mS} {Z : Nat} {j : Nat} {v : Int32} : siZ Z (xp_co st j v) ms = siZ Z st ms := (rfl)
theorem fx_Z_cs {st : xS} {ms : mS} {Z : Nat} {j : Nat} {v : Int64} : siZ Z (xp_cs st j v) ms = siZ Z st ms := (rfl)
theorem fm_Z_ou {st : xS} {ms : mS} {Z : Nat} {j : Nat} {v : Int32} : siZ Z st (mp_ou ms j v) = siZ Z st ms := (rfl)
theorem fm_Z_su {st : xS} {ms : mS} {Z : Nat} {j : Nat} {v : Int64} : siZ Z st (mp_su ms j v) = siZ Z st ms := (rfl)
theorem fx_D_co {st : xS} {ms : mS} {d : Int64} {j : Nat} {v : Int32} : siD d (xp_co st j v) ms = siD d st ms := (rfl)
theorem fx_D_cs {st : xS} {ms : mS} {d : Int64} {j : Nat} {v : Int64} : siD d (xp_cs st j v) ms = siD d st ms := (rfl)
theorem fm_D_ou {st : xS} {ms : mS} {d : Int64} {j : Nat} {v : Int32} : siD d st (mp_ou ms j v) = siD d st ms := (rfl)
theorem fm_D_su {st : xS} {ms : mS} {d : Int64} {j : Nat} {v : Int64} : siD d st (mp_su ms j v) = siD d st ms := (rfl)
theorem fx_N_co {st : xS} {ms : mS} {d : Int64} {j : Nat} {v : Int32} : siN d (xp_co st j v) ms = siN d st ms := (rfl)
theorem fx_N_cs {st : xS} {ms : mS} {d : Int64} {j : Nat} {v : Int64} : siN d (xp_cs st j v) ms = siN d st ms := (rfl)
theorem fm_N_ou {st : xS} {ms : mS} {d : Int64} {j : Nat} {v : Int32} : siN d st (mp_ou ms j v) = siN d st ms := (rfl)
theorem fm_N_su {st : xS} {ms : mS} {d : Int64} {j : Nat} {v : Int64} : siN d st (mp_su ms j v) = siN d st ms := (rfl)
theorem fx_I_co {st : xS} {ms : mS} {t : Int32} {j : Nat} {v : Int32} : siI t (xp_co st j v) ms = siI t st ms := (rfl)
theorem fx_I_cs {st : xS} {ms : mS} {t : Int32} {j : Nat} {v : Int64} : siI t (xp_cs st j v) ms = siI t st ms := (rfl)
theorem fm_I_ou {st : xS} {ms : mS} {t : Int32} {j : Nat} {v : Int32} : siI t st (mp_ou ms j v) = siI t st ms := (rfl)
theorem fm_I_su {st : xS} {ms : mS} {t : Int32} {j : Nat} {v : Int64} : siI t st (mp_su ms j v) = siI t st ms := (rfl)
theorem fb_K_ou {ms : mS} {Z : Nat} {j : Nat} {v : Int32} : sbK Z (mp_ou ms j v) = sbK Z ms := (rfl)
theorem fb_K_su {ms : mS} {Z : Nat} {j : Nat} {v : Int64} : sbK Z (mp_su ms j v) = sbK Z ms := (rfl)
theorem fb_M_ou {ms : mS} {Z : Nat} {j : Nat} {v : Int32} : sbM Z (mp_ou ms j v) = sbM Z ms := (rfl)
theorem fb_M_su {ms : mS} {Z : Nat} {j : Nat} {v : Int64} : sbM Z (mp_su ms j v) = sbM Z ms := (rfl)
theorem fb_F_ou {ms : mS} {Z : Nat} {B : Int} {j : Nat} {v : Int32} : sbF Z B (mp_ou ms j v) = sbF Z B ms := (rfl)
theorem fb_F_su {ms : mS} {Z : Nat} {B : Int} {j : Nat} {v : Int64} : sbF Z B (mp_su ms j v) = sbF Z B ms := (rfl)
theorem fx_K_zv {st : xS} {ms : mS} {j : Nat} {v : Int32} : siK (xp_zv st j v) ms = siK st ms := (rfl)
theorem fm_K_ai {st : xS} {ms : mS} {j : Nat} {v : Int32} : siK st (mp_ai ms j v) = siK st ms := (rfl)
theorem fx_G_zv {st : xS} {ms : mS} {j : Nat} {v : Int32} : siG (xp_zv st j v) ms = siG st ms := (rfl)
theorem fm_G_ai {st : xS} {ms : mS} {j : Nat} {v : Int32} : siG st (mp_ai ms j v) = siG st ms := (rfl)
theorem fx_T_zv {st : xS} {ms : mS} {Z : Nat} {j : Nat} {v : Int32} : siT Z (xp_zv st j v) ms = siT Z st ms := (rfl)
theorem fm_T_ai {st : xS} {ms : mS} {Z : Nat} {j : Nat} {v : Int32} : siT Z st (mp_ai ms j v) = siT Z st ms := (rfl)
theorem fx_H_zv {st : xS} {ms : mS} {j : Nat} {v : Int32} : siH (xp_zv st j v) ms = siH st ms := (rfl)
theorem fm_H_ai {st : xS} {ms : mS} {j : Nat} {v : Int32} : siH st (mp_ai ms j v) = siH st ms := (rfl)
theorem fx_L_zv {st : xS} {ms : mS} {j : Nat} {v : Int32} : siL (xp_zv st j v) ms = siL st ms := (rfl)
theorem fm_L_ai {st : xS} {ms : mS} {j : Nat} {v : Int32} : siL st (mp_ai ms j v) = siL st ms := (rfl)
theorem fx_C_zv {st : xS} {ms : mS} {j : Nat} {v : Int32} : siC (xp_zv st j v) ms = siC st ms := (rfl)
theorem fm_C_ai {st : xS} {ms : mS} {j : Nat} {v : Int32} : siC st (mp_ai ms j v) = siC st ms := (rfl)
theorem rx_mv_zv {st : xS} {j : Nat} {v : Int32} : xs_mv (xp_zv st j v) = xs_mv st := (rfl)
theorem rx_zv_zv {st : xS} {j : Nat} {v : Int32} : xs_zv (xp_zv st j v) = upd (xs_zv st) j v := (rfl)
theorem rm_ai_ai {st : mS} {j : Nat} {v : Int32} : ms_ai (mp_ai st j v) = upd (ms_ai st) j v := (rfl)
theorem rm_mv_ai {st : mS} {j : Nat} {v : Int32} : ms_mv (mp_ai st j v) = ms_mv st := (rfl)
theorem fx_A_zv {st : xS} {ms : mS} {j : Nat} {v : Int32} : siA (xp_zv st j v) ms = siA st ms := (rfl)
theorem fm_A_ai {st : xS} {ms : mS} {j : Nat} {v : Int32} : siA st (mp_ai ms j v) = siA st ms := (rfl)
theorem fx_Z_zv {st : xS} {ms : mS} {Z : Nat} {j : Nat} {v : Int32} : siZ Z (xp_zv st j v) ms = siZ Z st ms := (rfl)
theorem fm_Z_ai {st : xS} {ms : mS} {Z : Nat} {j : Nat} {v : Int32} : siZ Z st (mp_ai ms j v) = siZ Z st ms := (rfl)
theorem fx_D_zv {st : xS} {ms : mS} {d : Int64} {j : Nat} {v : Int32} : siD d (xp_zv st j v) ms = siD d st ms := (rfl)
theorem fm_D_ai {st : xS} {ms : mS} {d : Int64} {j : Nat} {v : Int32} : siD d st (mp_ai ms j v) = siD d st ms := (rfl)
theorem fx_N_zv {st : xS} {ms : mS} {d : Int64} {j : Nat} {v : Int32} : siN d (xp_zv st j v) ms = siN d st ms := (rfl)
theorem fm_N_ai {st : xS} {ms : mS} {d : Int64} {j : Nat} {v : Int32} : siN d st (mp_ai ms j v) = siN d st ms := (rfl)
theorem fx_I_zv {st : xS} {ms : mS} {t : Int32} {j : Nat} {v : Int32} : siI t (xp_zv st j v) ms = siI t st ms := (rfl)
theorem fm_I_ai {st : xS} {ms : mS} {t : Int32} {j : Nat} {v : Int32} : siI t st (mp_ai ms j v) = siI t st ms := (rfl)
theorem fb_K_ai {ms : mS} {Z : Nat} {j : Nat} {v : Int32} : sbK Z (mp_ai ms j v) = sbK Z ms := (rfl)
theorem fb_F_ai {ms : mS} {Z : Nat} {B : Int} {j : Nat} {v : Int32} : sbF Z B (mp_ai ms j v) = sbF Z B ms := (rfl)
theorem rm_ou_ai {st : mS} {j : Nat} {v : Int32} : ms_ou (mp_ai st j v) = ms_ou st := (rfl)
theorem fx_K_mv {st : xS} {ms : mS} {v : Int32} : siK (xp_mv st v) ms = siK st ms := (rfl)
theorem fm_K_mv {st : xS} {ms : mS} {v : Int32} : siK st (mp_mv ms v) = siK st ms := (rfl)
theorem fx_G_mv {st : xS} {ms : mS} {v : Int32} : siG (xp_mv st v) ms = siG st ms := (rfl)
theorem fm_G_mv {st : xS} {ms : mS} {v : Int32} : siG st (mp_mv ms v) = siG st ms := (rfl)
theorem fx_T_mv {st : xS} {ms : mS} {Z : Nat} {v : Int32} : siT Z (xp_mv st v) ms = siT Z st ms := (rfl)
theorem fm_T_mv {st : xS} {ms : mS} {Z : Nat} {v : Int32} : siT Z st (mp_mv ms v) = siT Z st ms := (rfl)
theorem fx_H_mv {st : xS} {ms : mS} {v : Int32} : siH (xp_mv st v) ms = siH st ms := (rfl)
theorem fm_H_mv {st : xS} {ms : mS} {v : Int32} : siH st (mp_mv ms v) = siH st ms := (rfl)
theorem fx_L_mv {st : xS} {ms : mS} {v : Int32} : siL (xp_mv st v) ms = siL st ms := (rfl)
theorem fm_L_mv {st : xS} {ms : mS} {v : Int32} : siL st (mp_mv ms v) = siL st ms := (rfl)
theorem fx_C_mv {st : xS} {ms : mS} {v : Int32} : siC (xp_mv st v) ms = siC st ms := (rfl)
theorem fm_C_mv {st : xS} {ms : mS} {v : Int32} : siC st (mp_mv ms v) = siC st ms := (rfl)
theorem rx_mv_mv {st : xS} {v : Int32} : xs_mv (xp_mv st v) = v := (rfl)
theorem rx_zv_mv {st : xS} {v : Int32} : xs_zv (xp_mv st v) = xs_zv st := (rfl)
theorem rm_ai_mv {st : mS} {v : Int32} : ms_ai (mp_mv st v) = ms_ai st := (rfl)
theorem rm_mv_mv {st : mS} {v : Int32} : ms_mv (mp_mv st v) = v := (rfl)
theorem fx_A_mv {st : xS} {ms : mS} {v : Int32} : siA (xp_mv st v) ms = siA st ms := (rfl)
theorem fm_A_mv {st : xS} {ms : mS} {v : Int32} : siA st (mp_mv ms v) = siA st ms := (rfl)
theorem fx_Z_mv {st : xS} {ms : mS} {Z : Nat} {v : Int32} : siZ Z (xp_mv st v) ms = siZ Z st ms := (rfl)
theorem fm_Z_mv {st : xS} {ms : mS} {Z : Nat} {v : Int32} : siZ Z st (mp_mv ms v) = siZ Z st ms := (rfl)
theorem fx_D_mv {st : xS} {ms : mS} {d : Int64} {v : Int32} : siD d (xp_mv st v) ms = siD d st ms := (rfl)
theorem fm_D_mv {st : xS} {ms : mS} {d : Int64} {v : Int32} : siD d st (mp_mv ms v) = siD d st ms := (rfl)
theorem fx_N_mv {st : xS} {ms : mS} {d : Int64} {v : Int32} : siN d (xp_mv st v) ms = siN d st ms := (rfl)
theorem fm_N_mv {st : xS} {ms : mS} {d : Int64} {v : Int32} : siN d st (mp_mv ms v) = siN d st ms := (rfl)
theorem fx_I_mv {st : xS} {ms : mS} {t : Int32} {v : Int32} : siI t (xp_mv st v) ms = siI t st ms := (rfl)
theorem fm_I_mv {st : xS} {ms : mS} {t : Int32} {v : Int32} : siI t st (mp_mv ms v) = siI t st ms := (rfl)
theorem fb_K_mv {ms : mS} {Z : Nat} {v : Int32} : sbK Z (mp_mv ms v) = sbK Z ms := (rfl)
theorem fb_F_mv {ms : mS} {Z : Nat} {B : Int} {v : Int32} : sbF Z B (mp_mv ms v) = sbF Z B ms := (rfl)
/-! the controllers -/
def kS (su e : Int64) : Int64 := f_Mo_cut (su + e) (-1000000000) 1000000000
def kV (p i : Int32) (e s : Int64) : Int64 := p.toInt64 * e + i.toInt64 * s
def kO (v : Int64) : Int32 := (f_Mo_cut (v / 1000 - (if 0 ≤ lg_cmp (v - v / 1000 * 1000) 0 then 0 else 1)) 0 100000).toInt32
def mLook (ms : mS) (k : Nat) : mS := mp_ou (mp_su ms k (kS (ms_su ms k) ((ms_tg ms k).toInt64 - ms_la ms k))) k (kO (kV (ms_bn ms k) (ms_bs ms k) ((ms_tg ms k).toInt64 - ms_la ms k) (kS (ms_su ms k) ((ms_tg ms k).toInt64 - ms_la ms k))))
def cLook (st : xS) (k : Nat) (a : Int64) : xS := xp_co (xp_cs st k (kS (xs_cs st k) ((xs_cg st k).toInt64 - a))) k (kO (kV (xs_cp st k) (xs_ci st k) ((xs_cg st k).toInt64 - a) (kS (xs_cs st k) ((xs_cg st k).toInt64 - a))))
theorem pu_cutS (x : Int64) : f_GL_cut x (-1000000000) 1000000000 = f_Mo_cut x (-1000000000) 1000000000 := pu_cut (by decide)
theorem pu_cutO (x : Int64) : f_GL_cut x 0 100000 = f_Mo_cut x 0 100000 := pu_cut (by decide)
theorem look_s (Z : Nat) (st : xS) (k : Nat) (a : Int64) : f_Ct_look Z st k a = cLook st k a := by
  unfold f_Ct_look cLook kO kV kS
  simp only [pu_cutS, pu_cutO, pu_floor, updL_eq, rx_cp_cs, rx_ci_cs, rx_cs_cs]
theorem upI_eq {f : Nat → Int32} {j : Nat} {v : Int32} : upd f j v j = v := if_pos rfl
def mMv (ms : mS) : mS := mp_mv (mLook ms 1) (if 1000 ≤ ms_ou (mLook ms 1) 1 then 1000 else ms_ou (mLook ms 1) 1)
set_option maxRecDepth 100000 in
theorem ctrl0_s (Z : Nat) (ms : mS) : f_Mo_controls Z ms 0 = if ms_hc ms 0 = 0 then ms else lm_ctrl Z Z 0 (mLook ms 0) := by
  unfold f_Mo_controls
  by_cases c1 : ms_hc ms 0 = 0
  · rw [if_pos c1, if_pos c1]
  · rw [if_neg c1, if_neg c1]
    simp only [updL_eq, upI_eq, rm_bn_ou, rm_bn_su, rm_bs_ou, rm_bs_su, rm_ou_ou, rm_ou_su, rm_su_ou, rm_su_su]
    rw [if_neg (show ¬ nI 0 = 1 by decide), if_neg (show ¬ nI 0 = 1 by decide)]
    split
    · rename_i c2
      simp only [mLook, kO, kV, kS, c2, if_true]
    · rename_i c2
      simp only [mLook, kO, kV, kS, c2, if_false]
set_option maxRecDepth 100000 in
theorem ctrl1_s (Z : Nat) (ms : mS) : f_Mo_controls Z ms 1 = if ms_hc ms 1 = 0 then ms else mMv ms := by
  unfold f_Mo_controls
  by_cases c1 : ms_hc ms 1 = 0
  · rw [if_pos c1, if_pos c1]
  · rw [if_neg c1, if_neg c1]
    simp only [updL_eq, upI_eq, rm_bn_ou, rm_bn_su, rm_bs_ou, rm_bs_su, rm_ou_ou, rm_ou_su, rm_su_ou, rm_su_su]
    rw [if_pos (show nI 1 = 1 by decide), if_pos (show nI 1 = 1 by decide)]
    split
    · rename_i c2
      simp only [mMv, mLook, kO, kV, kS, c2, if_true, upI_eq, rm_ou_ou, rm_ou_su]
      split <;> rfl
    · rename_i c2
      simp only [mMv, mLook, kO, kV, kS, c2, if_false, upI_eq, rm_ou_ou, rm_ou_su]
      split <;> rfl
theorem cut_b (v : Int64) : 0 ≤ (f_Mo_cut v 0 100000).toInt ∧ (f_Mo_cut v 0 100000).toInt ≤ 100000 := by
  have e : (100000 : Int64).toInt = 100000 := by decide
  unfold f_Mo_cut
  by_cases c : 0 ≤ lg_cmp v 0
  · rw [if_pos c]
    have c2 := Int64.le_iff_toInt_le.mp ((lg_cmp_ge _ _).mp c)
    rw [i64z] at c2
    by_cases c3 : lg_cmp v 100000 ≤ 0
    · rw [if_pos c3]
      have c4 := Int64.le_iff_toInt_le.mp ((lg_cmp_le _ _).mp c3)
      rw [e] at c4
      exact ⟨c2, c4⟩
    · rw [if_neg c3, e]; decide
  · rw [if_neg c, i64z]; decide
theorem kO_b (v : Int64) : 0 ≤ (kO v).toInt ∧ (kO v).toInt ≤ 100000 := by
  unfold kO
  have h := cut_b (v / 1000 - (if 0 ≤ lg_cmp (v - v / 1000 * 1000) 0 then 0 else 1))
  rw [Int64.toInt_toInt32, Int.bmod_eq_of_le (by omega) (by omega)]
  exact h
theorem siE_Lk {Z k : Nat} {t : Int32} {d b a : Int64} {st : xS} {ms : mS} (hk : k < 2) (ha : a = ms_la ms k) (h : siE Z t d b st ms) : siE Z t d b (cLook st k a) (mLook ms k) := by
  obtain ⟨hK, hG, hT, hH, hL, hC, hM, hA, hZ, hD, hN, hI⟩ := h
  refine ⟨?_, ?_, ?_, ?_, ?_, ?_, ?_, ?_, ?_, ?_, ?_, ?_⟩
  · simp only [cLook, mLook, fx_K_co, fx_K_cs, fm_K_ou, fm_K_su]
    exact hK
  · simp only [cLook, mLook, fx_G_co, fx_G_cs, fm_G_ou, fm_G_su]
    exact hG
  · simp only [cLook, mLook, fx_T_co, fx_T_cs, fm_T_ou, fm_T_su]
    exact hT
  · simp only [cLook, mLook, fx_H_co, fx_H_cs, fm_H_ou, fm_H_su]
    exact hH
  · simp only [cLook, mLook, fx_L_co, fx_L_cs, fm_L_ou, fm_L_su]
    exact hL
  · intro i hi
    obtain ⟨p1, p2⟩ := hC i hi
    obtain ⟨g1, g2⟩ := hC k hk
    obtain ⟨g3, g4, g5, g6⟩ := hT.2.2.2.2.1 k hk
    simp only [cLook, mLook, rx_co_co, rx_co_cs, rx_cs_co, rx_cs_cs, rm_ou_ou, rm_ou_su, rm_su_ou, rm_su_su]
    rw [g2, g4, g5, g6, ha]
    exact ⟨updI2 p1 rfl, updL2 p2 rfl⟩
  · simp only [cLook, mLook, fx_M_co, fx_M_cs, fm_M_ou, fm_M_su]
    exact hM
  · simp only [cLook, mLook, fx_A_co, fx_A_cs, fm_A_ou, fm_A_su]
    exact hA
  · simp only [cLook, mLook, fx_Z_co, fx_Z_cs, fm_Z_ou, fm_Z_su]
    exact hZ
  · simp only [cLook, mLook, fx_D_co, fx_D_cs, fm_D_ou, fm_D_su]
    exact hD
  · simp only [cLook, mLook, fx_N_co, fx_N_cs, fm_N_ou, fm_N_su]
    exact hN
  · simp only [cLook, mLook, fx_I_co, fx_I_cs, fm_I_ou, fm_I_su]
    exact hI
theorem siB_Lk {Z k : Nat} {B : Int} {ms : mS} (hB : siB Z B ms) : siB Z B (mLook ms k) := by
  obtain ⟨bK, bM, bF⟩ := hB
  refine ⟨?_, ?_, ?_⟩
  · simp only [mLook, fb_K_ou, fb_K_su]
    exact bK
  · simp only [mLook, fb_M_ou, fb_M_su]
    exact bM
  · simp only [mLook, fb_F_ou, fb_F_su]
    exact bF
theorem mLook_ou (ms : mS) (k : Nat) : ∃ v, ms_ou (mLook ms k) k = kO v := by
  simp only [mLook, rm_ou_ou, rm_ou_su]
  exact ⟨_, upI_eq⟩
theorem siE_ai {Z j : Nat} {t a : Int32} {d b : Int64} {st : xS} {ms : mS} (ha : a = ms_ou ms 0) (h : siE Z t d b st ms) : siE Z t d b (xp_zv st j a) (mp_ai ms j (ms_ou ms 0)) := by
  obtain ⟨hK, hG, hT, hH, hL, hC, hM, hA, hZ, hD, hN, hI⟩ := h
  refine ⟨?_, ?_, ?_, ?_, ?_, ?_, ?_, ?_, ?_, ?_, ?_, ?_⟩
  · simp only [fx_K_zv, fm_K_ai]
    exact hK
  · simp only [fx_G_zv, fm_G_ai]
    exact hG
  · simp only [fx_T_zv, fm_T_ai]
    exact hT
  · simp only [fx_H_zv, fm_H_ai]
    exact hH
  · simp only [fx_L_zv, fm_L_ai]
    exact hL
  · simp only [fx_C_zv, fm_C_ai]
    exact hC
  · simp only [siM, rx_mv_zv, rx_zv_zv, rm_ai_ai, rm_mv_ai]
    exact ⟨hM.1, fun i hi => updI2 (hM.2 i hi) ha⟩
  · simp only [fx_A_zv, fm_A_ai]
    exact hA
  · simp only [fx_Z_zv, fm_Z_ai]
    exact hZ
  · simp only [fx_D_zv, fm_D_ai]
    exact hD
  · simp only [fx_N_zv, fm_N_ai]
    exact hN
  · simp only [fx_I_zv, fm_I_ai]
    exact hI
theorem siB_ai {Z j : Nat} {B : Int} {ms : mS} (ha : 0 ≤ (ms_ou ms 0).toInt ∧ (ms_ou ms 0).toInt ≤ 100000) (hB : siB Z B ms) : siB Z B (mp_ai ms j (ms_ou ms 0)) := by
  obtain ⟨bK, bM, bF⟩ := hB
  refine ⟨?_, ?_, ?_⟩
  · simp only [fb_K_ai]
    exact bK
  · simp only [sbM, rm_ai_ai, rm_mv_ai]
    refine ⟨bM.1, fun i hi => ?_⟩
    unfold upd
    by_cases e : i = j
    · rw [if_pos e]; exact ha
    · rw [if_neg e]; exact bM.2 i hi
  · simp only [fb_F_ai]
    exact bF
theorem bl_ok {Z : Nat} {t a : Int32} {d b : Int64} {B : Int} : ∀ (n j : Nat) (st : xS) (ms : mS), a = ms_ou ms 0 → (0 ≤ (ms_ou ms 0).toInt ∧ (ms_ou ms 0).toInt ≤ 100000) → siE Z t d b st ms → siB Z B ms → siE Z t d b (lp_blow Z a n j st) (lm_ctrl Z n j ms) ∧ siB Z B (lm_ctrl Z n j ms)
  | 0, _, st, ms, _, _, h, hB => ⟨h, hB⟩
  | n + 1, j, st, ms, ha, hb, h, hB => by
    rw [lp_blow, lm_ctrl]
    have e : ms_ou (mp_ai ms j (ms_ou ms 0)) = ms_ou ms := rm_ou_ai
    exact bl_ok n (j + 1) _ _ (by rw [e]; exact ha) (by rw [e]; exact hb) (siE_ai ha h) (siB_ai hb hB)
theorem siE_mv {Z : Nat} {t v w : Int32} {d b : Int64} {st : xS} {ms : mS} (hv : v = w) (h : siE Z t d b st ms) : siE Z t d b (xp_mv st v) (mp_mv ms w) := by
  obtain ⟨hK, hG, hT, hH, hL, hC, hM, hA, hZ, hD, hN, hI⟩ := h
  refine ⟨?_, ?_, ?_, ?_, ?_, ?_, ?_, ?_, ?_, ?_, ?_, ?_⟩
  · simp only [fx_K_mv, fm_K_mv]
    exact hK
  · simp only [fx_G_mv, fm_G_mv]
    exact hG
  · simp only [fx_T_mv, fm_T_mv]
    exact hT
  · simp only [fx_H_mv, fm_H_mv]
    exact hH
  · simp only [fx_L_mv, fm_L_mv]
    exact hL
  · simp only [fx_C_mv, fm_C_mv]
    exact hC
  · simp only [siM, rx_mv_mv, rx_zv_mv, rm_ai_mv, rm_mv_mv]
    exact ⟨hv, hM.2⟩
  · simp only [fx_A_mv, fm_A_mv]
    exact hA
  · simp only [fx_Z_mv, fm_Z_mv]
    exact hZ
  · simp only [fx_D_mv, fm_D_mv]
    exact hD
  · simp only [fx_N_mv, fm_N_mv]
    exact hN
  · simp only [fx_I_mv, fm_I_mv]
    exact hI
theorem siB_mv {Z : Nat} {B : Int} {w : Int32} {ms : mS} (hv : 0 ≤ w.toInt ∧ w.toInt ≤ 1000) (hB : siB Z B ms) : siB Z B (mp_mv ms w) := by
  obtain ⟨bK, bM, bF⟩ := hB
  refine ⟨?_, ?_, ?_⟩
  · simp only [fb_K_mv]
    exact bK
  · simp only [sbM, rm_ai_mv, rm_mv_mv]
    exact ⟨hv, bM.2⟩
  · simp only [fb_F_mv]
    exact bF
theorem min_mv (x : Int32) : (if 1000 < x then 1000 else x) = (if 1000 ≤ x then (1000 : Int32) else x) := by
  by_cases c : 1000 < x
  · rw [if_pos c, if_pos (Int32.le_iff_toInt_le.mpr (Int.le_of_lt (Int32.lt_iff_toInt_lt.mp c)))]
  · rw [if_neg c]
    by_cases c2 : 1000 ≤ x
    · rw [if_pos c2]
      have h1 := Int32.le_iff_toInt_le.mp c2
      have h2 : ¬ (1000 : Int32).toInt < x.toInt := fun q => c (Int32.lt_iff_toInt_lt.mpr q)
      exact Int32.toInt_inj.mp (by omega)
    · rw [if_neg c2]
theorem min_mvb {x : Int32} (h : 0 ≤ x.toInt) : 0 ≤ (if 1000 ≤ x then (1000 : Int32) else x).toInt ∧ (if 1000 ≤ x then (1000 : Int32) else x).toInt ≤ 1000 := by
  have e : (1000 : Int32).toInt = 1000 := by decide
  by_cases c2 : 1000 ≤ x
  · rw [if_pos c2, e]; decide
  · rw [if_neg c2]
    have h2 : ¬ (1000 : Int32).toInt ≤ x.toInt := fun q => c2 (Int32.le_iff_toInt_le.mpr q)
    rw [e] at h2
    exact ⟨h, by omega⟩
def cBl (Z : Nat) (st : xS) : xS := if b2i (xs_ct st 0) = 0 then st else lp_blow Z (xs_co (cLook st 0 (xs_sm st)) 0) Z 0 (cLook st 0 (xs_sm st))
def cMv (st : xS) : xS := if b2i (xs_ct st 1) = 0 then st else xp_mv (cLook st 1 (xs_ox st)) (if 1000 < xs_co (cLook st 1 (xs_ox st)) 1 then 1000 else xs_co (cLook st 1 (xs_ox st)) 1)
theorem obey_s (Z : Nat) (st : xS) : f_GL_obeyControllers Z st = cMv (cBl Z st) := by
  unfold f_GL_obeyControllers
  simp only [look_s, f_Gr_blow]
  by_cases c : b2i (xs_ct st 0) = 0
  · rw [if_pos c, show cBl Z st = st from if_pos c]
    rfl
  · rw [if_neg c, show cBl Z st = lp_blow Z (xs_co (cLook st 0 (xs_sm st)) 0) Z 0 (cLook st 0 (xs_sm st)) from if_neg c]
    rfl
theorem siE_bl {Z : Nat} {t : Int32} {d b : Int64} {B : Int} {st : xS} {ms : mS} (h : siE Z t d b st ms) (hB : siB Z B ms) : siE Z t d b (cBl Z st) (f_Mo_controls Z ms 0) ∧ siB Z B (f_Mo_controls Z ms 0) := by
  rw [ctrl0_s]
  unfold cBl
  rw [(h.2.2.1.2.2.2.2.1 0 (by decide)).1]
  by_cases c : ms_hc ms 0 = 0
  · rw [if_pos c, if_pos c]; exact ⟨h, hB⟩
  · rw [if_neg c, if_neg c]
    have h1 := siE_Lk (k := 0) (by decide) h.2.2.2.2.1.1 h
    obtain ⟨v, hv⟩ := mLook_ou ms 0
    exact bl_ok Z 0 _ _ (h1.2.2.2.2.2.1 0 (by decide)).1 (by rw [hv]; exact kO_b v) h1 (siB_Lk hB)
theorem siE_cm {Z : Nat} {t : Int32} {d b : Int64} {B : Int} {st : xS} {ms : mS} (h : siE Z t d b st ms) (hB : siB Z B ms) : siE Z t d b (cMv st) (f_Mo_controls Z ms 1) ∧ siB Z B (f_Mo_controls Z ms 1) := by
  rw [ctrl1_s]
  unfold cMv mMv
  rw [(h.2.2.1.2.2.2.2.1 1 (by decide)).1]
  by_cases c : ms_hc ms 1 = 0
  · rw [if_pos c, if_pos c]; exact ⟨h, hB⟩
  · rw [if_neg c, if_neg c]
    have h1 := siE_Lk (k := 1) (by decide) h.2.2.2.2.1.2.1 h
    obtain ⟨v, hv⟩ := mLook_ou ms 1
    refine ⟨siE_mv ?_ h1, siB_mv (min_mvb (by rw [hv]; exact (kO_b v).1)) (siB_Lk hB)⟩
    rw [min_mv, (h1.2.2.2.2.2.1 1 (by decide)).1]
