theorem fx_0_tr {st : xS} {ms : mS} {j : Nat} {v : Int32} : siK0 (xp_tr st j v) ms = siK0 st ms := (rfl)
theorem fx_G_tr {st : xS} {ms : mS} {j : Nat} {v : Int32} : siG (xp_tr st j v) ms = siG st ms := (rfl)
theorem fx_T_tr {st : xS} {ms : mS} {Z : Nat} {j : Nat} {v : Int32} : siT Z (xp_tr st j v) ms = siT Z st ms := (rfl)
theorem fx_H_tr {st : xS} {ms : mS} {j : Nat} {v : Int32} : siH (xp_tr st j v) ms = siH st ms := (rfl)
theorem fx_L_tr {st : xS} {ms : mS} {j : Nat} {v : Int32} : siL (xp_tr st j v) ms = siL st ms := (rfl)
theorem fx_C_tr {st : xS} {ms : mS} {j : Nat} {v : Int32} : siC (xp_tr st j v) ms = siC st ms := (rfl)
theorem fx_M_tr {st : xS} {ms : mS} {Z : Nat} {j : Nat} {v : Int32} : siM Z (xp_tr st j v) ms = siM Z st ms := (rfl)
theorem fx_A_tr {st : xS} {ms : mS} {j : Nat} {v : Int32} : siA (xp_tr st j v) ms = siA st ms := (rfl)
theorem fx_Z_tr {st : xS} {ms : mS} {Z : Nat} {j : Nat} {v : Int32} : siZ Z (xp_tr st j v) ms = siZ Z st ms := (rfl)
theorem fx_D_tr {st : xS} {ms : mS} {d : Int64} {j : Nat} {v : Int32} : siD d (xp_tr st j v) ms = siD d st ms := (rfl)
theorem fx_N_tr {st : xS} {ms : mS} {d : Int64} {j : Nat} {v : Int32} : siN d (xp_tr st j v) ms = siN d st ms := (rfl)
theorem fx_I_tr {st : xS} {ms : mS} {t : Int32} {j : Nat} {v : Int32} : siI t (xp_tr st j v) ms = siI t st ms := (rfl)
theorem fx_0_fo {st : xS} {ms : mS} {j : Nat} {v : Int32} : siK0 (xp_fo st j v) ms = siK0 st ms := (rfl)
theorem fx_G_fo {st : xS} {ms : mS} {j : Nat} {v : Int32} : siG (xp_fo st j v) ms = siG st ms := (rfl)
theorem fx_T_fo {st : xS} {ms : mS} {Z : Nat} {j : Nat} {v : Int32} : siT Z (xp_fo st j v) ms = siT Z st ms := (rfl)
theorem fx_H_fo {st : xS} {ms : mS} {j : Nat} {v : Int32} : siH (xp_fo st j v) ms = siH st ms := (rfl)
theorem fx_L_fo {st : xS} {ms : mS} {j : Nat} {v : Int32} : siL (xp_fo st j v) ms = siL st ms := (rfl)
theorem fx_C_fo {st : xS} {ms : mS} {j : Nat} {v : Int32} : siC (xp_fo st j v) ms = siC st ms := (rfl)
theorem fx_M_fo {st : xS} {ms : mS} {Z : Nat} {j : Nat} {v : Int32} : siM Z (xp_fo st j v) ms = siM Z st ms := (rfl)
theorem fx_A_fo {st : xS} {ms : mS} {j : Nat} {v : Int32} : siA (xp_fo st j v) ms = siA st ms := (rfl)
theorem fx_Z_fo {st : xS} {ms : mS} {Z : Nat} {j : Nat} {v : Int32} : siZ Z (xp_fo st j v) ms = siZ Z st ms := (rfl)
theorem fx_D_fo {st : xS} {ms : mS} {d : Int64} {j : Nat} {v : Int32} : siD d (xp_fo st j v) ms = siD d st ms := (rfl)
theorem fx_N_fo {st : xS} {ms : mS} {d : Int64} {j : Nat} {v : Int32} : siN d (xp_fo st j v) ms = siN d st ms := (rfl)
theorem fx_I_fo {st : xS} {ms : mS} {t : Int32} {j : Nat} {v : Int32} : siI t (xp_fo st j v) ms = siI t st ms := (rfl)
theorem fx_0_fg {st : xS} {ms : mS} {v : Int32} : siK0 (xp_fg st v) ms = siK0 st ms := (rfl)
theorem fx_G_fg {st : xS} {ms : mS} {v : Int32} : siG (xp_fg st v) ms = siG st ms := (rfl)
theorem fx_T_fg {st : xS} {ms : mS} {Z : Nat} {v : Int32} : siT Z (xp_fg st v) ms = siT Z st ms := (rfl)
theorem fx_H_fg {st : xS} {ms : mS} {v : Int32} : siH (xp_fg st v) ms = siH st ms := (rfl)
theorem fx_L_fg {st : xS} {ms : mS} {v : Int32} : siL (xp_fg st v) ms = siL st ms := (rfl)
theorem fx_C_fg {st : xS} {ms : mS} {v : Int32} : siC (xp_fg st v) ms = siC st ms := (rfl)
theorem fx_M_fg {st : xS} {ms : mS} {Z : Nat} {v : Int32} : siM Z (xp_fg st v) ms = siM Z st ms := (rfl)
theorem fx_A_fg {st : xS} {ms : mS} {v : Int32} : siA (xp_fg st v) ms = siA st ms := (rfl)
theorem fx_Z_fg {st : xS} {ms : mS} {Z : Nat} {v : Int32} : siZ Z (xp_fg st v) ms = siZ Z st ms := (rfl)
theorem fx_D_fg {st : xS} {ms : mS} {d : Int64} {v : Int32} : siD d (xp_fg st v) ms = siD d st ms := (rfl)
theorem fx_N_fg {st : xS} {ms : mS} {d : Int64} {v : Int32} : siN d (xp_fg st v) ms = siN d st ms := (rfl)
theorem fx_I_fg {st : xS} {ms : mS} {t : Int32} {v : Int32} : siI t (xp_fg st v) ms = siI t st ms := (rfl)
theorem fx_0_ot {st : xS} {ms : mS} {j i : Nat} {v : Int32} : siK0 (xp_ot st j i v) ms = siK0 st ms := (rfl)
theorem fx_G_ot {st : xS} {ms : mS} {j i : Nat} {v : Int32} : siG (xp_ot st j i v) ms = siG st ms := (rfl)
theorem fx_T_ot {st : xS} {ms : mS} {Z : Nat} {j i : Nat} {v : Int32} : siT Z (xp_ot st j i v) ms = siT Z st ms := (rfl)
theorem fx_H_ot {st : xS} {ms : mS} {j i : Nat} {v : Int32} : siH (xp_ot st j i v) ms = siH st ms := (rfl)
theorem fx_L_ot {st : xS} {ms : mS} {j i : Nat} {v : Int32} : siL (xp_ot st j i v) ms = siL st ms := (rfl)
theorem fx_C_ot {st : xS} {ms : mS} {j i : Nat} {v : Int32} : siC (xp_ot st j i v) ms = siC st ms := (rfl)
theorem fx_M_ot {st : xS} {ms : mS} {Z : Nat} {j i : Nat} {v : Int32} : siM Z (xp_ot st j i v) ms = siM Z st ms := (rfl)
theorem fx_A_ot {st : xS} {ms : mS} {j i : Nat} {v : Int32} : siA (xp_ot st j i v) ms = siA st ms := (rfl)
theorem fx_Z_ot {st : xS} {ms : mS} {Z : Nat} {j i : Nat} {v : Int32} : siZ Z (xp_ot st j i v) ms = siZ Z st ms := (rfl)
theorem fx_D_ot {st : xS} {ms : mS} {d : Int64} {j i : Nat} {v : Int32} : siD d (xp_ot st j i v) ms = siD d st ms := (rfl)
theorem fx_N_ot {st : xS} {ms : mS} {d : Int64} {j i : Nat} {v : Int32} : siN d (xp_ot st j i v) ms = siN d st ms := (rfl)
theorem fx_I_ot {st : xS} {ms : mS} {t : Int32} {j i : Nat} {v : Int32} : siI t (xp_ot st j i v) ms = siI t st ms := (rfl)
theorem fx_0_fi {st : xS} {ms : mS} {j : Nat} {v : Int32} : siK0 (xp_fi st j v) ms = siK0 st ms := (rfl)
theorem fx_G_fi {st : xS} {ms : mS} {j : Nat} {v : Int32} : siG (xp_fi st j v) ms = siG st ms := (rfl)
theorem fx_T_fi {st : xS} {ms : mS} {Z : Nat} {j : Nat} {v : Int32} : siT Z (xp_fi st j v) ms = siT Z st ms := (rfl)
theorem fx_H_fi {st : xS} {ms : mS} {j : Nat} {v : Int32} : siH (xp_fi st j v) ms = siH st ms := (rfl)
theorem fx_L_fi {st : xS} {ms : mS} {j : Nat} {v : Int32} : siL (xp_fi st j v) ms = siL st ms := (rfl)
theorem fx_C_fi {st : xS} {ms : mS} {j : Nat} {v : Int32} : siC (xp_fi st j v) ms = siC st ms := (rfl)
theorem fx_M_fi {st : xS} {ms : mS} {Z : Nat} {j : Nat} {v : Int32} : siM Z (xp_fi st j v) ms = siM Z st ms := (rfl)
theorem fx_A_fi {st : xS} {ms : mS} {j : Nat} {v : Int32} : siA (xp_fi st j v) ms = siA st ms := (rfl)
theorem fx_Z_fi {st : xS} {ms : mS} {Z : Nat} {j : Nat} {v : Int32} : siZ Z (xp_fi st j v) ms = siZ Z st ms := (rfl)
theorem fx_D_fi {st : xS} {ms : mS} {d : Int64} {j : Nat} {v : Int32} : siD d (xp_fi st j v) ms = siD d st ms := (rfl)
theorem fx_N_fi {st : xS} {ms : mS} {d : Int64} {j : Nat} {v : Int32} : siN d (xp_fi st j v) ms = siN d st ms := (rfl)
theorem fx_I_fi {st : xS} {ms : mS} {t : Int32} {j : Nat} {v : Int32} : siI t (xp_fi st j v) ms = siI t st ms := (rfl)
theorem fx_0_fc {st : xS} {ms : mS} {v : Int32} : siK0 (xp_fc st v) ms = siK0 st ms := (rfl)
theorem fx_G_fc {st : xS} {ms : mS} {v : Int32} : siG (xp_fc st v) ms = siG st ms := (rfl)
theorem fx_T_fc {st : xS} {ms : mS} {Z : Nat} {v : Int32} : siT Z (xp_fc st v) ms = siT Z st ms := (rfl)
theorem fx_H_fc {st : xS} {ms : mS} {v : Int32} : siH (xp_fc st v) ms = siH st ms := (rfl)
theorem fx_L_fc {st : xS} {ms : mS} {v : Int32} : siL (xp_fc st v) ms = siL st ms := (rfl)
theorem fx_C_fc {st : xS} {ms : mS} {v : Int32} : siC (xp_fc st v) ms = siC st ms := (rfl)
theorem fx_M_fc {st : xS} {ms : mS} {Z : Nat} {v : Int32} : siM Z (xp_fc st v) ms = siM Z st ms := (rfl)
theorem fx_A_fc {st : xS} {ms : mS} {v : Int32} : siA (xp_fc st v) ms = siA st ms := (rfl)
theorem fx_Z_fc {st : xS} {ms : mS} {Z : Nat} {v : Int32} : siZ Z (xp_fc st v) ms = siZ Z st ms := (rfl)
theorem fx_D_fc {st : xS} {ms : mS} {d : Int64} {v : Int32} : siD d (xp_fc st v) ms = siD d st ms := (rfl)
theorem fx_N_fc {st : xS} {ms : mS} {d : Int64} {v : Int32} : siN d (xp_fc st v) ms = siN d st ms := (rfl)
theorem fx_I_fc {st : xS} {ms : mS} {t : Int32} {v : Int32} : siI t (xp_fc st v) ms = siI t st ms := (rfl)
theorem fm_0_ps {st : xS} {ms : mS} {v : Int32} : siK0 st (mp_ps ms v) = siK0 st ms := (rfl)
theorem fm_G_ps {st : xS} {ms : mS} {v : Int32} : siG st (mp_ps ms v) = siG st ms := (rfl)
theorem fm_T_ps {st : xS} {ms : mS} {Z : Nat} {v : Int32} : siT Z st (mp_ps ms v) = siT Z st ms := (rfl)
theorem fm_H_ps {st : xS} {ms : mS} {v : Int32} : siH st (mp_ps ms v) = siH st ms := (rfl)
theorem fm_L_ps {st : xS} {ms : mS} {v : Int32} : siL st (mp_ps ms v) = siL st ms := (rfl)
theorem fm_C_ps {st : xS} {ms : mS} {v : Int32} : siC st (mp_ps ms v) = siC st ms := (rfl)
theorem fm_M_ps {st : xS} {ms : mS} {Z : Nat} {v : Int32} : siM Z st (mp_ps ms v) = siM Z st ms := (rfl)
theorem fm_A_ps {st : xS} {ms : mS} {v : Int32} : siA st (mp_ps ms v) = siA st ms := (rfl)
theorem fm_Z_ps {st : xS} {ms : mS} {Z : Nat} {v : Int32} : siZ Z st (mp_ps ms v) = siZ Z st ms := (rfl)
theorem fm_D_ps {st : xS} {ms : mS} {d : Int64} {v : Int32} : siD d st (mp_ps ms v) = siD d st ms := (rfl)
theorem fm_N_ps {st : xS} {ms : mS} {d : Int64} {v : Int32} : siN d st (mp_ps ms v) = siN d st ms := (rfl)
theorem fm_I_ps {st : xS} {ms : mS} {t : Int32} {v : Int32} : siI t st (mp_ps ms v) = siI t st ms := (rfl)
theorem fm_0_pl {st : xS} {ms : mS} {j : Nat} {v : Int32} : siK0 st (mp_pl ms j v) = siK0 st ms := (rfl)
theorem fm_G_pl {st : xS} {ms : mS} {j : Nat} {v : Int32} : siG st (mp_pl ms j v) = siG st ms := (rfl)
theorem fm_T_pl {st : xS} {ms : mS} {Z : Nat} {j : Nat} {v : Int32} : siT Z st (mp_pl ms j v) = siT Z st ms := (rfl)
theorem fm_H_pl {st : xS} {ms : mS} {j : Nat} {v : Int32} : siH st (mp_pl ms j v) = siH st ms := (rfl)
theorem fm_L_pl {st : xS} {ms : mS} {j : Nat} {v : Int32} : siL st (mp_pl ms j v) = siL st ms := (rfl)
theorem fm_C_pl {st : xS} {ms : mS} {j : Nat} {v : Int32} : siC st (mp_pl ms j v) = siC st ms := (rfl)
theorem fm_M_pl {st : xS} {ms : mS} {Z : Nat} {j : Nat} {v : Int32} : siM Z st (mp_pl ms j v) = siM Z st ms := (rfl)
theorem fm_A_pl {st : xS} {ms : mS} {j : Nat} {v : Int32} : siA st (mp_pl ms j v) = siA st ms := (rfl)
theorem fm_Z_pl {st : xS} {ms : mS} {Z : Nat} {j : Nat} {v : Int32} : siZ Z st (mp_pl ms j v) = siZ Z st ms := (rfl)
theorem fm_D_pl {st : xS} {ms : mS} {d : Int64} {j : Nat} {v : Int32} : siD d st (mp_pl ms j v) = siD d st ms := (rfl)
theorem fm_N_pl {st : xS} {ms : mS} {d : Int64} {j : Nat} {v : Int32} : siN d st (mp_pl ms j v) = siN d st ms := (rfl)
theorem fm_I_pl {st : xS} {ms : mS} {t : Int32} {j : Nat} {v : Int32} : siI t st (mp_pl ms j v) = siI t st ms := (rfl)
theorem rx_fc_ot {st : xS} {j i : Nat} {v : Int32} : xs_fc (xp_ot st j i v) = xs_fc st := (rfl)
theorem rx_fi_ot {st : xS} {j i : Nat} {v : Int32} : xs_fi (xp_ot st j i v) = xs_fi st := (rfl)
theorem rx_fo_ot {st : xS} {j i : Nat} {v : Int32} : xs_fo (xp_ot st j i v) = xs_fo st := (rfl)
theorem rx_fg_ot {st : xS} {j i : Nat} {v : Int32} : xs_fg (xp_ot st j i v) = xs_fg st := (rfl)
theorem rx_ck_ot {st : xS} {j i : Nat} {v : Int32} : xs_ck (xp_ot st j i v) = xs_ck st := (rfl)
theorem rx_ot_ot {st : xS} {j i : Nat} {v : Int32} : xs_ot (xp_ot st j i v) = va_up (xs_ot st) j (upd (xs_ot st j) i v) := (rfl)
theorem rx_fc_fi {st : xS} {j : Nat} {v : Int32} : xs_fc (xp_fi st j v) = xs_fc st := (rfl)
theorem rx_fc_fc {st : xS} {v : Int32} : xs_fc (xp_fc st v) = v := (rfl)
theorem rx_fi_fc {st : xS} {v : Int32} : xs_fi (xp_fc st v) = xs_fi st := (rfl)
theorem rx_fi_fi {st : xS} {j : Nat} {v : Int32} : xs_fi (xp_fi st j v) = upd (xs_fi st) j v := (rfl)
theorem rx_ot_fc {st : xS} {v : Int32} : xs_ot (xp_fc st v) = xs_ot st := (rfl)
theorem rx_ot_fi {st : xS} {j : Nat} {v : Int32} : xs_ot (xp_fi st j v) = xs_ot st := (rfl)
theorem rx_fo_fc {st : xS} {v : Int32} : xs_fo (xp_fc st v) = xs_fo st := (rfl)
theorem rx_fo_fi {st : xS} {j : Nat} {v : Int32} : xs_fo (xp_fi st j v) = xs_fo st := (rfl)
theorem rx_fg_fc {st : xS} {v : Int32} : xs_fg (xp_fc st v) = xs_fg st := (rfl)
theorem rx_fg_fi {st : xS} {j : Nat} {v : Int32} : xs_fg (xp_fi st j v) = xs_fg st := (rfl)
theorem f0_tr {Z : Nat} {t : Int32} {d b : Int64} {st : xS} {ms : mS} {j : Nat} {v : Int32} : siE0 Z t d b (xp_tr st j v) ms = siE0 Z t d b st ms := by simp only [siE0, fx_0_tr, fx_G_tr, fx_T_tr, fx_H_tr, fx_L_tr, fx_C_tr, fx_M_tr, fx_A_tr, fx_Z_tr, fx_D_tr, fx_N_tr, fx_I_tr]
theorem f0_fo {Z : Nat} {t : Int32} {d b : Int64} {st : xS} {ms : mS} {j : Nat} {v : Int32} : siE0 Z t d b (xp_fo st j v) ms = siE0 Z t d b st ms := by simp only [siE0, fx_0_fo, fx_G_fo, fx_T_fo, fx_H_fo, fx_L_fo, fx_C_fo, fx_M_fo, fx_A_fo, fx_Z_fo, fx_D_fo, fx_N_fo, fx_I_fo]
theorem f0_fg {Z : Nat} {t : Int32} {d b : Int64} {st : xS} {ms : mS} {v : Int32} : siE0 Z t d b (xp_fg st v) ms = siE0 Z t d b st ms := by simp only [siE0, fx_0_fg, fx_G_fg, fx_T_fg, fx_H_fg, fx_L_fg, fx_C_fg, fx_M_fg, fx_A_fg, fx_Z_fg, fx_D_fg, fx_N_fg, fx_I_fg]
theorem f0_ot {Z : Nat} {t : Int32} {d b : Int64} {st : xS} {ms : mS} {j i : Nat} {v : Int32} : siE0 Z t d b (xp_ot st j i v) ms = siE0 Z t d b st ms := by simp only [siE0, fx_0_ot, fx_G_ot, fx_T_ot, fx_H_ot, fx_L_ot, fx_C_ot, fx_M_ot, fx_A_ot, fx_Z_ot, fx_D_ot, fx_N_ot, fx_I_ot]
theorem f0_fi {Z : Nat} {t : Int32} {d b : Int64} {st : xS} {ms : mS} {j : Nat} {v : Int32} : siE0 Z t d b (xp_fi st j v) ms = siE0 Z t d b st ms := by simp only [siE0, fx_0_fi, fx_G_fi, fx_T_fi, fx_H_fi, fx_L_fi, fx_C_fi, fx_M_fi, fx_A_fi, fx_Z_fi, fx_D_fi, fx_N_fi, fx_I_fi]
theorem f0_fc {Z : Nat} {t : Int32} {d b : Int64} {st : xS} {ms : mS} {v : Int32} : siE0 Z t d b (xp_fc st v) ms = siE0 Z t d b st ms := by simp only [siE0, fx_0_fc, fx_G_fc, fx_T_fc, fx_H_fc, fx_L_fc, fx_C_fc, fx_M_fc, fx_A_fc, fx_Z_fc, fx_D_fc, fx_N_fc, fx_I_fc]
theorem f0_ps {Z : Nat} {t : Int32} {d b : Int64} {st : xS} {ms : mS} {v : Int32} : siE0 Z t d b st (mp_ps ms v) = siE0 Z t d b st ms := by simp only [siE0, fm_0_ps, fm_G_ps, fm_T_ps, fm_H_ps, fm_L_ps, fm_C_ps, fm_M_ps, fm_A_ps, fm_Z_ps, fm_D_ps, fm_N_ps, fm_I_ps]
theorem f0_pl {Z : Nat} {t : Int32} {d b : Int64} {st : xS} {ms : mS} {j : Nat} {v : Int32} : siE0 Z t d b st (mp_pl ms j v) = siE0 Z t d b st ms := by simp only [siE0, fm_0_pl, fm_G_pl, fm_T_pl, fm_H_pl, fm_L_pl, fm_C_pl, fm_M_pl, fm_A_pl, fm_Z_pl, fm_D_pl, fm_N_pl, fm_I_pl]
def shv (Z : Nat) (ms : mS) (c k : Nat) : Int32 := ms_cl ms (4 * c + k) * 1000 / f_Mo_weightOf Z ms c
def fil (Z : Nat) (ms : mS) (c : Nat) : Bool := decide (0 < (f_Mo_weightOf Z ms c).toInt)
theorem shv_b {Z c k : Nat} {ms : mS} (bK : sbK Z ms) (hc : c < 6) (hk : k < 4) (hf : fil Z ms c = true) : (shv Z ms c k).toInt = (ms_cl ms (4 * c + k)).toInt * 1000 / (f_Mo_weightOf Z ms c).toInt ∧ 0 ≤ (shv Z ms c k).toInt ∧ (shv Z ms c k).toInt ≤ 1000 := by
  have hw := weight_b hc bK
  have hf : 0 < (f_Mo_weightOf Z ms c).toInt := of_decide_eq_true hf
  have cb := cellb hc hk bK
  have g0 := bK.2.2.1 c 0 hc (by decide)
  have g1 := bK.2.2.1 c 1 hc (by decide)
  have g2 := bK.2.2.1 c 2 hc (by decide)
  have g3 := bK.2.2.1 c 3 hc (by decide)
  rw [Nat.add_zero] at g0
  have cw : (ms_cl ms (4 * c + k)).toInt ≤ (f_Mo_weightOf Z ms c).toInt := by
    rcases (show k = 0 ∨ k = 1 ∨ k = 2 ∨ k = 3 by omega) with rfl | rfl | rfl | rfl
    · rw [Nat.add_zero]; omega
    · omega
    · omega
    · omega
  have e : (1000 : Int32).toInt = 1000 := by decide
  have hm : (ms_cl ms (4 * c + k) * 1000).toInt = (ms_cl ms (4 * c + k)).toInt * 1000 := by
    rw [Int32.toInt_mul, e]
    exact Int.bmod_eq_of_le (by omega) (by omega)
  have q0 : 0 ≤ (ms_cl ms (4 * c + k)).toInt * 1000 / (f_Mo_weightOf Z ms c).toInt := Int.ediv_nonneg (by omega) (by omega)
  have q1 : (ms_cl ms (4 * c + k)).toInt * 1000 / (f_Mo_weightOf Z ms c).toInt ≤ 1000 := Int.ediv_le_of_le_mul hf (by omega)
  have hd : (shv Z ms c k).toInt = (ms_cl ms (4 * c + k)).toInt * 1000 / (f_Mo_weightOf Z ms c).toInt := by
    unfold shv
    rw [Int32.toInt_div, hm, Int.tdiv_eq_ediv_of_nonneg (by omega)]
    exact Int.bmod_eq_of_le (by omega) (by omega)
  rw [hd]
  exact ⟨rfl, q0, q1⟩
theorem shv_x {Z c k : Nat} {ms : mS} (bK : sbK Z ms) (hc : c < 6) (hk : k < 4) (hf : fil Z ms c = true) : ((ms_cl ms (4 * c + k)).toInt64 * 1000 / (f_Mo_weightOf Z ms c).toInt64).toInt32 = shv Z ms c k := by
  have q := shv_b bK hc hk hf
  have cb := cellb hc hk bK
  have e1 : ((ms_cl ms (4 * c + k)).toInt64).toInt = (ms_cl ms (4 * c + k)).toInt := Int32.toInt_toInt64 _
  have e2 : ((f_Mo_weightOf Z ms c).toInt64).toInt = (f_Mo_weightOf Z ms c).toInt := Int32.toInt_toInt64 _
  have hm : ((ms_cl ms (4 * c + k)).toInt64 * 1000).toInt = (ms_cl ms (4 * c + k)).toInt * 1000 := by
    rw [Int64.toInt_mul, e1, i64t]
    exact Int.bmod_eq_of_le (by omega) (by omega)
  apply Int32.toInt_inj.mp
  rw [Int64.toInt_toInt32, Int64.toInt_div, hm, e2, Int.tdiv_eq_ediv_of_nonneg (by omega), ← q.1]
  rw [Int.bmod_eq_of_le (n := (shv Z ms c k).toInt) (by omega) (by omega)]
  exact Int.bmod_eq_of_le (by omega) (by omega)
def lkI (Z : Nat) (ms : mS) (L : List Nat) (st : xS) : Prop := xs_fc st = nI L.length ∧ (∀ i, i < L.length → xs_fi st i = nI (L.getD i 0)) ∧ ∀ c k, c ∈ L → k < 4 → xs_ot st c k = shv Z ms c k
theorem l2_e0 {Z c : Nat} {tt t : Int32} {d b : Int64} {ms : mS} : ∀ (n j : Nat) (st : xS), siE0 Z t d b st ms → siE0 Z t d b (lp_look2 Z c tt n j st) ms
  | 0, _, st, h => h
  | n + 1, j, st, h => by
    rw [lp_look2]
    exact l2_e0 n (j + 1) _ (by rw [f0_ot]; exact h)
theorem l2_rd {Z c : Nat} {tt : Int32} : ∀ (n j : Nat) (st : xS), xs_fc (lp_look2 Z c tt n j st) = xs_fc st ∧ xs_fi (lp_look2 Z c tt n j st) = xs_fi st ∧ xs_fo (lp_look2 Z c tt n j st) = xs_fo st ∧ xs_fg (lp_look2 Z c tt n j st) = xs_fg st ∧ ∀ c2 k, xs_ot (lp_look2 Z c tt n j st) c2 k = if c2 = c ∧ j ≤ k ∧ k < j + n then ((xs_ck st c k).toInt64 * 1000 / tt.toInt64).toInt32 else xs_ot st c2 k
  | 0, j, st => ⟨rfl, rfl, rfl, rfl, fun c2 k => by rw [if_neg (by omega)]; rfl⟩
  | n + 1, j, st => by
    rw [lp_look2]
    obtain ⟨h1, h2, h3, h4, h5⟩ := l2_rd (Z := Z) (c := c) (tt := tt) n (j + 1) (xp_ot st c j (((xs_ck st c j).toInt64 * 1000 / tt.toInt64).toInt32))
    refine ⟨h1.trans rx_fc_ot, h2.trans rx_fi_ot, h3.trans rx_fo_ot, h4.trans rx_fg_ot, fun c2 k => ?_⟩
    rw [h5, rx_ck_ot, rx_ot_ot]
    unfold va_up upd
    by_cases e : c2 = c
    · subst e
      rw [if_pos rfl]
      by_cases e2 : k = j
      · subst e2
        rw [if_neg (by omega), if_pos rfl, if_pos (by omega)]
      · by_cases e3 : j + 1 ≤ k ∧ k < j + 1 + n
        · rw [if_pos ⟨rfl, e3⟩, if_pos (by omega)]
        · rw [if_neg (by omega), if_neg e2, if_neg (by omega)]
    · rw [if_neg (by omega), if_neg e, if_neg (by omega)]
theorem nI6c {n : Nat} (h : n ≤ 6) : (nI n).toNatClampNeg = n := by
  have q : ∀ z : Fin 7, (nI z.1).toNatClampNeg = z.1 := by decide
  exact q ⟨n, by omega⟩
theorem getD_app {L : List Nat} {c i : Nat} : (L ++ [c]).getD i 0 = if i = L.length then c else L.getD i 0 := by
  by_cases e : i = L.length
  · rw [if_pos e, e]
    simp
  · rw [if_neg e]
    by_cases e2 : i < L.length
    · rw [List.getD_eq_getElem?_getD, List.getD_eq_getElem?_getD, List.getElem?_append_left e2]
    · rw [List.getD_eq_getElem?_getD, List.getD_eq_getElem?_getD, List.getElem?_eq_none (by rw [List.length_append, List.length_singleton]; omega), List.getElem?_eq_none (by omega)]
theorem lk_ok {Z : Nat} {t : Int32} {d b : Int64} {ms : mS} (bK : sbK Z ms) : ∀ (n j : Nat), j + n = 6 → ∀ (st : xS) (L : List Nat), siE0 Z t d b st ms → lkI Z ms L st → L.length ≤ j → (∀ c, c ∈ L → c < j) → siE0 Z t d b (lp_look Z n j st) ms ∧ lkI Z ms (L ++ (List.range' j n).filter (fil Z ms)) (lp_look Z n j st) ∧ xs_fo (lp_look Z n j st) = xs_fo st ∧ xs_fg (lp_look Z n j st) = xs_fg st
  | 0, j, _, st, L, h, hL, _, _ => by
    rw [List.range'_zero, List.filter_nil, List.append_nil]
    exact ⟨h, hL, rfl, rfl⟩
  | n + 1, j, hj, st, L, h, hL, hl, hm => by
    have hj6 : j < 6 := by omega
    have et : f_Ce_total Z st j = f_Mo_weightOf Z ms j := pu_tw (fun i hi => h.1.2.2.2 j i hj6 hi)
    rw [lp_look, et, List.range'_succ, List.filter_cons]
    by_cases c : f_Mo_weightOf Z ms j ≤ 0
    · have c2 := Int32.le_iff_toInt_le.mp c
      rw [iz32] at c2
      rw [if_pos c, if_neg (show ¬ fil Z ms j = true from fun q => by have := of_decide_eq_true q; omega)]
      exact lk_ok bK n (j + 1) (by omega) st L h hL (by omega) (fun x hx => by have := hm x hx; omega)
    · have c2 : ¬ (f_Mo_weightOf Z ms j).toInt ≤ (0 : Int32).toInt := fun q => c (Int32.le_iff_toInt_le.mpr q)
      rw [iz32] at c2
      have hf : fil Z ms j = true := decide_eq_true (by omega)
      rw [if_neg c, if_pos hf]
      obtain ⟨r1, r2, r3, r4, r5⟩ := l2_rd (Z := Z) (c := j) (tt := f_Mo_weightOf Z ms j) 4 0 st
      have e0 := l2_e0 (c := j) (tt := f_Mo_weightOf Z ms j) 4 0 st h
      generalize hs : lp_look2 Z j (f_Mo_weightOf Z ms j) 4 0 st = s1 at r1 r2 r3 r4 r5 e0 ⊢
      obtain ⟨k1, k2, k3⟩ := hL
      have ec : (xs_fc s1).toNatClampNeg = L.length := by rw [r1, k1, nI6c (by omega)]
      rw [ec, rx_fc_fi]
      have q := lk_ok bK n (j + 1) (by omega) (xp_fc (xp_fi s1 L.length (nI j)) (xs_fc s1 + 1)) (L ++ [j]) (by rw [f0_fc, f0_fi]; exact e0) (by
        refine ⟨?_, fun i hi => ?_, fun c5 k hc hk => ?_⟩
        · rw [rx_fc_fc, r1, k1, List.length_append, List.length_singleton]
          exact (Int32.ofNat_add _ 1).symm
        · rw [rx_fi_fc, rx_fi_fi, r2, getD_app]
          unfold upd
          by_cases e : i = L.length
          · rw [if_pos e, if_pos e]
          · rw [if_neg e, if_neg e]
            rw [List.length_append, List.length_singleton] at hi
            exact k2 i (by omega)
        · rw [rx_ot_fc, rx_ot_fi, r5]
          rcases List.mem_append.mp hc with hc | hc
          · have := hm c5 hc
            rw [if_neg (by omega)]
            exact k3 c5 k hc hk
          · have hc : c5 = j := List.mem_singleton.mp hc
            rw [hc, if_pos ⟨rfl, by omega⟩, h.1.2.2.2 j k hj6 hk]
            exact shv_x bK hj6 hk hf) (by rw [List.length_append, List.length_singleton]; omega) (fun c hc => by
        rcases List.mem_append.mp hc with hc | hc
        · have := hm c hc; omega
        · have hc : c = j := List.mem_singleton.mp hc
          omega)
      rw [List.append_assoc, List.singleton_append] at q
      obtain ⟨q1, q2, q3, q4⟩ := q
      refine ⟨q1, q2, ?_, ?_⟩
      · rw [q3, rx_fo_fc, rx_fo_fi, r3]
      · rw [q4, rx_fg_fc, rx_fg_fi, r4]
def FL (Z : Nat) (ms : mS) : List Nat := (List.range 6).filter (fil Z ms)
theorem look_ok {Z : Nat} {t : Int32} {d b : Int64} {st : xS} {ms : mS} (bK : sbK Z ms) (h : siE0 Z t d b st ms) : siE0 Z t d b (f_Mi_look Z st) ms ∧ lkI Z ms (FL Z ms) (f_Mi_look Z st) ∧ xs_fo (f_Mi_look Z st) = xs_fo st ∧ xs_fg (f_Mi_look Z st) = xs_fg st := by
  obtain ⟨q1, q2, q3, q4⟩ := lk_ok bK 6 0 rfl (xp_fc st 0) [] (by rw [f0_fc]; exact h) ⟨rx_fc_fc, fun i hi => absurd hi (Nat.not_lt_zero _), fun c k hc _ => absurd hc List.not_mem_nil⟩ (Nat.le_refl _) (fun c hc => absurd hc List.not_mem_nil)
  exact ⟨q1, q2, q3.trans rx_fo_fc, q4.trans rx_fg_fc⟩
theorem FL_6 {Z : Nat} {ms : mS} : (FL Z ms).length ≤ 6 := List.length_filter_le _ _
theorem FL_m {Z c : Nat} {ms : mS} (h : c ∈ FL Z ms) : c < 6 ∧ fil Z ms c = true := ⟨List.mem_range.mp (List.mem_filter.mp h).1, (List.mem_filter.mp h).2⟩
theorem ok_planx {Z k : Nat} {st : xS} {ms : mS} (h : siS Z k st ms) : ∃ qn : Nat, xs_fc (f_Mi_look Z st) = nI qn ∧ qn ≤ 6 ∧ ∀ i, i < qn → ix6 (xs_fi (f_Mi_look Z st) i) := by
  obtain ⟨_, ⟨q1, q2, _⟩, _⟩ := look_ok h.2.1 (siE_in h.1).1
  refine ⟨(FL Z ms).length, q1, FL_6, fun i hi => ?_⟩
  rw [q2 i hi]
  have hm : (FL Z ms).getD i 0 ∈ FL Z ms := by
    rw [List.getD_eq_getElem?_getD, List.getElem?_eq_getElem hi, Option.getD_some]
    exact List.getElem_mem _
  have := (FL_m hm).1
  unfold ix6
  rw [nI6c (by omega)]
  exact ⟨this, rfl⟩
