theorem rx_gs_bk {st : xS} {v : Int64} : xs_gs (xp_bk st v) = xs_gs st := (rfl)
theorem rx_gs_ck {st : xS} {j i : Nat} {v : Int32} : xs_gs (xp_ck st j i v) = xs_gs st := (rfl)
theorem rx_bk_bk {st : xS} {v : Int64} : xs_bk (xp_bk st v) = v := (rfl)
theorem rx_bk_ck {st : xS} {j i : Nat} {v : Int32} : xs_bk (xp_ck st j i v) = xs_bk st := (rfl)
theorem rx_kw_bk {st : xS} {v : Int64} : xs_kw (xp_bk st v) = xs_kw st := (rfl)
theorem rx_kw_ck {st : xS} {j i : Nat} {v : Int32} : xs_kw (xp_ck st j i v) = xs_kw st := (rfl)
theorem rx_ka_bk {st : xS} {v : Int64} : xs_ka (xp_bk st v) = xs_ka st := (rfl)
theorem rx_ka_ck {st : xS} {j i : Nat} {v : Int32} : xs_ka (xp_ck st j i v) = xs_ka st := (rfl)
theorem rx_ck_bk {st : xS} {v : Int64} : xs_ck (xp_bk st v) = xs_ck st := (rfl)
theorem rx_ck_ck {st : xS} {j i : Nat} {v : Int32} : xs_ck (xp_ck st j i v) = va_up (xs_ck st) j (upd (xs_ck st j) i v) := (rfl)
theorem rx_fg_bk {st : xS} {v : Int64} : xs_fg (xp_bk st v) = xs_fg st := (rfl)
theorem rx_fg_ck {st : xS} {j i : Nat} {v : Int32} : xs_fg (xp_ck st j i v) = xs_fg st := (rfl)
theorem rx_fo_bk {st : xS} {v : Int64} : xs_fo (xp_bk st v) = xs_fo st := (rfl)
theorem rx_fo_ck {st : xS} {j i : Nat} {v : Int32} : xs_fo (xp_ck st j i v) = xs_fo st := (rfl)
theorem rm_al_cl {st : mS} {j : Nat} {v : Int32} : ms_al (mp_cl st j v) = ms_al st := (rfl)
theorem rm_ash_al {st : mS} {j : Nat} {v : Int64} : ms_ash (mp_al st j v) = ms_ash st := (rfl)
theorem rm_ash_cl {st : mS} {j : Nat} {v : Int32} : ms_ash (mp_cl st j v) = ms_ash st := (rfl)
theorem rm_cl_al {st : mS} {j : Nat} {v : Int64} : ms_cl (mp_al st j v) = ms_cl st := (rfl)
theorem rm_cl_cl {st : mS} {j : Nat} {v : Int32} : ms_cl (mp_cl st j v) = upd (ms_cl st) j v := (rfl)
theorem rm_cr_al {st : mS} {j : Nat} {v : Int64} : ms_cr (mp_al st j v) = ms_cr st := (rfl)
theorem rm_cr_cl {st : mS} {j : Nat} {v : Int32} : ms_cr (mp_cl st j v) = ms_cr st := (rfl)
theorem rm_pl_al {st : mS} {j : Nat} {v : Int64} : ms_pl (mp_al st j v) = ms_pl st := (rfl)
theorem rm_pl_cl {st : mS} {j : Nat} {v : Int32} : ms_pl (mp_cl st j v) = ms_pl st := (rfl)
theorem rm_ps_al {st : mS} {j : Nat} {v : Int64} : ms_ps (mp_al st j v) = ms_ps st := (rfl)
theorem rm_ps_cl {st : mS} {j : Nat} {v : Int32} : ms_ps (mp_cl st j v) = ms_ps st := (rfl)
theorem rm_ws_al {st : mS} {j : Nat} {v : Int64} : ms_ws (mp_al st j v) = ms_ws st := (rfl)
theorem rm_ws_cl {st : mS} {j : Nat} {v : Int32} : ms_ws (mp_cl st j v) = ms_ws st := (rfl)
theorem fx_G_bk {st : xS} {ms : mS} {v : Int64} : siG (xp_bk st v) ms = siG st ms := (rfl)
theorem fx_G_ck {st : xS} {ms : mS} {j i : Nat} {v : Int32} : siG (xp_ck st j i v) ms = siG st ms := (rfl)
theorem fm_G_cl {st : xS} {ms : mS} {j : Nat} {v : Int32} : siG st (mp_cl ms j v) = siG st ms := (rfl)
theorem fx_T_bk {st : xS} {ms : mS} {Z : Nat} {v : Int64} : siT Z (xp_bk st v) ms = siT Z st ms := (rfl)
theorem fx_T_ck {st : xS} {ms : mS} {Z : Nat} {j i : Nat} {v : Int32} : siT Z (xp_ck st j i v) ms = siT Z st ms := (rfl)
theorem fm_T_cl {st : xS} {ms : mS} {Z : Nat} {j : Nat} {v : Int32} : siT Z st (mp_cl ms j v) = siT Z st ms := (rfl)
theorem fx_H_bk {st : xS} {ms : mS} {v : Int64} : siH (xp_bk st v) ms = siH st ms := (rfl)
theorem fx_H_ck {st : xS} {ms : mS} {j i : Nat} {v : Int32} : siH (xp_ck st j i v) ms = siH st ms := (rfl)
theorem fm_H_al0 {st : xS} {ms : mS} {v : Int64} : siH st (mp_al ms 0 v) = siH st ms := (rfl)
theorem fm_H_cl {st : xS} {ms : mS} {j : Nat} {v : Int32} : siH st (mp_cl ms j v) = siH st ms := (rfl)
theorem fx_L_bk {st : xS} {ms : mS} {v : Int64} : siL (xp_bk st v) ms = siL st ms := (rfl)
theorem fx_L_ck {st : xS} {ms : mS} {j i : Nat} {v : Int32} : siL (xp_ck st j i v) ms = siL st ms := (rfl)
theorem fm_L_cl {st : xS} {ms : mS} {j : Nat} {v : Int32} : siL st (mp_cl ms j v) = siL st ms := (rfl)
theorem fx_C_bk {st : xS} {ms : mS} {v : Int64} : siC (xp_bk st v) ms = siC st ms := (rfl)
theorem fx_C_ck {st : xS} {ms : mS} {j i : Nat} {v : Int32} : siC (xp_ck st j i v) ms = siC st ms := (rfl)
theorem fm_C_cl {st : xS} {ms : mS} {j : Nat} {v : Int32} : siC st (mp_cl ms j v) = siC st ms := (rfl)
theorem fx_M_bk {st : xS} {ms : mS} {Z : Nat} {v : Int64} : siM Z (xp_bk st v) ms = siM Z st ms := (rfl)
theorem fx_M_ck {st : xS} {ms : mS} {Z : Nat} {j i : Nat} {v : Int32} : siM Z (xp_ck st j i v) ms = siM Z st ms := (rfl)
theorem fm_M_cl {st : xS} {ms : mS} {Z : Nat} {j : Nat} {v : Int32} : siM Z st (mp_cl ms j v) = siM Z st ms := (rfl)
theorem fx_A_bk {st : xS} {ms : mS} {v : Int64} : siA (xp_bk st v) ms = siA st ms := (rfl)
theorem fx_A_ck {st : xS} {ms : mS} {j i : Nat} {v : Int32} : siA (xp_ck st j i v) ms = siA st ms := (rfl)
theorem fm_A_al0 {st : xS} {ms : mS} {v : Int64} : siA st (mp_al ms 0 v) = siA st ms := (rfl)
theorem fm_A_cl {st : xS} {ms : mS} {j : Nat} {v : Int32} : siA st (mp_cl ms j v) = siA st ms := (rfl)
theorem fx_Z_bk {st : xS} {ms : mS} {Z : Nat} {v : Int64} : siZ Z (xp_bk st v) ms = siZ Z st ms := (rfl)
theorem fx_Z_ck {st : xS} {ms : mS} {Z : Nat} {j i : Nat} {v : Int32} : siZ Z (xp_ck st j i v) ms = siZ Z st ms := (rfl)
theorem fm_Z_cl {st : xS} {ms : mS} {Z : Nat} {j : Nat} {v : Int32} : siZ Z st (mp_cl ms j v) = siZ Z st ms := (rfl)
theorem fx_D_bk {st : xS} {ms : mS} {d : Int64} {v : Int64} : siD d (xp_bk st v) ms = siD d st ms := (rfl)
theorem fx_D_ck {st : xS} {ms : mS} {d : Int64} {j i : Nat} {v : Int32} : siD d (xp_ck st j i v) ms = siD d st ms := (rfl)
theorem fm_D_al0 {st : xS} {ms : mS} {d : Int64} {v : Int64} : siD d st (mp_al ms 0 v) = siD d st ms := (rfl)
theorem fm_D_cl {st : xS} {ms : mS} {d : Int64} {j : Nat} {v : Int32} : siD d st (mp_cl ms j v) = siD d st ms := (rfl)
theorem fx_N_bk {st : xS} {ms : mS} {d : Int64} {v : Int64} : siN d (xp_bk st v) ms = siN d st ms := (rfl)
theorem fx_N_ck {st : xS} {ms : mS} {d : Int64} {j i : Nat} {v : Int32} : siN d (xp_ck st j i v) ms = siN d st ms := (rfl)
theorem fm_N_al0 {st : xS} {ms : mS} {d : Int64} {v : Int64} : siN d st (mp_al ms 0 v) = siN d st ms := (rfl)
theorem fm_N_cl {st : xS} {ms : mS} {d : Int64} {j : Nat} {v : Int32} : siN d st (mp_cl ms j v) = siN d st ms := (rfl)
theorem fx_I_bk {st : xS} {ms : mS} {t : Int32} {v : Int64} : siI t (xp_bk st v) ms = siI t st ms := (rfl)
theorem fx_I_ck {st : xS} {ms : mS} {t : Int32} {j i : Nat} {v : Int32} : siI t (xp_ck st j i v) ms = siI t st ms := (rfl)
theorem fm_I_cl {st : xS} {ms : mS} {t : Int32} {j : Nat} {v : Int32} : siI t st (mp_cl ms j v) = siI t st ms := (rfl)
theorem fb_M_cl {ms : mS} {Z : Nat} {j : Nat} {v : Int32} : sbM Z (mp_cl ms j v) = sbM Z ms := (rfl)
theorem fb_F_cl {ms : mS} {Z : Nat} {B : Int} {j : Nat} {v : Int32} : sbF Z B (mp_cl ms j v) = sbF Z B ms := (rfl)
theorem fx_K_nm {st : xS} {ms : mS} {v : Int32} : siK (xp_nm st v) ms = siK st ms := (rfl)
theorem fx_G_nm {st : xS} {ms : mS} {v : Int32} : siG (xp_nm st v) ms = siG st ms := (rfl)
theorem fx_T_nm {st : xS} {ms : mS} {Z : Nat} {v : Int32} : siT Z (xp_nm st v) ms = siT Z st ms := (rfl)
theorem fx_H_nm {st : xS} {ms : mS} {v : Int32} : siH (xp_nm st v) ms = siH st ms := (rfl)
theorem fx_L_nm {st : xS} {ms : mS} {v : Int32} : siL (xp_nm st v) ms = siL st ms := (rfl)
theorem fx_C_nm {st : xS} {ms : mS} {v : Int32} : siC (xp_nm st v) ms = siC st ms := (rfl)
theorem fx_M_nm {st : xS} {ms : mS} {Z : Nat} {v : Int32} : siM Z (xp_nm st v) ms = siM Z st ms := (rfl)
theorem fx_A_nm {st : xS} {ms : mS} {v : Int32} : siA (xp_nm st v) ms = siA st ms := (rfl)
theorem fx_Z_nm {st : xS} {ms : mS} {Z : Nat} {v : Int32} : siZ Z (xp_nm st v) ms = siZ Z st ms := (rfl)
theorem fx_D_nm {st : xS} {ms : mS} {d : Int64} {v : Int32} : siD d (xp_nm st v) ms = siD d st ms := (rfl)
theorem fx_N_nm {st : xS} {ms : mS} {d : Int64} {v : Int32} : siN d (xp_nm st v) ms = siN d st ms := (rfl)
theorem rx_nm_nm {st : xS} {v : Int32} : xs_nm (xp_nm st v) = v := (rfl)
/-! bunker, run and the readings -/
theorem i32add {a b : Int32} (h0 : 0 ≤ a.toInt) (h1 : 0 ≤ b.toInt) (h2 : a.toInt + b.toInt ≤ 2000000000) : (a + b).toInt = a.toInt + b.toInt := by
  rw [Int32.toInt_add]
  exact Int.bmod_eq_of_le (by omega) (by omega)
theorem weight_b {Z c : Nat} {ms : mS} (hc : c < 6) (bK : sbK Z ms) : (f_Mo_weightOf Z ms c).toInt = (ms_cl ms (4 * c)).toInt + (ms_cl ms (4 * c + 1)).toInt + (ms_cl ms (4 * c + 2)).toInt + (ms_cl ms (4 * c + 3)).toInt ∧ 0 ≤ (f_Mo_weightOf Z ms c).toInt ∧ (f_Mo_weightOf Z ms c).toInt ≤ 100000 := by
  obtain ⟨_, _, k3, k4⟩ := bK
  have h0 := k3 c 0 hc (by decide)
  have h1 := k3 c 1 hc (by decide)
  have h2 := k3 c 2 hc (by decide)
  have h3 := k3 c 3 hc (by decide)
  have h4 := k4 c hc
  rw [Nat.add_zero] at h0
  have e1 := i32add h0 h1 (by omega)
  have e2 := i32add (a := ms_cl ms (4 * c) + ms_cl ms (4 * c + 1)) (b := ms_cl ms (4 * c + 2)) (by omega) h2 (by omega)
  have e3 := i32add (a := ms_cl ms (4 * c) + ms_cl ms (4 * c + 1) + ms_cl ms (4 * c + 2)) (b := ms_cl ms (4 * c + 3)) (by omega) h3 (by omega)
  have e : (f_Mo_weightOf Z ms c).toInt = (ms_cl ms (4 * c)).toInt + (ms_cl ms (4 * c + 1)).toInt + (ms_cl ms (4 * c + 2)).toInt + (ms_cl ms (4 * c + 3)).toInt := by
    rw [pu_weight, e3, e2, e1]
  exact ⟨e, by omega, by omega⟩
/-- a cell's four shares, one of them changed -/
theorem c4_up (f : Nat → Int32) (c c2 i : Nat) (hi : i < 4) (v : Int32) : (upd f (4 * c2 + i) v (4 * c)).toInt + (upd f (4 * c2 + i) v (4 * c + 1)).toInt + (upd f (4 * c2 + i) v (4 * c + 2)).toInt + (upd f (4 * c2 + i) v (4 * c + 3)).toInt = (f (4 * c)).toInt + (f (4 * c + 1)).toInt + (f (4 * c + 2)).toInt + (f (4 * c + 3)).toInt + (if c = c2 then v.toInt - (f (4 * c2 + i)).toInt else 0) := by
  unfold upd
  by_cases e : c = c2
  · subst e
    rw [if_pos rfl]
    rcases (show i = 0 ∨ i = 1 ∨ i = 2 ∨ i = 3 by omega) with rfl | rfl | rfl | rfl
    · rw [if_pos (by omega), if_neg (by omega), if_neg (by omega), if_neg (by omega)]; simp only [Nat.add_zero]; omega
    · rw [if_neg (by omega), if_pos (by omega), if_neg (by omega), if_neg (by omega)]; omega
    · rw [if_neg (by omega), if_neg (by omega), if_pos (by omega), if_neg (by omega)]; omega
    · rw [if_neg (by omega), if_neg (by omega), if_neg (by omega), if_pos (by omega)]; omega
  · rw [if_neg e, if_neg (by omega), if_neg (by omega), if_neg (by omega), if_neg (by omega)]; omega
theorem ck2 {f : Nat → Nat → Int32} {g : Nat → Int32} {c i c2 i2 : Nat} {v w : Int32} (hi : i < 4) (hi2 : i2 < 4) (h : f c i = g (4 * c + i)) (hv : v = w) : va_up f c2 (upd (f c2) i2 v) c i = upd g (4 * c2 + i2) w (4 * c + i) := by
  unfold va_up upd
  by_cases e : c = c2
  · subst e
    rw [if_pos rfl]
    by_cases e2 : i = i2
    · rw [if_pos e2, if_pos (by omega), hv]
    · rw [if_neg e2, if_neg (by omega), h]
  · rw [if_neg e, if_neg (by omega), h]
theorem siE_bunk {Z c i : Nat} {t v : Int32} {d b : Int64} {st : xS} {ms : mS} (hc : c < 6) (hi : i < 4) (h : siE Z t d b st ms) : siE Z t d b (xp_bk (xp_ck st c i (xs_ck st c i + v)) (xs_bk st + v.toInt64)) (mp_al (mp_cl ms (4 * c + i) (ms_cl ms (4 * c + i) + v)) 0 (ms_al ms 0 + v.toInt64)) := by
  obtain ⟨hK, hG, hT, hH, hL, hC, hM, hA, hZ, hD, hN, hI⟩ := h
  refine ⟨?_, ?_, ?_, ?_, ?_, ?_, ?_, ?_, ?_, ?_, ?_, ?_⟩
  · simp only [siK, updL_eq, rx_gs_bk, rx_gs_ck, rx_bk_bk, rx_bk_ck, rx_kw_bk, rx_kw_ck, rx_ka_bk, rx_ka_ck, rx_ck_bk, rx_ck_ck, rx_fg_bk, rx_fg_ck, rx_fo_bk, rx_fo_ck, rm_al_al, rm_al_cl, rm_ash_al, rm_ash_cl, rm_cl_al, rm_cl_cl, rm_cr_al, rm_cr_cl, rm_pl_al, rm_pl_cl, rm_ps_al, rm_ps_cl, rm_ws_al, rm_ws_cl]
    rw [hK.2.1]
    exact ⟨hK.1, rfl, hK.2.2.1, fun c2 i2 hc2 hi2 => ck2 hi2 hi (hK.2.2.2.1 c2 i2 hc2 hi2) (by rw [hK.2.2.2.1 c i hc hi]), hK.2.2.2.2⟩
  · simp only [fx_G_bk, fx_G_ck, fm_G_al, fm_G_cl]
    exact hG
  · simp only [fx_T_bk, fx_T_ck, fm_T_al, fm_T_cl]
    exact hT
  · simp only [fx_H_bk, fx_H_ck, fm_H_al0, fm_H_cl]
    exact hH
  · simp only [fx_L_bk, fx_L_ck, fm_L_al, fm_L_cl]
    exact hL
  · simp only [fx_C_bk, fx_C_ck, fm_C_al, fm_C_cl]
    exact hC
  · simp only [fx_M_bk, fx_M_ck, fm_M_al, fm_M_cl]
    exact hM
  · simp only [fx_A_bk, fx_A_ck, fm_A_al0, fm_A_cl]
    exact hA
  · simp only [fx_Z_bk, fx_Z_ck, fm_Z_al, fm_Z_cl]
    exact hZ
  · simp only [fx_D_bk, fx_D_ck, fm_D_al0, fm_D_cl]
    exact hD
  · simp only [fx_N_bk, fx_N_ck, fm_N_al0, fm_N_cl]
    exact hN
  · simp only [fx_I_bk, fx_I_ck, fm_I_al, fm_I_cl]
    exact hI
theorem siB_bunk {Z c i : Nat} {B : Int} {v : Int32} {u : Int64} {ms : mS} (hc : c < 6) (hi : i < 4) (h0 : 0 ≤ v.toInt) (h1 : (f_Mo_weightOf Z ms c).toInt + v.toInt ≤ 100000) (hB : siB Z B ms) : siB Z B (mp_al (mp_cl ms (4 * c + i) (ms_cl ms (4 * c + i) + v)) 0 u) := by
  obtain ⟨bK, bM, bF⟩ := hB
  refine ⟨?_, ?_, ?_⟩
  · simp only [sbK, rm_ash_al, rm_ash_cl, rm_cl_al, rm_cl_cl, rm_cr_al, rm_cr_cl, rm_ws_al, rm_ws_cl]
    have hw := (weight_b hc bK).1
    obtain ⟨k1, k2, k3, k4⟩ := bK
    have g0 := k3 c 0 hc (by decide)
    have g1 := k3 c 1 hc (by decide)
    have g2 := k3 c 2 hc (by decide)
    have g3 := k3 c 3 hc (by decide)
    rw [Nat.add_zero] at g0
    have gi := k3 c i hc hi
    have gi2 : (ms_cl ms (4 * c + i)).toInt ≤ (ms_cl ms (4 * c)).toInt + (ms_cl ms (4 * c + 1)).toInt + (ms_cl ms (4 * c + 2)).toInt + (ms_cl ms (4 * c + 3)).toInt := by
      rcases (show i = 0 ∨ i = 1 ∨ i = 2 ∨ i = 3 by omega) with rfl | rfl | rfl | rfl
      · rw [Nat.add_zero]; omega
      · omega
      · omega
      · omega
    have ha := i32add gi h0 (by omega)
    refine ⟨k1, k2, fun c2 i2 hc2 hi2 => ?_, fun c2 hc2 => ?_⟩
    · unfold upd
      by_cases e : 4 * c2 + i2 = 4 * c + i
      · rw [if_pos e, ha]; omega
      · rw [if_neg e]; exact k3 c2 i2 hc2 hi2
    · rw [c4_up _ _ _ _ hi, ha]
      have := k4 c2 hc2
      by_cases e : c2 = c
      · subst e; rw [if_pos rfl]; omega
      · rw [if_neg e]; omega
  · simp only [fb_M_al, fb_M_cl]
    exact bM
  · simp only [fb_F_al, fb_F_cl]
    exact bF
theorem ok_bunker {Z k : Nat} {st : xS} {ms : mS} (a b d : Int32) (h : siS Z k st ms) : siR Z (k + 1) (f_GL_bunker Z st a b d) (f_Mo_bunker Z ms a b d) := by
  have no : siR Z (k + 1) ((0 : Int32), st) ((0 : Int32), ms) := ⟨rfl, siS_up h⟩
  have e : (100000 : Int32).toInt = 100000 := by decide
  unfold f_GL_bunker f_Mo_bunker
  simp only [rx_bk_ck, rm_al_cl]
  refine if2 (R := siR Z (k + 1)) ((gc a).trans (mc a).symm) (fun _ => no) (fun c1 => ?_)
  refine if2 (R := siR Z (k + 1)) ((gk b).trans (mk b).symm) (fun _ => no) (fun c2 => ?_)
  refine if2 (R := siR Z (k + 1)) ((wi d 0 100000).trans (ii d 0 100000).symm) (fun _ => no) (fun c3 => ?_)
  have c1 : 0 ≤ a.toInt ∧ a.toInt ≤ 5 := Decidable.not_not.mp (fun q => c1 ((gc a).mpr q))
  have c2 : 0 ≤ b.toInt ∧ b.toInt ≤ 3 := Decidable.not_not.mp (fun q => c2 ((gk b).mpr q))
  have c3 : 0 ≤ d.toInt ∧ d.toInt ≤ 100000 := Decidable.not_not.mp (fun q => c3 ((wi d 0 100000).mpr q))
  have ha : a.toNatClampNeg < 6 := by rw [cln]; omega
  have hb : b.toNatClampNeg < 4 := by rw [cln]; omega
  rw [pu_tw (Z := Z) (st := st) (ms := ms) (fun i hi => h.1.1.2.2.2.1 _ i ha hi)]
  refine if2 (R := siR Z (k + 1)) Iff.rfl (fun c4 => ?_) (fun _ => no)
  have hw := weight_b ha h.2.1
  have c4 := Int32.le_iff_toInt_le.mp c4
  rw [i32add hw.2.1 c3.1 (by omega), e] at c4
  exact ⟨rfl, siS_mk (siE_bunk ha hb h.1) (siB_bunk ha hb c3.1 c4 h.2)⟩
theorem nI_cln {a : Int32} (h : 0 ≤ a.toInt) : nI a.toNatClampNeg = a := by
  apply Int32.toInt_inj.mp
  have h2 := a.toInt_lt
  show (Int32.ofNat a.toNatClampNeg).toInt = a.toInt
  rw [Int32.toInt_ofNat', cln, show Int32.size = 4294967296 from rfl]
  exact (Int.bmod_eq_of_le (by omega) (by omega)).trans (by omega)
theorem siE_nm {Z : Nat} {t v : Int32} {d b : Int64} {st : xS} {ms : mS} (hv : v = xs_nm st + t) (h : siE Z t d b st ms) : siE Z 0 d b (xp_nm st v) (ms) := by
  obtain ⟨hK, hG, hT, hH, hL, hC, hM, hA, hZ, hD, hN, hI⟩ := h
  refine ⟨?_, ?_, ?_, ?_, ?_, ?_, ?_, ?_, ?_, ?_, ?_, ?_⟩
  · simp only [fx_K_nm]
    exact hK
  · simp only [fx_G_nm]
    exact hG
  · simp only [fx_T_nm]
    exact hT
  · simp only [fx_H_nm]
    exact hH
  · simp only [fx_L_nm]
    exact hL
  · simp only [fx_C_nm]
    exact hC
  · simp only [fx_M_nm]
    exact hM
  · simp only [fx_A_nm]
    exact hA
  · simp only [fx_Z_nm]
    exact hZ
  · simp only [fx_D_nm]
    exact hD
  · simp only [fx_N_nm]
    exact hN
  · simp only [siI, rx_nm_nm]
    rw [hv, Int32.add_zero]
    exact hI
theorem ok_run {Z k : Nat} {st : xS} {ms : mS} (hZ : 1 ≤ Z ∧ Z ≤ 6) (hk : k ≤ 511) (a : Int32) (h : siS Z k st ms) : siR Z (k + 1) (f_GL_run Z st a) (f_Mo_run Z ms a) := by
  have no : siR Z (k + 1) ((-1 : Int32), st) ((-1 : Int32), ms) := ⟨rfl, siS_up h⟩
  unfold f_GL_run f_Mo_run
  refine if2 (R := siR Z (k + 1)) ((wi a 1 1000).trans (ii a 1 1000).symm) (fun _ => no) (fun _ => ?_)
  have hI : xs_nm st + 0 = ms_mi ms := h.1.2.2.2.2.2.2.2.2.2.2.2
  rw [Int32.add_zero] at hI
  rw [hI]
  refine if2 (R := siR Z (k + 1)) Iff.rfl (fun _ => ?_) (fun _ => no)
  obtain ⟨h1, b1⟩ := run_ok (B := 10000 * (k : Int)) a.toNatClampNeg a.toNatClampNeg hZ (by omega) a.toNatClampNeg 0 0 0 st ms h.1 h.2
  have e0 : (0 : Int32) + nI a.toNatClampNeg = nI a.toNatClampNeg := Int32.zero_add _
  rw [e0] at h1
  refine ⟨?_, siS_mk (siE_nm rfl h1) b1⟩
  show xs_nm (xp_nm (lp_run Z a.toNatClampNeg a.toNatClampNeg 0 st) (xs_nm (lp_run Z a.toNatClampNeg a.toNatClampNeg 0 st) + nI a.toNatClampNeg)) = ms_mi (lm_run Z a.toNatClampNeg a.toNatClampNeg 0 ms)
  rw [rx_nm_nm]
  exact h1.2.2.2.2.2.2.2.2.2.2.2
theorem ok_bed {Z k : Nat} {st : xS} {ms : mS} (hZ : Z ≤ 6) (a b : Int32) (h : siS Z k st ms) : f_GL_bed Z st a b = f_Mo_bed Z ms a b := by
  unfold f_GL_bed f_Mo_bed
  refine if2 (R := fun x y => x = y) ((gz hZ st a).trans (mz hZ ms a).symm) (fun _ => rfl) (fun c1 => ?_)
  have c1 : 0 ≤ a.toInt ∧ a.toInt < Z := Decidable.not_not.mp (fun q => c1 ((gz hZ st a).mpr q))
  have hj : a.toNatClampNeg < Z := by rw [cln]; omega
  obtain ⟨g1, g2, g3⟩ := h.1.2.2.2.2.2.2.2.2.1 _ hj
  rw [g1, g2, g3, h.1.2.2.2.2.2.2.1.2 _ hj]
theorem lit {a : Int32} (n : Nat) (v : Int32) (hv : v.toInt = n) (h : a.toInt = n) : a = v := Int32.toInt_inj.mp (by rw [h, hv])
theorem ok_gas {Z k : Nat} {st : xS} {ms : mS} (a : Int32) (h : siS Z k st ms) : f_GL_gas Z st a = f_Mo_gas Z ms a := by
  obtain ⟨g1, g2, g3, g4, g5⟩ := h.1.2.2.2.2.1
  unfold f_GL_gas f_Mo_gas
  by_cases c : 0 ≤ a.toInt ∧ a.toInt ≤ 3
  · rw [if_neg (fun q => (ii a 0 3).mp q c)]
    rcases (show a.toInt = (0 : Nat) ∨ a.toInt = (1 : Nat) ∨ a.toInt = (2 : Nat) ∨ a.toInt = (3 : Nat) by omega) with e | e | e | e
    · rw [lit 0 0 (by decide) e]; exact g1
    · rw [lit 1 1 (by decide) e]; exact g2
    · rw [lit 2 2 (by decide) e]; exact g3
    · rw [lit 3 3 (by decide) e]; exact g4
  · rw [if_pos ((ii a 0 3).mpr c)]
    rw [if_neg (fun q => c (by rw [q]; decide)), if_neg (fun q => c (by rw [q]; decide)), if_neg (fun q => c (by rw [q]; decide)), if_neg (fun q => c (by rw [q]; decide))]
theorem ok_output {Z k : Nat} {st : xS} {ms : mS} (a : Int32) (h : siS Z k st ms) : f_GL_output Z st a = f_Mo_output Z ms a := by
  unfold f_GL_output f_Mo_output
  refine if2 (R := fun x y => x = y) ((gct a).trans (ii a 0 1).symm) (fun _ => rfl) (fun c1 => ?_)
  have c1 : 0 ≤ a.toInt ∧ a.toInt ≤ 1 := Decidable.not_not.mp (fun q => c1 ((gct a).mpr q))
  have hj : a.toNatClampNeg < 2 := by rw [cln]; omega
  rw [(h.1.2.2.1.2.2.2.2.1 _ hj).1, (h.1.2.2.2.2.2.1 _ hj).1]
theorem ok_burning {Z k : Nat} {st : xS} {ms : mS} (h : siS Z k st ms) : f_GL_burning Z st = f_Mo_burning Z ms := by
  unfold f_GL_burning f_Mo_burning
  rw [h.1.2.2.2.2.1.2.2.2.2]
theorem ok_ash {Z k : Nat} {st : xS} {ms : mS} (a : Int32) (h : siS Z k st ms) : f_GL_ash Z st a = f_Mo_ash Z ms a := by
  obtain ⟨g1, g2, g3, g4, g5⟩ := h.1.2.2.2.1
  obtain ⟨q1, q2⟩ := h.1.2.2.2.2.2.2.2.1
  have q3 : xs_dA st + 0 = ms_al ms 1 := h.1.2.2.2.2.2.2.2.2.2.1
  have q4 : xs_bA st + 0 = ms_al ms 2 := h.1.2.2.2.2.2.2.2.2.2.2.1
  rw [Int64.add_zero] at q3 q4
  unfold f_GL_ash f_Mo_ash
  by_cases c : 0 ≤ a.toInt ∧ a.toInt ≤ 9
  · rw [if_neg (fun q => (ii a 0 9).mp q c)]
    rcases (show a.toInt = (0 : Nat) ∨ a.toInt = (1 : Nat) ∨ a.toInt = (2 : Nat) ∨ a.toInt = (3 : Nat) ∨ a.toInt = (4 : Nat) ∨ a.toInt = (5 : Nat) ∨ a.toInt = (6 : Nat) ∨ a.toInt = (7 : Nat) ∨ a.toInt = (8 : Nat) ∨ a.toInt = (9 : Nat) by omega) with e | e | e | e | e | e | e | e | e | e
    · rw [lit 0 0 (by decide) e]; exact h.1.1.2.1
    · rw [lit 1 1 (by decide) e]; exact q3
    · rw [lit 2 2 (by decide) e]; exact q4
    · rw [lit 3 3 (by decide) e]; exact q1
    · rw [lit 4 4 (by decide) e]; exact q2
    · rw [lit 5 5 (by decide) e]; exact g2
    · rw [lit 6 6 (by decide) e]; exact g3
    · rw [lit 7 7 (by decide) e]; exact g4
    · rw [lit 8 8 (by decide) e]; exact g5
    · rw [lit 9 9 (by decide) e]; exact g1
  · rw [if_pos ((ii a 0 9).mpr c)]
    rw [if_neg (fun q => c (by rw [q]; decide)), if_neg (fun q => c (by rw [q]; decide)), if_neg (fun q => c (by rw [q]; decide)), if_neg (fun q => c (by rw [q]; decide)), if_neg (fun q => c (by rw [q]; decide)), if_neg (fun q => c (by rw [q]; decide)), if_neg (fun q => c (by rw [q]; decide)), if_neg (fun q => c (by rw [q]; decide)), if_neg (fun q => c (by rw [q]; decide)), if_neg (fun q => c (by rw [q]; decide))]
theorem rsum (r s w : Int64) : (r - w) + (s + w) = r + s := by
  rw [Int64.sub_eq_add_neg, Int64.add_comm s w, ← Int64.add_assoc, Int64.add_assoc r, Int64.add_left_neg, Int64.add_zero]
theorem bal1 {Z : Nat} {a : Int32} {st : xS} {ms : mS} (h : ∀ c i, c < 6 → i < 4 → xs_ck st c i = ms_cl ms (4 * c + i)) : ∀ (n j : Nat), j + n ≤ 6 → ∀ r s : Int64, lm_bal1 Z a n j r ms + lp_inCells Z n j s st = r + s
  | 0, _, _, r, s => rfl
  | n + 1, j, hj, r, s => by
    rw [lm_bal1, lp_inCells, pu_tw (Z := Z) (st := st) (ms := ms) (fun i hi => h j i (by omega) hi), bal1 h n (j + 1) (by omega), rsum]
theorem bal2 {Z : Nat} {a : Int32} {st : xS} {ms : mS} (h : siG st ms) : ∀ (n j : Nat), j + n ≤ 4 → ∀ r s : Int64, lm_bal2 Z a n j r ms + lp_grabbed Z n j s st = r + s
  | 0, _, _, r, s => rfl
  | n + 1, j, hj, r, s => by
    rw [lm_bal2, lp_grabbed, h j (by omega), bal2 h n (j + 1) (by omega), rsum]
theorem bal3 {Z : Nat} {a : Int32} {st : xS} {ms : mS} (h : siZ Z st ms) : ∀ (n j : Nat), j + n ≤ Z → ∀ r s : Int64, lm_bal3 Z a n j r ms + lp_lying Z n j s st = r + s
  | 0, _, _, r, s => rfl
  | n + 1, j, hj, r, s => by
    obtain ⟨g1, g2, g3⟩ := h j (by omega)
    rw [lm_bal3, lp_lying, g1, g2, g3, bal3 h n (j + 1) (by omega), rsum]
theorem rmv {x y r : Int64} (h : x + y = r + 0) : x = r - y := by
  rw [Int64.add_zero] at h
  rw [← h, Int64.sub_eq_add_neg, Int64.add_assoc, Int64.add_right_neg, Int64.add_zero]
theorem ok_balance {Z k : Nat} {st : xS} {ms : mS} (a : Int32) (h : siS Z k st ms) : f_GL_balance Z st a = f_Mo_balance Z ms a := by
  obtain ⟨g1, g2, g3, g4, g5⟩ := h.1.2.2.2.1
  obtain ⟨q1, q2⟩ := h.1.2.2.2.2.2.2.2.1
  have q3 : xs_dA st + 0 = ms_al ms 1 := h.1.2.2.2.2.2.2.2.2.2.1
  have q4 : xs_bA st + 0 = ms_al ms 2 := h.1.2.2.2.2.2.2.2.2.2.2.1
  rw [Int64.add_zero] at q3 q4
  unfold f_GL_balance f_Mo_balance
  by_cases c0 : a = 0
  · subst c0
    rw [if_pos rfl, if_neg (by decide), if_pos rfl, rmv (bal3 h.1.2.2.2.2.2.2.2.2.1 Z 0 (by omega) _ 0), rmv (bal2 h.1.2.1 4 0 (by omega) _ 0), rmv (bal1 h.1.1.2.2.2.1 6 0 (by omega) _ 0)]
    unfold f_GL_inCells f_GL_grabbed f_Gr_lying f_Gr_gone
    rw [q1, q2, q3, q4, h.1.1.2.1]
    grind
  · rw [if_neg c0]
    by_cases c1 : a = 1
    · rw [if_pos c1, if_pos c1]
      unfold f_Fu_imbalance
      rw [g1, g2, g3, g4, g5]
    · rw [if_neg c1, if_neg c1, if_neg c0]
