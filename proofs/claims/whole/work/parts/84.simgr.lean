theorem rm_pe_cl {st : mS} {j : Nat} {v : Int32} : ms_pe (mp_cl st j v) = ms_pe st := (rfl)
theorem rx_kg_ck {st : xS} {j i : Nat} {v : Int32} : xs_kg (xp_ck st j i v) = xs_kg st := (rfl)
theorem rm_cl_pe {st : mS} {j : Nat} {v : Int32} : ms_cl (mp_pe st j v) = ms_cl st := (rfl)
theorem rx_gs_kg {st : xS} {j : Nat} {v : Int64} : xs_gs (xp_kg st j v) = xs_gs st := (rfl)
theorem rx_bk_kg {st : xS} {j : Nat} {v : Int64} : xs_bk (xp_kg st j v) = xs_bk st := (rfl)
theorem rx_kw_kg {st : xS} {j : Nat} {v : Int64} : xs_kw (xp_kg st j v) = xs_kw st := (rfl)
theorem rx_ka_kg {st : xS} {j : Nat} {v : Int64} : xs_ka (xp_kg st j v) = xs_ka st := (rfl)
theorem rx_ck_kg {st : xS} {j : Nat} {v : Int64} : xs_ck (xp_kg st j v) = xs_ck st := (rfl)
theorem rx_fg_kg {st : xS} {j : Nat} {v : Int64} : xs_fg (xp_kg st j v) = xs_fg st := (rfl)
theorem rx_fo_kg {st : xS} {j : Nat} {v : Int64} : xs_fo (xp_kg st j v) = xs_fo st := (rfl)
theorem rm_al_pe {st : mS} {j : Nat} {v : Int32} : ms_al (mp_pe st j v) = ms_al st := (rfl)
theorem rm_ash_pe {st : mS} {j : Nat} {v : Int32} : ms_ash (mp_pe st j v) = ms_ash st := (rfl)
theorem rm_cr_pe {st : mS} {j : Nat} {v : Int32} : ms_cr (mp_pe st j v) = ms_cr st := (rfl)
theorem rm_pl_pe {st : mS} {j : Nat} {v : Int32} : ms_pl (mp_pe st j v) = ms_pl st := (rfl)
theorem rm_ps_pe {st : mS} {j : Nat} {v : Int32} : ms_ps (mp_pe st j v) = ms_ps st := (rfl)
theorem rm_ws_pe {st : mS} {j : Nat} {v : Int32} : ms_ws (mp_pe st j v) = ms_ws st := (rfl)
theorem fx_Z_kg {st : xS} {ms : mS} {Z : Nat} {j : Nat} {v : Int64} : siZ Z (xp_kg st j v) ms = siZ Z st ms := (rfl)
theorem fm_Z_pe {st : xS} {ms : mS} {Z : Nat} {j : Nat} {v : Int32} : siZ Z st (mp_pe ms j v) = siZ Z st ms := (rfl)
theorem rm_fu_cl {st : mS} {j : Nat} {v : Int32} : ms_fu (mp_cl st j v) = ms_fu st := (rfl)
/-! the grab -/
def gp (x : Int) : Int := if 0 < x then 1 else 0
def gF (f : Nat → Int) : Nat → Int
  | 0 => 0
  | j + 1 => gF f j + gp (f j)
def gS (f : Nat → Int) : Nat → Nat → Int
  | 0, _ => 0
  | n + 1, j => gp (f j) + gS f n (j + 1)
def gT (f : Nat → Int) : Nat → Nat → Int
  | 0, _ => 0
  | n + 1, j => f j + gT f n (j + 1)
theorem gF_c {f g : Nat → Int} : ∀ j, (∀ i, i < j → f i = g i) → gF f j = gF g j
  | 0, _ => rfl
  | j + 1, h => by rw [gF, gF, gF_c j (fun i hi => h i (by omega)), h j (by omega)]
theorem gS_c {f g : Nat → Int} : ∀ n j, (∀ i, j ≤ i → f i = g i) → gS f n j = gS g n j
  | 0, _, _ => rfl
  | n + 1, j, h => by rw [gS, gS, gS_c n (j + 1) (fun i hi => h i (by omega)), h j (by omega)]
theorem gT_c {f g : Nat → Int} : ∀ n j, (∀ i, j ≤ i → f i = g i) → gT f n j = gT g n j
  | 0, _, _ => rfl
  | n + 1, j, h => by rw [gT, gT, gT_c n (j + 1) (fun i hi => h i (by omega)), h j (by omega)]
theorem gFS (f : Nat → Int) : gF f 4 = gS f 4 0 := by
  show 0 + gp (f 0) + gp (f 1) + gp (f 2) + gp (f 3) = gp (f 0) + (gp (f 1) + (gp (f 2) + (gp (f 3) + 0)))
  omega
theorem gT_nn {f : Nat → Int} : ∀ n j, (∀ i, j ≤ i → i < j + n → 0 ≤ f i) → 0 ≤ gT f n j
  | 0, _, _ => Int.le_refl 0
  | n + 1, j, h => by
    rw [gT]
    have h1 := h j (by omega) (by omega)
    have h2 := gT_nn n (j + 1) (fun i hi hi2 => h i (by omega) (by omega))
    omega
def gC (ms : mS) (c : Nat) : Nat → Int := fun i => (ms_cl ms (4 * c + i)).toInt
def mTk (ms : mS) (c k : Nat) (v : Int32) : mS := mp_pe (mp_cl ms (4 * c + k) (ms_cl ms (4 * c + k) - v)) k (ms_pe ms k + v)
def cTk (st : xS) (c k : Nat) (v : Int32) : xS := xp_kg (xp_ck st c k (xs_ck st c k - v)) k (xs_kg st k + v.toInt64)
theorem take_s (Z : Nat) (ms : mS) (c k : Nat) (v : Int32) : f_Mo_take Z ms c k v = mTk ms c k v := by
  unfold f_Mo_take mTk
  rw [rm_pe_cl]
theorem hand_s (Z : Nat) (st : xS) (c k : Nat) (v : Int32) : f_Ce_hand Z st c k k v = cTk st c k v := by
  unfold f_Ce_hand cTk
  rw [rx_kg_ck]
theorem i32sub {a b : Int32} (h0 : -100000 ≤ a.toInt) (h1 : -100000 ≤ b.toInt) (h2 : a.toInt ≤ 100000) (h3 : b.toInt ≤ 100000) : (a - b).toInt = a.toInt - b.toInt := by
  rw [Int32.toInt_sub]
  exact Int.bmod_eq_of_le (by omega) (by omega)
theorem gC_tk {ms : mS} {c k i : Nat} {v : Int32} (hi : i ≠ k) : gC (mTk ms c k v) c i = gC ms c i := by
  unfold gC mTk
  rw [rm_cl_pe, rm_cl_cl]
  unfold upd
  rw [if_neg (by omega)]
theorem gC_tk2 {ms : mS} {c k : Nat} {v : Int32} (h : (ms_cl ms (4 * c + k) - v).toInt = (ms_cl ms (4 * c + k)).toInt - v.toInt) : gC (mTk ms c k v) c k = gC ms c k - v.toInt := by
  unfold gC mTk
  rw [rm_cl_pe, rm_cl_cl]
  unfold upd
  rw [if_pos rfl, h]
theorem cellb {Z c i : Nat} {ms : mS} (hc : c < 6) (hi : i < 4) (bK : sbK Z ms) : 0 ≤ (ms_cl ms (4 * c + i)).toInt ∧ (ms_cl ms (4 * c + i)).toInt ≤ 100000 := by
  have g0 := bK.2.2.1 c 0 hc (by decide)
  have g1 := bK.2.2.1 c 1 hc (by decide)
  have g2 := bK.2.2.1 c 2 hc (by decide)
  have g3 := bK.2.2.1 c 3 hc (by decide)
  have g4 := bK.2.2.2 c hc
  rw [Nat.add_zero] at g0
  refine ⟨bK.2.2.1 c i hc hi, ?_⟩
  rcases (show i = 0 ∨ i = 1 ∨ i = 2 ∨ i = 3 by omega) with rfl | rfl | rfl | rfl
  · rw [Nat.add_zero]; omega
  · omega
  · omega
  · omega
theorem siE_tk {Z c k : Nat} {t v : Int32} {d b : Int64} {st : xS} {ms : mS} (hc : c < 6) (hk : k < 4) (hp : (ms_pe ms k + v).toInt64 = (ms_pe ms k).toInt64 + v.toInt64) (h : siE Z t d b st ms) : siE Z t d b (cTk st c k v) (mTk ms c k v) := by
  obtain ⟨hK, hG, hT, hH, hL, hC, hM, hA, hZ, hD, hN, hI⟩ := h
  refine ⟨?_, ?_, ?_, ?_, ?_, ?_, ?_, ?_, ?_, ?_, ?_, ?_⟩
  · simp only [siK, cTk, mTk, rx_gs_kg, rx_gs_ck, rx_bk_kg, rx_bk_ck, rx_kw_kg, rx_kw_ck, rx_ka_kg, rx_ka_ck, rx_ck_kg, rx_ck_ck, rx_fg_kg, rx_fg_ck, rx_fo_kg, rx_fo_ck, rm_al_cl, rm_al_pe, rm_ash_cl, rm_ash_pe, rm_cl_cl, rm_cl_pe, rm_cr_cl, rm_cr_pe, rm_pl_cl, rm_pl_pe, rm_ps_cl, rm_ps_pe, rm_ws_cl, rm_ws_pe]
    exact ⟨hK.1, hK.2.1, hK.2.2.1, fun c2 i2 hc2 hi2 => ck2 hi2 hk (hK.2.2.2.1 c2 i2 hc2 hi2) (by rw [hK.2.2.2.1 c k hc hk]), hK.2.2.2.2⟩
  · intro i hi
    simp only [cTk, mTk, rx_kg_kg, rx_kg_ck, rm_pe_cl, rm_pe_pe]
    unfold vp_updL upd
    by_cases e : i = k
    · rw [if_pos e, if_pos e, hp, hG k hk]
    · rw [if_neg e, if_neg e]; exact hG i hi
  · simp only [cTk, mTk, fx_T_kg, fx_T_ck, fm_T_cl, fm_T_pe]
    exact hT
  · simp only [cTk, mTk, fx_H_kg, fx_H_ck, fm_H_cl, fm_H_pe]
    exact hH
  · simp only [cTk, mTk, fx_L_kg, fx_L_ck, fm_L_cl, fm_L_pe]
    exact hL
  · simp only [cTk, mTk, fx_C_kg, fx_C_ck, fm_C_cl, fm_C_pe]
    exact hC
  · simp only [cTk, mTk, fx_M_kg, fx_M_ck, fm_M_cl, fm_M_pe]
    exact hM
  · simp only [cTk, mTk, fx_A_kg, fx_A_ck, fm_A_cl, fm_A_pe]
    exact hA
  · simp only [cTk, mTk, fx_Z_kg, fx_Z_ck, fm_Z_cl, fm_Z_pe]
    exact hZ
  · simp only [cTk, mTk, fx_D_kg, fx_D_ck, fm_D_cl, fm_D_pe]
    exact hD
  · simp only [cTk, mTk, fx_N_kg, fx_N_ck, fm_N_cl, fm_N_pe]
    exact hN
  · simp only [cTk, mTk, fx_I_kg, fx_I_ck, fm_I_cl, fm_I_pe]
    exact hI
theorem siB_tk {Z c k : Nat} {B : Int} {v : Int32} {ms : mS} (hc : c < 6) (hk : k < 4) (hb : B ≤ 100000000) (v0 : 0 ≤ v.toInt) (v1 : v.toInt ≤ (ms_cl ms (4 * c + k)).toInt) (hB : siB Z B ms) : siB Z (B + v.toInt) (mTk ms c k v) ∧ (ms_pe ms k + v).toInt64 = (ms_pe ms k).toInt64 + v.toInt64 := by
  obtain ⟨bK, bM, bF⟩ := hB
  have cb := cellb hc hk bK
  have hs := i32sub (a := ms_cl ms (4 * c + k)) (b := v) (by omega) (by omega) (by omega) (by omega)
  obtain ⟨f1, f2, f3⟩ := bF
  have hq := (sZ_le (ms_fu ms) Z f2).1
  have p0 := f1 0 (by decide)
  have p1 := f1 1 (by decide)
  have p2 := f1 2 (by decide)
  have p3 := f1 3 (by decide)
  have pk := f1 k hk
  have pk1 : (ms_pe ms k).toInt ≤ (ms_pe ms 0).toInt + (ms_pe ms 1).toInt + (ms_pe ms 2).toInt + (ms_pe ms 3).toInt := by
    rcases (show k = 0 ∨ k = 1 ∨ k = 2 ∨ k = 3 by omega) with rfl | rfl | rfl | rfl <;> omega
  have ha := i32add pk v0 (by omega)
  refine ⟨⟨?_, ?_, ?_⟩, ?_⟩
  · simp only [sbK, mTk, rm_ash_cl, rm_ash_pe, rm_cl_cl, rm_cl_pe, rm_cr_cl, rm_cr_pe, rm_ws_cl, rm_ws_pe]
    obtain ⟨k1, k2, k3, k4⟩ := bK
    refine ⟨k1, k2, fun c2 i2 hc2 hi2 => ?_, fun c2 hc2 => ?_⟩
    · unfold upd
      by_cases e : 4 * c2 + i2 = 4 * c + k
      · rw [if_pos e, hs]; omega
      · rw [if_neg e]; exact k3 c2 i2 hc2 hi2
    · rw [c4_up _ _ _ _ hk, hs]
      have := k4 c2 hc2
      by_cases e : c2 = c
      · subst e; rw [if_pos rfl]; omega
      · rw [if_neg e]; omega
  · simp only [mTk, fb_M_cl, fb_M_pe]
    exact bM
  · refine ⟨fun i hi => ?_, fun j hj => ?_, ?_⟩
    · simp only [mTk, rm_pe_cl, rm_pe_pe]
      unfold upd
      by_cases e : i = k
      · rw [if_pos e, ha]; omega
      · rw [if_neg e]; exact f1 i hi
    · simp only [mTk, rm_fu_cl, rm_fu_pe]
      exact f2 j hj
    · have e4 := s4_up (ms_pe ms) k hk (ms_pe ms k + v)
      rw [ha] at e4
      simp only [mTk, rm_fu_cl, rm_fu_pe, rm_pe_cl, rm_pe_pe]
      omega
  · apply Int64.toInt_inj.mp
    have e1 : ((ms_pe ms k).toInt64).toInt = (ms_pe ms k).toInt := Int32.toInt_toInt64 _
    have e2 : (v.toInt64).toInt = v.toInt := Int32.toInt_toInt64 _
    rw [Int32.toInt_toInt64, ha, i64add (by rw [e1]; exact pk) (by rw [e2]; exact v0) (by rw [e1, e2]; omega), e1, e2]
/-- a kind's share of the grab, rounded down -/
def gO (x wh wt : Int32) : Int32 := (x.toInt64 * wh.toInt64 / wt.toInt64).toInt32
theorem gO_b {x wh wt : Int32} (x0 : 0 ≤ x.toInt) (x1 : x.toInt ≤ 100000) (h0 : 0 ≤ wh.toInt) (h1 : wh.toInt ≤ 10000) (w0 : 0 < wt.toInt) (hw : wh.toInt ≤ wt.toInt) : 0 ≤ (gO x wh wt).toInt ∧ (gO x wh wt).toInt ≤ x.toInt ∧ (gO x wh wt).toInt * wt.toInt ≤ x.toInt * wh.toInt ∧ x.toInt * wh.toInt < (gO x wh wt).toInt * wt.toInt + wt.toInt := by
  have e1 : (x.toInt64).toInt = x.toInt := Int32.toInt_toInt64 _
  have e2 : (wh.toInt64).toInt = wh.toInt := Int32.toInt_toInt64 _
  have e3 : (wt.toInt64).toInt = wt.toInt := Int32.toInt_toInt64 _
  have m0 : 0 ≤ x.toInt * wh.toInt := Int.mul_nonneg x0 h0
  have m1 : x.toInt * wh.toInt ≤ x.toInt * 10000 := Int.mul_le_mul_of_nonneg_left h1 x0
  have m2 : x.toInt * wh.toInt ≤ x.toInt * wt.toInt := Int.mul_le_mul_of_nonneg_left hw x0
  have hm : (x.toInt64 * wh.toInt64).toInt = x.toInt * wh.toInt := by
    rw [Int64.toInt_mul, e1, e2]
    exact Int.bmod_eq_of_le (by omega) (by omega)
  have q0 : 0 ≤ x.toInt * wh.toInt / wt.toInt := Int.ediv_nonneg m0 (by omega)
  have q1 : x.toInt * wh.toInt / wt.toInt ≤ x.toInt := Int.ediv_le_of_le_mul w0 m2
  have hd : (x.toInt64 * wh.toInt64 / wt.toInt64).toInt = x.toInt * wh.toInt / wt.toInt := by
    rw [Int64.toInt_div, hm, e3, Int.tdiv_eq_ediv_of_nonneg m0]
    exact Int.bmod_eq_of_le (by omega) (by omega)
  have hq : (gO x wh wt).toInt = x.toInt * wh.toInt / wt.toInt := by
    unfold gO
    rw [Int64.toInt_toInt32, hd]
    exact Int.bmod_eq_of_le (by omega) (by omega)
  have r1 := Int.ediv_mul_le (x.toInt * wh.toInt) (show wt.toInt ≠ 0 by omega)
  have r2 := Int.lt_ediv_add_one_mul_self (x.toInt * wh.toInt) w0
  rw [Int.add_mul, Int.one_mul] at r2
  rw [hq]
  exact ⟨q0, q1, r1, r2⟩
theorem lm_g1_s (Z c : Nat) (wt wh : Int32) (n j : Nat) (rs : Int32) (ms : mS) (h : ¬ wt ≤ 0) : lm_g1 Z c wt wh (n + 1) j rs ms = lm_g1 Z c wt wh n (j + 1) (rs - gO (ms_cl ms (4 * c + j)) wh wt) (mTk ms c j (gO (ms_cl ms (4 * c + j)) wh wt)) := by
  rw [lm_g1, if_neg h, take_s]
  rfl
theorem lp_give1_s (Z c : Nat) (wt wh : Int32) (n j : Nat) (rs : Int32) (st : xS) : lp_give1 Z c wt wh (n + 1) j rs st = lp_give1 Z c wt wh n (j + 1) (rs - gO (xs_ck st c j) wh wt) (cTk st c j (gO (xs_ck st c j) wh wt)) := by
  rw [lp_give1, hand_s]
  rfl
theorem g1_ok {Z c : Nat} {t wt wh : Int32} {d b : Int64} {B : Int} (hc : c < 6) (hb : B ≤ 90000000) (w0 : 0 < wt.toInt) (w1 : wt.toInt ≤ 100000) (h0 : 0 ≤ wh.toInt) (h1 : wh.toInt ≤ 10000) (hw : wh.toInt ≤ wt.toInt) : ∀ (n j : Nat), j + n = 4 → ∀ (rs : Int32) (st : xS) (ms : mS), siE Z t d b st ms → siB Z (B + wh.toInt - rs.toInt) ms → rs.toInt ≤ wh.toInt → 0 ≤ wt.toInt * rs.toInt - wh.toInt * gT (gC ms c) n j → wt.toInt * rs.toInt - wh.toInt * gT (gC ms c) n j ≤ (wt.toInt - 1) * gF (gC ms c) j → (lp_give1 Z c wt wh n j rs st).1 = (lm_g1 Z c wt wh n j rs ms).1 ∧ siE Z t d b (lp_give1 Z c wt wh n j rs st).2 (lm_g1 Z c wt wh n j rs ms).2 ∧ siB Z (B + wh.toInt - (lm_g1 Z c wt wh n j rs ms).1.toInt) (lm_g1 Z c wt wh n j rs ms).2 ∧ 0 ≤ (lm_g1 Z c wt wh n j rs ms).1.toInt ∧ (lm_g1 Z c wt wh n j rs ms).1.toInt ≤ wh.toInt ∧ (lm_g1 Z c wt wh n j rs ms).1.toInt ≤ gF (gC (lm_g1 Z c wt wh n j rs ms).2 c) 4
  | 0, j, hj, rs, st, ms, h, hB, hr, i1, i2 => by
    rw [Nat.add_zero] at hj
    subst hj
    rw [gT, Int.mul_zero, Int.sub_zero] at i1 i2
    refine ⟨rfl, h, hB, ?_, hr, ?_⟩
    · show 0 ≤ rs.toInt
      rcases Int.lt_or_le rs.toInt 0 with q | q
      · have := Int.mul_neg_of_pos_of_neg w0 q
        omega
      · exact q
    · show rs.toInt ≤ gF (gC ms c) 4
      rcases Int.lt_or_le (gF (gC ms c) 4) rs.toInt with q | q
      · exfalso
        have m := Int.mul_le_mul_of_nonneg_left (show gF (gC ms c) 4 + 1 ≤ rs.toInt by omega) (show 0 ≤ wt.toInt by omega)
        rw [Int.mul_add, Int.mul_one] at m
        rw [Int.sub_mul, Int.one_mul] at i2
        have p : ∀ x : Int, 0 ≤ gp x := fun x => by unfold gp; split <;> decide
        have p0 := p (gC ms c 0)
        have p1 := p (gC ms c 1)
        have p2 := p (gC ms c 2)
        have p3 := p (gC ms c 3)
        have e : gF (gC ms c) 4 = 0 + gp (gC ms c 0) + gp (gC ms c 1) + gp (gC ms c 2) + gp (gC ms c 3) := rfl
        omega
      · exact q
  | n + 1, j, hj, rs, st, ms, h, hB, hr, i1, i2 => by
    have cb := cellb hc (show j < 4 by omega) hB.1
    obtain ⟨o0, o1, o2, o3⟩ := gO_b (wh := wh) (wt := wt) cb.1 cb.2 h0 h1 w0 hw
    rw [lm_g1_s _ _ _ _ _ _ _ _ (fun q => by have := Int32.le_iff_toInt_le.mp q; rw [iz32] at this; omega), lp_give1_s, h.1.2.2.2.1 c j hc (by omega)]
    generalize hv : gO (ms_cl ms (4 * c + j)) wh wt = v at o0 o1 o2 o3 ⊢
    have nn : 0 ≤ gT (gC ms c) (n + 1) j := gT_nn (n + 1) j (fun i q1 q2 => hB.1.2.2.1 c i hc (by omega))
    have hr0 : 0 ≤ rs.toInt := by
      rcases Int.lt_or_le rs.toInt 0 with q | q
      · have z1 := Int.mul_neg_of_pos_of_neg w0 q
        have z2 := Int.mul_nonneg h0 nn
        omega
      · exact q
    have bk := siB_tk hc (show j < 4 by omega) (show B + wh.toInt - rs.toInt ≤ 100000000 by omega) o0 o1 hB
    have hs := i32sub (a := rs) (b := v) (by omega) (by omega) (by omega) (by omega)
    have hs2 := i32sub (a := ms_cl ms (4 * c + j)) (b := v) (by omega) (by omega) (by omega) (by omega)
    have cj := gC_tk2 (ms := ms) (c := c) (k := j) (v := v) hs2
    have eT : gT (gC (mTk ms c j v) c) n (j + 1) = gT (gC ms c) n (j + 1) := gT_c n (j + 1) (fun i hi => gC_tk (by omega))
    have eF : gF (gC (mTk ms c j v) c) j = gF (gC ms c) j := gF_c j (fun i hi => gC_tk (by omega))
    have eC : gC ms c j = (ms_cl ms (4 * c + j)).toInt := rfl
    rw [gT, Int.mul_add, eC] at i1 i2
    have e9 : wh.toInt * (ms_cl ms (4 * c + j)).toInt = (ms_cl ms (4 * c + j)).toInt * wh.toInt := Int.mul_comm _ _
    have e8 : wt.toInt * (rs.toInt - v.toInt) = wt.toInt * rs.toInt - v.toInt * wt.toInt := by rw [Int.mul_sub, Int.mul_comm wt.toInt v.toInt]
    refine g1_ok hc hb w0 w1 h0 h1 hw n (j + 1) (by omega) (rs - v) _ _ (siE_tk hc (by omega) bk.2 h) ?_ (by rw [hs]; omega) ?_ ?_
    · rw [hs]
      exact siB_up (by omega) bk.1
    · rw [hs, e8, eT]
      omega
    · rw [hs, e8, eT, gF, eF, cj, eC, Int.mul_add]
      unfold gp
      by_cases p : 0 < (ms_cl ms (4 * c + j)).toInt - v.toInt
      · rw [if_pos p, Int.mul_one]
        omega
      · rw [if_neg p, Int.mul_zero]
        have ev : v.toInt = (ms_cl ms (4 * c + j)).toInt := by omega
        have m2 : (ms_cl ms (4 * c + j)).toInt * wh.toInt ≤ v.toInt * wt.toInt := by
          rw [ev]
          exact Int.mul_le_mul_of_nonneg_left hw cb.1
        omega
theorem g2_ok {Z c : Nat} {t wh : Int32} {d b : Int64} {B : Int} (hc : c < 6) (hb : B ≤ 90000000) : ∀ (n j k : Nat), j + n = 4 → (n = 0 ∨ k = j) → ∀ (rs : Int32) (st : xS) (ms : mS), siE Z t d b st ms → siB Z (B - rs.toInt) ms → 0 ≤ rs.toInt → rs.toInt ≤ 10000 → rs.toInt ≤ gS (gC ms c) n j → (lp_give2 Z c wh n j rs st).1 = (lm_g2 Z c wh n k rs ms).2.1 ∧ siE Z t d b (lp_give2 Z c wh n j rs st).2 (lm_g2 Z c wh n k rs ms).2.2 ∧ siB Z B (lm_g2 Z c wh n k rs ms).2.2 ∧ (lm_g2 Z c wh n k rs ms).2.1 ≤ 0
  | 0, j, k, hj, hk, rs, st, ms, h, hB, r0, r1, r2 => by
    rw [gS] at r2
    exact ⟨rfl, h, siB_up (by omega) hB, Int32.le_iff_toInt_le.mpr (by rw [iz32]; exact r2)⟩
  | n + 1, j, k, hj, hk, rs, st, ms, h, hB, r0, r1, r2 => by
    have hk : k = j := by
      rcases hk with q | q
      · omega
      · exact q
    subst hk
    rw [lp_give2, lm_g2]
    by_cases c1 : rs ≤ 0
    · rw [if_pos c1, if_pos c1]
      have := Int32.le_iff_toInt_le.mp c1
      rw [iz32] at this
      exact ⟨rfl, h, siB_up (by omega) hB, c1⟩
    · rw [if_neg c1, if_neg c1, h.1.2.2.2.1 c k hc (by omega)]
      have c1' : ¬ rs.toInt ≤ (0 : Int32).toInt := fun q => c1 (Int32.le_iff_toInt_le.mpr q)
      rw [iz32] at c1'
      have hn : n = 0 ∨ (k + 1) % 4 = k + 1 := by omega
      rw [gS] at r2
      by_cases c2 : ms_cl ms (4 * c + k) ≤ 0
      · rw [if_pos c2, if_pos c2]
        have c2' := Int32.le_iff_toInt_le.mp c2
        rw [iz32] at c2'
        have e : gp (gC ms c k) = 0 := if_neg (show ¬ 0 < (ms_cl ms (4 * c + k)).toInt by omega)
        exact g2_ok hc hb n (k + 1) _ (by omega) hn rs st ms h hB r0 r1 (by omega)
      · rw [if_neg c2, if_neg c2, take_s, hand_s]
        have c2' : ¬ (ms_cl ms (4 * c + k)).toInt ≤ (0 : Int32).toInt := fun q => c2 (Int32.le_iff_toInt_le.mpr q)
        rw [iz32] at c2'
        have e : gp (gC ms c k) = 1 := if_pos (show 0 < (ms_cl ms (4 * c + k)).toInt by omega)
        have e1 : (1 : Int32).toInt = 1 := by decide
        have e2 : (rs + (-1)).toInt = rs.toInt - 1 := by
          rw [Int32.toInt_add, show ((-1 : Int32)).toInt = -1 by decide]
          exact Int.bmod_eq_of_le (by omega) (by omega)
        have bk := siB_tk (v := 1) hc (show k < 4 by omega) (show B - rs.toInt ≤ 100000000 by omega) (by rw [e1]; decide) (by rw [e1]; omega) hB
        have eS : gS (gC (mTk ms c k 1) c) n (k + 1) = gS (gC ms c) n (k + 1) := gS_c n (k + 1) (fun i hi => gC_tk (by omega))
        refine g2_ok hc hb n (k + 1) _ (by omega) hn (rs + (-1)) _ _ (siE_tk hc (by omega) bk.2 h) ?_ (by rw [e2]; omega) (by rw [e2]; omega) (by rw [e2, eS]; omega)
        rw [e2]
        exact siB_up (by rw [e1]; omega) bk.1
/-- a grab of wh out of a cell that holds wt -/
theorem grab_all {Z c : Nat} {t wh : Int32} {d b : Int64} {B : Int} {st : xS} {ms : mS} (hc : c < 6) (hb : B ≤ 80000000) (h : siE Z t d b st ms) (hB : siB Z B ms) (w0 : 0 < (f_Mo_weightOf Z ms c).toInt) (h0 : 0 ≤ wh.toInt) (h1 : wh.toInt ≤ 10000) (hw : wh.toInt ≤ (f_Mo_weightOf Z ms c).toInt) : siE Z t d b (lp_give2 Z c wh 4 0 (lp_give1 Z c (f_Mo_weightOf Z ms c) wh 4 0 wh st).1 (lp_give1 Z c (f_Mo_weightOf Z ms c) wh 4 0 wh st).2).2 (lm_g2 Z c wh 4 0 (lm_g1 Z c (f_Mo_weightOf Z ms c) wh 4 0 wh ms).1 (lm_g1 Z c (f_Mo_weightOf Z ms c) wh 4 0 wh ms).2).2.2 ∧ siB Z (B + 10000) (lm_g2 Z c wh 4 0 (lm_g1 Z c (f_Mo_weightOf Z ms c) wh 4 0 wh ms).1 (lm_g1 Z c (f_Mo_weightOf Z ms c) wh 4 0 wh ms).2).2.2 ∧ (lm_g2 Z c wh 4 0 (lm_g1 Z c (f_Mo_weightOf Z ms c) wh 4 0 wh ms).1 (lm_g1 Z c (f_Mo_weightOf Z ms c) wh 4 0 wh ms).2).2.1 ≤ 0 := by
  have wb := weight_b hc hB.1
  have e : gT (gC ms c) 4 0 = (f_Mo_weightOf Z ms c).toInt := by
    rw [wb.1]
    show (ms_cl ms (4 * c + 0)).toInt + ((ms_cl ms (4 * c + 1)).toInt + ((ms_cl ms (4 * c + 2)).toInt + ((ms_cl ms (4 * c + 3)).toInt + 0))) = _
    rw [Nat.add_zero]
    omega
  have ez : (f_Mo_weightOf Z ms c).toInt * wh.toInt - wh.toInt * gT (gC ms c) 4 0 = 0 := by rw [e, Int.mul_comm]; omega
  obtain ⟨q1, q2, q3, q4, q5, q6⟩ := g1_ok (B := B) (wt := f_Mo_weightOf Z ms c) (wh := wh) hc (by omega) w0 wb.2.2 h0 h1 hw 4 0 rfl wh st ms h (by rw [show B + wh.toInt - wh.toInt = B by omega]; exact hB) (Int.le_refl _) (by rw [ez]; decide) (by rw [ez, gF, Int.mul_zero]; decide)
  rw [gFS] at q6
  rw [q1]
  obtain ⟨p1, p2, p3, p4⟩ := g2_ok (wh := wh) (B := B + wh.toInt) hc (by omega) 4 0 0 rfl (Or.inr rfl) _ _ _ q2 q3 q4 (by omega) q6
  exact ⟨p2, siB_up (by omega) p3, p4⟩
theorem g_z {Z c : Nat} {ms : mS} {wt wh rs : Int32} (h : wt ≤ 0) : lm_g1 Z c wt wh 4 0 rs ms = (rs, ms) := by
  rw [lm_g1, if_pos h]
theorem g2_z {Z c : Nat} {ms : mS} {wh rs : Int32} (h : rs ≤ 0) : lm_g2 Z c wh 4 0 rs ms = (0, rs, ms) := by
  rw [lm_g2, if_pos h]
theorem ok_grab {Z k : Nat} {st : xS} {ms : mS} (hk : k ≤ 511) (a : Int32) (h : siS Z k st ms) : siR Z (k + 1) (f_GL_grab Z st a) (f_Mo_grab Z ms a) := by
  unfold f_GL_grab f_Mo_grab
  refine if2 (R := siR Z (k + 1)) ((gc a).trans (mc a).symm) (fun _ => ⟨rfl, siS_up h⟩) (fun c1 => ?_)
  have c1 : 0 ≤ a.toInt ∧ a.toInt ≤ 5 := Decidable.not_not.mp (fun q => c1 ((gc a).mpr q))
  have hc : a.toNatClampNeg < 6 := by rw [cln]; omega
  have et : f_Ce_total Z st a.toNatClampNeg = f_Mo_weightOf Z ms a.toNatClampNeg := pu_tw (fun i hi => h.1.1.2.2.2.1 _ i hc hi)
  have wb := weight_b hc h.2.1
  have cr := h.2.1.1
  unfold f_Ce_giveTo
  rw [et, h.1.1.1]
  by_cases z : f_Mo_weightOf Z ms a.toNatClampNeg ≤ 0
  · rw [if_pos z]
    have z2 := Int32.le_iff_toInt_le.mp z
    rw [iz32] at z2
    have ez : f_Mo_weightOf Z ms a.toNatClampNeg = 0 := Int32.toInt_inj.mp (by rw [iz32]; omega)
    rw [if_pos (Int32.le_iff_toInt_le.mpr (by omega)), g_z z, g2_z z]
    exact ⟨ez.symm, siS_up h⟩
  · rw [if_neg z]
    have z2 : ¬ (f_Mo_weightOf Z ms a.toNatClampNeg).toInt ≤ (0 : Int32).toInt := fun q => z (Int32.le_iff_toInt_le.mpr q)
    rw [iz32] at z2
    have em : (if f_Mo_weightOf Z ms a.toNatClampNeg < ms_cr ms then f_Mo_weightOf Z ms a.toNatClampNeg else ms_cr ms) = (if f_Mo_weightOf Z ms a.toNatClampNeg ≤ ms_cr ms then f_Mo_weightOf Z ms a.toNatClampNeg else ms_cr ms) := by
      by_cases c3 : f_Mo_weightOf Z ms a.toNatClampNeg < ms_cr ms
      · rw [if_pos c3, if_pos (Int32.le_iff_toInt_le.mpr (Int.le_of_lt (Int32.lt_iff_toInt_lt.mp c3)))]
      · rw [if_neg c3]
        by_cases c4 : f_Mo_weightOf Z ms a.toNatClampNeg ≤ ms_cr ms
        · rw [if_pos c4]
          have y1 := Int32.le_iff_toInt_le.mp c4
          have y2 : ¬ (f_Mo_weightOf Z ms a.toNatClampNeg).toInt < (ms_cr ms).toInt := fun q => c3 (Int32.lt_iff_toInt_lt.mpr q)
          exact Int32.toInt_inj.mp (by omega)
        · rw [if_neg c4]
    rw [em]
    by_cases c4 : f_Mo_weightOf Z ms a.toNatClampNeg ≤ ms_cr ms
    · rw [if_pos c4, if_pos c4]
      have y1 := Int32.le_iff_toInt_le.mp c4
      have q := grab_all (wh := f_Mo_weightOf Z ms a.toNatClampNeg) hc (by omega) h.1 h.2 (by omega) (by omega) (by omega) (Int.le_refl _)
      exact ⟨rfl, q.1, siB_up (by omega) q.2.1⟩
    · rw [if_neg c4, if_neg c4]
      have y1 : ¬ (f_Mo_weightOf Z ms a.toNatClampNeg).toInt ≤ (ms_cr ms).toInt := fun q => c4 (Int32.le_iff_toInt_le.mpr q)
      have q := grab_all (wh := ms_cr ms) hc (by omega) h.1 h.2 (by omega) (by omega) (by omega) (by omega)
      exact ⟨rfl, q.1, siB_up (by omega) q.2.1⟩
theorem ok_g2a {Z k : Nat} {st : xS} {ms : mS} (hk : k ≤ 511) (a : Int32) (h : siS Z k st ms) (hc : a.toNatClampNeg < 6) (c4 : ¬ f_Mo_weightOf Z ms a.toNatClampNeg ≤ ms_cr ms) : (lm_g2 Z a.toNatClampNeg (ms_cr ms) 4 0 (lm_g1 Z a.toNatClampNeg (f_Mo_weightOf Z ms a.toNatClampNeg) (ms_cr ms) 4 0 (ms_cr ms) ms).1 (lm_g1 Z a.toNatClampNeg (f_Mo_weightOf Z ms a.toNatClampNeg) (ms_cr ms) 4 0 (ms_cr ms) ms).2).2.1 ≤ 0 := by
  have wb := weight_b hc h.2.1
  have cr := h.2.1.1
  have y1 : ¬ (f_Mo_weightOf Z ms a.toNatClampNeg).toInt ≤ (ms_cr ms).toInt := fun q => c4 (Int32.le_iff_toInt_le.mpr q)
  exact (grab_all (wh := ms_cr ms) hc (by omega) h.1 h.2 (by omega) (by omega) (by omega) (by omega)).2.2
theorem ok_g2b {Z k : Nat} {st : xS} {ms : mS} (hk : k ≤ 511) (a : Int32) (h : siS Z k st ms) (hc : a.toNatClampNeg < 6) (c4 : f_Mo_weightOf Z ms a.toNatClampNeg ≤ ms_cr ms) : (lm_g2 Z a.toNatClampNeg (f_Mo_weightOf Z ms a.toNatClampNeg) 4 0 (lm_g1 Z a.toNatClampNeg (f_Mo_weightOf Z ms a.toNatClampNeg) (f_Mo_weightOf Z ms a.toNatClampNeg) 4 0 (f_Mo_weightOf Z ms a.toNatClampNeg) ms).1 (lm_g1 Z a.toNatClampNeg (f_Mo_weightOf Z ms a.toNatClampNeg) (f_Mo_weightOf Z ms a.toNatClampNeg) 4 0 (f_Mo_weightOf Z ms a.toNatClampNeg) ms).2).2.1 ≤ 0 := by
  have wb := weight_b hc h.2.1
  have cr := h.2.1.1
  by_cases z : f_Mo_weightOf Z ms a.toNatClampNeg ≤ 0
  · rw [g_z z, g2_z z]
    exact z
  · have z2 : ¬ (f_Mo_weightOf Z ms a.toNatClampNeg).toInt ≤ (0 : Int32).toInt := fun q => z (Int32.le_iff_toInt_le.mpr q)
    rw [iz32] at z2
    have y1 := Int32.le_iff_toInt_le.mp c4
    exact (grab_all (wh := f_Mo_weightOf Z ms a.toNatClampNeg) hc (by omega) h.1 h.2 (by omega) (by omega) (by omega) (Int.le_refl _)).2.2
