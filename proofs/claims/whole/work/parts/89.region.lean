/-! from the constructors' blocks to the regions -/
theorem arrV_c {cA : ClassId} {N : Nat} {f g : Nat → Value} (h : ∀ i, i < N → f i = g i) : arrV cA N f = arrV cA N g := by
  have e : (Array.ofFn (n := N) fun j => f j.val) = Array.ofFn (n := N) fun j => g j.val := by
    congr 1
    funext j
    exact h j.1 j.2
  unfold arrV
  rw [e]
theorem at_q {D : va_G} {cl : List vw_C} {a a2 N : Nat} {cA : ClassId} {f g : Nat → Option Nat} {H : Heap} (h : va_at D cl (a, .inl (cA, N, .inr (.inr (.inr (.inr f))))) H) (ha : a = a2) (hfg : ∀ i, i < N → f i = g i) : va_at D cl (a2, .inl (cA, N, .inr (.inr (.inr (.inr g))))) H := by
  subst ha
  have h : H[a]? = some (vp_cell cA (N, .inr (.inr (.inr (.inr f))))) := h
  show H[a]? = some (vp_cell cA (N, .inr (.inr (.inr (.inr g)))))
  rw [h, vp_cell_q, vp_cell_q]
  exact congrArg some (arrV_c (fun i hi => by rw [hfg i hi]))
theorem at_e {D : va_G} {cl : List vw_C} {a a2 : Nat} {e e2 : va_E} {H : Heap} (h : va_at D cl (a, e) H) (ha : a = a2) (he : e = e2) : va_at D cl (a2, e2) H := by
  subst ha
  subst he
  exact h
def pX (Z i : Nat) : Nat := if i < 9 then i else if i < 12 then i + 6 else if i < 16 then Z + (i + 6) else if i < 22 then Z + (2 * i - 10) else if i < 28 then Z + (2 * i - 21) else if i < 30 then Z + (i + 6) else if i < 36 then i - 21 else i - 18
def adX (b Z : Nat) : Nat → Nat := fun i => b + pX Z i
theorem adX_D (b Z : Nat) : rD (36 + Z) (adX b Z) := by
  intro i j hi hj h
  have h : pX Z i = pX Z j := Nat.add_left_cancel h
  unfold pX at h
  by_cases i1 : i < 9
  · rw [if_pos i1] at h
    repeat' split at h
    all_goals omega
  rw [if_neg i1] at h
  by_cases i2 : i < 12
  · rw [if_pos i2] at h
    repeat' split at h
    all_goals omega
  rw [if_neg i2] at h
  by_cases i3 : i < 16
  · rw [if_pos i3] at h
    repeat' split at h
    all_goals omega
  rw [if_neg i3] at h
  by_cases i4 : i < 22
  · rw [if_pos i4] at h
    repeat' split at h
    all_goals omega
  rw [if_neg i4] at h
  by_cases i5 : i < 28
  · rw [if_pos i5] at h
    repeat' split at h
    all_goals omega
  rw [if_neg i5] at h
  by_cases i6 : i < 30
  · rw [if_pos i6] at h
    repeat' split at h
    all_goals omega
  rw [if_neg i6] at h
  by_cases i7 : i < 36
  · rw [if_pos i7] at h
    repeat' split at h
    all_goals omega
  rw [if_neg i7] at h
  repeat' split at h
  all_goals omega
theorem pX_lt {Z i : Nat} (h : i < 36 + Z) : pX Z i < Z + 36 := by
  unfold pX
  repeat' split
  all_goals omega
theorem aX_z {b Z j : Nat} : adX b Z (36 + j) = b + (17 + 1 + j) := by
  show b + pX Z (36 + j) = _
  unfold pX
  rw [if_neg (by omega), if_neg (by omega), if_neg (by omega), if_neg (by omega), if_neg (by omega), if_neg (by omega), if_neg (by omega)]
  omega
theorem aX_0 {b Z : Nat} : adX b Z 0 = b + 0 := (rfl)
theorem aX_1 {b Z : Nat} : adX b Z 1 = b + 1 := (rfl)
theorem aX_2 {b Z : Nat} : adX b Z 2 = b + 2 := (rfl)
theorem aX_3 {b Z : Nat} : adX b Z 3 = b + 3 := (rfl)
theorem aX_4 {b Z : Nat} : adX b Z 4 = b + 4 := (rfl)
theorem aX_5 {b Z : Nat} : adX b Z 5 = b + 5 := (rfl)
theorem aX_6 {b Z : Nat} : adX b Z 6 = b + 6 := (rfl)
theorem aX_7 {b Z : Nat} : adX b Z 7 = b + 7 := (rfl)
theorem aX_8 {b Z : Nat} : adX b Z 8 = b + 8 := (rfl)
theorem aX_9 {b Z : Nat} : adX b Z 9 = b + 15 := (rfl)
theorem aX_10 {b Z : Nat} : adX b Z 10 = b + 16 := (rfl)
theorem aX_11 {b Z : Nat} : adX b Z 11 = b + 17 := (rfl)
theorem aX_12 {b Z : Nat} : adX b Z 12 = b + (Z + 18) := (rfl)
theorem aX_13 {b Z : Nat} : adX b Z 13 = b + (Z + 19) := (rfl)
theorem aX_14 {b Z : Nat} : adX b Z 14 = b + (Z + 20) := (rfl)
theorem aX_15 {b Z : Nat} : adX b Z 15 = b + (Z + 21) := (rfl)
theorem aX_16 {b Z : Nat} : adX b Z 16 = b + (Z + 22) := (rfl)
theorem aX_17 {b Z : Nat} : adX b Z 17 = b + (Z + 24) := (rfl)
theorem aX_18 {b Z : Nat} : adX b Z 18 = b + (Z + 26) := (rfl)
theorem aX_19 {b Z : Nat} : adX b Z 19 = b + (Z + 28) := (rfl)
theorem aX_20 {b Z : Nat} : adX b Z 20 = b + (Z + 30) := (rfl)
theorem aX_21 {b Z : Nat} : adX b Z 21 = b + (Z + 32) := (rfl)
theorem aX_22 {b Z : Nat} : adX b Z 22 = b + (Z + 23) := (rfl)
theorem aX_23 {b Z : Nat} : adX b Z 23 = b + (Z + 25) := (rfl)
theorem aX_24 {b Z : Nat} : adX b Z 24 = b + (Z + 27) := (rfl)
theorem aX_25 {b Z : Nat} : adX b Z 25 = b + (Z + 29) := (rfl)
theorem aX_26 {b Z : Nat} : adX b Z 26 = b + (Z + 31) := (rfl)
theorem aX_27 {b Z : Nat} : adX b Z 27 = b + (Z + 33) := (rfl)
theorem aX_28 {b Z : Nat} : adX b Z 28 = b + (Z + 34) := (rfl)
theorem aX_29 {b Z : Nat} : adX b Z 29 = b + (Z + 35) := (rfl)
theorem aX_30 {b Z : Nat} : adX b Z 30 = b + 9 := (rfl)
theorem aX_31 {b Z : Nat} : adX b Z 31 = b + 10 := (rfl)
theorem aX_32 {b Z : Nat} : adX b Z 32 = b + 11 := (rfl)
theorem aX_33 {b Z : Nat} : adX b Z 33 = b + 12 := (rfl)
theorem aX_34 {b Z : Nat} : adX b Z 34 = b + 13 := (rfl)
theorem aX_35 {b Z : Nat} : adX b Z 35 = b + 14 := (rfl)
theorem gl_region {D : va_G} {cX : Nat → ClassId} {b : Nat} {a : Int32} {u : Nat → va_E} {H : Heap} (hp : postGL cX b a u) (hP : va_P D clG (pw (zN a + 36) (ba b) u) H) : va_P D clG (pw (36 + zN a) (adX b (zN a)) (xgx (zN a) (adX b (zN a)) cX xs0)) H := by
  unfold postGL at hp
  generalize zN a = Z at hp hP ⊢
  obtain ⟨p0, p1, p2, p3, p4, p5, p6, p7, p8, pR, p15, p16, p17, pZ, pz18, pz19, pz20, pz21, pz22, pz23, pz24, pz25, pz26, pz27, pz28, pz29, pz30, pz31, pz32, pz33, pz34, pz35⟩ := hp
  have hb : ∀ i, i < Z + 36 → va_at D clG (b + i, u i) H := fun i hi => hP i _ (pw_get hi rfl)
  intro k q hq
  obtain ⟨hk, rfl⟩ := pw_at hq
  by_cases hk36 : 36 ≤ k
  · obtain ⟨j, rfl⟩ : ∃ j, k = 36 + j := ⟨k - 36, by omega⟩
    have hj : j < Z := by omega
    have h := hb (17 + 1 + j) (by omega)
    rw [pZ j hj] at h
    refine at_e h aX_z.symm ?_
    rw [xgx_Zone hj]
    rfl
  rcases (show k = 0 ∨ k = 1 ∨ k = 2 ∨ k = 3 ∨ k = 4 ∨ k = 5 ∨ k = 6 ∨ k = 7 ∨ k = 8 ∨ k = 9 ∨ k = 10 ∨ k = 11 ∨ k = 12 ∨ k = 13 ∨ k = 14 ∨ k = 15 ∨ k = 16 ∨ k = 17 ∨ k = 18 ∨ k = 19 ∨ k = 20 ∨ k = 21 ∨ k = 22 ∨ k = 23 ∨ k = 24 ∨ k = 25 ∨ k = 26 ∨ k = 27 ∨ k = 28 ∨ k = 29 ∨ k = 30 ∨ k = 31 ∨ k = 32 ∨ k = 33 ∨ k = 34 ∨ k = 35 by omega) with rfl | rfl | rfl | rfl | rfl | rfl | rfl | rfl | rfl | rfl | rfl | rfl | rfl | rfl | rfl | rfl | rfl | rfl | rfl | rfl | rfl | rfl | rfl | rfl | rfl | rfl | rfl | rfl | rfl | rfl | rfl | rfl | rfl | rfl | rfl | rfl
  · have h := hb 0 (by omega)
    rw [show u 0 = _ from p0] at h
    refine at_e h aX_0.symm ?_
    rw [xgx_X]
    rw [aX_1, aX_2, aX_10, aX_3, aX_4, aX_5]
    rfl
  · have h := hb 1 (by omega)
    rw [show u 1 = _ from p1] at h
    rw [xgx_kindsA]
    refine at_q h aX_1.symm (fun i hi => ?_)
    rcases (show i = 0 ∨ i = 1 ∨ i = 2 ∨ i = 3 by omega) with rfl | rfl | rfl | rfl
    · exact congrArg some (aX_12 (b := b) (Z := Z)).symm
    · exact congrArg some (aX_13 (b := b) (Z := Z)).symm
    · exact congrArg some (aX_14 (b := b) (Z := Z)).symm
    · exact congrArg some (aX_15 (b := b) (Z := Z)).symm
  · have h := hb 2 (by omega)
    rw [show u 2 = _ from p2] at h
    rw [xgx_cellsA]
    refine at_q h aX_2.symm (fun i hi => ?_)
    rcases (show i = 0 ∨ i = 1 ∨ i = 2 ∨ i = 3 ∨ i = 4 ∨ i = 5 by omega) with rfl | rfl | rfl | rfl | rfl | rfl
    · exact congrArg some (aX_16 (b := b) (Z := Z)).symm
    · exact congrArg some (aX_17 (b := b) (Z := Z)).symm
    · exact congrArg some (aX_18 (b := b) (Z := Z)).symm
    · exact congrArg some (aX_19 (b := b) (Z := Z)).symm
    · exact congrArg some (aX_20 (b := b) (Z := Z)).symm
    · exact congrArg some (aX_21 (b := b) (Z := Z)).symm
  · have h := hb 3 (by omega)
    rw [show u 3 = _ from p3] at h
    refine at_e h aX_3.symm ?_
    rw [xgx_furn]
    rfl
  · have h := hb 4 (by omega)
    rw [show u 4 = _ from p4] at h
    rw [xgx_ctrlA]
    refine at_q h aX_4.symm (fun i hi => ?_)
    rcases (show i = 0 ∨ i = 1 by omega) with rfl | rfl
    · exact congrArg some (aX_28 (b := b) (Z := Z)).symm
    · exact congrArg some (aX_29 (b := b) (Z := Z)).symm
  · have h := hb 5 (by omega)
    rw [show u 5 = _ from p5] at h
    refine at_e h aX_5.symm ?_
    rw [xgx_mixer]
    rw [aX_6, aX_7, aX_8, aX_9]
    rfl
  · have h := hb 6 (by omega)
    rw [show u 6 = _ from p6] at h
    refine at_e h aX_6.symm ?_
    rw [xgx_found]
    rfl
  · have h := hb 7 (by omega)
    rw [show u 7 = _ from p7] at h
    refine at_e h aX_7.symm ?_
    rw [xgx_trial]
    rfl
  · have h := hb 8 (by omega)
    rw [show u 8 = _ from p8] at h
    rw [xgx_ofT]
    refine at_q h aX_8.symm (fun i hi => ?_)
    rcases (show i = 0 ∨ i = 1 ∨ i = 2 ∨ i = 3 ∨ i = 4 ∨ i = 5 by omega) with rfl | rfl | rfl | rfl | rfl | rfl
    · exact congrArg some (aX_30 (b := b) (Z := Z)).symm
    · exact congrArg some (aX_31 (b := b) (Z := Z)).symm
    · exact congrArg some (aX_32 (b := b) (Z := Z)).symm
    · exact congrArg some (aX_33 (b := b) (Z := Z)).symm
    · exact congrArg some (aX_34 (b := b) (Z := Z)).symm
    · exact congrArg some (aX_35 (b := b) (Z := Z)).symm
  · have h := hb 15 (by omega)
    rw [show u 15 = _ from p15] at h
    refine at_e h aX_9.symm ?_
    rw [xgx_filled]
    rfl
  · have h := hb 16 (by omega)
    rw [show u 16 = _ from p16] at h
    refine at_e h aX_10.symm ?_
    rw [xgx_grate]
    rw [aX_11]
    rfl
  · have h := hb 17 (by omega)
    rw [show u 17 = _ from p17] at h
    rw [xgx_zonesA]
    refine at_q h aX_11.symm (fun i hi => ?_)
    rw [if_pos hi, aX_z]
  · have h := hb (Z + 18) (by omega)
    rw [show u (Z + 18) = _ from pz18] at h
    refine at_e h aX_12.symm ?_
    rw [show xgx Z (adX b Z) cX xs0 12 = _ from xgx_Kind (j := 0) (by decide)]
    rfl
  · have h := hb (Z + 19) (by omega)
    rw [show u (Z + 19) = _ from pz19] at h
    refine at_e h aX_13.symm ?_
    rw [show xgx Z (adX b Z) cX xs0 13 = _ from xgx_Kind (j := 1) (by decide)]
    rfl
  · have h := hb (Z + 20) (by omega)
    rw [show u (Z + 20) = _ from pz20] at h
    refine at_e h aX_14.symm ?_
    rw [show xgx Z (adX b Z) cX xs0 14 = _ from xgx_Kind (j := 2) (by decide)]
    rfl
  · have h := hb (Z + 21) (by omega)
    rw [show u (Z + 21) = _ from pz21] at h
    refine at_e h aX_15.symm ?_
    rw [show xgx Z (adX b Z) cX xs0 15 = _ from xgx_Kind (j := 3) (by decide)]
    rfl
  · have h := hb (Z + 22) (by omega)
    rw [show u (Z + 22) = _ from pz22] at h
    refine at_e h aX_16.symm ?_
    rw [show xgx Z (adX b Z) cX xs0 16 = _ from xgx_Cell (j := 0) (by decide)]
    rw [show adX b Z (22 + 0) = b + (Z + 23) from aX_22]
  · have h := hb (Z + 24) (by omega)
    rw [show u (Z + 24) = _ from pz24] at h
    refine at_e h aX_17.symm ?_
    rw [show xgx Z (adX b Z) cX xs0 17 = _ from xgx_Cell (j := 1) (by decide)]
    rw [show adX b Z (22 + 1) = b + (Z + 25) from aX_23]
  · have h := hb (Z + 26) (by omega)
    rw [show u (Z + 26) = _ from pz26] at h
    refine at_e h aX_18.symm ?_
    rw [show xgx Z (adX b Z) cX xs0 18 = _ from xgx_Cell (j := 2) (by decide)]
    rw [show adX b Z (22 + 2) = b + (Z + 27) from aX_24]
  · have h := hb (Z + 28) (by omega)
    rw [show u (Z + 28) = _ from pz28] at h
    refine at_e h aX_19.symm ?_
    rw [show xgx Z (adX b Z) cX xs0 19 = _ from xgx_Cell (j := 3) (by decide)]
    rw [show adX b Z (22 + 3) = b + (Z + 29) from aX_25]
  · have h := hb (Z + 30) (by omega)
    rw [show u (Z + 30) = _ from pz30] at h
    refine at_e h aX_20.symm ?_
    rw [show xgx Z (adX b Z) cX xs0 20 = _ from xgx_Cell (j := 4) (by decide)]
    rw [show adX b Z (22 + 4) = b + (Z + 31) from aX_26]
  · have h := hb (Z + 32) (by omega)
    rw [show u (Z + 32) = _ from pz32] at h
    refine at_e h aX_21.symm ?_
    rw [show xgx Z (adX b Z) cX xs0 21 = _ from xgx_Cell (j := 5) (by decide)]
    rw [show adX b Z (22 + 5) = b + (Z + 33) from aX_27]
  · have h := hb (Z + 23) (by omega)
    rw [show u (Z + 23) = _ from pz23] at h
    refine at_e h aX_22.symm ?_
    rw [show xgx Z (adX b Z) cX xs0 22 = _ from xgx_Kg (j := 0) (by decide)]
    rfl
  · have h := hb (Z + 25) (by omega)
    rw [show u (Z + 25) = _ from pz25] at h
    refine at_e h aX_23.symm ?_
    rw [show xgx Z (adX b Z) cX xs0 23 = _ from xgx_Kg (j := 1) (by decide)]
    rfl
  · have h := hb (Z + 27) (by omega)
    rw [show u (Z + 27) = _ from pz27] at h
    refine at_e h aX_24.symm ?_
    rw [show xgx Z (adX b Z) cX xs0 24 = _ from xgx_Kg (j := 2) (by decide)]
    rfl
  · have h := hb (Z + 29) (by omega)
    rw [show u (Z + 29) = _ from pz29] at h
    refine at_e h aX_25.symm ?_
    rw [show xgx Z (adX b Z) cX xs0 25 = _ from xgx_Kg (j := 3) (by decide)]
    rfl
  · have h := hb (Z + 31) (by omega)
    rw [show u (Z + 31) = _ from pz31] at h
    refine at_e h aX_26.symm ?_
    rw [show xgx Z (adX b Z) cX xs0 26 = _ from xgx_Kg (j := 4) (by decide)]
    rfl
  · have h := hb (Z + 33) (by omega)
    rw [show u (Z + 33) = _ from pz33] at h
    refine at_e h aX_27.symm ?_
    rw [show xgx Z (adX b Z) cX xs0 27 = _ from xgx_Kg (j := 5) (by decide)]
    rfl
  · have h := hb (Z + 34) (by omega)
    rw [show u (Z + 34) = _ from pz34] at h
    refine at_e h aX_28.symm ?_
    rw [show xgx Z (adX b Z) cX xs0 28 = _ from xgx_Ctrl (j := 0) (by decide)]
    rfl
  · have h := hb (Z + 35) (by omega)
    rw [show u (Z + 35) = _ from pz35] at h
    refine at_e h aX_29.symm ?_
    rw [show xgx Z (adX b Z) cX xs0 29 = _ from xgx_Ctrl (j := 1) (by decide)]
    rfl
  · have h := hb 9 (by omega)
    have e9 := pR 0 (by decide)
    have e9 : u 9 = _ := e9
    rw [e9] at h
    refine at_e h aX_30.symm ?_
    rw [show xgx Z (adX b Z) cX xs0 30 = _ from xgx_Row (j := 0) (by decide)]
    rfl
  · have h := hb 10 (by omega)
    have e9 := pR 1 (by decide)
    have e9 : u 10 = _ := e9
    rw [e9] at h
    refine at_e h aX_31.symm ?_
    rw [show xgx Z (adX b Z) cX xs0 31 = _ from xgx_Row (j := 1) (by decide)]
    rfl
  · have h := hb 11 (by omega)
    have e9 := pR 2 (by decide)
    have e9 : u 11 = _ := e9
    rw [e9] at h
    refine at_e h aX_32.symm ?_
    rw [show xgx Z (adX b Z) cX xs0 32 = _ from xgx_Row (j := 2) (by decide)]
    rfl
  · have h := hb 12 (by omega)
    have e9 := pR 3 (by decide)
    have e9 : u 12 = _ := e9
    rw [e9] at h
    refine at_e h aX_33.symm ?_
    rw [show xgx Z (adX b Z) cX xs0 33 = _ from xgx_Row (j := 3) (by decide)]
    rfl
  · have h := hb 13 (by omega)
    have e9 := pR 4 (by decide)
    have e9 : u 13 = _ := e9
    rw [e9] at h
    refine at_e h aX_34.symm ?_
    rw [show xgx Z (adX b Z) cX xs0 34 = _ from xgx_Row (j := 4) (by decide)]
    rfl
  · have h := hb 14 (by omega)
    have e9 := pR 5 (by decide)
    have e9 : u 14 = _ := e9
    rw [e9] at h
    refine at_e h aX_35.symm ?_
    rw [show xgx Z (adX b Z) cX xs0 35 = _ from xgx_Row (j := 5) (by decide)]
    rfl
theorem ba_R {b n : Nat} : rD n (ba b) := fun i j _ _ h => Nat.add_left_cancel h
theorem mo_region {D : va_G} {cM : Nat → ClassId} {b : Nat} {a : Int32} {u : Nat → va_E} {H : Heap} (hp : postMo cM b a u) (hP : va_P D clG (pw 19 (ba b) u) H) : va_P D clG (pw 19 (ba b) (mgx (zN a) (ba b) cM ms0)) H := by
  unfold postMo at hp
  obtain ⟨p0, p1, p2, p3, p4, p5, p6, p7, p8, p9, p10, p11, p12, p13, p14, p15, p16, p17, p18⟩ := hp
  have hb : ∀ i, i < 19 → va_at D clG (b + i, u i) H := fun i hi => hP i _ (pw_get hi rfl)
  intro k q hq
  obtain ⟨hk, rfl⟩ := pw_at hq
  rcases (show k = 0 ∨ k = 1 ∨ k = 2 ∨ k = 3 ∨ k = 4 ∨ k = 5 ∨ k = 6 ∨ k = 7 ∨ k = 8 ∨ k = 9 ∨ k = 10 ∨ k = 11 ∨ k = 12 ∨ k = 13 ∨ k = 14 ∨ k = 15 ∨ k = 16 ∨ k = 17 ∨ k = 18 by omega) with rfl | rfl | rfl | rfl | rfl | rfl | rfl | rfl | rfl | rfl | rfl | rfl | rfl | rfl | rfl | rfl | rfl | rfl | rfl
  · have h := hb 0 (by decide)
    rw [p0] at h
    refine at_e h rfl ?_
    rw [mgx_M]
    rfl
  · have h := hb 1 (by decide)
    rw [p1] at h
    refine at_e h rfl ?_
    rw [mgx_waterShares]
    rfl
  · have h := hb 2 (by decide)
    rw [p2] at h
    refine at_e h rfl ?_
    rw [mgx_ashShares]
    rfl
  · have h := hb 3 (by decide)
    rw [p3] at h
    refine at_e h rfl ?_
    rw [mgx_cells]
    rfl
  · have h := hb 4 (by decide)
    rw [p4] at h
    refine at_e h rfl ?_
    rw [mgx_pending]
    rfl
  · have h := hb 5 (by decide)
    rw [p5] at h
    refine at_e h rfl ?_
    rw [mgx_waters]
    rfl
  · have h := hb 6 (by decide)
    rw [p6] at h
    refine at_e h rfl ?_
    rw [mgx_fuels]
    rfl
  · have h := hb 7 (by decide)
    rw [p7] at h
    refine at_e h rfl ?_
    rw [mgx_ashes]
    rfl
  · have h := hb 8 (by decide)
    rw [p8] at h
    refine at_e h rfl ?_
    rw [mgx_airs]
    rfl
  · have h := hb 9 (by decide)
    rw [p9] at h
    refine at_e h rfl ?_
    rw [mgx_dryings]
    rfl
  · have h := hb 10 (by decide)
    rw [p10] at h
    refine at_e h rfl ?_
    rw [mgx_hasControl]
    rfl
  · have h := hb 11 (by decide)
    rw [p11] at h
    refine at_e h rfl ?_
    rw [mgx_targets]
    rfl
  · have h := hb 12 (by decide)
    rw [p12] at h
    refine at_e h rfl ?_
    rw [mgx_byNow]
    rfl
  · have h := hb 13 (by decide)
    rw [p13] at h
    refine at_e h rfl ?_
    rw [mgx_bySum]
    rfl
  · have h := hb 14 (by decide)
    rw [p14] at h
    refine at_e h rfl ?_
    rw [mgx_sums]
    rfl
  · have h := hb 15 (by decide)
    rw [p15] at h
    refine at_e h rfl ?_
    rw [mgx_outputs]
    rfl
  · have h := hb 16 (by decide)
    rw [p16] at h
    refine at_e h rfl ?_
    rw [mgx_latest]
    rfl
  · have h := hb 17 (by decide)
    rw [p17] at h
    refine at_e h rfl ?_
    rw [mgx_all]
    rfl
  · have h := hb 18 (by decide)
    rw [p18] at h
    refine at_e h rfl ?_
    rw [mgx_plan]
    rfl
