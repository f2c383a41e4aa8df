/-! the law's entry: both are made, then the loop -/
theorem nst_s {s : State} {A : Array Value} (hts0 : ∀ w ∈ lw_tbl, w.before A s = true) : nst s := by
  unfold nst nwl
  refine List.forall_mem_cons.mpr ⟨va_Nw.of rfl (hts0 _ wd_25), List.forall_mem_cons.mpr ⟨va_Nw.of rfl (hts0 _ wd_76), List.forall_mem_cons.mpr ⟨va_Nw.of rfl (hts0 _ wd_110), List.forall_mem_cons.mpr ⟨va_Nw.of rfl (hts0 _ wd_116), List.forall_mem_cons.mpr ⟨va_Nw.of rfl (hts0 _ wd_183), List.forall_mem_cons.mpr ⟨va_Nw.of rfl (hts0 _ wd_202), List.forall_mem_cons.mpr ⟨va_Nw.of rfl (hts0 _ wd_213), List.forall_mem_cons.mpr ⟨va_Nw.of rfl (hts0 _ wd_355), List.forall_mem_cons.mpr ⟨va_Nw.of rfl (hts0 _ wd_377), List.forall_mem_cons.mpr ⟨va_Nw.of rfl (hts0 _ wd_404), List.forall_mem_cons.mpr ⟨va_Nw.of rfl (hts0 _ wd_415), fun _ h => absurd h List.not_mem_nil⟩⟩⟩⟩⟩⟩⟩⟩⟩⟩⟩
theorem aov_s {s : State} {A : Array Value} (hts0 : ∀ w ∈ lw_tbl, w.before A s = true) : aov s := ⟨va_AO.of (hts0 _ wd_20), va_AO.of (hts0 _ wd_22), va_AO.of (hts0 _ wd_114), va_AO.of (hts0 _ wd_73), hts0 _ wd_81⟩
theorem ty_c {s : State} {A : Array Value} {t : FieldType} (ht : ∀ C, t ≠ .object C) (h : (Cond.arrayClass t).before A s = true) : ∃ cA : ClassId, ArrOfT s cA t ∧ va_RA s cA t := by
  obtain ⟨c, k, comp, h1, h2, h3⟩ := Cond.arrayClass_spec h
  refine ⟨c, fun N z => ⟨(fun k h => by cases h), k, h2, comp, h3⟩, ?_⟩
  cases t with
  | object C => exact absurd rfl (ht C)
  | _ => exact h1
theorem ty_o {s : State} {A : Array Value} {C : String} (h : (Cond.arrayOver (.object C)).before A s = true) : ∃ cA : ClassId, ArrOfT s cA (.object C) ∧ va_RA s cA (.object C) := by
  obtain ⟨comp, c, k, h1, _, h2, h3, h4⟩ := Cond.arrayOver_spec h
  exact ⟨c, fun N z => ⟨(fun k h => by cases h), k, h2, comp, h3⟩, k, comp, h2, h3, h1, h4⟩
theorem ty_a {s : State} {A : Array Value} {t : FieldType} (h : (Cond.arrayOver (.array t)).before A s = true) : ∃ cA : ClassId, ArrOfT s cA (.array t) ∧ va_RA s cA (.array t) := by
  obtain ⟨comp, c, k, h1, _, h2, h3, h4⟩ := arrayOverA_spec h
  exact ⟨c, fun N z => ⟨(fun k h => by cases h), k, h2, comp, h3⟩, h4⟩
theorem K_s {s : State} {A : Array Value} (hts0 : ∀ w ∈ lw_tbl, w.before A s = true) : ∃ (D : va_G) (cX cM : Nat → ClassId), va_K D clG (tyX cX) s ∧ va_K D clG (tyM cM) s := by
  have hts : ∀ w ∈ gtb, w.before A s = true := fun w h => hts0 w (List.mem_filter.mp h).1
  obtain ⟨c0, i0, k0⟩ := u_known (C := R_GL) (T := T_GL) (N := 9) (n := 9) hts i_GL (hts _ wd_12)
  obtain ⟨c1, i1, k1⟩ := u_known (C := R_Ce) (T := T_Ce) (N := 1) (n := 1) hts i_Ce (hts _ wd_201)
  obtain ⟨c2, i2, k2⟩ := u_known (C := R_Ct) (T := T_Ct) (N := 6) (n := 6) hts i_Ct (hts _ wd_212)
  obtain ⟨c3, i3, k3⟩ := u_known (C := R_Fu) (T := T_Fu) (N := 11) (n := 11) hts i_Fu (hts _ wd_24)
  obtain ⟨c4, i4, k4⟩ := u_known (C := R_Gr) (T := T_Gr) (N := 9) (n := 9) hts i_Gr (hts _ wd_105)
  obtain ⟨c5, i5, k5⟩ := u_known (C := R_Ki) (T := T_Ki) (N := 3) (n := 3) hts i_Ki (hts _ wd_182)
  obtain ⟨c6, i6, k6⟩ := u_known (C := R_Mi) (T := T_Mi) (N := 6) (n := 6) hts i_Mi (hts _ wd_75)
  obtain ⟨c7, i7, k7⟩ := u_known (C := R_Zo) (T := T_Zo) (N := 5) (n := 5) hts i_Zo (hts _ wd_115)
  obtain ⟨c8, i8, k8⟩ := u_known (C := R_Mo) (T := T_Mo) (N := 28) (n := 28) hts i_Mo (hts _ wd_523)
  obtain ⟨x0, hx0⟩ := ty_c (t := .int) (fun C h => by cases h) (hts _ wd_103)
  obtain ⟨x1, hx1⟩ := ty_o (hts0 _ wd_20)
  obtain ⟨x2, hx2⟩ := ty_o (hts0 _ wd_22)
  obtain ⟨x3, hx3⟩ := ty_o (hts0 _ wd_114)
  obtain ⟨x4, hx4⟩ := ty_o (hts0 _ wd_73)
  obtain ⟨x5, hx5⟩ := ty_a (hts0 _ wd_81)
  obtain ⟨y1, hy1⟩ := ty_c (t := .long) (fun C h => by cases h) (hts _ wd_613)
  obtain ⟨y2, hy2⟩ := ty_c (t := .boolean) (fun C h => by cases h) (hts _ wd_614)
  have hC : ∀ (k : Nat) (q : vw_C), clG[k]? = some q → u_Kn s q.1 q.2.1 q.2.2 ((fun k => match k with | 0 => c0 | 1 => c1 | 2 => c2 | 3 => c3 | 4 => c4 | 5 => c5 | 6 => c6 | 7 => c7 | _ => c8) k) ((fun k => match k with | 0 => i0 | 1 => i1 | 2 => i2 | 3 => i3 | 4 => i4 | 5 => i5 | 6 => i6 | 7 => i7 | _ => i8) k) := by
    intro k q hq
    match k, hq with
    | 0, hq => cases hq; exact k0
    | 1, hq => cases hq; exact k1
    | 2, hq => cases hq; exact k2
    | 3, hq => cases hq; exact k3
    | 4, hq => cases hq; exact k4
    | 5, hq => cases hq; exact k5
    | 6, hq => cases hq; exact k6
    | 7, hq => cases hq; exact k7
    | 8, hq => cases hq; exact k8
    | k + 9, hq => simp [clG] at hq
  refine ⟨(fun k => match k with | 0 => c0 | 1 => c1 | 2 => c2 | 3 => c3 | 4 => c4 | 5 => c5 | 6 => c6 | 7 => c7 | _ => c8, fun k => match k with | 0 => i0 | 1 => i1 | 2 => i2 | 3 => i3 | 4 => i4 | 5 => i5 | 6 => i6 | 7 => i7 | _ => i8), fun k => match k with | 0 => x0 | 1 => x1 | 2 => x2 | 3 => x3 | 4 => x4 | _ => x5, fun k => match k with | 0 => x0 | 1 => y1 | _ => y2, ⟨hC, ?_⟩, ⟨hC, ?_⟩⟩
  · intro k q hq
    match k, hq with
    | 0, hq => cases hq; exact hx0
    | 1, hq => cases hq; exact hx1
    | 2, hq => cases hq; exact hx2
    | 3, hq => cases hq; exact hx3
    | 4, hq => cases hq; exact hx4
    | 5, hq => cases hq; exact hx5
    | k + 6, hq => simp [tyX] at hq
  · intro k q hq
    match k, hq with
    | 0, hq => cases hq; exact hx0
    | 1, hq => cases hq; exact hy1
    | 2, hq => cases hq; exact hy2
    | k + 3, hq => simp [tyM] at hq
set_option maxRecDepth 100000 in
set_option maxHeartbeats 4000000 in
/-- from the entry, for every script of at most 2561 ints, the law comes to its end with true -/
theorem whole_start {p : Program} {e : Env} {s : State} {m : MethodId} {below : List Frame} {meth : Method} {c : Code} (l : Launch) {b L : Nat} {xs : Nat → Int32} (hL : L ≤ 2561) (C0 : lw_At p s m meth c b L xs) : W p l e room_1 s m #[Value.ref b] below meth c s.heap [] 0 0 (lw_Z below #[Value.ref b] s) (entryFrame m ([Value.ref b] : List Value).toArray 4) := by
  obtain ⟨hx, hb, hr, hml, hown, hts0, hX, hbl, hlocks, hgv⟩ := id C0
  have hts : ∀ w ∈ gtb, w.before #[Value.ref b] s = true := fun w h => hts0 w (List.mem_filter.mp h).1
  have hN := nst_s hts0
  have hO := aov_s hts0
  obtain ⟨D, cX, cM, hKx, hKm⟩ := K_s hts0
  have hl := lv_entry ([.ref b]) (n := 4) (Nat.le_of_ble_eq_true rfl)
  rw [lg_entry_eq]
  generalize (lg_sl ([.ref b]) ++ List.replicate (4 - (lg_sl ([.ref b])).length) Slot.unset).toArray = ls at hl ⊢
  have hl : lv_has ls 4 [(0, .ref b)] := hl
  have hP0 : va_P D clG (pw 0 (ba s.heap.size) (fun _ => .inr (0, []))) s.heap := fun k q hq => absurd (pw_at hq).1 (Nat.not_lt_zero _)
  refine bl_new (C := R_GL) (T := T_GL) (N := 9) (ci := 0) (fs := [.null, .null, .null, .null, .null, .null, .int 0, .int 0, .long 0]) (pc := 0) (n := 0) (b := s.heap.size) (H0 := s.heap) (g := fun _ => .inr (0, [])) hx hb hts i_GL t_GL t_GL_ok hown (hts _ wd_11) (hts _ wd_12) (hts _ wd_1) hKx hP0 rfl va_S.rf rfl (fun i hi => by rcases (show i = 0 ∨ i = 1 ∨ i = 2 ∨ i = 3 ∨ i = 4 ∨ i = 5 ∨ i = 6 ∨ i = 7 ∨ i = 8 by omega) with rfl | rfl | rfl | rfl | rfl | rfl | rfl | rfl | rfl <;> rfl) (Nat.le_of_ble_eq_true rfl) (Nat.le_of_ble_eq_true rfl) d_Law_0 (fun G1 H1 eG1 hP1 hz1 hS1 => ?_)
  have g1 : G1 0 = .inr (0, [.null, .null, .null, .null, .null, .null, .int 0, .int 0, .long 0]) := by rw [eG1]; exact va_up_self _ _ _
  have hX1 : va_X b L xs s H1 := hX.kept (hS1.2.1 b hbl (Nat.not_le.mpr hbl))
  have hbl1 : b < H1.size := Nat.lt_of_lt_of_le hbl hS1.1
  refine lv_dup (pc := 3) hx hb d_Law_3 rfl ?_
  refine lv_aload_n (pc := 4) hx hb d_Law_4 rfl (lv_at hl 0 rfl) ?_
  refine lv_iconst (v := 0) (pc := 5) hx hb d_Law_5 (by decide) ?_
  refine rh_c (pc := 6) (va_runS (As := [.ref b, .int 0]) (rest := [.ref (s.heap.size + 0), .ref (s.heap.size + 0)]) ⟨hx, hb, hml, hown, hts⟩ (h_Law_cell (l := l) b L xs hL _) ⟨callB_of 2 hts (gd_c wd_521) rfl rfl rfl (hts _ wd_0) (hts _ wd_519) hd_Law_cell ⟨Nat.le_of_ble_eq_true rfl, Nat.le_of_ble_eq_true rfl⟩, hts _ wd_520⟩ ⟨rh_blind (fun _ _ _ _ h => h) _ _, fun U hU hW => ⟨rfl, hU, hN.warm hW, by rw [hU]; exact hbl1, by rw [hU]; exact hX1.moved hW.alike⟩⟩ rfl rfl hl.1 rfl (lv_room (Nat.le_of_ble_eq_true rfl)) d_Law_6 ⟨Nat.le_of_ble_eq_true rfl, Nat.le_of_ble_eq_true rfl⟩) hS1 (fun locs1 hS1 => ?_)
  refine bl_cv (pc := 9) (va_runI (As := [.int (c0 L xs)]) (rest := [.ref (s.heap.size + 0)]) ⟨hx, hb, hml, hown, hts⟩ (k_GL_init (l := l) (cX := cX) s.heap.size G1 g1 (c0 L xs)) ⟨callB_of 1 hts (gd_c wd_15) rfl rfl rfl (hts _ wd_1) (hts _ wd_13) hd_GL_init ⟨Nat.le_of_ble_eq_true rfl, Nat.le_of_ble_eq_true rfl⟩, rfl, hts _ wd_14⟩ ⟨rc_blind _ _ _ _ _ _ _, rc_at _ hP1 hz1 hKx hN hO⟩ rfl rfl hl.1 rfl (lv_room (Nat.le_of_ble_eq_true rfl)) d_Law_9 ⟨Nat.le_of_ble_eq_true rfl, Nat.le_of_ble_eq_true rfl⟩) hS1 (fun G2 H2 locs2 hp2 hP2 hz2 hS2 => ?_)
  refine va_forget (fun q hq => hS2.2.2 q hq) ?_
  have hreg := gl_region hp2 hP2
  have hX2 : va_X b L xs s H2 := hX.kept (hS2.2.1 b hbl (Nat.not_le.mpr hbl))
  refine lv_astore_n (lv' := [(1, .ref (s.heap.size + 0)), (0, .ref b)]) (pc := 12) hx hb d_Law_12 rfl hl (by decide) rfl (fun ls hl => ?_)
  have hP3 : va_P D clG (pw 0 (ba (s.heap.size + (zN (c0 L xs) + 36))) (fun _ => .inr (0, []))) H2 := fun k q hq => absurd (pw_at hq).1 (Nat.not_lt_zero _)
  refine bl_new (C := R_Mo) (T := T_Mo) (N := 28) (ci := 8) (fs := [.int 0, .null, .null, .null, .int 0, .null, .null, .null, .null, .null, .null, .int 0, .int 0, .null, .null, .null, .null, .null, .null, .int 0, .int 0, .int 0, .int 0, .int 0, .null, .null, .int 0, .null]) (pc := 13) (n := 0) (b := s.heap.size + (zN (c0 L xs) + 36)) (H0 := H2) (g := fun _ => .inr (0, [])) hx hb hts i_Mo t_Mo t_Mo_ok hown (hts _ wd_522) (hts _ wd_523) (hts _ wd_9) hKm hP3 hz2 va_S.rf rfl (fun i hi => by rcases (show i = 0 ∨ i = 1 ∨ i = 2 ∨ i = 3 ∨ i = 4 ∨ i = 5 ∨ i = 6 ∨ i = 7 ∨ i = 8 ∨ i = 9 ∨ i = 10 ∨ i = 11 ∨ i = 12 ∨ i = 13 ∨ i = 14 ∨ i = 15 ∨ i = 16 ∨ i = 17 ∨ i = 18 ∨ i = 19 ∨ i = 20 ∨ i = 21 ∨ i = 22 ∨ i = 23 ∨ i = 24 ∨ i = 25 ∨ i = 26 ∨ i = 27 by omega) with rfl | rfl | rfl | rfl | rfl | rfl | rfl | rfl | rfl | rfl | rfl | rfl | rfl | rfl | rfl | rfl | rfl | rfl | rfl | rfl | rfl | rfl | rfl | rfl | rfl | rfl | rfl | rfl <;> rfl) (Nat.le_of_ble_eq_true rfl) (Nat.le_of_ble_eq_true rfl) d_Law_13 (fun G3 H3 eG3 hP3 hz3 hS3 => ?_)
  have g3 : G3 0 = .inr (8, [.int 0, .null, .null, .null, .int 0, .null, .null, .null, .null, .null, .null, .int 0, .int 0, .null, .null, .null, .null, .null, .null, .int 0, .int 0, .int 0, .int 0, .int 0, .null, .null, .int 0, .null]) := by rw [eG3]; exact va_up_self _ _ _
  have hbl2 : b < H2.size := Nat.lt_of_lt_of_le hbl hS2.1
  have hbn : ¬ bA (s.heap.size + (zN (c0 L xs) + 36)) b := by show ¬ s.heap.size + (zN (c0 L xs) + 36) ≤ b; omega
  have hX3 : va_X b L xs s H3 := hX2.kept (hS3.2.1 b hbl2 hbn)
  have hbl3 : b < H3.size := Nat.lt_of_lt_of_le hbl2 hS3.1
  refine lv_dup (pc := 16) hx hb d_Law_16 rfl ?_
  refine lv_aload_n (pc := 17) hx hb d_Law_17 rfl (lv_at hl 1 rfl) ?_
  refine lv_iconst (v := 0) (pc := 18) hx hb d_Law_18 (by decide) ?_
  refine rh_c (pc := 19) (va_runS (As := [.ref b, .int 0]) (rest := [.ref (s.heap.size + (zN (c0 L xs) + 36) + 0), .ref (s.heap.size + (zN (c0 L xs) + 36) + 0)]) ⟨hx, hb, hml, hown, hts⟩ (h_Law_cell (l := l) b L xs hL _) ⟨callB_of 2 hts (gd_c wd_521) rfl rfl rfl (hts _ wd_0) (hts _ wd_519) hd_Law_cell ⟨Nat.le_of_ble_eq_true rfl, Nat.le_of_ble_eq_true rfl⟩, hts _ wd_520⟩ ⟨rh_blind (fun _ _ _ _ h => h) _ _, fun U hU hW => ⟨rfl, hU, hN.warm hW, by rw [hU]; exact hbl3, by rw [hU]; exact hX3.moved hW.alike⟩⟩ rfl rfl hl.1 rfl (lv_room (Nat.le_of_ble_eq_true rfl)) d_Law_19 ⟨Nat.le_of_ble_eq_true rfl, Nat.le_of_ble_eq_true rfl⟩) hS3 (fun locs3 hS3 => ?_)
  refine bl_cv (pc := 22) (va_runI (As := [.int (c0 L xs)]) (rest := [.ref (s.heap.size + (zN (c0 L xs) + 36) + 0)]) ⟨hx, hb, hml, hown, hts⟩ (k_Mo_init (l := l) (cM := cM) (s.heap.size + (zN (c0 L xs) + 36)) G3 g3 (c0 L xs)) ⟨callB_of 1 hts (gd_c wd_526) rfl rfl rfl (hts _ wd_9) (hts _ wd_524) hd_Mo_init ⟨Nat.le_of_ble_eq_true rfl, Nat.le_of_ble_eq_true rfl⟩, rfl, hts _ wd_525⟩ ⟨rc_blind _ _ _ _ _ _ _, rc_at _ hP3 hz3 hKm hN hO⟩ rfl rfl hl.1 rfl (lv_room (Nat.le_of_ble_eq_true rfl)) d_Law_22 ⟨Nat.le_of_ble_eq_true rfl, Nat.le_of_ble_eq_true rfl⟩) hS3 (fun G4 H4 locs4 hp4 hP4 hz4 hS4 => ?_)
  have hreg2 := mo_region hp4 hP4
  have zb := zN_b (c0 L xs)
  have hrX : va_P D clG (pw (36 + zN (c0 L xs)) (adX s.heap.size (zN (c0 L xs))) (xgx (zN (c0 L xs)) (adX s.heap.size (zN (c0 L xs))) cX xs0)) H4 := by
    intro k q hq
    have h1 := hreg k q hq
    obtain ⟨hk, rfl⟩ := pw_at hq
    have hlt := pX_lt hk
    refine h1.kept (hS4.2.1 _ h1.lt ?_)
    show ¬ s.heap.size + (zN (c0 L xs) + 36) ≤ s.heap.size + pX (zN (c0 L xs)) k
    omega
  have hS5 : va_S (fun q => s.heap.size ≤ q) s.heap H4 locs4 := by
    refine ⟨Nat.le_trans hS2.1 hS4.1, fun q h1 h2 => ?_, fun q hq => ?_⟩
    · have h3 : ¬ bA (s.heap.size + (zN (c0 L xs) + 36)) q := by show ¬ s.heap.size + (zN (c0 L xs) + 36) ≤ q; omega
      exact (hS4.2.1 q (Nat.lt_of_lt_of_le h1 hS2.1) h3).trans (hS2.2.1 q h1 h2)
    · have := hS4.2.2 q hq
      have : s.heap.size + (zN (c0 L xs) + 36) ≤ q.base := this
      show s.heap.size ≤ q.base
      omega
  refine W.widen (k := 673831) (n := 7080755) (Nat.le_of_ble_eq_true rfl) (Nat.le_of_ble_eq_true rfl) ?_
  refine lv_astore_n (lv' := [(2, .ref (s.heap.size + (zN (c0 L xs) + 36) + 0)), (1, .ref (s.heap.size + 0)), (0, .ref b)]) (pc := 25) hx hb d_Law_25 rfl hl (by decide) rfl (fun ls hl => ?_)
  refine lv_iconst (v := 1) (pc := 26) hx hb d_Law_26 (by decide) ?_
  refine lv_istore_n (lv' := [(3, .int 1), (2, .ref (s.heap.size + (zN (c0 L xs) + 36) + 0)), (1, .ref (s.heap.size + 0)), (0, .ref b)]) (pc := 27) hx hb d_Law_27 rfl hl (by decide) rfl (fun ls hl => ?_)
  exact law_loop (adX := adX s.heap.size (zN (c0 L xs))) (adM := ba (s.heap.size + (zN (c0 L xs) + 36))) (Z := zN (c0 L xs)) (cX := cX) (cM := cM) zb C0 hN hL (adX_D _ _) ba_R (fun i _ => Nat.le_add_right _ _) (fun i _ => Nat.le_trans (Nat.le_add_right _ _) (Nat.le_add_right _ _)) (fun i j hi hj he => by
    have hlt := pX_lt hi
    have he : s.heap.size + pX (zN (c0 L xs)) i = s.heap.size + (zN (c0 L xs) + 36) + j := he
    omega) hKx hKm (law_ok zb) (L + 1) 1 0 xs0 ms0 H4 locs4 ls (by omega) (by omega) (by omega) (siS_0 zb.2) hrX hreg2 hS5 (lv_sub hl [3, 2, 1, 0] rfl)
