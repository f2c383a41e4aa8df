def zN (a : Int32) : Nat := if f_GL_within a 1 6 = 0 then 1 else a.toNatClampNeg
theorem zN_in {a : Int32} (h : ¬ f_GL_within a 1 6 = 0) : (a.toNatClampNeg < 7 ∧ 1 ≤ a.toNatClampNeg) ∧ a = nI a.toNatClampNeg := by
  unfold f_GL_within at h
  by_cases h0 : a < 1
  · rw [if_pos h0] at h; exact absurd rfl h
  · rw [if_neg h0] at h
    by_cases h1 : (6 : Int32) < a
    · rw [if_pos h1] at h; exact absurd rfl h
    · have e0 : (0 : Int32).toInt = 0 := by decide
      have e1 : (1 : Int32).toInt = 1 := by decide
      rw [Int32.lt_iff_toInt_lt, e1] at h0
      have h2 := nat_ix (a := a) (n := 7) (by decide) (fun q => by rw [Int32.lt_iff_toInt_lt, e0] at q; omega) (fun q => h1 (lt_ge9 (n := 6) (by decide) _ q))
      have h3 := congrArg Int32.toInt h2.2
      rw [nI_toInt (by omega)] at h3
      exact ⟨⟨h2.1, by omega⟩, h2.2⟩
theorem zN_le (a : Int32) : 1 ≤ zN a ∧ zN a ≤ 6 := by
  unfold zN
  by_cases h : f_GL_within a 1 6 = 0
  · rw [if_pos h]; exact ⟨by decide, by decide⟩
  · rw [if_neg h]
    have := (zN_in h).1
    omega

set_option maxRecDepth 100000 in
set_option maxHeartbeats 4000000 in
theorem gr_loop {p : Program} {l : Launch} {e : Env} {s : State} {m : MethodId} {args : Array Value} {below : List Frame} {meth : Method} {c : Code} {D : va_G} {cX : Nat → ClassId} {Q : State → Prop} (C : Cx p s m args meth c b_Gr_init 3 R_Gr none) (hO : aov s) (hK : va_K D clG (tyX cX) s) (b n : Nat) (g : Nat → va_E) (i0 : Nat) (hi0 : i0 < n) (a : Int32) (Z : Nat) (hZ : 1 ≤ Z ∧ Z ≤ 6) : ∀ (k j : Nat) (G : Nat → va_E) (H : Heap) (locs : List Loc) (ls : Array Slot), j + k = Z → (G i0 = .inr (4, [.ref (b + n), .int 100, .long 0, .long 0, .long 0, .long 0, .long 0, .long 0, .long 0]) ∧ G n = .inl (cX 3, Z, .inr (.inr (.inr (.inr (fun i => if i < j then some (b + (n + 1 + i)) else none))))) ∧ (∀ i, i < j → G (n + 1 + i) = .inr (7, [.long 0, .long 0, .long 0, .int 0, .int 200])) ∧ ∀ v, v < n → v ≠ i0 → G v = g v) → va_P D clG (pw (n + 1 + j) (ba b) G) H → H.size = b + (n + 1 + j) → va_S (bA b) s.heap H locs → lv_has ls 3 [(0, .ref (b + i0)), (1, .int a), (2, .int (nI j))] → (∀ (G : Nat → va_E) (H : Heap) (locs : List Loc) (ls : Array Slot), (G i0 = .inr (4, [.ref (b + n), .int 100, .long 0, .long 0, .long 0, .long 0, .long 0, .long 0, .long 0]) ∧ G n = .inl (cX 3, Z, .inr (.inr (.inr (.inr (fun i => if i < Z then some (b + (n + 1 + i)) else none))))) ∧ (∀ i, i < Z → G (n + 1 + i) = .inr (7, [.long 0, .long 0, .long 0, .int 0, .int 200])) ∧ ∀ v, v < n → v ≠ i0 → G v = g v) → va_P D clG (pw (n + 1 + Z) (ba b) G) H → H.size = b + (n + 1 + Z) → va_S (bA b) s.heap H locs → W p l e ({ frames := 2, cells := 7, slots := 36, locals := 32 } : Room) s m args below meth c H locs (1 + Z) (Z + 5 * Z) Q (F0 m 97 ls [])) → W p l e ({ frames := 2, cells := 7, slots := 36, locals := 32 } : Room) s m args below meth c H locs (1 + j) (Z + 5 * j) Q (F0 m 69 ls []) := by
  obtain ⟨⟨hx, hb, hml, hown, hts⟩, hr, hlocks, hN⟩ := id C
  intro k
  induction k with
  | zero =>
    intro j G H locs ls hn hF hP hz hS hl hk
    obtain rfl : j = Z := by omega
    refine lv_iload_n (pc := 69) hx hb d_Gr_init_69 rfl (lv_at hl 2 rfl) ?_
    refine lv_aload_n (pc := 70) hx hb d_Gr_init_70 rfl (lv_at hl 0 rfl) ?_
    refine bl_get (C := R_Gr) (T := T_Gr) (N := 9) (v := .ref (b + n)) (pc := 71) hx hb hts i_Gr hown hK hP i0 (by omega) hF.1 rfl 0 (by decide) (hts _ wd_145) rfl d_Gr_init_71 ?_
    refine bl_alen (v := nI j) (pc := 74) hx hb hK hP n (by omega) 3 hF.2.1 rfl rfl d_Gr_init_74 ?_
    refine lv_icmp_ge (tgt := 97) (pc := 75) hx hb d_Gr_init_75 (by decide) (fun _ => ?_) (fun c_1 => absurd (Int32.le_refl _) c_1)
    exact hk G H locs ls hF hP hz hS
  | succ k ih =>
    intro j G H locs ls hn hF hP hz hS hl hk
    refine lv_iload_n (pc := 69) hx hb d_Gr_init_69 rfl (lv_at hl 2 rfl) ?_
    refine lv_aload_n (pc := 70) hx hb d_Gr_init_70 rfl (lv_at hl 0 rfl) ?_
    refine bl_get (C := R_Gr) (T := T_Gr) (N := 9) (v := .ref (b + n)) (pc := 71) hx hb hts i_Gr hown hK hP i0 (by omega) hF.1 rfl 0 (by decide) (hts _ wd_145) rfl d_Gr_init_71 ?_
    refine bl_alen (v := nI Z) (pc := 74) hx hb hK hP n (by omega) 3 hF.2.1 rfl rfl d_Gr_init_74 ?_
    refine lv_icmp_ge (tgt := 97) (pc := 75) hx hb d_Gr_init_75 (by decide) (fun c_1 => absurd c_1 (nI_ge (by omega) (by omega))) (fun _ => ?_)
    refine lv_aload_n (pc := 78) hx hb d_Gr_init_78 rfl (lv_at hl 0 rfl) ?_
    refine bl_get (C := R_Gr) (T := T_Gr) (N := 9) (v := .ref (b + n)) (pc := 79) hx hb hts i_Gr hown hK hP i0 (by omega) hF.1 rfl 0 (by decide) (hts _ wd_145) rfl d_Gr_init_79 ?_
    refine lv_iload_n (pc := 82) hx hb d_Gr_init_82 rfl (lv_at hl 2 rfl) ?_
    refine bl_new (C := R_Zo) (T := T_Zo) (N := 5) (ci := 7) (fs := [.long 0, .long 0, .long 0, .int 0, .int 0]) (pc := 83) hx hb hts i_Zo t_Zo t_Zo_ok hown (hts _ wd_113) (hts _ wd_115) (hts _ wd_5) hK hP hz hS rfl (fun i hi => by rcases (show i = 0 ∨ i = 1 ∨ i = 2 ∨ i = 3 ∨ i = 4 by omega) with rfl | rfl | rfl | rfl | rfl <;> rfl) (by show 1 + j + 1 ≤ 7; omega) (by show Z + 5 * j + 5 ≤ 36; omega) d_Gr_init_83 (fun G1 H eG hP hz hS => ?_)
    have hnew : G1 (n + 1 + j) = .inr (7, [.long 0, .long 0, .long 0, .int 0, .int 0]) := by rw [eG]; exact va_up_self _ _ _
    have hold : ∀ v, v ≠ n + 1 + j → G1 v = G v := fun v hv => by rw [eG]; exact va_up_ne _ _ hv
    refine lv_dup (pc := 86) hx hb d_Gr_init_86 rfl ?_
    refine bl_cv (pc := 87) (va_runIN (As := []) (rest := [.ref (b + (n + 1 + j)), .int (nI j), .ref (b + n)]) ⟨hx, hb, hml, hown, hts⟩ (k_Zo_init (l := l) b (n + 1 + j + 1) G1 (n + 1 + j) (by omega) hnew) ⟨va_cnB 0 hts (gd_c wd_118) rfl rfl rfl (wn_Gr_47 hN) (hts _ wd_5) hd_Zo_init ⟨Nat.le_of_ble_eq_true rfl, Nat.le_of_ble_eq_true rfl⟩, rfl, hts _ wd_117⟩ ⟨rc_blind _ _ _ _ _ _ _, rc_at _ hP hz hK hN hO⟩ rfl rfl hl.1 rfl (lv_room (Nat.le_of_ble_eq_true rfl)) d_Gr_init_87 ⟨by show 1 + j + 1 + 0 ≤ 7; omega, by show Z + 5 * j + 5 + 0 ≤ 36; omega⟩) hS (fun G2 H locs hp hP hz hS => ?_)
    obtain ⟨hp1, hp2⟩ := hp
    refine bl_astq (pc := 90) hx hb hK hP hz hS n 3 (n + 1 + j) 7 (by omega) (by omega) ((hp2 n (by omega)).trans ((hold n (by omega)).trans hF.2.1)) rfl hp1 rfl j (by omega) (by omega) rfl d_Gr_init_90 (fun G3 H locs eG3 hP hz hS => ?_)
    refine lv_iinc (v := nI (j + 1)) (lv' := [(2, .int (nI (j + 1))), (0, .ref (b + i0)), (1, .int a)]) (pc := 91) hx hb d_Gr_init_91 hl (k := 2) rfl (nI_1 _) (by decide) rfl (fun ls hl => ?_)
    refine lv_goto (tgt := 69) (pc := 94) hx hb d_Gr_init_94 (by decide) ?_
    have hF3 : G3 i0 = .inr (4, [.ref (b + n), .int 100, .long 0, .long 0, .long 0, .long 0, .long 0, .long 0, .long 0]) ∧ G3 n = .inl (cX 3, Z, .inr (.inr (.inr (.inr (fun i => if i < (j + 1) then some (b + (n + 1 + i)) else none))))) ∧ (∀ i, i < (j + 1) → G3 (n + 1 + i) = .inr (7, [.long 0, .long 0, .long 0, .int 0, .int 200])) ∧ ∀ v, v < n → v ≠ i0 → G3 v = g v := by
      refine ⟨?_, ?_, ?_, ?_⟩
      · rw [eG3, va_up_ne _ _ (by omega), hp2 _ (by omega), hold _ (by omega)]; exact hF.1
      · rw [eG3, va_up_self]
        congr 7
        funext i
        by_cases hi : i = j
        · subst hi; rw [va_up_self, if_pos (by omega)]
        · rw [va_up_ne _ _ hi]
          by_cases h2 : i < j
          · rw [if_pos h2, if_pos (by omega)]
          · rw [if_neg h2, if_neg (by omega)]
      · intro i hi
        rw [eG3, va_up_ne _ _ (by omega)]
        by_cases h2 : i = j
        · subst h2; exact hp1
        · rw [hp2 _ (by omega), hold _ (by omega)]; exact hF.2.2.1 i (by omega)
      · intro v h1 h2
        rw [eG3, va_up_ne _ _ (by omega), hp2 _ (by omega), hold _ (by omega)]; exact hF.2.2.2 v h1 h2
    refine W.widen (k := 1 + (j + 1)) (n := Z + 5 * (j + 1)) (by omega) (by omega) ?_
    exact ih (j + 1) G3 H locs ls (by omega) hF3 hP hz hS (lv_sub hl [1, 2, 0] rfl) hk

set_option maxRecDepth 100000 in
set_option maxHeartbeats 4000000 in
theorem k_Gr_init {l : Launch} {D : va_G} {cX : Nat → ClassId} (b n : Nat) (g : Nat → va_E) (i0 : Nat) (hi0 : i0 < n) (hg : g i0 = .inr (4, [.null, .int 0, .long 0, .long 0, .long 0, .long 0, .long 0, .long 0, .long 0])) (a : Int32) : RC l y_Gr_init (mws y_Gr_init b_Gr_init 3 none) ({ frames := 2, cells := 7, slots := 36, locals := 32 } : Room) D clG (tyX cX) b n g [.ref (b + i0), .int a] (n + 1 + zN a) (fun u => u i0 = .inr (4, [.ref (b + n), .int 100, .long 0, .long 0, .long 0, .long 0, .long 0, .long 0, .long 0]) ∧ u n = .inl (cX 3, zN a, .inr (.inr (.inr (.inr (fun i => if i < zN a then some (b + (n + 1 + i)) else none))))) ∧ (∀ i, i < zN a → u (n + 1 + i) = .inr (7, [.long 0, .long 0, .long 0, .int 0, .int 200])) ∧ ∀ v, v < n → v ≠ i0 → u v = g v) 7 36 := by
  refine RC_of (cc := b_Gr_init) (maxL := 3) (by decide) rfl (Nat.le_of_ble_eq_true rfl) ?_
  intro p e s m args below meth c ls C hin hO hK hz hP hS hl
  obtain ⟨⟨hx, hb, hml, hown, hts⟩, hr, hlocks, hN⟩ := id C
  have hown : s.vm.findClass R_Gr = some m.cls := hown
  have hl : lv_has ls 3 [(0, .ref (b + i0)), (1, .int a)] := hl
  have hZ := zN_le a
  have h_this : g i0 = .inr (4, [.null, .int 0, .long 0, .long 0, .long 0, .long 0, .long 0, .long 0, .long 0]) := hg
  have f0 : ∀ v, v < n → v ≠ i0 → g v = g v := fun _ _ _ => rfl
  refine lv_aload_n (pc := 0) hx hb d_Gr_init_0 rfl (lv_at hl 0 rfl) ?_
  refine W.objInit hx hb hown (hts _ wd_109) (hts _ wd_17) (hts _ wd_18) (g := F0 m 1 ls [.ref (b + i0)]) rfl (by rw [hml]; exact hl.1) rfl d_Gr_init_1 (Nat.le_of_ble_eq_true rfl) (Nat.le_of_ble_eq_true rfl) ?_
  refine W.eq (g2 := F0 m 4 ls []) rfl ?_
  refine lv_aload_n (pc := 4) hx hb d_Gr_init_4 rfl (lv_at hl 0 rfl) ?_
  refine lv_bipush (v := 100) (pc := 5) hx hb d_Gr_init_5 (by decide) ?_
  refine bl_put (C := R_Gr) (T := T_Gr) (N := 9) (pc := 7) hx hb hts i_Gr t_Gr t_Gr_ok n_Gr hown hK hP hz hS i0 (by omega) h_this rfl 1 (by decide) (hts _ wd_147) (Or.inl rfl) rfl rfl (Nat.le_of_ble_eq_true rfl) d_Gr_init_7 (fun G1 H locs eG hP hz hS => ?_)
  have h_this : G1 (i0) = .inr (4, [.null, .int 100, .long 0, .long 0, .long 0, .long 0, .long 0, .long 0, .long 0]) := by rw [eG]; exact va_up_self _ _ _
  have f1 : ∀ v, v < n → v ≠ i0 → G1 v = g v := fun v h1 h2 => by rw [eG]; exact (va_up_ne _ _ (by omega)).trans (f0 v h1 h2)
  refine lv_aload_n (pc := 10) hx hb d_Gr_init_10 rfl (lv_at hl 0 rfl) ?_
  refine lv_lconst (v := 0) (pc := 11) hx hb d_Gr_init_11 (by decide) ?_
  refine bl_put (C := R_Gr) (T := T_Gr) (N := 9) (pc := 12) hx hb hts i_Gr t_Gr t_Gr_ok n_Gr hown hK hP hz hS i0 (by omega) h_this rfl 2 (by decide) (hts _ wd_149) (Or.inl rfl) rfl rfl (Nat.le_of_ble_eq_true rfl) d_Gr_init_12 (fun G2 H locs eG hP hz hS => ?_)
  have h_this : G2 (i0) = .inr (4, [.null, .int 100, .long 0, .long 0, .long 0, .long 0, .long 0, .long 0, .long 0]) := by rw [eG]; exact va_up_self _ _ _
  have f2 : ∀ v, v < n → v ≠ i0 → G2 v = g v := fun v h1 h2 => by rw [eG]; exact (va_up_ne _ _ (by omega)).trans (f1 v h1 h2)
  refine lv_aload_n (pc := 15) hx hb d_Gr_init_15 rfl (lv_at hl 0 rfl) ?_
  refine lv_lconst (v := 0) (pc := 16) hx hb d_Gr_init_16 (by decide) ?_
  refine bl_put (C := R_Gr) (T := T_Gr) (N := 9) (pc := 17) hx hb hts i_Gr t_Gr t_Gr_ok n_Gr hown hK hP hz hS i0 (by omega) h_this rfl 3 (by decide) (hts _ wd_151) (Or.inl rfl) rfl rfl (Nat.le_of_ble_eq_true rfl) d_Gr_init_17 (fun G3 H locs eG hP hz hS => ?_)
  have h_this : G3 (i0) = .inr (4, [.null, .int 100, .long 0, .long 0, .long 0, .long 0, .long 0, .long 0, .long 0]) := by rw [eG]; exact va_up_self _ _ _
  have f3 : ∀ v, v < n → v ≠ i0 → G3 v = g v := fun v h1 h2 => by rw [eG]; exact (va_up_ne _ _ (by omega)).trans (f2 v h1 h2)
  refine lv_aload_n (pc := 20) hx hb d_Gr_init_20 rfl (lv_at hl 0 rfl) ?_
  refine lv_lconst (v := 0) (pc := 21) hx hb d_Gr_init_21 (by decide) ?_
  refine bl_put (C := R_Gr) (T := T_Gr) (N := 9) (pc := 22) hx hb hts i_Gr t_Gr t_Gr_ok n_Gr hown hK hP hz hS i0 (by omega) h_this rfl 4 (by decide) (hts _ wd_153) (Or.inl rfl) rfl rfl (Nat.le_of_ble_eq_true rfl) d_Gr_init_22 (fun G4 H locs eG hP hz hS => ?_)
  have h_this : G4 (i0) = .inr (4, [.null, .int 100, .long 0, .long 0, .long 0, .long 0, .long 0, .long 0, .long 0]) := by rw [eG]; exact va_up_self _ _ _
  have f4 : ∀ v, v < n → v ≠ i0 → G4 v = g v := fun v h1 h2 => by rw [eG]; exact (va_up_ne _ _ (by omega)).trans (f3 v h1 h2)
  refine lv_aload_n (pc := 25) hx hb d_Gr_init_25 rfl (lv_at hl 0 rfl) ?_
  refine lv_lconst (v := 0) (pc := 26) hx hb d_Gr_init_26 (by decide) ?_
  refine bl_put (C := R_Gr) (T := T_Gr) (N := 9) (pc := 27) hx hb hts i_Gr t_Gr t_Gr_ok n_Gr hown hK hP hz hS i0 (by omega) h_this rfl 5 (by decide) (hts _ wd_155) (Or.inl rfl) rfl rfl (Nat.le_of_ble_eq_true rfl) d_Gr_init_27 (fun G5 H locs eG hP hz hS => ?_)
  have h_this : G5 (i0) = .inr (4, [.null, .int 100, .long 0, .long 0, .long 0, .long 0, .long 0, .long 0, .long 0]) := by rw [eG]; exact va_up_self _ _ _
  have f5 : ∀ v, v < n → v ≠ i0 → G5 v = g v := fun v h1 h2 => by rw [eG]; exact (va_up_ne _ _ (by omega)).trans (f4 v h1 h2)
  refine lv_aload_n (pc := 30) hx hb d_Gr_init_30 rfl (lv_at hl 0 rfl) ?_
  refine lv_lconst (v := 0) (pc := 31) hx hb d_Gr_init_31 (by decide) ?_
  refine bl_put (C := R_Gr) (T := T_Gr) (N := 9) (pc := 32) hx hb hts i_Gr t_Gr t_Gr_ok n_Gr hown hK hP hz hS i0 (by omega) h_this rfl 6 (by decide) (hts _ wd_157) (Or.inl rfl) rfl rfl (Nat.le_of_ble_eq_true rfl) d_Gr_init_32 (fun G6 H locs eG hP hz hS => ?_)
  have h_this : G6 (i0) = .inr (4, [.null, .int 100, .long 0, .long 0, .long 0, .long 0, .long 0, .long 0, .long 0]) := by rw [eG]; exact va_up_self _ _ _
  have f6 : ∀ v, v < n → v ≠ i0 → G6 v = g v := fun v h1 h2 => by rw [eG]; exact (va_up_ne _ _ (by omega)).trans (f5 v h1 h2)
  refine lv_aload_n (pc := 35) hx hb d_Gr_init_35 rfl (lv_at hl 0 rfl) ?_
  refine lv_lconst (v := 0) (pc := 36) hx hb d_Gr_init_36 (by decide) ?_
  refine bl_put (C := R_Gr) (T := T_Gr) (N := 9) (pc := 37) hx hb hts i_Gr t_Gr t_Gr_ok n_Gr hown hK hP hz hS i0 (by omega) h_this rfl 7 (by decide) (hts _ wd_159) (Or.inl rfl) rfl rfl (Nat.le_of_ble_eq_true rfl) d_Gr_init_37 (fun G7 H locs eG hP hz hS => ?_)
  have h_this : G7 (i0) = .inr (4, [.null, .int 100, .long 0, .long 0, .long 0, .long 0, .long 0, .long 0, .long 0]) := by rw [eG]; exact va_up_self _ _ _
  have f7 : ∀ v, v < n → v ≠ i0 → G7 v = g v := fun v h1 h2 => by rw [eG]; exact (va_up_ne _ _ (by omega)).trans (f6 v h1 h2)
  refine lv_aload_n (pc := 40) hx hb d_Gr_init_40 rfl (lv_at hl 0 rfl) ?_
  refine lv_lconst (v := 0) (pc := 41) hx hb d_Gr_init_41 (by decide) ?_
  refine bl_put (C := R_Gr) (T := T_Gr) (N := 9) (pc := 42) hx hb hts i_Gr t_Gr t_Gr_ok n_Gr hown hK hP hz hS i0 (by omega) h_this rfl 8 (by decide) (hts _ wd_161) (Or.inl rfl) rfl rfl (Nat.le_of_ble_eq_true rfl) d_Gr_init_42 (fun G8 H locs eG hP hz hS => ?_)
  have h_this : G8 (i0) = .inr (4, [.null, .int 100, .long 0, .long 0, .long 0, .long 0, .long 0, .long 0, .long 0]) := by rw [eG]; exact va_up_self _ _ _
  have f8 : ∀ v, v < n → v ≠ i0 → G8 v = g v := fun v h1 h2 => by rw [eG]; exact (va_up_ne _ _ (by omega)).trans (f7 v h1 h2)
  refine lv_aload_n (pc := 45) hx hb d_Gr_init_45 rfl (lv_at hl 0 rfl) ?_
  refine lv_iload_n (pc := 46) hx hb d_Gr_init_46 rfl (lv_at hl 1 rfl) ?_
  refine lv_iconst (v := 1) (pc := 47) hx hb d_Gr_init_47 (by decide) ?_
  refine lv_bipush (v := 6) (pc := 48) hx hb d_Gr_init_48 (by decide) ?_
  refine rh_c (pc := 50) (va_runSN (As := [.int a, .int 1, .int 6]) (rest := [.ref (b + i0)]) ⟨hx, hb, hml, hown, hts⟩ (h_GL_within (l := l) a 1 6 _) ⟨va_cnB 3 hts (gd_c wd_112) rfl rfl rfl (wn_Gr_37 hN) (hts _ wd_1) hd_GL_within ⟨Nat.le_of_ble_eq_true rfl, Nat.le_of_ble_eq_true rfl⟩, hts _ wd_111, trivial⟩ ⟨rh_blind (fun _ _ _ _ h => h) _ _, fun U hU hW => ⟨rfl, hU, hN.warm hW, trivial⟩⟩ rfl rfl hl.1 rfl (lv_room (Nat.le_of_ble_eq_true rfl)) d_Gr_init_50 ⟨Nat.zero_le _, Nat.zero_le _⟩) hS (fun locs hS => ?_)
  refine lv_if_eq (tgt := 60) (pc := 53) hx hb d_Gr_init_53 (by decide) (fun c_1 => ?_) (fun c_1 => ?_)
  · refine lv_iconst (v := 1) (pc := 60) hx hb d_Gr_init_60 (by decide) ?_
    rw [show (1 : Int32) = nI (zN a) by unfold zN; rw [if_pos c_1]; rfl]
    refine bl_newq (C := R_Zo) (pc := 61) hx hb hown (hts _ wd_113) hO.2.2.1 (hK.2 3 _ rfl).2.choose_spec.choose_spec.2.2.2 hP hz hS (nI_pos (by omega)) (nI_clamp (by omega)) (by omega) (by show 0 + 1 ≤ 7; omega) (by show 0 + zN a ≤ 36; omega) d_Gr_init_61 (fun GA H eG hP hz hS => ?_)
    have h_zA : GA n = .inl (cX 3, zN a, .inr (.inr (.inr (.inr (fun _ => none))))) := by rw [eG]; exact va_up_self _ _ _
    have h_this : GA i0 = .inr (4, [.null, .int 100, .long 0, .long 0, .long 0, .long 0, .long 0, .long 0, .long 0]) := by rw [eG]; exact (va_up_ne _ _ (by omega)).trans h_this
    have fA : ∀ v, v < n → v ≠ i0 → GA v = g v := fun v h1 h2 => by rw [eG]; exact (va_up_ne _ _ (by omega)).trans (f8 v h1 h2)
    refine bl_put (C := R_Gr) (T := T_Gr) (N := 9) (pc := 64) hx hb hts i_Gr t_Gr t_Gr_ok n_Gr hown hK hP hz hS i0 (by omega) h_this rfl 0 (by decide) (hts _ wd_145) (Or.inr ⟨rfl, hin, rfl⟩) rfl rfl (Nat.le_of_ble_eq_true rfl) d_Gr_init_64 (fun GB H locs eG hP hz hS => ?_)
    refine lv_iconst (v := 0) (pc := 67) hx hb d_Gr_init_67 (by decide) ?_
    refine lv_istore_n (lv' := [(2, .int 0), (0, .ref (b + i0)), (1, .int a)]) (pc := 68) hx hb d_Gr_init_68 rfl hl (by decide) rfl (fun ls hl => ?_)
    refine W.widen (k := 1 + 0) (n := zN a + 5 * 0) (by omega) (by omega) ?_
    refine gr_loop C hO hK b n g i0 hi0 a (zN a) hZ (zN a) 0 GB H locs ls (by omega) ⟨?_, ?_, fun i hi => absurd hi (Nat.not_lt_zero _), fun v h1 h2 => ?_⟩ hP hz hS (lv_sub hl [1, 2, 0] rfl) (fun G H locs ls hF hP hz hS => ?_)
    · rw [eG]; exact va_up_self _ _ _
    · rw [eG, va_up_ne _ _ (by omega), h_zA]; rfl
    · rw [eG, va_up_ne _ _ (by omega)]; exact fA v h1 h2
    · refine W.widen (k := 7) (n := 36) (by omega) (by omega) ?_
      exact bl_vret (pc := 97) hx hb hr hlocks hP hz hS hF d_Gr_init_97
  · refine lv_iload_n (pc := 56) hx hb d_Gr_init_56 rfl (lv_at hl 1 rfl) ?_
    refine lv_goto (tgt := 61) (pc := 57) hx hb d_Gr_init_57 (by decide) ?_
    refine W.eq (g2 := F0 m 61 ls [.int (nI (zN a)), .ref (b + i0)]) (by rw [show zN a = a.toNatClampNeg by unfold zN; rw [if_neg c_1], ← (zN_in c_1).2]) ?_
    refine bl_newq (C := R_Zo) (pc := 61) hx hb hown (hts _ wd_113) hO.2.2.1 (hK.2 3 _ rfl).2.choose_spec.choose_spec.2.2.2 hP hz hS (nI_pos (by omega)) (nI_clamp (by omega)) (by omega) (by show 0 + 1 ≤ 7; omega) (by show 0 + zN a ≤ 36; omega) d_Gr_init_61 (fun GA H eG hP hz hS => ?_)
    have h_zA : GA n = .inl (cX 3, zN a, .inr (.inr (.inr (.inr (fun _ => none))))) := by rw [eG]; exact va_up_self _ _ _
    have h_this : GA i0 = .inr (4, [.null, .int 100, .long 0, .long 0, .long 0, .long 0, .long 0, .long 0, .long 0]) := by rw [eG]; exact (va_up_ne _ _ (by omega)).trans h_this
    have fA : ∀ v, v < n → v ≠ i0 → GA v = g v := fun v h1 h2 => by rw [eG]; exact (va_up_ne _ _ (by omega)).trans (f8 v h1 h2)
    refine bl_put (C := R_Gr) (T := T_Gr) (N := 9) (pc := 64) hx hb hts i_Gr t_Gr t_Gr_ok n_Gr hown hK hP hz hS i0 (by omega) h_this rfl 0 (by decide) (hts _ wd_145) (Or.inr ⟨rfl, hin, rfl⟩) rfl rfl (Nat.le_of_ble_eq_true rfl) d_Gr_init_64 (fun GB H locs eG hP hz hS => ?_)
    refine lv_iconst (v := 0) (pc := 67) hx hb d_Gr_init_67 (by decide) ?_
    refine lv_istore_n (lv' := [(2, .int 0), (0, .ref (b + i0)), (1, .int a)]) (pc := 68) hx hb d_Gr_init_68 rfl hl (by decide) rfl (fun ls hl => ?_)
    refine W.widen (k := 1 + 0) (n := zN a + 5 * 0) (by omega) (by omega) ?_
    refine gr_loop C hO hK b n g i0 hi0 a (zN a) hZ (zN a) 0 GB H locs ls (by omega) ⟨?_, ?_, fun i hi => absurd hi (Nat.not_lt_zero _), fun v h1 h2 => ?_⟩ hP hz hS (lv_sub hl [1, 2, 0] rfl) (fun G H locs ls hF hP hz hS => ?_)
    · rw [eG]; exact va_up_self _ _ _
    · rw [eG, va_up_ne _ _ (by omega), h_zA]; rfl
    · rw [eG, va_up_ne _ _ (by omega)]; exact fA v h1 h2
    · refine W.widen (k := 7) (n := 36) (by omega) (by omega) ?_
      exact bl_vret (pc := 97) hx hb hr hlocks hP hz hS hF d_Gr_init_97
