theorem arr_def_int (cA : ClassId) (n : Nat) : vp_cell cA (n, .inl (fun _ => 0)) = arrV cA n (fun _ => defaultValue .int) := rfl
theorem arr_def_boolean (cA : ClassId) (n : Nat) : vp_cell cA (n, .inl (fun _ => 0)) = arrV cA n (fun _ => defaultValue .boolean) := rfl
theorem arr_def_long (cA : ClassId) (n : Nat) : vp_cell cA (n, .inr (.inl (fun _ => 0))) = arrV cA n (fun _ => defaultValue .long) := rfl

set_option maxRecDepth 100000 in
set_option maxHeartbeats 4000000 in
theorem k_Ce_init {l : Launch} {D : va_G} {cX : Nat → ClassId} (b n : Nat) (g : Nat → va_E) (i0 : Nat) (hi0 : i0 < n) (hg : g i0 = .inr (1, [.null])) : RC l y_Ce_init (mws y_Ce_init b_Ce_init 1 none) ({ frames := 1, cells := 1, slots := 4, locals := 12 } : Room) D clG (tyX cX) b n g [.ref (b + i0)] (n + 1) (fun u => u (i0) = .inr (1, [.ref (b + n)]) ∧ u (n) = .inl (cX 0, 4, .inl (fun _ => 0)) ∧ ∀ v, v < n → v ≠ i0 → u v = g v) 1 4 := by
  refine RC_of (cc := b_Ce_init) (maxL := 1) (by decide) rfl (Nat.le_of_ble_eq_true rfl) ?_
  intro p e s m args below meth c ls C hin hO hK hz hP hS hl
  obtain ⟨⟨hx, hb, hml, hown, hts⟩, hr, hlocks, hN⟩ := id C
  have hown : s.vm.findClass R_Ce = some m.cls := hown
  have hl : lv_has ls 1 [(0, .ref (b + i0))] := hl
  have h_this : g i0 = .inr (1, [.null]) := hg
  have f0 : ∀ v, v < n → v ≠ i0 → g v = g v := fun _ _ _ => rfl
  refine lv_aload_n (pc := 0) hx hb d_Ce_init_0 rfl (lv_at hl 0 rfl) ?_
  refine W.objInit hx hb hown (hts _ wd_205) (hts _ wd_17) (hts _ wd_18) (g := F0 m 1 ls [.ref (b + i0)]) rfl (by rw [hml]; exact hl.1) rfl d_Ce_init_1 (Nat.le_of_ble_eq_true rfl) (Nat.le_of_ble_eq_true rfl) ?_
  refine W.eq (g2 := F0 m 4 ls []) rfl ?_
  refine lv_aload_n (pc := 4) hx hb d_Ce_init_4 rfl (lv_at hl 0 rfl) ?_
  refine lv_iconst (v := 4) (pc := 5) hx hb d_Ce_init_5 (by decide) ?_
  refine bl_newa (atype := .int) (ty := .int) (a0 := (4, .inl (fun _ => 0))) (pc := 6) hx hb (hts _ wd_103) rfl (hK.2 0 _ rfl).2 hP hz hS (fun cA => arr_def_int _ _) (by decide) (by decide) (by decide) (Nat.le_of_ble_eq_true rfl) (Nat.le_of_ble_eq_true rfl) d_Ce_init_6 (fun G1 H eG hP hz hS => ?_)
  have h_this : G1 (i0) = .inr (1, [.null]) := by rw [eG]; exact (va_up_ne _ _ (by omega)).trans h_this
  have h_a0 : G1 (n) = .inl (cX 0, 4, .inl (fun _ => 0)) := by rw [eG]; exact va_up_self _ _ _
  have f1 : ∀ v, v < n → v ≠ i0 → G1 v = g v := fun v h1 h2 => by rw [eG]; exact (va_up_ne _ _ (by omega)).trans (f0 v h1 h2)
  have hP : va_P D clG (pw (n + 1) (ba b) G1) H := hP
  have hz : H.size = b + (n + 1) := hz
  refine bl_put (C := R_Ce) (T := T_Ce) (N := 1) (pc := 8) hx hb hts i_Ce t_Ce t_Ce_ok n_Ce hown hK hP hz hS i0 (by omega) h_this rfl 0 (by decide) (hts _ wd_206) (Or.inr ⟨rfl, hin, rfl⟩) rfl rfl (Nat.le_of_ble_eq_true rfl) d_Ce_init_8 (fun G2 H locs eG hP hz hS => ?_)
  have h_this : G2 (i0) = .inr (1, [.ref (b + n)]) := by rw [eG]; exact va_up_self _ _ _
  have h_a0 : G2 (n) = .inl (cX 0, 4, .inl (fun _ => 0)) := by rw [eG]; exact (va_up_ne _ _ (by omega)).trans h_a0
  have f2 : ∀ v, v < n → v ≠ i0 → G2 v = g v := fun v h1 h2 => by rw [eG]; exact (va_up_ne _ _ (by omega)).trans (f1 v h1 h2)
  exact bl_vret (pc := 11) hx hb hr hlocks hP hz hS ⟨h_this, h_a0, f2⟩ d_Ce_init_11

set_option maxRecDepth 100000 in
set_option maxHeartbeats 4000000 in
theorem k_Mi_init {l : Launch} {D : va_G} {cX : Nat → ClassId} (b n : Nat) (g : Nat → va_E) (i0 : Nat) (hi0 : i0 < n) (hg : g i0 = .inr (6, [.null, .int 0, .null, .null, .null, .int 0])) : RC l y_Mi_init (mws y_Mi_init b_Mi_init 1 none) ({ frames := 1, cells := 10, slots := 44, locals := 12 } : Room) D clG (tyX cX) b n g [.ref (b + i0)] (n + 10) (fun u => u (i0) = .inr (6, [.ref (b + n), .int 0, .ref (b + (n + 1)), .ref (b + (n + 2)), .ref (b + (n + 9)), .int 0]) ∧ u (n) = .inl (cX 0, 4, .inl (fun _ => 0)) ∧ u (n + 1) = .inl (cX 0, 4, .inl (fun _ => 0)) ∧ u (n + 2) = .inl (cX 5, 6, .inr (.inr (.inr (.inr (fun i => if i < 6 then some (b + (n + 3 + i)) else none))))) ∧ (∀ i, i < 6 → u (n + 3 + i) = .inl (cX 0, 4, .inl (fun _ => 0))) ∧ u (n + 9) = .inl (cX 0, 6, .inl (fun _ => 0)) ∧ ∀ v, v < n → v ≠ i0 → u v = g v) 10 44 := by
  refine RC_of (cc := b_Mi_init) (maxL := 1) (by decide) rfl (Nat.le_of_ble_eq_true rfl) ?_
  intro p e s m args below meth c ls C hin hO hK hz hP hS hl
  obtain ⟨⟨hx, hb, hml, hown, hts⟩, hr, hlocks, hN⟩ := id C
  have hown : s.vm.findClass R_Mi = some m.cls := hown
  have hl : lv_has ls 1 [(0, .ref (b + i0))] := hl
  have h_this : g i0 = .inr (6, [.null, .int 0, .null, .null, .null, .int 0]) := hg
  have f0 : ∀ v, v < n → v ≠ i0 → g v = g v := fun _ _ _ => rfl
  refine lv_aload_n (pc := 0) hx hb d_Mi_init_0 rfl (lv_at hl 0 rfl) ?_
  refine W.objInit hx hb hown (hts _ wd_79) (hts _ wd_17) (hts _ wd_18) (g := F0 m 1 ls [.ref (b + i0)]) rfl (by rw [hml]; exact hl.1) rfl d_Mi_init_1 (Nat.le_of_ble_eq_true rfl) (Nat.le_of_ble_eq_true rfl) ?_
  refine W.eq (g2 := F0 m 4 ls []) rfl ?_
  refine lv_aload_n (pc := 4) hx hb d_Mi_init_4 rfl (lv_at hl 0 rfl) ?_
  refine lv_iconst (v := 4) (pc := 5) hx hb d_Mi_init_5 (by decide) ?_
  refine bl_newa (atype := .int) (ty := .int) (a0 := (4, .inl (fun _ => 0))) (pc := 6) hx hb (hts _ wd_103) rfl (hK.2 0 _ rfl).2 hP hz hS (fun cA => arr_def_int _ _) (by decide) (by decide) (by decide) (Nat.le_of_ble_eq_true rfl) (Nat.le_of_ble_eq_true rfl) d_Mi_init_6 (fun G1 H eG hP hz hS => ?_)
  have h_this : G1 (i0) = .inr (6, [.null, .int 0, .null, .null, .null, .int 0]) := by rw [eG]; exact (va_up_ne _ _ (by omega)).trans h_this
  have h_a0 : G1 (n) = .inl (cX 0, 4, .inl (fun _ => 0)) := by rw [eG]; exact va_up_self _ _ _
  have f1 : ∀ v, v < n → v ≠ i0 → G1 v = g v := fun v h1 h2 => by rw [eG]; exact (va_up_ne _ _ (by omega)).trans (f0 v h1 h2)
  have hP : va_P D clG (pw (n + 1) (ba b) G1) H := hP
  have hz : H.size = b + (n + 1) := hz
  refine bl_put (C := R_Mi) (T := T_Mi) (N := 6) (pc := 8) hx hb hts i_Mi t_Mi t_Mi_ok n_Mi hown hK hP hz hS i0 (by omega) h_this rfl 0 (by decide) (hts _ wd_82) (Or.inr ⟨rfl, hin, rfl⟩) rfl rfl (Nat.le_of_ble_eq_true rfl) d_Mi_init_8 (fun G2 H locs eG hP hz hS => ?_)
  have h_this : G2 (i0) = .inr (6, [.ref (b + n), .int 0, .null, .null, .null, .int 0]) := by rw [eG]; exact va_up_self _ _ _
  have h_a0 : G2 (n) = .inl (cX 0, 4, .inl (fun _ => 0)) := by rw [eG]; exact (va_up_ne _ _ (by omega)).trans h_a0
  have f2 : ∀ v, v < n → v ≠ i0 → G2 v = g v := fun v h1 h2 => by rw [eG]; exact (va_up_ne _ _ (by omega)).trans (f1 v h1 h2)
  refine lv_aload_n (pc := 11) hx hb d_Mi_init_11 rfl (lv_at hl 0 rfl) ?_
  refine lv_iconst (v := 0) (pc := 12) hx hb d_Mi_init_12 (by decide) ?_
  refine bl_put (C := R_Mi) (T := T_Mi) (N := 6) (pc := 13) hx hb hts i_Mi t_Mi t_Mi_ok n_Mi hown hK hP hz hS i0 (by omega) h_this rfl 1 (by decide) (hts _ wd_84) (Or.inl rfl) rfl rfl (Nat.le_of_ble_eq_true rfl) d_Mi_init_13 (fun G3 H locs eG hP hz hS => ?_)
  have h_this : G3 (i0) = .inr (6, [.ref (b + n), .int 0, .null, .null, .null, .int 0]) := by rw [eG]; exact va_up_self _ _ _
  have h_a0 : G3 (n) = .inl (cX 0, 4, .inl (fun _ => 0)) := by rw [eG]; exact (va_up_ne _ _ (by omega)).trans h_a0
  have f3 : ∀ v, v < n → v ≠ i0 → G3 v = g v := fun v h1 h2 => by rw [eG]; exact (va_up_ne _ _ (by omega)).trans (f2 v h1 h2)
  refine lv_aload_n (pc := 16) hx hb d_Mi_init_16 rfl (lv_at hl 0 rfl) ?_
  refine lv_iconst (v := 4) (pc := 17) hx hb d_Mi_init_17 (by decide) ?_
  refine bl_newa (atype := .int) (ty := .int) (a0 := (4, .inl (fun _ => 0))) (pc := 18) hx hb (hts _ wd_103) rfl (hK.2 0 _ rfl).2 hP hz hS (fun cA => arr_def_int _ _) (by decide) (by decide) (by decide) (Nat.le_of_ble_eq_true rfl) (Nat.le_of_ble_eq_true rfl) d_Mi_init_18 (fun G4 H eG hP hz hS => ?_)
  have h_this : G4 (i0) = .inr (6, [.ref (b + n), .int 0, .null, .null, .null, .int 0]) := by rw [eG]; exact (va_up_ne _ _ (by omega)).trans h_this
  have h_a0 : G4 (n) = .inl (cX 0, 4, .inl (fun _ => 0)) := by rw [eG]; exact (va_up_ne _ _ (by omega)).trans h_a0
  have h_a1 : G4 (n + 1) = .inl (cX 0, 4, .inl (fun _ => 0)) := by rw [eG]; exact va_up_self _ _ _
  have f4 : ∀ v, v < n → v ≠ i0 → G4 v = g v := fun v h1 h2 => by rw [eG]; exact (va_up_ne _ _ (by omega)).trans (f3 v h1 h2)
  have hP : va_P D clG (pw (n + 2) (ba b) G4) H := hP
  have hz : H.size = b + (n + 2) := hz
  refine bl_put (C := R_Mi) (T := T_Mi) (N := 6) (pc := 20) hx hb hts i_Mi t_Mi t_Mi_ok n_Mi hown hK hP hz hS i0 (by omega) h_this rfl 2 (by decide) (hts _ wd_86) (Or.inr ⟨rfl, hin, rfl⟩) rfl rfl (Nat.le_of_ble_eq_true rfl) d_Mi_init_20 (fun G5 H locs eG hP hz hS => ?_)
  have h_this : G5 (i0) = .inr (6, [.ref (b + n), .int 0, .ref (b + (n + 1)), .null, .null, .int 0]) := by rw [eG]; exact va_up_self _ _ _
  have h_a0 : G5 (n) = .inl (cX 0, 4, .inl (fun _ => 0)) := by rw [eG]; exact (va_up_ne _ _ (by omega)).trans h_a0
  have h_a1 : G5 (n + 1) = .inl (cX 0, 4, .inl (fun _ => 0)) := by rw [eG]; exact (va_up_ne _ _ (by omega)).trans h_a1
  have f5 : ∀ v, v < n → v ≠ i0 → G5 v = g v := fun v h1 h2 => by rw [eG]; exact (va_up_ne _ _ (by omega)).trans (f4 v h1 h2)
  refine lv_aload_n (pc := 23) hx hb d_Mi_init_23 rfl (lv_at hl 0 rfl) ?_
  refine lv_bipush (v := 6) (pc := 24) hx hb d_Mi_init_24 (by decide) ?_
  refine lv_iconst (v := 4) (pc := 26) hx hb d_Mi_init_26 (by decide) ?_
  refine bl_mna (pc := 27) hx hb hown (hts _ wd_80) hO.2.2.2.2 (hts _ wd_103) (hK.2 0 _ rfl).2 (hK.2 5 _ rfl).2 hP hz hS (Nat.le_of_ble_eq_true rfl) (Nat.le_of_ble_eq_true rfl) d_Mi_init_27 (fun G6 H h_ofT h_rows hold hP hz hS => ?_)
  have h_this : G6 (i0) = .inr (6, [.ref (b + n), .int 0, .ref (b + (n + 1)), .null, .null, .int 0]) := (hold _ (by omega)).trans h_this
  have h_a0 : G6 (n) = .inl (cX 0, 4, .inl (fun _ => 0)) := (hold _ (by omega)).trans h_a0
  have h_a1 : G6 (n + 1) = .inl (cX 0, 4, .inl (fun _ => 0)) := (hold _ (by omega)).trans h_a1
  have f6 : ∀ v, v < n → v ≠ i0 → G6 v = g v := fun v h1 h2 => (hold v (by omega)).trans (f5 v h1 h2)
  have h_ofT : G6 (n + 2) = .inl (cX 5, 6, .inr (.inr (.inr (.inr (fun i => if i < 6 then some (b + (n + 3 + i)) else none))))) := h_ofT
  have h_rows : ∀ i, i < 6 → G6 (n + 3 + i) = .inl (cX 0, 4, .inl (fun _ => 0)) := h_rows
  have hP : va_P D clG (pw (n + 9) (ba b) G6) H := hP
  have hz : H.size = b + (n + 9) := hz
  refine bl_put (C := R_Mi) (T := T_Mi) (N := 6) (pc := 31) hx hb hts i_Mi t_Mi t_Mi_ok n_Mi hown hK hP hz hS i0 (by omega) h_this rfl 3 (by decide) (hts _ wd_87) (Or.inr ⟨rfl, hin, rfl⟩) rfl rfl (Nat.le_of_ble_eq_true rfl) d_Mi_init_31 (fun G7 H locs eG hP hz hS => ?_)
  have h_this : G7 (i0) = .inr (6, [.ref (b + n), .int 0, .ref (b + (n + 1)), .ref (b + (n + 2)), .null, .int 0]) := by rw [eG]; exact va_up_self _ _ _
  have h_a0 : G7 (n) = .inl (cX 0, 4, .inl (fun _ => 0)) := by rw [eG]; exact (va_up_ne _ _ (by omega)).trans h_a0
  have h_a1 : G7 (n + 1) = .inl (cX 0, 4, .inl (fun _ => 0)) := by rw [eG]; exact (va_up_ne _ _ (by omega)).trans h_a1
  have h_ofT : G7 (n + 2) = .inl (cX 5, 6, .inr (.inr (.inr (.inr (fun i => if i < 6 then some (b + (n + 3 + i)) else none))))) := by rw [eG]; exact (va_up_ne _ _ (by omega)).trans h_ofT
  have h_rows : ∀ i, i < 6 → G7 (n + 3 + i) = .inl (cX 0, 4, .inl (fun _ => 0)) := fun i hi => by rw [eG]; exact (va_up_ne _ _ (by omega)).trans (h_rows i hi)
  have f7 : ∀ v, v < n → v ≠ i0 → G7 v = g v := fun v h1 h2 => by rw [eG]; exact (va_up_ne _ _ (by omega)).trans (f6 v h1 h2)
  refine lv_aload_n (pc := 34) hx hb d_Mi_init_34 rfl (lv_at hl 0 rfl) ?_
  refine lv_bipush (v := 6) (pc := 35) hx hb d_Mi_init_35 (by decide) ?_
  refine bl_newa (atype := .int) (ty := .int) (a0 := (6, .inl (fun _ => 0))) (pc := 37) hx hb (hts _ wd_103) rfl (hK.2 0 _ rfl).2 hP hz hS (fun cA => arr_def_int _ _) (by decide) (by decide) (by decide) (Nat.le_of_ble_eq_true rfl) (Nat.le_of_ble_eq_true rfl) d_Mi_init_37 (fun G8 H eG hP hz hS => ?_)
  have h_this : G8 (i0) = .inr (6, [.ref (b + n), .int 0, .ref (b + (n + 1)), .ref (b + (n + 2)), .null, .int 0]) := by rw [eG]; exact (va_up_ne _ _ (by omega)).trans h_this
  have h_a0 : G8 (n) = .inl (cX 0, 4, .inl (fun _ => 0)) := by rw [eG]; exact (va_up_ne _ _ (by omega)).trans h_a0
  have h_a1 : G8 (n + 1) = .inl (cX 0, 4, .inl (fun _ => 0)) := by rw [eG]; exact (va_up_ne _ _ (by omega)).trans h_a1
  have h_ofT : G8 (n + 2) = .inl (cX 5, 6, .inr (.inr (.inr (.inr (fun i => if i < 6 then some (b + (n + 3 + i)) else none))))) := by rw [eG]; exact (va_up_ne _ _ (by omega)).trans h_ofT
  have h_rows : ∀ i, i < 6 → G8 (n + 3 + i) = .inl (cX 0, 4, .inl (fun _ => 0)) := fun i hi => by rw [eG]; exact (va_up_ne _ _ (by omega)).trans (h_rows i hi)
  have h_a9 : G8 (n + 9) = .inl (cX 0, 6, .inl (fun _ => 0)) := by rw [eG]; exact va_up_self _ _ _
  have f8 : ∀ v, v < n → v ≠ i0 → G8 v = g v := fun v h1 h2 => by rw [eG]; exact (va_up_ne _ _ (by omega)).trans (f7 v h1 h2)
  have hP : va_P D clG (pw (n + 10) (ba b) G8) H := hP
  have hz : H.size = b + (n + 10) := hz
  refine bl_put (C := R_Mi) (T := T_Mi) (N := 6) (pc := 39) hx hb hts i_Mi t_Mi t_Mi_ok n_Mi hown hK hP hz hS i0 (by omega) h_this rfl 4 (by decide) (hts _ wd_88) (Or.inr ⟨rfl, hin, rfl⟩) rfl rfl (Nat.le_of_ble_eq_true rfl) d_Mi_init_39 (fun G9 H locs eG hP hz hS => ?_)
  have h_this : G9 (i0) = .inr (6, [.ref (b + n), .int 0, .ref (b + (n + 1)), .ref (b + (n + 2)), .ref (b + (n + 9)), .int 0]) := by rw [eG]; exact va_up_self _ _ _
  have h_a0 : G9 (n) = .inl (cX 0, 4, .inl (fun _ => 0)) := by rw [eG]; exact (va_up_ne _ _ (by omega)).trans h_a0
  have h_a1 : G9 (n + 1) = .inl (cX 0, 4, .inl (fun _ => 0)) := by rw [eG]; exact (va_up_ne _ _ (by omega)).trans h_a1
  have h_ofT : G9 (n + 2) = .inl (cX 5, 6, .inr (.inr (.inr (.inr (fun i => if i < 6 then some (b + (n + 3 + i)) else none))))) := by rw [eG]; exact (va_up_ne _ _ (by omega)).trans h_ofT
  have h_rows : ∀ i, i < 6 → G9 (n + 3 + i) = .inl (cX 0, 4, .inl (fun _ => 0)) := fun i hi => by rw [eG]; exact (va_up_ne _ _ (by omega)).trans (h_rows i hi)
  have h_a9 : G9 (n + 9) = .inl (cX 0, 6, .inl (fun _ => 0)) := by rw [eG]; exact (va_up_ne _ _ (by omega)).trans h_a9
  have f9 : ∀ v, v < n → v ≠ i0 → G9 v = g v := fun v h1 h2 => by rw [eG]; exact (va_up_ne _ _ (by omega)).trans (f8 v h1 h2)
  refine lv_aload_n (pc := 42) hx hb d_Mi_init_42 rfl (lv_at hl 0 rfl) ?_
  refine lv_iconst (v := 0) (pc := 43) hx hb d_Mi_init_43 (by decide) ?_
  refine bl_put (C := R_Mi) (T := T_Mi) (N := 6) (pc := 44) hx hb hts i_Mi t_Mi t_Mi_ok n_Mi hown hK hP hz hS i0 (by omega) h_this rfl 5 (by decide) (hts _ wd_89) (Or.inl rfl) rfl rfl (Nat.le_of_ble_eq_true rfl) d_Mi_init_44 (fun G10 H locs eG hP hz hS => ?_)
  have h_this : G10 (i0) = .inr (6, [.ref (b + n), .int 0, .ref (b + (n + 1)), .ref (b + (n + 2)), .ref (b + (n + 9)), .int 0]) := by rw [eG]; exact va_up_self _ _ _
  have h_a0 : G10 (n) = .inl (cX 0, 4, .inl (fun _ => 0)) := by rw [eG]; exact (va_up_ne _ _ (by omega)).trans h_a0
  have h_a1 : G10 (n + 1) = .inl (cX 0, 4, .inl (fun _ => 0)) := by rw [eG]; exact (va_up_ne _ _ (by omega)).trans h_a1
  have h_ofT : G10 (n + 2) = .inl (cX 5, 6, .inr (.inr (.inr (.inr (fun i => if i < 6 then some (b + (n + 3 + i)) else none))))) := by rw [eG]; exact (va_up_ne _ _ (by omega)).trans h_ofT
  have h_rows : ∀ i, i < 6 → G10 (n + 3 + i) = .inl (cX 0, 4, .inl (fun _ => 0)) := fun i hi => by rw [eG]; exact (va_up_ne _ _ (by omega)).trans (h_rows i hi)
  have h_a9 : G10 (n + 9) = .inl (cX 0, 6, .inl (fun _ => 0)) := by rw [eG]; exact (va_up_ne _ _ (by omega)).trans h_a9
  have f10 : ∀ v, v < n → v ≠ i0 → G10 v = g v := fun v h1 h2 => by rw [eG]; exact (va_up_ne _ _ (by omega)).trans (f9 v h1 h2)
  exact bl_vret (pc := 47) hx hb hr hlocks hP hz hS ⟨h_this, h_a0, h_a1, h_ofT, h_rows, h_a9, f10⟩ d_Mi_init_47
