set_option maxRecDepth 100000 in
set_option maxHeartbeats 4000000 in
theorem k_Ki_init {l : Launch} {D : va_G} {cX : Nat → ClassId} (b n : Nat) (g : Nat → va_E) (i0 : Nat) (hi0 : i0 < n) (hg : g i0 = .inr (5, [.int 0, .int 0, .long 0])) : RC l y_Ki_init (mws y_Ki_init b_Ki_init 1 none) ({ frames := 1, cells := 0, slots := 0, locals := 12 } : Room) D clG (tyX cX) b n g [.ref (b + i0)] n (fun u => u i0 = .inr (5, [.int 0, .int 0, .long 0]) ∧ ∀ v, v ≠ i0 → u v = g v) 0 0 := by
  refine RC_of (cc := b_Ki_init) (maxL := 1) (by decide) rfl (Nat.le_of_ble_eq_true rfl) ?_
  intro p e s m args below meth c ls C hin hO hK hz hP hS hl
  obtain ⟨⟨hx, hb, hml, hown, hts⟩, hr, hlocks, hN⟩ := id C
  have hown : s.vm.findClass R_Ki = some m.cls := hown
  have hl : lv_has ls 1 [(0, .ref (b + i0))] := hl
  have f0 : ∀ v, v ≠ i0 → g v = g v := fun _ _ => rfl
  refine lv_aload_n (pc := 0) hx hb d_Ki_init_0 rfl (lv_at hl 0 rfl) ?_
  refine W.objInit hx hb hown (hts _ wd_186) (hts _ wd_17) (hts _ wd_18) (g := F0 m 1 ls [.ref (b + i0)]) rfl (by rw [hml]; exact hl.1) rfl d_Ki_init_1 (Nat.le_of_ble_eq_true rfl) (Nat.le_of_ble_eq_true rfl) ?_
  refine W.eq (g2 := F0 m 4 ls []) rfl ?_
  refine lv_aload_n (pc := 4) hx hb d_Ki_init_4 rfl (lv_at hl 0 rfl) ?_
  refine lv_iconst (v := 0) (pc := 5) hx hb d_Ki_init_5 (by decide) ?_
  refine bl_put (C := R_Ki) (T := T_Ki) (N := 3) (pc := 6) hx hb hts i_Ki t_Ki t_Ki_ok n_Ki hown hK hP hz hS i0 hi0 hg rfl 0 (by decide) (hts _ wd_187) (Or.inl rfl) rfl rfl (Nat.le_of_ble_eq_true rfl) d_Ki_init_6 (fun G1 H locs eG hP hz hS => ?_)
  have hg : G1 i0 = .inr (5, [.int 0, .int 0, .long 0]) := by rw [eG]; exact va_up_self _ _ _
  have f1 : ∀ v, v ≠ i0 → G1 v = g v := fun v hv => by rw [eG]; exact (va_up_ne _ _ hv).trans (f0 v hv)
  refine lv_aload_n (pc := 9) hx hb d_Ki_init_9 rfl (lv_at hl 0 rfl) ?_
  refine lv_iconst (v := 0) (pc := 10) hx hb d_Ki_init_10 (by decide) ?_
  refine bl_put (C := R_Ki) (T := T_Ki) (N := 3) (pc := 11) hx hb hts i_Ki t_Ki t_Ki_ok n_Ki hown hK hP hz hS i0 hi0 hg rfl 1 (by decide) (hts _ wd_189) (Or.inl rfl) rfl rfl (Nat.le_of_ble_eq_true rfl) d_Ki_init_11 (fun G2 H locs eG hP hz hS => ?_)
  have hg : G2 i0 = .inr (5, [.int 0, .int 0, .long 0]) := by rw [eG]; exact va_up_self _ _ _
  have f2 : ∀ v, v ≠ i0 → G2 v = g v := fun v hv => by rw [eG]; exact (va_up_ne _ _ hv).trans (f1 v hv)
  refine lv_aload_n (pc := 14) hx hb d_Ki_init_14 rfl (lv_at hl 0 rfl) ?_
  refine lv_lconst (v := 0) (pc := 15) hx hb d_Ki_init_15 (by decide) ?_
  refine bl_put (C := R_Ki) (T := T_Ki) (N := 3) (pc := 16) hx hb hts i_Ki t_Ki t_Ki_ok n_Ki hown hK hP hz hS i0 hi0 hg rfl 2 (by decide) (hts _ wd_191) (Or.inl rfl) rfl rfl (Nat.le_of_ble_eq_true rfl) d_Ki_init_16 (fun G3 H locs eG hP hz hS => ?_)
  have hg : G3 i0 = .inr (5, [.int 0, .int 0, .long 0]) := by rw [eG]; exact va_up_self _ _ _
  have f3 : ∀ v, v ≠ i0 → G3 v = g v := fun v hv => by rw [eG]; exact (va_up_ne _ _ hv).trans (f2 v hv)
  exact bl_vret (pc := 19) hx hb hr hlocks hP hz hS ⟨hg, f3⟩ d_Ki_init_19

set_option maxRecDepth 100000 in
set_option maxHeartbeats 4000000 in
theorem k_Zo_init {l : Launch} {D : va_G} {cX : Nat → ClassId} (b n : Nat) (g : Nat → va_E) (i0 : Nat) (hi0 : i0 < n) (hg : g i0 = .inr (7, [.long 0, .long 0, .long 0, .int 0, .int 0])) : RC l y_Zo_init (mws y_Zo_init b_Zo_init 1 none) ({ frames := 1, cells := 0, slots := 0, locals := 12 } : Room) D clG (tyX cX) b n g [.ref (b + i0)] n (fun u => u i0 = .inr (7, [.long 0, .long 0, .long 0, .int 0, .int 200]) ∧ ∀ v, v ≠ i0 → u v = g v) 0 0 := by
  refine RC_of (cc := b_Zo_init) (maxL := 1) (by decide) rfl (Nat.le_of_ble_eq_true rfl) ?_
  intro p e s m args below meth c ls C hin hO hK hz hP hS hl
  obtain ⟨⟨hx, hb, hml, hown, hts⟩, hr, hlocks, hN⟩ := id C
  have hown : s.vm.findClass R_Zo = some m.cls := hown
  have hl : lv_has ls 1 [(0, .ref (b + i0))] := hl
  have f0 : ∀ v, v ≠ i0 → g v = g v := fun _ _ => rfl
  refine lv_aload_n (pc := 0) hx hb d_Zo_init_0 rfl (lv_at hl 0 rfl) ?_
  refine W.objInit hx hb hown (hts _ wd_119) (hts _ wd_17) (hts _ wd_18) (g := F0 m 1 ls [.ref (b + i0)]) rfl (by rw [hml]; exact hl.1) rfl d_Zo_init_1 (Nat.le_of_ble_eq_true rfl) (Nat.le_of_ble_eq_true rfl) ?_
  refine W.eq (g2 := F0 m 4 ls []) rfl ?_
  refine lv_aload_n (pc := 4) hx hb d_Zo_init_4 rfl (lv_at hl 0 rfl) ?_
  refine lv_lconst (v := 0) (pc := 5) hx hb d_Zo_init_5 (by decide) ?_
  refine bl_put (C := R_Zo) (T := T_Zo) (N := 5) (pc := 6) hx hb hts i_Zo t_Zo t_Zo_ok n_Zo hown hK hP hz hS i0 hi0 hg rfl 0 (by decide) (hts _ wd_120) (Or.inl rfl) rfl rfl (Nat.le_of_ble_eq_true rfl) d_Zo_init_6 (fun G1 H locs eG hP hz hS => ?_)
  have hg : G1 i0 = .inr (7, [.long 0, .long 0, .long 0, .int 0, .int 0]) := by rw [eG]; exact va_up_self _ _ _
  have f1 : ∀ v, v ≠ i0 → G1 v = g v := fun v hv => by rw [eG]; exact (va_up_ne _ _ hv).trans (f0 v hv)
  refine lv_aload_n (pc := 9) hx hb d_Zo_init_9 rfl (lv_at hl 0 rfl) ?_
  refine lv_lconst (v := 0) (pc := 10) hx hb d_Zo_init_10 (by decide) ?_
  refine bl_put (C := R_Zo) (T := T_Zo) (N := 5) (pc := 11) hx hb hts i_Zo t_Zo t_Zo_ok n_Zo hown hK hP hz hS i0 hi0 hg rfl 1 (by decide) (hts _ wd_123) (Or.inl rfl) rfl rfl (Nat.le_of_ble_eq_true rfl) d_Zo_init_11 (fun G2 H locs eG hP hz hS => ?_)
  have hg : G2 i0 = .inr (7, [.long 0, .long 0, .long 0, .int 0, .int 0]) := by rw [eG]; exact va_up_self _ _ _
  have f2 : ∀ v, v ≠ i0 → G2 v = g v := fun v hv => by rw [eG]; exact (va_up_ne _ _ hv).trans (f1 v hv)
  refine lv_aload_n (pc := 14) hx hb d_Zo_init_14 rfl (lv_at hl 0 rfl) ?_
  refine lv_lconst (v := 0) (pc := 15) hx hb d_Zo_init_15 (by decide) ?_
  refine bl_put (C := R_Zo) (T := T_Zo) (N := 5) (pc := 16) hx hb hts i_Zo t_Zo t_Zo_ok n_Zo hown hK hP hz hS i0 hi0 hg rfl 2 (by decide) (hts _ wd_126) (Or.inl rfl) rfl rfl (Nat.le_of_ble_eq_true rfl) d_Zo_init_16 (fun G3 H locs eG hP hz hS => ?_)
  have hg : G3 i0 = .inr (7, [.long 0, .long 0, .long 0, .int 0, .int 0]) := by rw [eG]; exact va_up_self _ _ _
  have f3 : ∀ v, v ≠ i0 → G3 v = g v := fun v hv => by rw [eG]; exact (va_up_ne _ _ hv).trans (f2 v hv)
  refine lv_aload_n (pc := 19) hx hb d_Zo_init_19 rfl (lv_at hl 0 rfl) ?_
  refine lv_iconst (v := 0) (pc := 20) hx hb d_Zo_init_20 (by decide) ?_
  refine bl_put (C := R_Zo) (T := T_Zo) (N := 5) (pc := 21) hx hb hts i_Zo t_Zo t_Zo_ok n_Zo hown hK hP hz hS i0 hi0 hg rfl 3 (by decide) (hts _ wd_129) (Or.inl rfl) rfl rfl (Nat.le_of_ble_eq_true rfl) d_Zo_init_21 (fun G4 H locs eG hP hz hS => ?_)
  have hg : G4 i0 = .inr (7, [.long 0, .long 0, .long 0, .int 0, .int 0]) := by rw [eG]; exact va_up_self _ _ _
  have f4 : ∀ v, v ≠ i0 → G4 v = g v := fun v hv => by rw [eG]; exact (va_up_ne _ _ hv).trans (f3 v hv)
  refine lv_aload_n (pc := 24) hx hb d_Zo_init_24 rfl (lv_at hl 0 rfl) ?_
  refine lv_sipush (v := 200) (pc := 25) hx hb d_Zo_init_25 (by decide) ?_
  refine bl_put (C := R_Zo) (T := T_Zo) (N := 5) (pc := 28) hx hb hts i_Zo t_Zo t_Zo_ok n_Zo hown hK hP hz hS i0 hi0 hg rfl 4 (by decide) (hts _ wd_132) (Or.inl rfl) rfl rfl (Nat.le_of_ble_eq_true rfl) d_Zo_init_28 (fun G5 H locs eG hP hz hS => ?_)
  have hg : G5 i0 = .inr (7, [.long 0, .long 0, .long 0, .int 0, .int 200]) := by rw [eG]; exact va_up_self _ _ _
  have f5 : ∀ v, v ≠ i0 → G5 v = g v := fun v hv => by rw [eG]; exact (va_up_ne _ _ hv).trans (f4 v hv)
  exact bl_vret (pc := 31) hx hb hr hlocks hP hz hS ⟨hg, f5⟩ d_Zo_init_31

set_option maxRecDepth 100000 in
set_option maxHeartbeats 4000000 in
theorem k_Fu_init {l : Launch} {D : va_G} {cX : Nat → ClassId} (b n : Nat) (g : Nat → va_E) (i0 : Nat) (hi0 : i0 < n) (hg : g i0 = .inr (3, [.long 0, .int 0, .long 0, .int 0, .int 0, .int 0, .int 0, .long 0, .long 0, .long 0, .long 0])) : RC l y_Fu_init (mws y_Fu_init b_Fu_init 1 none) ({ frames := 1, cells := 0, slots := 0, locals := 12 } : Room) D clG (tyX cX) b n g [.ref (b + i0)] n (fun u => u i0 = .inr (3, [.long 0, .int 500, .long 0, .int 0, .int 0, .int 0, .int 0, .long 0, .long 0, .long 0, .long 0]) ∧ ∀ v, v ≠ i0 → u v = g v) 0 0 := by
  refine RC_of (cc := b_Fu_init) (maxL := 1) (by decide) rfl (Nat.le_of_ble_eq_true rfl) ?_
  intro p e s m args below meth c ls C hin hO hK hz hP hS hl
  obtain ⟨⟨hx, hb, hml, hown, hts⟩, hr, hlocks, hN⟩ := id C
  have hown : s.vm.findClass R_Fu = some m.cls := hown
  have hl : lv_has ls 1 [(0, .ref (b + i0))] := hl
  have f0 : ∀ v, v ≠ i0 → g v = g v := fun _ _ => rfl
  refine lv_aload_n (pc := 0) hx hb d_Fu_init_0 rfl (lv_at hl 0 rfl) ?_
  refine W.objInit hx hb hown (hts _ wd_28) (hts _ wd_17) (hts _ wd_18) (g := F0 m 1 ls [.ref (b + i0)]) rfl (by rw [hml]; exact hl.1) rfl d_Fu_init_1 (Nat.le_of_ble_eq_true rfl) (Nat.le_of_ble_eq_true rfl) ?_
  refine W.eq (g2 := F0 m 4 ls []) rfl ?_
  refine lv_aload_n (pc := 4) hx hb d_Fu_init_4 rfl (lv_at hl 0 rfl) ?_
  refine lv_lconst (v := 0) (pc := 5) hx hb d_Fu_init_5 (by decide) ?_
  refine bl_put (C := R_Fu) (T := T_Fu) (N := 11) (pc := 6) hx hb hts i_Fu t_Fu t_Fu_ok n_Fu hown hK hP hz hS i0 hi0 hg rfl 0 (by decide) (hts _ wd_29) (Or.inl rfl) rfl rfl (Nat.le_of_ble_eq_true rfl) d_Fu_init_6 (fun G1 H locs eG hP hz hS => ?_)
  have hg : G1 i0 = .inr (3, [.long 0, .int 0, .long 0, .int 0, .int 0, .int 0, .int 0, .long 0, .long 0, .long 0, .long 0]) := by rw [eG]; exact va_up_self _ _ _
  have f1 : ∀ v, v ≠ i0 → G1 v = g v := fun v hv => by rw [eG]; exact (va_up_ne _ _ hv).trans (f0 v hv)
  refine lv_aload_n (pc := 9) hx hb d_Fu_init_9 rfl (lv_at hl 0 rfl) ?_
  refine lv_sipush (v := 500) (pc := 10) hx hb d_Fu_init_10 (by decide) ?_
  refine bl_put (C := R_Fu) (T := T_Fu) (N := 11) (pc := 13) hx hb hts i_Fu t_Fu t_Fu_ok n_Fu hown hK hP hz hS i0 hi0 hg rfl 1 (by decide) (hts _ wd_32) (Or.inl rfl) rfl rfl (Nat.le_of_ble_eq_true rfl) d_Fu_init_13 (fun G2 H locs eG hP hz hS => ?_)
  have hg : G2 i0 = .inr (3, [.long 0, .int 500, .long 0, .int 0, .int 0, .int 0, .int 0, .long 0, .long 0, .long 0, .long 0]) := by rw [eG]; exact va_up_self _ _ _
  have f2 : ∀ v, v ≠ i0 → G2 v = g v := fun v hv => by rw [eG]; exact (va_up_ne _ _ hv).trans (f1 v hv)
  refine lv_aload_n (pc := 16) hx hb d_Fu_init_16 rfl (lv_at hl 0 rfl) ?_
  refine lv_lconst (v := 0) (pc := 17) hx hb d_Fu_init_17 (by decide) ?_
  refine bl_put (C := R_Fu) (T := T_Fu) (N := 11) (pc := 18) hx hb hts i_Fu t_Fu t_Fu_ok n_Fu hown hK hP hz hS i0 hi0 hg rfl 2 (by decide) (hts _ wd_34) (Or.inl rfl) rfl rfl (Nat.le_of_ble_eq_true rfl) d_Fu_init_18 (fun G3 H locs eG hP hz hS => ?_)
  have hg : G3 i0 = .inr (3, [.long 0, .int 500, .long 0, .int 0, .int 0, .int 0, .int 0, .long 0, .long 0, .long 0, .long 0]) := by rw [eG]; exact va_up_self _ _ _
  have f3 : ∀ v, v ≠ i0 → G3 v = g v := fun v hv => by rw [eG]; exact (va_up_ne _ _ hv).trans (f2 v hv)
  refine lv_aload_n (pc := 21) hx hb d_Fu_init_21 rfl (lv_at hl 0 rfl) ?_
  refine lv_iconst (v := 0) (pc := 22) hx hb d_Fu_init_22 (by decide) ?_
  refine bl_put (C := R_Fu) (T := T_Fu) (N := 11) (pc := 23) hx hb hts i_Fu t_Fu t_Fu_ok n_Fu hown hK hP hz hS i0 hi0 hg rfl 3 (by decide) (hts _ wd_36) (Or.inl rfl) rfl rfl (Nat.le_of_ble_eq_true rfl) d_Fu_init_23 (fun G4 H locs eG hP hz hS => ?_)
  have hg : G4 i0 = .inr (3, [.long 0, .int 500, .long 0, .int 0, .int 0, .int 0, .int 0, .long 0, .long 0, .long 0, .long 0]) := by rw [eG]; exact va_up_self _ _ _
  have f4 : ∀ v, v ≠ i0 → G4 v = g v := fun v hv => by rw [eG]; exact (va_up_ne _ _ hv).trans (f3 v hv)
  refine lv_aload_n (pc := 26) hx hb d_Fu_init_26 rfl (lv_at hl 0 rfl) ?_
  refine lv_iconst (v := 0) (pc := 27) hx hb d_Fu_init_27 (by decide) ?_
  refine bl_put (C := R_Fu) (T := T_Fu) (N := 11) (pc := 28) hx hb hts i_Fu t_Fu t_Fu_ok n_Fu hown hK hP hz hS i0 hi0 hg rfl 4 (by decide) (hts _ wd_37) (Or.inl rfl) rfl rfl (Nat.le_of_ble_eq_true rfl) d_Fu_init_28 (fun G5 H locs eG hP hz hS => ?_)
  have hg : G5 i0 = .inr (3, [.long 0, .int 500, .long 0, .int 0, .int 0, .int 0, .int 0, .long 0, .long 0, .long 0, .long 0]) := by rw [eG]; exact va_up_self _ _ _
  have f5 : ∀ v, v ≠ i0 → G5 v = g v := fun v hv => by rw [eG]; exact (va_up_ne _ _ hv).trans (f4 v hv)
  refine lv_aload_n (pc := 31) hx hb d_Fu_init_31 rfl (lv_at hl 0 rfl) ?_
  refine lv_iconst (v := 0) (pc := 32) hx hb d_Fu_init_32 (by decide) ?_
  refine bl_put (C := R_Fu) (T := T_Fu) (N := 11) (pc := 33) hx hb hts i_Fu t_Fu t_Fu_ok n_Fu hown hK hP hz hS i0 hi0 hg rfl 5 (by decide) (hts _ wd_39) (Or.inl rfl) rfl rfl (Nat.le_of_ble_eq_true rfl) d_Fu_init_33 (fun G6 H locs eG hP hz hS => ?_)
  have hg : G6 i0 = .inr (3, [.long 0, .int 500, .long 0, .int 0, .int 0, .int 0, .int 0, .long 0, .long 0, .long 0, .long 0]) := by rw [eG]; exact va_up_self _ _ _
  have f6 : ∀ v, v ≠ i0 → G6 v = g v := fun v hv => by rw [eG]; exact (va_up_ne _ _ hv).trans (f5 v hv)
  refine lv_aload_n (pc := 36) hx hb d_Fu_init_36 rfl (lv_at hl 0 rfl) ?_
  refine lv_iconst (v := 0) (pc := 37) hx hb d_Fu_init_37 (by decide) ?_
  refine bl_put (C := R_Fu) (T := T_Fu) (N := 11) (pc := 38) hx hb hts i_Fu t_Fu t_Fu_ok n_Fu hown hK hP hz hS i0 hi0 hg rfl 6 (by decide) (hts _ wd_40) (Or.inl rfl) rfl rfl (Nat.le_of_ble_eq_true rfl) d_Fu_init_38 (fun G7 H locs eG hP hz hS => ?_)
  have hg : G7 i0 = .inr (3, [.long 0, .int 500, .long 0, .int 0, .int 0, .int 0, .int 0, .long 0, .long 0, .long 0, .long 0]) := by rw [eG]; exact va_up_self _ _ _
  have f7 : ∀ v, v ≠ i0 → G7 v = g v := fun v hv => by rw [eG]; exact (va_up_ne _ _ hv).trans (f6 v hv)
  refine lv_aload_n (pc := 41) hx hb d_Fu_init_41 rfl (lv_at hl 0 rfl) ?_
  refine lv_lconst (v := 0) (pc := 42) hx hb d_Fu_init_42 (by decide) ?_
  refine bl_put (C := R_Fu) (T := T_Fu) (N := 11) (pc := 43) hx hb hts i_Fu t_Fu t_Fu_ok n_Fu hown hK hP hz hS i0 hi0 hg rfl 7 (by decide) (hts _ wd_41) (Or.inl rfl) rfl rfl (Nat.le_of_ble_eq_true rfl) d_Fu_init_43 (fun G8 H locs eG hP hz hS => ?_)
  have hg : G8 i0 = .inr (3, [.long 0, .int 500, .long 0, .int 0, .int 0, .int 0, .int 0, .long 0, .long 0, .long 0, .long 0]) := by rw [eG]; exact va_up_self _ _ _
  have f8 : ∀ v, v ≠ i0 → G8 v = g v := fun v hv => by rw [eG]; exact (va_up_ne _ _ hv).trans (f7 v hv)
  refine lv_aload_n (pc := 46) hx hb d_Fu_init_46 rfl (lv_at hl 0 rfl) ?_
  refine lv_lconst (v := 0) (pc := 47) hx hb d_Fu_init_47 (by decide) ?_
  refine bl_put (C := R_Fu) (T := T_Fu) (N := 11) (pc := 48) hx hb hts i_Fu t_Fu t_Fu_ok n_Fu hown hK hP hz hS i0 hi0 hg rfl 8 (by decide) (hts _ wd_43) (Or.inl rfl) rfl rfl (Nat.le_of_ble_eq_true rfl) d_Fu_init_48 (fun G9 H locs eG hP hz hS => ?_)
  have hg : G9 i0 = .inr (3, [.long 0, .int 500, .long 0, .int 0, .int 0, .int 0, .int 0, .long 0, .long 0, .long 0, .long 0]) := by rw [eG]; exact va_up_self _ _ _
  have f9 : ∀ v, v ≠ i0 → G9 v = g v := fun v hv => by rw [eG]; exact (va_up_ne _ _ hv).trans (f8 v hv)
  refine lv_aload_n (pc := 51) hx hb d_Fu_init_51 rfl (lv_at hl 0 rfl) ?_
  refine lv_lconst (v := 0) (pc := 52) hx hb d_Fu_init_52 (by decide) ?_
  refine bl_put (C := R_Fu) (T := T_Fu) (N := 11) (pc := 53) hx hb hts i_Fu t_Fu t_Fu_ok n_Fu hown hK hP hz hS i0 hi0 hg rfl 9 (by decide) (hts _ wd_45) (Or.inl rfl) rfl rfl (Nat.le_of_ble_eq_true rfl) d_Fu_init_53 (fun G10 H locs eG hP hz hS => ?_)
  have hg : G10 i0 = .inr (3, [.long 0, .int 500, .long 0, .int 0, .int 0, .int 0, .int 0, .long 0, .long 0, .long 0, .long 0]) := by rw [eG]; exact va_up_self _ _ _
  have f10 : ∀ v, v ≠ i0 → G10 v = g v := fun v hv => by rw [eG]; exact (va_up_ne _ _ hv).trans (f9 v hv)
  refine lv_aload_n (pc := 56) hx hb d_Fu_init_56 rfl (lv_at hl 0 rfl) ?_
  refine lv_lconst (v := 0) (pc := 57) hx hb d_Fu_init_57 (by decide) ?_
  refine bl_put (C := R_Fu) (T := T_Fu) (N := 11) (pc := 58) hx hb hts i_Fu t_Fu t_Fu_ok n_Fu hown hK hP hz hS i0 hi0 hg rfl 10 (by decide) (hts _ wd_47) (Or.inl rfl) rfl rfl (Nat.le_of_ble_eq_true rfl) d_Fu_init_58 (fun G11 H locs eG hP hz hS => ?_)
  have hg : G11 i0 = .inr (3, [.long 0, .int 500, .long 0, .int 0, .int 0, .int 0, .int 0, .long 0, .long 0, .long 0, .long 0]) := by rw [eG]; exact va_up_self _ _ _
  have f11 : ∀ v, v ≠ i0 → G11 v = g v := fun v hv => by rw [eG]; exact (va_up_ne _ _ hv).trans (f10 v hv)
  exact bl_vret (pc := 61) hx hb hr hlocks hP hz hS ⟨hg, f11⟩ d_Fu_init_61

set_option maxRecDepth 100000 in
set_option maxHeartbeats 4000000 in
theorem k_Ct_init {l : Launch} {D : va_G} {cX : Nat → ClassId} (b n : Nat) (g : Nat → va_E) (i0 : Nat) (hi0 : i0 < n) (hg : g i0 = .inr (2, [.int 0, .int 0, .int 0, .int 0, .int 0, .long 0])) : RC l y_Ct_init (mws y_Ct_init b_Ct_init 1 none) ({ frames := 1, cells := 0, slots := 0, locals := 12 } : Room) D clG (tyX cX) b n g [.ref (b + i0)] n (fun u => u i0 = .inr (2, [.int 0, .int 0, .int 0, .int 0, .int 0, .long 0]) ∧ ∀ v, v ≠ i0 → u v = g v) 0 0 := by
  refine RC_of (cc := b_Ct_init) (maxL := 1) (by decide) rfl (Nat.le_of_ble_eq_true rfl) ?_
  intro p e s m args below meth c ls C hin hO hK hz hP hS hl
  obtain ⟨⟨hx, hb, hml, hown, hts⟩, hr, hlocks, hN⟩ := id C
  have hown : s.vm.findClass R_Ct = some m.cls := hown
  have hl : lv_has ls 1 [(0, .ref (b + i0))] := hl
  have f0 : ∀ v, v ≠ i0 → g v = g v := fun _ _ => rfl
  refine lv_aload_n (pc := 0) hx hb d_Ct_init_0 rfl (lv_at hl 0 rfl) ?_
  refine W.objInit hx hb hown (hts _ wd_216) (hts _ wd_17) (hts _ wd_18) (g := F0 m 1 ls [.ref (b + i0)]) rfl (by rw [hml]; exact hl.1) rfl d_Ct_init_1 (Nat.le_of_ble_eq_true rfl) (Nat.le_of_ble_eq_true rfl) ?_
  refine W.eq (g2 := F0 m 4 ls []) rfl ?_
  refine lv_aload_n (pc := 4) hx hb d_Ct_init_4 rfl (lv_at hl 0 rfl) ?_
  refine lv_iconst (v := 0) (pc := 5) hx hb d_Ct_init_5 (by decide) ?_
  refine bl_put (C := R_Ct) (T := T_Ct) (N := 6) (pc := 6) hx hb hts i_Ct t_Ct t_Ct_ok n_Ct hown hK hP hz hS i0 hi0 hg rfl 0 (by decide) (hts _ wd_217) (Or.inl rfl) rfl rfl (Nat.le_of_ble_eq_true rfl) d_Ct_init_6 (fun G1 H locs eG hP hz hS => ?_)
  have hg : G1 i0 = .inr (2, [.int 0, .int 0, .int 0, .int 0, .int 0, .long 0]) := by rw [eG]; exact va_up_self _ _ _
  have f1 : ∀ v, v ≠ i0 → G1 v = g v := fun v hv => by rw [eG]; exact (va_up_ne _ _ hv).trans (f0 v hv)
  refine lv_aload_n (pc := 9) hx hb d_Ct_init_9 rfl (lv_at hl 0 rfl) ?_
  refine lv_iconst (v := 0) (pc := 10) hx hb d_Ct_init_10 (by decide) ?_
  refine bl_put (C := R_Ct) (T := T_Ct) (N := 6) (pc := 11) hx hb hts i_Ct t_Ct t_Ct_ok n_Ct hown hK hP hz hS i0 hi0 hg rfl 1 (by decide) (hts _ wd_219) (Or.inl rfl) rfl rfl (Nat.le_of_ble_eq_true rfl) d_Ct_init_11 (fun G2 H locs eG hP hz hS => ?_)
  have hg : G2 i0 = .inr (2, [.int 0, .int 0, .int 0, .int 0, .int 0, .long 0]) := by rw [eG]; exact va_up_self _ _ _
  have f2 : ∀ v, v ≠ i0 → G2 v = g v := fun v hv => by rw [eG]; exact (va_up_ne _ _ hv).trans (f1 v hv)
  refine lv_aload_n (pc := 14) hx hb d_Ct_init_14 rfl (lv_at hl 0 rfl) ?_
  refine lv_iconst (v := 0) (pc := 15) hx hb d_Ct_init_15 (by decide) ?_
  refine bl_put (C := R_Ct) (T := T_Ct) (N := 6) (pc := 16) hx hb hts i_Ct t_Ct t_Ct_ok n_Ct hown hK hP hz hS i0 hi0 hg rfl 2 (by decide) (hts _ wd_221) (Or.inl rfl) rfl rfl (Nat.le_of_ble_eq_true rfl) d_Ct_init_16 (fun G3 H locs eG hP hz hS => ?_)
  have hg : G3 i0 = .inr (2, [.int 0, .int 0, .int 0, .int 0, .int 0, .long 0]) := by rw [eG]; exact va_up_self _ _ _
  have f3 : ∀ v, v ≠ i0 → G3 v = g v := fun v hv => by rw [eG]; exact (va_up_ne _ _ hv).trans (f2 v hv)
  refine lv_aload_n (pc := 19) hx hb d_Ct_init_19 rfl (lv_at hl 0 rfl) ?_
  refine lv_iconst (v := 0) (pc := 20) hx hb d_Ct_init_20 (by decide) ?_
  refine bl_put (C := R_Ct) (T := T_Ct) (N := 6) (pc := 21) hx hb hts i_Ct t_Ct t_Ct_ok n_Ct hown hK hP hz hS i0 hi0 hg rfl 3 (by decide) (hts _ wd_222) (Or.inl rfl) rfl rfl (Nat.le_of_ble_eq_true rfl) d_Ct_init_21 (fun G4 H locs eG hP hz hS => ?_)
  have hg : G4 i0 = .inr (2, [.int 0, .int 0, .int 0, .int 0, .int 0, .long 0]) := by rw [eG]; exact va_up_self _ _ _
  have f4 : ∀ v, v ≠ i0 → G4 v = g v := fun v hv => by rw [eG]; exact (va_up_ne _ _ hv).trans (f3 v hv)
  refine lv_aload_n (pc := 24) hx hb d_Ct_init_24 rfl (lv_at hl 0 rfl) ?_
  refine lv_iconst (v := 0) (pc := 25) hx hb d_Ct_init_25 (by decide) ?_
  refine bl_put (C := R_Ct) (T := T_Ct) (N := 6) (pc := 26) hx hb hts i_Ct t_Ct t_Ct_ok n_Ct hown hK hP hz hS i0 hi0 hg rfl 4 (by decide) (hts _ wd_223) (Or.inl rfl) rfl rfl (Nat.le_of_ble_eq_true rfl) d_Ct_init_26 (fun G5 H locs eG hP hz hS => ?_)
  have hg : G5 i0 = .inr (2, [.int 0, .int 0, .int 0, .int 0, .int 0, .long 0]) := by rw [eG]; exact va_up_self _ _ _
  have f5 : ∀ v, v ≠ i0 → G5 v = g v := fun v hv => by rw [eG]; exact (va_up_ne _ _ hv).trans (f4 v hv)
  refine lv_aload_n (pc := 29) hx hb d_Ct_init_29 rfl (lv_at hl 0 rfl) ?_
  refine lv_lconst (v := 0) (pc := 30) hx hb d_Ct_init_30 (by decide) ?_
  refine bl_put (C := R_Ct) (T := T_Ct) (N := 6) (pc := 31) hx hb hts i_Ct t_Ct t_Ct_ok n_Ct hown hK hP hz hS i0 hi0 hg rfl 5 (by decide) (hts _ wd_224) (Or.inl rfl) rfl rfl (Nat.le_of_ble_eq_true rfl) d_Ct_init_31 (fun G6 H locs eG hP hz hS => ?_)
  have hg : G6 i0 = .inr (2, [.int 0, .int 0, .int 0, .int 0, .int 0, .long 0]) := by rw [eG]; exact va_up_self _ _ _
  have f6 : ∀ v, v ≠ i0 → G6 v = g v := fun v hv => by rw [eG]; exact (va_up_ne _ _ hv).trans (f5 v hv)
  exact bl_vret (pc := 34) hx hb hr hlocks hP hz hS ⟨hg, f6⟩ d_Ct_init_34
