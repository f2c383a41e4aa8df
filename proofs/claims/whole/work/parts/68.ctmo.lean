section BI
variable {p : Program} {l : Launch} {e : Env} {R : Room} {s : State} {m : MethodId} {args : Array Value} {below : List Frame} {meth : Method} {c : Code} {H : Heap} {locs : List Loc} {cells slots : Nat} {Q : State → Prop}
variable {cc : ByteArray} {pc : Nat} {ls : Array Slot} {rest : List Value} {D : va_G} {cl : List vw_C} {tys : List (ClassId × FieldType)} {H0 : Heap} {b n : Nat} {g : Nat → va_E}
theorem bl_iast (hexec : p.tables.exec = Jvm.exec) (hb : c.code = cc) (hK : va_K D cl tys s) (hP : va_P D cl (pw n (ba b) g) H) (hz : H.size = b + n) (hS : va_S (bA b) H0 H locs) (j : Nat) (hj : j < n) (t0 : Nat) {cA : ClassId} {N : Nat} {f : Nat → Int32} (ha : g j = .inl (cA, N, .inl f)) (ht : tys[t0]? = some (cA, .int)) {i v : Int32} (x : Nat) (hx : x < N) (hN : N < 2 ^ 31) (hi : i = nI x) (hdg : decode cc pc = .ok (.iastore, 1))
    (kk : ∀ (G : Nat → va_E) (H1 : Heap) (locs1 : List Loc), G = va_up g j (.inl (cA, N, .inl (upd f x v))) → va_P D cl (pw n (ba b) G) H1 → H1.size = b + n → va_S (bA b) H0 H1 locs1 → W p l e R s m args below meth c H1 locs1 cells slots Q (F0 m (pc + 1) ls rest)) : W p l e R s m args below meth c H locs cells slots Q (F0 m pc ls (.int v :: .int i :: .ref (b + j) :: rest)) := by
  subst hi
  have hD : va_D (bA b) (pw n (ba b) g) := ba_D
  have hin := vp_in_nI hx hN
  have hcl : (nI x).toNatClampNeg = x := nI_clamp (Nat.lt_trans hx hN)
  have hw := pw_get (n := n) (ad := ba b) hj ha
  refine W.iast hexec hb (hP j _ hw) ((hK.2 t0 _ ht).1 N (fun j => .int (f j))) (fun q => by cases q) (by show ¬ (nI x < 0 ∨ (arrV _ _ _).slots.size ≤ _); rw [arrV_size]; exact hin) rfl rfl hdg fun H1 e z oq => ?_
  have h4 : va_at D cl (b + j, .inl (cA, N, .inl (upd f x v))) H1 := by
    show H1[b + j]? = some (vp_cell _ _)
    refine (show H1[b + j]? = _ from e).trans ?_
    rw [hcl, vp_cell_i, vp_cell_i, arrV_store]
    congr 2
    funext q
    by_cases hq : q = x
    · subst hq
      simp [updV, upd]
    · simp [updV, upd, hq]
  have h5 := hP.set hD hw h4 oq
  rw [pw_set] at h5
  exact kk _ H1 _ rfl h5 (by omega) (hS.put z oq (Nat.le_add_right b j))
end BI

def postMo (cM : Nat → ClassId) (b : Nat) (a : Int32) (u : Nat → va_E) : Prop := u (0) = .inr (8, [.int (nI (zN a)), .ref (b + 1), .ref (b + 2), .ref (b + 3), .int 1000, .ref (b + 4), .ref (b + 5), .ref (b + 6), .ref (b + 7), .ref (b + 8), .ref (b + 9), .int 100, .int 500, .ref (b + 10), .ref (b + 11), .ref (b + 12), .ref (b + 13), .ref (b + 14), .ref (b + 15), .int 0, .int 0, .int 0, .int 0, .int 0, .ref (b + 16), .ref (b + 17), .int 0, .ref (b + 18)]) ∧ u (1) = .inl (cM 0, 4, .inl (fun _ => 0)) ∧ u (2) = .inl (cM 0, 4, .inl (fun _ => 0)) ∧ u (3) = .inl (cM 0, 24, .inl (fun _ => 0)) ∧ u (4) = .inl (cM 0, 4, .inl (fun _ => 0)) ∧ u (5) = .inl (cM 1, 6, .inr (.inl (fun _ => 0))) ∧ u (6) = .inl (cM 1, 6, .inr (.inl (fun _ => 0))) ∧ u (7) = .inl (cM 1, 6, .inr (.inl (fun _ => 0))) ∧ u (8) = .inl (cM 0, 6, .inl (fun _ => 0)) ∧ u (9) = .inl (cM 0, 6, .inl (upd (upd (upd (upd (upd (upd (fun _ => 0) 0 200) 1 200) 2 200) 3 200) 4 200) 5 200)) ∧ u (10) = .inl (cM 2, 2, .inl (fun _ => 0)) ∧ u (11) = .inl (cM 0, 2, .inl (fun _ => 0)) ∧ u (12) = .inl (cM 0, 2, .inl (fun _ => 0)) ∧ u (13) = .inl (cM 0, 2, .inl (fun _ => 0)) ∧ u (14) = .inl (cM 1, 2, .inr (.inl (fun _ => 0))) ∧ u (15) = .inl (cM 0, 2, .inl (fun _ => 0)) ∧ u (16) = .inl (cM 1, 4, .inr (.inl (fun _ => 0))) ∧ u (17) = .inl (cM 1, 10, .inr (.inl (fun _ => 0))) ∧ u (18) = .inl (cM 0, 4, .inl (fun _ => 0))
set_option maxRecDepth 100000 in
set_option maxHeartbeats 8000000 in
theorem k_Mo_init {l : Launch} {D : va_G} {cM : Nat → ClassId} (b : Nat) (g : Nat → va_E) (hg : g 0 = .inr (8, [.int 0, .null, .null, .null, .int 0, .null, .null, .null, .null, .null, .null, .int 0, .int 0, .null, .null, .null, .null, .null, .null, .int 0, .int 0, .int 0, .int 0, .int 0, .null, .null, .int 0, .null])) (a : Int32) : RC l y_Mo_init (mws y_Mo_init b_Mo_init 3 none) ({ frames := 1, cells := 18, slots := 96, locals := 12 } : Room) D clG (tyM cM) b 1 g [.ref (b + 0), .int a] (19) (postMo cM b a) 18 96 := by
  refine RC_of (cc := b_Mo_init) (maxL := 3) (by decide) rfl (Nat.le_of_ble_eq_true rfl) ?_
  intro p e s m args below meth c ls C hin hO hK hz hP hS hl
  obtain ⟨⟨hx, hb, hml, hown, hts⟩, hr, hlocks, hN⟩ := id C
  have hown : s.vm.findClass R_Mo = some m.cls := hown
  have hl : lv_has ls 3 [(0, .ref (b + 0)), (1, .int a)] := hl
  refine lv_aload_n (pc := 0) hx hb d_Mo_init_0 rfl (lv_at hl 0 rfl) ?_
  refine W.objInit hx hb hown (hts _ wd_527) (hts _ wd_17) (hts _ wd_18) (g := F0 m 1 ls [.ref (b + 0)]) rfl (by rw [hml]; exact hl.1) rfl d_Mo_init_1 (Nat.le_of_ble_eq_true rfl) (Nat.le_of_ble_eq_true rfl) ?_
  refine W.eq (g2 := F0 m 4 ls []) rfl ?_
  refine lv_aload_n (pc := 4) hx hb d_Mo_init_4 rfl (lv_at hl 0 rfl) ?_
  refine lv_iconst (v := 4) (pc := 5) hx hb d_Mo_init_5 (by decide) ?_
  refine bl_newa (atype := .int) (ty := .int) (a0 := (4, .inl (fun _ => 0))) (pc := 6) hx hb (hts _ wd_103) rfl (hK.2 0 _ rfl).2 hP hz hS (fun cA => arr_def_int _ _) (by decide) (by decide) (by decide) (Nat.le_of_ble_eq_true rfl) (Nat.le_of_ble_eq_true rfl) d_Mo_init_6 (fun G1 H1 eG hP1 hz1 hS1 => ?_)
  have b1 : G1 (1) = .inl (cM 0, 4, .inl (fun _ => 0)) := by rw [eG]; exact va_up_self _ _ _
  have o1 : ∀ v, v ≠ 1 → G1 v = g v := fun v hv => by rw [eG]; exact va_up_ne _ _ hv
  clear eG hP hz hS
  replace hP1 : va_P D clG (pw (2) (ba b) G1) H1 := hP1
  replace hz1 : H1.size = b + (2) := hz1
  refine bl_put (C := R_Mo) (T := T_Mo) (N := 28) (pc := 8) hx hb hts i_Mo t_Mo t_Mo_ok n_Mo hown hK hP1 hz1 hS1 0 (by omega) ((o1 _ (by omega)).trans hg) rfl 1 (by decide) (hts _ wd_529) (Or.inr ⟨rfl, hin, rfl⟩) rfl rfl (Nat.le_of_ble_eq_true rfl) d_Mo_init_8 (fun G2 H2 locs2 eG hP2 hz2 hS2 => ?_)
  have b2 : G2 (0) = .inr (8, [.int 0, .ref (b + 1), .null, .null, .int 0, .null, .null, .null, .null, .null, .null, .int 0, .int 0, .null, .null, .null, .null, .null, .null, .int 0, .int 0, .int 0, .int 0, .int 0, .null, .null, .int 0, .null]) := by rw [eG]; exact va_up_self _ _ _
  have o2 : ∀ v, v ≠ 0 → G2 v = G1 v := fun v hv => by rw [eG]; exact va_up_ne _ _ hv
  clear eG hP1 hz1 hS1
  refine lv_aload_n (pc := 11) hx hb d_Mo_init_11 rfl (lv_at hl 0 rfl) ?_
  refine lv_iconst (v := 4) (pc := 12) hx hb d_Mo_init_12 (by decide) ?_
  refine bl_newa (atype := .int) (ty := .int) (a0 := (4, .inl (fun _ => 0))) (pc := 13) hx hb (hts _ wd_103) rfl (hK.2 0 _ rfl).2 hP2 hz2 hS2 (fun cA => arr_def_int _ _) (by decide) (by decide) (by decide) (Nat.le_of_ble_eq_true rfl) (Nat.le_of_ble_eq_true rfl) d_Mo_init_13 (fun G3 H3 eG hP3 hz3 hS3 => ?_)
  have b3 : G3 (2) = .inl (cM 0, 4, .inl (fun _ => 0)) := by rw [eG]; exact va_up_self _ _ _
  have o3 : ∀ v, v ≠ 2 → G3 v = G2 v := fun v hv => by rw [eG]; exact va_up_ne _ _ hv
  clear eG hP2 hz2 hS2
  replace hP3 : va_P D clG (pw (3) (ba b) G3) H3 := hP3
  replace hz3 : H3.size = b + (3) := hz3
  refine bl_put (C := R_Mo) (T := T_Mo) (N := 28) (pc := 15) hx hb hts i_Mo t_Mo t_Mo_ok n_Mo hown hK hP3 hz3 hS3 0 (by omega) ((o3 _ (by omega)).trans b2) rfl 2 (by decide) (hts _ wd_530) (Or.inr ⟨rfl, hin, rfl⟩) rfl rfl (Nat.le_of_ble_eq_true rfl) d_Mo_init_15 (fun G4 H4 locs4 eG hP4 hz4 hS4 => ?_)
  have b4 : G4 (0) = .inr (8, [.int 0, .ref (b + 1), .ref (b + 2), .null, .int 0, .null, .null, .null, .null, .null, .null, .int 0, .int 0, .null, .null, .null, .null, .null, .null, .int 0, .int 0, .int 0, .int 0, .int 0, .null, .null, .int 0, .null]) := by rw [eG]; exact va_up_self _ _ _
  have o4 : ∀ v, v ≠ 0 → G4 v = G3 v := fun v hv => by rw [eG]; exact va_up_ne _ _ hv
  clear eG hP3 hz3 hS3
  refine lv_aload_n (pc := 18) hx hb d_Mo_init_18 rfl (lv_at hl 0 rfl) ?_
  refine lv_bipush (v := 24) (pc := 19) hx hb d_Mo_init_19 (by decide) ?_
  refine bl_newa (atype := .int) (ty := .int) (a0 := (24, .inl (fun _ => 0))) (pc := 21) hx hb (hts _ wd_103) rfl (hK.2 0 _ rfl).2 hP4 hz4 hS4 (fun cA => arr_def_int _ _) (by decide) (by decide) (by decide) (Nat.le_of_ble_eq_true rfl) (Nat.le_of_ble_eq_true rfl) d_Mo_init_21 (fun G5 H5 eG hP5 hz5 hS5 => ?_)
  have b5 : G5 (3) = .inl (cM 0, 24, .inl (fun _ => 0)) := by rw [eG]; exact va_up_self _ _ _
  have o5 : ∀ v, v ≠ 3 → G5 v = G4 v := fun v hv => by rw [eG]; exact va_up_ne _ _ hv
  clear eG hP4 hz4 hS4
  replace hP5 : va_P D clG (pw (4) (ba b) G5) H5 := hP5
  replace hz5 : H5.size = b + (4) := hz5
  refine bl_put (C := R_Mo) (T := T_Mo) (N := 28) (pc := 23) hx hb hts i_Mo t_Mo t_Mo_ok n_Mo hown hK hP5 hz5 hS5 0 (by omega) ((o5 _ (by omega)).trans b4) rfl 3 (by decide) (hts _ wd_531) (Or.inr ⟨rfl, hin, rfl⟩) rfl rfl (Nat.le_of_ble_eq_true rfl) d_Mo_init_23 (fun G6 H6 locs6 eG hP6 hz6 hS6 => ?_)
  have b6 : G6 (0) = .inr (8, [.int 0, .ref (b + 1), .ref (b + 2), .ref (b + 3), .int 0, .null, .null, .null, .null, .null, .null, .int 0, .int 0, .null, .null, .null, .null, .null, .null, .int 0, .int 0, .int 0, .int 0, .int 0, .null, .null, .int 0, .null]) := by rw [eG]; exact va_up_self _ _ _
  have o6 : ∀ v, v ≠ 0 → G6 v = G5 v := fun v hv => by rw [eG]; exact va_up_ne _ _ hv
  clear eG hP5 hz5 hS5
  refine lv_aload_n (pc := 26) hx hb d_Mo_init_26 rfl (lv_at hl 0 rfl) ?_
  refine lv_sipush (v := 1000) (pc := 27) hx hb d_Mo_init_27 (by decide) ?_
  refine bl_put (C := R_Mo) (T := T_Mo) (N := 28) (pc := 30) hx hb hts i_Mo t_Mo t_Mo_ok n_Mo hown hK hP6 hz6 hS6 0 (by omega) b6 rfl 4 (by decide) (hts _ wd_532) (Or.inl rfl) rfl rfl (Nat.le_of_ble_eq_true rfl) d_Mo_init_30 (fun G7 H7 locs7 eG hP7 hz7 hS7 => ?_)
  have b7 : G7 (0) = .inr (8, [.int 0, .ref (b + 1), .ref (b + 2), .ref (b + 3), .int 1000, .null, .null, .null, .null, .null, .null, .int 0, .int 0, .null, .null, .null, .null, .null, .null, .int 0, .int 0, .int 0, .int 0, .int 0, .null, .null, .int 0, .null]) := by rw [eG]; exact va_up_self _ _ _
  have o7 : ∀ v, v ≠ 0 → G7 v = G6 v := fun v hv => by rw [eG]; exact va_up_ne _ _ hv
  clear eG hP6 hz6 hS6
  refine lv_aload_n (pc := 33) hx hb d_Mo_init_33 rfl (lv_at hl 0 rfl) ?_
  refine lv_iconst (v := 4) (pc := 34) hx hb d_Mo_init_34 (by decide) ?_
  refine bl_newa (atype := .int) (ty := .int) (a0 := (4, .inl (fun _ => 0))) (pc := 35) hx hb (hts _ wd_103) rfl (hK.2 0 _ rfl).2 hP7 hz7 hS7 (fun cA => arr_def_int _ _) (by decide) (by decide) (by decide) (Nat.le_of_ble_eq_true rfl) (Nat.le_of_ble_eq_true rfl) d_Mo_init_35 (fun G8 H8 eG hP8 hz8 hS8 => ?_)
  have b8 : G8 (4) = .inl (cM 0, 4, .inl (fun _ => 0)) := by rw [eG]; exact va_up_self _ _ _
  have o8 : ∀ v, v ≠ 4 → G8 v = G7 v := fun v hv => by rw [eG]; exact va_up_ne _ _ hv
  clear eG hP7 hz7 hS7
  replace hP8 : va_P D clG (pw (5) (ba b) G8) H8 := hP8
  replace hz8 : H8.size = b + (5) := hz8
  refine bl_put (C := R_Mo) (T := T_Mo) (N := 28) (pc := 37) hx hb hts i_Mo t_Mo t_Mo_ok n_Mo hown hK hP8 hz8 hS8 0 (by omega) ((o8 _ (by omega)).trans b7) rfl 5 (by decide) (hts _ wd_533) (Or.inr ⟨rfl, hin, rfl⟩) rfl rfl (Nat.le_of_ble_eq_true rfl) d_Mo_init_37 (fun G9 H9 locs9 eG hP9 hz9 hS9 => ?_)
  have b9 : G9 (0) = .inr (8, [.int 0, .ref (b + 1), .ref (b + 2), .ref (b + 3), .int 1000, .ref (b + 4), .null, .null, .null, .null, .null, .int 0, .int 0, .null, .null, .null, .null, .null, .null, .int 0, .int 0, .int 0, .int 0, .int 0, .null, .null, .int 0, .null]) := by rw [eG]; exact va_up_self _ _ _
  have o9 : ∀ v, v ≠ 0 → G9 v = G8 v := fun v hv => by rw [eG]; exact va_up_ne _ _ hv
  clear eG hP8 hz8 hS8
  refine lv_aload_n (pc := 40) hx hb d_Mo_init_40 rfl (lv_at hl 0 rfl) ?_
  refine lv_bipush (v := 6) (pc := 41) hx hb d_Mo_init_41 (by decide) ?_
  refine bl_newa (atype := .long) (ty := .long) (a0 := (6, .inr (.inl (fun _ => 0)))) (pc := 43) hx hb (hts _ wd_613) rfl (hK.2 1 _ rfl).2 hP9 hz9 hS9 (fun cA => arr_def_long _ _) (by decide) (by decide) (by decide) (Nat.le_of_ble_eq_true rfl) (Nat.le_of_ble_eq_true rfl) d_Mo_init_43 (fun G10 H10 eG hP10 hz10 hS10 => ?_)
  have b10 : G10 (5) = .inl (cM 1, 6, .inr (.inl (fun _ => 0))) := by rw [eG]; exact va_up_self _ _ _
  have o10 : ∀ v, v ≠ 5 → G10 v = G9 v := fun v hv => by rw [eG]; exact va_up_ne _ _ hv
  clear eG hP9 hz9 hS9
  replace hP10 : va_P D clG (pw (6) (ba b) G10) H10 := hP10
  replace hz10 : H10.size = b + (6) := hz10
  refine bl_put (C := R_Mo) (T := T_Mo) (N := 28) (pc := 45) hx hb hts i_Mo t_Mo t_Mo_ok n_Mo hown hK hP10 hz10 hS10 0 (by omega) ((o10 _ (by omega)).trans b9) rfl 6 (by decide) (hts _ wd_534) (Or.inr ⟨rfl, hin, rfl⟩) rfl rfl (Nat.le_of_ble_eq_true rfl) d_Mo_init_45 (fun G11 H11 locs11 eG hP11 hz11 hS11 => ?_)
  have b11 : G11 (0) = .inr (8, [.int 0, .ref (b + 1), .ref (b + 2), .ref (b + 3), .int 1000, .ref (b + 4), .ref (b + 5), .null, .null, .null, .null, .int 0, .int 0, .null, .null, .null, .null, .null, .null, .int 0, .int 0, .int 0, .int 0, .int 0, .null, .null, .int 0, .null]) := by rw [eG]; exact va_up_self _ _ _
  have o11 : ∀ v, v ≠ 0 → G11 v = G10 v := fun v hv => by rw [eG]; exact va_up_ne _ _ hv
  clear eG hP10 hz10 hS10
  refine lv_aload_n (pc := 48) hx hb d_Mo_init_48 rfl (lv_at hl 0 rfl) ?_
  refine lv_bipush (v := 6) (pc := 49) hx hb d_Mo_init_49 (by decide) ?_
  refine bl_newa (atype := .long) (ty := .long) (a0 := (6, .inr (.inl (fun _ => 0)))) (pc := 51) hx hb (hts _ wd_613) rfl (hK.2 1 _ rfl).2 hP11 hz11 hS11 (fun cA => arr_def_long _ _) (by decide) (by decide) (by decide) (Nat.le_of_ble_eq_true rfl) (Nat.le_of_ble_eq_true rfl) d_Mo_init_51 (fun G12 H12 eG hP12 hz12 hS12 => ?_)
  have b12 : G12 (6) = .inl (cM 1, 6, .inr (.inl (fun _ => 0))) := by rw [eG]; exact va_up_self _ _ _
  have o12 : ∀ v, v ≠ 6 → G12 v = G11 v := fun v hv => by rw [eG]; exact va_up_ne _ _ hv
  clear eG hP11 hz11 hS11
  replace hP12 : va_P D clG (pw (7) (ba b) G12) H12 := hP12
  replace hz12 : H12.size = b + (7) := hz12
  refine bl_put (C := R_Mo) (T := T_Mo) (N := 28) (pc := 53) hx hb hts i_Mo t_Mo t_Mo_ok n_Mo hown hK hP12 hz12 hS12 0 (by omega) ((o12 _ (by omega)).trans b11) rfl 7 (by decide) (hts _ wd_535) (Or.inr ⟨rfl, hin, rfl⟩) rfl rfl (Nat.le_of_ble_eq_true rfl) d_Mo_init_53 (fun G13 H13 locs13 eG hP13 hz13 hS13 => ?_)
  have b13 : G13 (0) = .inr (8, [.int 0, .ref (b + 1), .ref (b + 2), .ref (b + 3), .int 1000, .ref (b + 4), .ref (b + 5), .ref (b + 6), .null, .null, .null, .int 0, .int 0, .null, .null, .null, .null, .null, .null, .int 0, .int 0, .int 0, .int 0, .int 0, .null, .null, .int 0, .null]) := by rw [eG]; exact va_up_self _ _ _
  have o13 : ∀ v, v ≠ 0 → G13 v = G12 v := fun v hv => by rw [eG]; exact va_up_ne _ _ hv
  clear eG hP12 hz12 hS12
  refine lv_aload_n (pc := 56) hx hb d_Mo_init_56 rfl (lv_at hl 0 rfl) ?_
  refine lv_bipush (v := 6) (pc := 57) hx hb d_Mo_init_57 (by decide) ?_
  refine bl_newa (atype := .long) (ty := .long) (a0 := (6, .inr (.inl (fun _ => 0)))) (pc := 59) hx hb (hts _ wd_613) rfl (hK.2 1 _ rfl).2 hP13 hz13 hS13 (fun cA => arr_def_long _ _) (by decide) (by decide) (by decide) (Nat.le_of_ble_eq_true rfl) (Nat.le_of_ble_eq_true rfl) d_Mo_init_59 (fun G14 H14 eG hP14 hz14 hS14 => ?_)
  have b14 : G14 (7) = .inl (cM 1, 6, .inr (.inl (fun _ => 0))) := by rw [eG]; exact va_up_self _ _ _
  have o14 : ∀ v, v ≠ 7 → G14 v = G13 v := fun v hv => by rw [eG]; exact va_up_ne _ _ hv
  clear eG hP13 hz13 hS13
  replace hP14 : va_P D clG (pw (8) (ba b) G14) H14 := hP14
  replace hz14 : H14.size = b + (8) := hz14
  refine bl_put (C := R_Mo) (T := T_Mo) (N := 28) (pc := 61) hx hb hts i_Mo t_Mo t_Mo_ok n_Mo hown hK hP14 hz14 hS14 0 (by omega) ((o14 _ (by omega)).trans b13) rfl 8 (by decide) (hts _ wd_536) (Or.inr ⟨rfl, hin, rfl⟩) rfl rfl (Nat.le_of_ble_eq_true rfl) d_Mo_init_61 (fun G15 H15 locs15 eG hP15 hz15 hS15 => ?_)
  have b15 : G15 (0) = .inr (8, [.int 0, .ref (b + 1), .ref (b + 2), .ref (b + 3), .int 1000, .ref (b + 4), .ref (b + 5), .ref (b + 6), .ref (b + 7), .null, .null, .int 0, .int 0, .null, .null, .null, .null, .null, .null, .int 0, .int 0, .int 0, .int 0, .int 0, .null, .null, .int 0, .null]) := by rw [eG]; exact va_up_self _ _ _
  have o15 : ∀ v, v ≠ 0 → G15 v = G14 v := fun v hv => by rw [eG]; exact va_up_ne _ _ hv
  clear eG hP14 hz14 hS14
  refine lv_aload_n (pc := 64) hx hb d_Mo_init_64 rfl (lv_at hl 0 rfl) ?_
  refine lv_bipush (v := 6) (pc := 65) hx hb d_Mo_init_65 (by decide) ?_
  refine bl_newa (atype := .int) (ty := .int) (a0 := (6, .inl (fun _ => 0))) (pc := 67) hx hb (hts _ wd_103) rfl (hK.2 0 _ rfl).2 hP15 hz15 hS15 (fun cA => arr_def_int _ _) (by decide) (by decide) (by decide) (Nat.le_of_ble_eq_true rfl) (Nat.le_of_ble_eq_true rfl) d_Mo_init_67 (fun G16 H16 eG hP16 hz16 hS16 => ?_)
  have b16 : G16 (8) = .inl (cM 0, 6, .inl (fun _ => 0)) := by rw [eG]; exact va_up_self _ _ _
  have o16 : ∀ v, v ≠ 8 → G16 v = G15 v := fun v hv => by rw [eG]; exact va_up_ne _ _ hv
  clear eG hP15 hz15 hS15
  replace hP16 : va_P D clG (pw (9) (ba b) G16) H16 := hP16
  replace hz16 : H16.size = b + (9) := hz16
  refine bl_put (C := R_Mo) (T := T_Mo) (N := 28) (pc := 69) hx hb hts i_Mo t_Mo t_Mo_ok n_Mo hown hK hP16 hz16 hS16 0 (by omega) ((o16 _ (by omega)).trans b15) rfl 9 (by decide) (hts _ wd_537) (Or.inr ⟨rfl, hin, rfl⟩) rfl rfl (Nat.le_of_ble_eq_true rfl) d_Mo_init_69 (fun G17 H17 locs17 eG hP17 hz17 hS17 => ?_)
  have b17 : G17 (0) = .inr (8, [.int 0, .ref (b + 1), .ref (b + 2), .ref (b + 3), .int 1000, .ref (b + 4), .ref (b + 5), .ref (b + 6), .ref (b + 7), .ref (b + 8), .null, .int 0, .int 0, .null, .null, .null, .null, .null, .null, .int 0, .int 0, .int 0, .int 0, .int 0, .null, .null, .int 0, .null]) := by rw [eG]; exact va_up_self _ _ _
  have o17 : ∀ v, v ≠ 0 → G17 v = G16 v := fun v hv => by rw [eG]; exact va_up_ne _ _ hv
  clear eG hP16 hz16 hS16
  refine lv_aload_n (pc := 72) hx hb d_Mo_init_72 rfl (lv_at hl 0 rfl) ?_
  refine lv_bipush (v := 6) (pc := 73) hx hb d_Mo_init_73 (by decide) ?_
  refine bl_newa (atype := .int) (ty := .int) (a0 := (6, .inl (fun _ => 0))) (pc := 75) hx hb (hts _ wd_103) rfl (hK.2 0 _ rfl).2 hP17 hz17 hS17 (fun cA => arr_def_int _ _) (by decide) (by decide) (by decide) (Nat.le_of_ble_eq_true rfl) (Nat.le_of_ble_eq_true rfl) d_Mo_init_75 (fun G18 H18 eG hP18 hz18 hS18 => ?_)
  have b18 : G18 (9) = .inl (cM 0, 6, .inl (fun _ => 0)) := by rw [eG]; exact va_up_self _ _ _
  have o18 : ∀ v, v ≠ 9 → G18 v = G17 v := fun v hv => by rw [eG]; exact va_up_ne _ _ hv
  clear eG hP17 hz17 hS17
  replace hP18 : va_P D clG (pw (10) (ba b) G18) H18 := hP18
  replace hz18 : H18.size = b + (10) := hz18
  refine bl_put (C := R_Mo) (T := T_Mo) (N := 28) (pc := 77) hx hb hts i_Mo t_Mo t_Mo_ok n_Mo hown hK hP18 hz18 hS18 0 (by omega) ((o18 _ (by omega)).trans b17) rfl 10 (by decide) (hts _ wd_538) (Or.inr ⟨rfl, hin, rfl⟩) rfl rfl (Nat.le_of_ble_eq_true rfl) d_Mo_init_77 (fun G19 H19 locs19 eG hP19 hz19 hS19 => ?_)
  have b19 : G19 (0) = .inr (8, [.int 0, .ref (b + 1), .ref (b + 2), .ref (b + 3), .int 1000, .ref (b + 4), .ref (b + 5), .ref (b + 6), .ref (b + 7), .ref (b + 8), .ref (b + 9), .int 0, .int 0, .null, .null, .null, .null, .null, .null, .int 0, .int 0, .int 0, .int 0, .int 0, .null, .null, .int 0, .null]) := by rw [eG]; exact va_up_self _ _ _
  have o19 : ∀ v, v ≠ 0 → G19 v = G18 v := fun v hv => by rw [eG]; exact va_up_ne _ _ hv
  clear eG hP18 hz18 hS18
  refine lv_aload_n (pc := 80) hx hb d_Mo_init_80 rfl (lv_at hl 0 rfl) ?_
  refine lv_bipush (v := 100) (pc := 81) hx hb d_Mo_init_81 (by decide) ?_
  refine bl_put (C := R_Mo) (T := T_Mo) (N := 28) (pc := 83) hx hb hts i_Mo t_Mo t_Mo_ok n_Mo hown hK hP19 hz19 hS19 0 (by omega) b19 rfl 11 (by decide) (hts _ wd_539) (Or.inl rfl) rfl rfl (Nat.le_of_ble_eq_true rfl) d_Mo_init_83 (fun G20 H20 locs20 eG hP20 hz20 hS20 => ?_)
  have b20 : G20 (0) = .inr (8, [.int 0, .ref (b + 1), .ref (b + 2), .ref (b + 3), .int 1000, .ref (b + 4), .ref (b + 5), .ref (b + 6), .ref (b + 7), .ref (b + 8), .ref (b + 9), .int 100, .int 0, .null, .null, .null, .null, .null, .null, .int 0, .int 0, .int 0, .int 0, .int 0, .null, .null, .int 0, .null]) := by rw [eG]; exact va_up_self _ _ _
  have o20 : ∀ v, v ≠ 0 → G20 v = G19 v := fun v hv => by rw [eG]; exact va_up_ne _ _ hv
  clear eG hP19 hz19 hS19
  refine lv_aload_n (pc := 86) hx hb d_Mo_init_86 rfl (lv_at hl 0 rfl) ?_
  refine lv_sipush (v := 500) (pc := 87) hx hb d_Mo_init_87 (by decide) ?_
  refine bl_put (C := R_Mo) (T := T_Mo) (N := 28) (pc := 90) hx hb hts i_Mo t_Mo t_Mo_ok n_Mo hown hK hP20 hz20 hS20 0 (by omega) b20 rfl 12 (by decide) (hts _ wd_540) (Or.inl rfl) rfl rfl (Nat.le_of_ble_eq_true rfl) d_Mo_init_90 (fun G21 H21 locs21 eG hP21 hz21 hS21 => ?_)
  have b21 : G21 (0) = .inr (8, [.int 0, .ref (b + 1), .ref (b + 2), .ref (b + 3), .int 1000, .ref (b + 4), .ref (b + 5), .ref (b + 6), .ref (b + 7), .ref (b + 8), .ref (b + 9), .int 100, .int 500, .null, .null, .null, .null, .null, .null, .int 0, .int 0, .int 0, .int 0, .int 0, .null, .null, .int 0, .null]) := by rw [eG]; exact va_up_self _ _ _
  have o21 : ∀ v, v ≠ 0 → G21 v = G20 v := fun v hv => by rw [eG]; exact va_up_ne _ _ hv
  clear eG hP20 hz20 hS20
  refine lv_aload_n (pc := 93) hx hb d_Mo_init_93 rfl (lv_at hl 0 rfl) ?_
  refine lv_iconst (v := 2) (pc := 94) hx hb d_Mo_init_94 (by decide) ?_
  refine bl_newa (atype := .boolean) (ty := .boolean) (a0 := (2, .inl (fun _ => 0))) (pc := 95) hx hb (hts _ wd_614) rfl (hK.2 2 _ rfl).2 hP21 hz21 hS21 (fun cA => arr_def_boolean _ _) (by decide) (by decide) (by decide) (Nat.le_of_ble_eq_true rfl) (Nat.le_of_ble_eq_true rfl) d_Mo_init_95 (fun G22 H22 eG hP22 hz22 hS22 => ?_)
  have b22 : G22 (10) = .inl (cM 2, 2, .inl (fun _ => 0)) := by rw [eG]; exact va_up_self _ _ _
  have o22 : ∀ v, v ≠ 10 → G22 v = G21 v := fun v hv => by rw [eG]; exact va_up_ne _ _ hv
  clear eG hP21 hz21 hS21
  replace hP22 : va_P D clG (pw (11) (ba b) G22) H22 := hP22
  replace hz22 : H22.size = b + (11) := hz22
  refine bl_put (C := R_Mo) (T := T_Mo) (N := 28) (pc := 97) hx hb hts i_Mo t_Mo t_Mo_ok n_Mo hown hK hP22 hz22 hS22 0 (by omega) ((o22 _ (by omega)).trans b21) rfl 13 (by decide) (hts _ wd_541) (Or.inr ⟨rfl, hin, rfl⟩) rfl rfl (Nat.le_of_ble_eq_true rfl) d_Mo_init_97 (fun G23 H23 locs23 eG hP23 hz23 hS23 => ?_)
  have b23 : G23 (0) = .inr (8, [.int 0, .ref (b + 1), .ref (b + 2), .ref (b + 3), .int 1000, .ref (b + 4), .ref (b + 5), .ref (b + 6), .ref (b + 7), .ref (b + 8), .ref (b + 9), .int 100, .int 500, .ref (b + 10), .null, .null, .null, .null, .null, .int 0, .int 0, .int 0, .int 0, .int 0, .null, .null, .int 0, .null]) := by rw [eG]; exact va_up_self _ _ _
  have o23 : ∀ v, v ≠ 0 → G23 v = G22 v := fun v hv => by rw [eG]; exact va_up_ne _ _ hv
  clear eG hP22 hz22 hS22
  refine lv_aload_n (pc := 100) hx hb d_Mo_init_100 rfl (lv_at hl 0 rfl) ?_
  refine lv_iconst (v := 2) (pc := 101) hx hb d_Mo_init_101 (by decide) ?_
  refine bl_newa (atype := .int) (ty := .int) (a0 := (2, .inl (fun _ => 0))) (pc := 102) hx hb (hts _ wd_103) rfl (hK.2 0 _ rfl).2 hP23 hz23 hS23 (fun cA => arr_def_int _ _) (by decide) (by decide) (by decide) (Nat.le_of_ble_eq_true rfl) (Nat.le_of_ble_eq_true rfl) d_Mo_init_102 (fun G24 H24 eG hP24 hz24 hS24 => ?_)
  have b24 : G24 (11) = .inl (cM 0, 2, .inl (fun _ => 0)) := by rw [eG]; exact va_up_self _ _ _
  have o24 : ∀ v, v ≠ 11 → G24 v = G23 v := fun v hv => by rw [eG]; exact va_up_ne _ _ hv
  clear eG hP23 hz23 hS23
  replace hP24 : va_P D clG (pw (12) (ba b) G24) H24 := hP24
  replace hz24 : H24.size = b + (12) := hz24
  refine bl_put (C := R_Mo) (T := T_Mo) (N := 28) (pc := 104) hx hb hts i_Mo t_Mo t_Mo_ok n_Mo hown hK hP24 hz24 hS24 0 (by omega) ((o24 _ (by omega)).trans b23) rfl 14 (by decide) (hts _ wd_542) (Or.inr ⟨rfl, hin, rfl⟩) rfl rfl (Nat.le_of_ble_eq_true rfl) d_Mo_init_104 (fun G25 H25 locs25 eG hP25 hz25 hS25 => ?_)
  have b25 : G25 (0) = .inr (8, [.int 0, .ref (b + 1), .ref (b + 2), .ref (b + 3), .int 1000, .ref (b + 4), .ref (b + 5), .ref (b + 6), .ref (b + 7), .ref (b + 8), .ref (b + 9), .int 100, .int 500, .ref (b + 10), .ref (b + 11), .null, .null, .null, .null, .int 0, .int 0, .int 0, .int 0, .int 0, .null, .null, .int 0, .null]) := by rw [eG]; exact va_up_self _ _ _
  have o25 : ∀ v, v ≠ 0 → G25 v = G24 v := fun v hv => by rw [eG]; exact va_up_ne _ _ hv
  clear eG hP24 hz24 hS24
  refine lv_aload_n (pc := 107) hx hb d_Mo_init_107 rfl (lv_at hl 0 rfl) ?_
  refine lv_iconst (v := 2) (pc := 108) hx hb d_Mo_init_108 (by decide) ?_
  refine bl_newa (atype := .int) (ty := .int) (a0 := (2, .inl (fun _ => 0))) (pc := 109) hx hb (hts _ wd_103) rfl (hK.2 0 _ rfl).2 hP25 hz25 hS25 (fun cA => arr_def_int _ _) (by decide) (by decide) (by decide) (Nat.le_of_ble_eq_true rfl) (Nat.le_of_ble_eq_true rfl) d_Mo_init_109 (fun G26 H26 eG hP26 hz26 hS26 => ?_)
  have b26 : G26 (12) = .inl (cM 0, 2, .inl (fun _ => 0)) := by rw [eG]; exact va_up_self _ _ _
  have o26 : ∀ v, v ≠ 12 → G26 v = G25 v := fun v hv => by rw [eG]; exact va_up_ne _ _ hv
  clear eG hP25 hz25 hS25
  replace hP26 : va_P D clG (pw (13) (ba b) G26) H26 := hP26
  replace hz26 : H26.size = b + (13) := hz26
  refine bl_put (C := R_Mo) (T := T_Mo) (N := 28) (pc := 111) hx hb hts i_Mo t_Mo t_Mo_ok n_Mo hown hK hP26 hz26 hS26 0 (by omega) ((o26 _ (by omega)).trans b25) rfl 15 (by decide) (hts _ wd_543) (Or.inr ⟨rfl, hin, rfl⟩) rfl rfl (Nat.le_of_ble_eq_true rfl) d_Mo_init_111 (fun G27 H27 locs27 eG hP27 hz27 hS27 => ?_)
  have b27 : G27 (0) = .inr (8, [.int 0, .ref (b + 1), .ref (b + 2), .ref (b + 3), .int 1000, .ref (b + 4), .ref (b + 5), .ref (b + 6), .ref (b + 7), .ref (b + 8), .ref (b + 9), .int 100, .int 500, .ref (b + 10), .ref (b + 11), .ref (b + 12), .null, .null, .null, .int 0, .int 0, .int 0, .int 0, .int 0, .null, .null, .int 0, .null]) := by rw [eG]; exact va_up_self _ _ _
  have o27 : ∀ v, v ≠ 0 → G27 v = G26 v := fun v hv => by rw [eG]; exact va_up_ne _ _ hv
  clear eG hP26 hz26 hS26
  refine lv_aload_n (pc := 114) hx hb d_Mo_init_114 rfl (lv_at hl 0 rfl) ?_
  refine lv_iconst (v := 2) (pc := 115) hx hb d_Mo_init_115 (by decide) ?_
  refine bl_newa (atype := .int) (ty := .int) (a0 := (2, .inl (fun _ => 0))) (pc := 116) hx hb (hts _ wd_103) rfl (hK.2 0 _ rfl).2 hP27 hz27 hS27 (fun cA => arr_def_int _ _) (by decide) (by decide) (by decide) (Nat.le_of_ble_eq_true rfl) (Nat.le_of_ble_eq_true rfl) d_Mo_init_116 (fun G28 H28 eG hP28 hz28 hS28 => ?_)
  have b28 : G28 (13) = .inl (cM 0, 2, .inl (fun _ => 0)) := by rw [eG]; exact va_up_self _ _ _
  have o28 : ∀ v, v ≠ 13 → G28 v = G27 v := fun v hv => by rw [eG]; exact va_up_ne _ _ hv
  clear eG hP27 hz27 hS27
  replace hP28 : va_P D clG (pw (14) (ba b) G28) H28 := hP28
  replace hz28 : H28.size = b + (14) := hz28
  refine bl_put (C := R_Mo) (T := T_Mo) (N := 28) (pc := 118) hx hb hts i_Mo t_Mo t_Mo_ok n_Mo hown hK hP28 hz28 hS28 0 (by omega) ((o28 _ (by omega)).trans b27) rfl 16 (by decide) (hts _ wd_544) (Or.inr ⟨rfl, hin, rfl⟩) rfl rfl (Nat.le_of_ble_eq_true rfl) d_Mo_init_118 (fun G29 H29 locs29 eG hP29 hz29 hS29 => ?_)
  have b29 : G29 (0) = .inr (8, [.int 0, .ref (b + 1), .ref (b + 2), .ref (b + 3), .int 1000, .ref (b + 4), .ref (b + 5), .ref (b + 6), .ref (b + 7), .ref (b + 8), .ref (b + 9), .int 100, .int 500, .ref (b + 10), .ref (b + 11), .ref (b + 12), .ref (b + 13), .null, .null, .int 0, .int 0, .int 0, .int 0, .int 0, .null, .null, .int 0, .null]) := by rw [eG]; exact va_up_self _ _ _
  have o29 : ∀ v, v ≠ 0 → G29 v = G28 v := fun v hv => by rw [eG]; exact va_up_ne _ _ hv
  clear eG hP28 hz28 hS28
  refine lv_aload_n (pc := 121) hx hb d_Mo_init_121 rfl (lv_at hl 0 rfl) ?_
  refine lv_iconst (v := 2) (pc := 122) hx hb d_Mo_init_122 (by decide) ?_
  refine bl_newa (atype := .long) (ty := .long) (a0 := (2, .inr (.inl (fun _ => 0)))) (pc := 123) hx hb (hts _ wd_613) rfl (hK.2 1 _ rfl).2 hP29 hz29 hS29 (fun cA => arr_def_long _ _) (by decide) (by decide) (by decide) (Nat.le_of_ble_eq_true rfl) (Nat.le_of_ble_eq_true rfl) d_Mo_init_123 (fun G30 H30 eG hP30 hz30 hS30 => ?_)
  have b30 : G30 (14) = .inl (cM 1, 2, .inr (.inl (fun _ => 0))) := by rw [eG]; exact va_up_self _ _ _
  have o30 : ∀ v, v ≠ 14 → G30 v = G29 v := fun v hv => by rw [eG]; exact va_up_ne _ _ hv
  clear eG hP29 hz29 hS29
  replace hP30 : va_P D clG (pw (15) (ba b) G30) H30 := hP30
  replace hz30 : H30.size = b + (15) := hz30
  refine bl_put (C := R_Mo) (T := T_Mo) (N := 28) (pc := 125) hx hb hts i_Mo t_Mo t_Mo_ok n_Mo hown hK hP30 hz30 hS30 0 (by omega) ((o30 _ (by omega)).trans b29) rfl 17 (by decide) (hts _ wd_545) (Or.inr ⟨rfl, hin, rfl⟩) rfl rfl (Nat.le_of_ble_eq_true rfl) d_Mo_init_125 (fun G31 H31 locs31 eG hP31 hz31 hS31 => ?_)
  have b31 : G31 (0) = .inr (8, [.int 0, .ref (b + 1), .ref (b + 2), .ref (b + 3), .int 1000, .ref (b + 4), .ref (b + 5), .ref (b + 6), .ref (b + 7), .ref (b + 8), .ref (b + 9), .int 100, .int 500, .ref (b + 10), .ref (b + 11), .ref (b + 12), .ref (b + 13), .ref (b + 14), .null, .int 0, .int 0, .int 0, .int 0, .int 0, .null, .null, .int 0, .null]) := by rw [eG]; exact va_up_self _ _ _
  have o31 : ∀ v, v ≠ 0 → G31 v = G30 v := fun v hv => by rw [eG]; exact va_up_ne _ _ hv
  clear eG hP30 hz30 hS30
  refine lv_aload_n (pc := 128) hx hb d_Mo_init_128 rfl (lv_at hl 0 rfl) ?_
  refine lv_iconst (v := 2) (pc := 129) hx hb d_Mo_init_129 (by decide) ?_
  refine bl_newa (atype := .int) (ty := .int) (a0 := (2, .inl (fun _ => 0))) (pc := 130) hx hb (hts _ wd_103) rfl (hK.2 0 _ rfl).2 hP31 hz31 hS31 (fun cA => arr_def_int _ _) (by decide) (by decide) (by decide) (Nat.le_of_ble_eq_true rfl) (Nat.le_of_ble_eq_true rfl) d_Mo_init_130 (fun G32 H32 eG hP32 hz32 hS32 => ?_)
  have b32 : G32 (15) = .inl (cM 0, 2, .inl (fun _ => 0)) := by rw [eG]; exact va_up_self _ _ _
  have o32 : ∀ v, v ≠ 15 → G32 v = G31 v := fun v hv => by rw [eG]; exact va_up_ne _ _ hv
  clear eG hP31 hz31 hS31
  replace hP32 : va_P D clG (pw (16) (ba b) G32) H32 := hP32
  replace hz32 : H32.size = b + (16) := hz32
  refine bl_put (C := R_Mo) (T := T_Mo) (N := 28) (pc := 132) hx hb hts i_Mo t_Mo t_Mo_ok n_Mo hown hK hP32 hz32 hS32 0 (by omega) ((o32 _ (by omega)).trans b31) rfl 18 (by decide) (hts _ wd_546) (Or.inr ⟨rfl, hin, rfl⟩) rfl rfl (Nat.le_of_ble_eq_true rfl) d_Mo_init_132 (fun G33 H33 locs33 eG hP33 hz33 hS33 => ?_)
  have b33 : G33 (0) = .inr (8, [.int 0, .ref (b + 1), .ref (b + 2), .ref (b + 3), .int 1000, .ref (b + 4), .ref (b + 5), .ref (b + 6), .ref (b + 7), .ref (b + 8), .ref (b + 9), .int 100, .int 500, .ref (b + 10), .ref (b + 11), .ref (b + 12), .ref (b + 13), .ref (b + 14), .ref (b + 15), .int 0, .int 0, .int 0, .int 0, .int 0, .null, .null, .int 0, .null]) := by rw [eG]; exact va_up_self _ _ _
  have o33 : ∀ v, v ≠ 0 → G33 v = G32 v := fun v hv => by rw [eG]; exact va_up_ne _ _ hv
  clear eG hP32 hz32 hS32
  refine lv_aload_n (pc := 135) hx hb d_Mo_init_135 rfl (lv_at hl 0 rfl) ?_
  refine lv_iconst (v := 4) (pc := 136) hx hb d_Mo_init_136 (by decide) ?_
  refine bl_newa (atype := .long) (ty := .long) (a0 := (4, .inr (.inl (fun _ => 0)))) (pc := 137) hx hb (hts _ wd_613) rfl (hK.2 1 _ rfl).2 hP33 hz33 hS33 (fun cA => arr_def_long _ _) (by decide) (by decide) (by decide) (Nat.le_of_ble_eq_true rfl) (Nat.le_of_ble_eq_true rfl) d_Mo_init_137 (fun G34 H34 eG hP34 hz34 hS34 => ?_)
  have b34 : G34 (16) = .inl (cM 1, 4, .inr (.inl (fun _ => 0))) := by rw [eG]; exact va_up_self _ _ _
  have o34 : ∀ v, v ≠ 16 → G34 v = G33 v := fun v hv => by rw [eG]; exact va_up_ne _ _ hv
  clear eG hP33 hz33 hS33
  replace hP34 : va_P D clG (pw (17) (ba b) G34) H34 := hP34
  replace hz34 : H34.size = b + (17) := hz34
  refine bl_put (C := R_Mo) (T := T_Mo) (N := 28) (pc := 139) hx hb hts i_Mo t_Mo t_Mo_ok n_Mo hown hK hP34 hz34 hS34 0 (by omega) ((o34 _ (by omega)).trans b33) rfl 24 (by decide) (hts _ wd_552) (Or.inr ⟨rfl, hin, rfl⟩) rfl rfl (Nat.le_of_ble_eq_true rfl) d_Mo_init_139 (fun G35 H35 locs35 eG hP35 hz35 hS35 => ?_)
  have b35 : G35 (0) = .inr (8, [.int 0, .ref (b + 1), .ref (b + 2), .ref (b + 3), .int 1000, .ref (b + 4), .ref (b + 5), .ref (b + 6), .ref (b + 7), .ref (b + 8), .ref (b + 9), .int 100, .int 500, .ref (b + 10), .ref (b + 11), .ref (b + 12), .ref (b + 13), .ref (b + 14), .ref (b + 15), .int 0, .int 0, .int 0, .int 0, .int 0, .ref (b + 16), .null, .int 0, .null]) := by rw [eG]; exact va_up_self _ _ _
  have o35 : ∀ v, v ≠ 0 → G35 v = G34 v := fun v hv => by rw [eG]; exact va_up_ne _ _ hv
  clear eG hP34 hz34 hS34
  refine lv_aload_n (pc := 142) hx hb d_Mo_init_142 rfl (lv_at hl 0 rfl) ?_
  refine lv_bipush (v := 10) (pc := 143) hx hb d_Mo_init_143 (by decide) ?_
  refine bl_newa (atype := .long) (ty := .long) (a0 := (10, .inr (.inl (fun _ => 0)))) (pc := 145) hx hb (hts _ wd_613) rfl (hK.2 1 _ rfl).2 hP35 hz35 hS35 (fun cA => arr_def_long _ _) (by decide) (by decide) (by decide) (Nat.le_of_ble_eq_true rfl) (Nat.le_of_ble_eq_true rfl) d_Mo_init_145 (fun G36 H36 eG hP36 hz36 hS36 => ?_)
  have b36 : G36 (17) = .inl (cM 1, 10, .inr (.inl (fun _ => 0))) := by rw [eG]; exact va_up_self _ _ _
  have o36 : ∀ v, v ≠ 17 → G36 v = G35 v := fun v hv => by rw [eG]; exact va_up_ne _ _ hv
  clear eG hP35 hz35 hS35
  replace hP36 : va_P D clG (pw (18) (ba b) G36) H36 := hP36
  replace hz36 : H36.size = b + (18) := hz36
  refine bl_put (C := R_Mo) (T := T_Mo) (N := 28) (pc := 147) hx hb hts i_Mo t_Mo t_Mo_ok n_Mo hown hK hP36 hz36 hS36 0 (by omega) ((o36 _ (by omega)).trans b35) rfl 25 (by decide) (hts _ wd_553) (Or.inr ⟨rfl, hin, rfl⟩) rfl rfl (Nat.le_of_ble_eq_true rfl) d_Mo_init_147 (fun G37 H37 locs37 eG hP37 hz37 hS37 => ?_)
  have b37 : G37 (0) = .inr (8, [.int 0, .ref (b + 1), .ref (b + 2), .ref (b + 3), .int 1000, .ref (b + 4), .ref (b + 5), .ref (b + 6), .ref (b + 7), .ref (b + 8), .ref (b + 9), .int 100, .int 500, .ref (b + 10), .ref (b + 11), .ref (b + 12), .ref (b + 13), .ref (b + 14), .ref (b + 15), .int 0, .int 0, .int 0, .int 0, .int 0, .ref (b + 16), .ref (b + 17), .int 0, .null]) := by rw [eG]; exact va_up_self _ _ _
  have o37 : ∀ v, v ≠ 0 → G37 v = G36 v := fun v hv => by rw [eG]; exact va_up_ne _ _ hv
  clear eG hP36 hz36 hS36
  refine lv_aload_n (pc := 150) hx hb d_Mo_init_150 rfl (lv_at hl 0 rfl) ?_
  refine lv_iconst (v := 4) (pc := 151) hx hb d_Mo_init_151 (by decide) ?_
  refine bl_newa (atype := .int) (ty := .int) (a0 := (4, .inl (fun _ => 0))) (pc := 152) hx hb (hts _ wd_103) rfl (hK.2 0 _ rfl).2 hP37 hz37 hS37 (fun cA => arr_def_int _ _) (by decide) (by decide) (by decide) (Nat.le_of_ble_eq_true rfl) (Nat.le_of_ble_eq_true rfl) d_Mo_init_152 (fun G38 H38 eG hP38 hz38 hS38 => ?_)
  have b38 : G38 (18) = .inl (cM 0, 4, .inl (fun _ => 0)) := by rw [eG]; exact va_up_self _ _ _
  have o38 : ∀ v, v ≠ 18 → G38 v = G37 v := fun v hv => by rw [eG]; exact va_up_ne _ _ hv
  clear eG hP37 hz37 hS37
  replace hP38 : va_P D clG (pw (19) (ba b) G38) H38 := hP38
  replace hz38 : H38.size = b + (19) := hz38
  refine bl_put (C := R_Mo) (T := T_Mo) (N := 28) (pc := 154) hx hb hts i_Mo t_Mo t_Mo_ok n_Mo hown hK hP38 hz38 hS38 0 (by omega) ((o38 _ (by omega)).trans b37) rfl 27 (by decide) (hts _ wd_555) (Or.inr ⟨rfl, hin, rfl⟩) rfl rfl (Nat.le_of_ble_eq_true rfl) d_Mo_init_154 (fun G39 H39 locs39 eG hP39 hz39 hS39 => ?_)
  have b39 : G39 (0) = .inr (8, [.int 0, .ref (b + 1), .ref (b + 2), .ref (b + 3), .int 1000, .ref (b + 4), .ref (b + 5), .ref (b + 6), .ref (b + 7), .ref (b + 8), .ref (b + 9), .int 100, .int 500, .ref (b + 10), .ref (b + 11), .ref (b + 12), .ref (b + 13), .ref (b + 14), .ref (b + 15), .int 0, .int 0, .int 0, .int 0, .int 0, .ref (b + 16), .ref (b + 17), .int 0, .ref (b + 18)]) := by rw [eG]; exact va_up_self _ _ _
  have o39 : ∀ v, v ≠ 0 → G39 v = G38 v := fun v hv => by rw [eG]; exact va_up_ne _ _ hv
  clear eG hP38 hz38 hS38
  refine lv_aload_n (pc := 157) hx hb d_Mo_init_157 rfl (lv_at hl 0 rfl) ?_
  refine lv_iload_n (pc := 158) hx hb d_Mo_init_158 rfl (lv_at hl 1 rfl) ?_
  refine lv_iconst (v := 1) (pc := 159) hx hb d_Mo_init_159 (by decide) ?_
  refine lv_icmp_lt (tgt := 173) (pc := 160) hx hb d_Mo_init_160 (by decide) (fun c_1 => ?_) (fun c_1 => ?_)
  · refine lv_iconst (v := 1) (pc := 173) hx hb d_Mo_init_173 (by decide) ?_
    refine W.eq (g2 := F0 m 174 ls [.int (nI (zN a)), .ref (b + 0)]) (by rw [show zN a = 1 by unfold zN f_GL_within; rw [if_pos c_1, if_pos rfl]]; rfl) ?_
    refine bl_put (C := R_Mo) (T := T_Mo) (N := 28) (pc := 174) hx hb hts i_Mo t_Mo t_Mo_ok n_Mo hown hK hP39 hz39 hS39 0 (by omega) b39 rfl 0 (by decide) (hts _ wd_528) (Or.inr ⟨rfl, hin, rfl⟩) rfl rfl (Nat.le_of_ble_eq_true rfl) d_Mo_init_174 (fun G40 H40 locs40 eG hP40 hz40 hS40 => ?_)
    have b40 : G40 (0) = .inr (8, [.int (nI (zN a)), .ref (b + 1), .ref (b + 2), .ref (b + 3), .int 1000, .ref (b + 4), .ref (b + 5), .ref (b + 6), .ref (b + 7), .ref (b + 8), .ref (b + 9), .int 100, .int 500, .ref (b + 10), .ref (b + 11), .ref (b + 12), .ref (b + 13), .ref (b + 14), .ref (b + 15), .int 0, .int 0, .int 0, .int 0, .int 0, .ref (b + 16), .ref (b + 17), .int 0, .ref (b + 18)]) := by rw [eG]; exact va_up_self _ _ _
    have o40 : ∀ v, v ≠ 0 → G40 v = G39 v := fun v hv => by rw [eG]; exact va_up_ne _ _ hv
    clear eG hP39 hz39 hS39
    refine lv_iconst (v := 0) (pc := 177) hx hb d_Mo_init_177 (by decide) ?_
    refine lv_istore_n (lv' := [(2, .int 0), (0, .ref (b + 0)), (1, .int a)]) (pc := 178) hx hb d_Mo_init_178 rfl hl (by decide) rfl (fun ls hl => ?_)
    refine lv_iload_n (pc := 179) hx hb d_Mo_init_179 rfl (lv_at hl 0 rfl) ?_
    refine lv_bipush (v := 6) (pc := 180) hx hb d_Mo_init_180 (by decide) ?_
    refine lv_icmp_ge (tgt := 200) (pc := 182) hx hb d_Mo_init_182 (by decide) (fun c_1 => absurd c_1 (by decide)) (fun _ => ?_)
    refine lv_aload_n (pc := 185) hx hb d_Mo_init_185 rfl (lv_at hl 1 rfl) ?_
    refine bl_get (C := R_Mo) (T := T_Mo) (N := 28) (v := .ref (b + 9)) (pc := 186) hx hb hts i_Mo hown hK hP40 0 (by omega) b40 rfl 10 (by decide) (hts _ wd_538) rfl d_Mo_init_186 ?_
    refine lv_iload_n (pc := 189) hx hb d_Mo_init_189 rfl (lv_at hl 0 rfl) ?_
    refine lv_sipush (v := 200) (pc := 190) hx hb d_Mo_init_190 (by decide) ?_
    refine bl_iast (pc := 193) hx hb hK hP40 hz40 hS40 9 (by omega) 0 ((o40 _ (by omega)).trans ((o39 _ (by omega)).trans ((o38 _ (by omega)).trans ((o37 _ (by omega)).trans ((o36 _ (by omega)).trans ((o35 _ (by omega)).trans ((o34 _ (by omega)).trans ((o33 _ (by omega)).trans ((o32 _ (by omega)).trans ((o31 _ (by omega)).trans ((o30 _ (by omega)).trans ((o29 _ (by omega)).trans ((o28 _ (by omega)).trans ((o27 _ (by omega)).trans ((o26 _ (by omega)).trans ((o25 _ (by omega)).trans ((o24 _ (by omega)).trans ((o23 _ (by omega)).trans ((o22 _ (by omega)).trans ((o21 _ (by omega)).trans ((o20 _ (by omega)).trans ((o19 _ (by omega)).trans b18)))))))))))))))))))))) rfl 0 (by decide) (by decide) rfl d_Mo_init_193 (fun G41 H41 locs41 eG hP41 hz41 hS41 => ?_)
    have b41 : G41 (9) = .inl (cM 0, 6, .inl (upd (fun _ => 0) 0 200)) := by rw [eG]; exact va_up_self _ _ _
    have o41 : ∀ v, v ≠ 9 → G41 v = G40 v := fun v hv => by rw [eG]; exact va_up_ne _ _ hv
    clear eG hP40 hz40 hS40
    refine lv_iinc (v := 1) (lv' := [(2, .int 1), (0, .ref (b + 0)), (1, .int a)]) (pc := 194) hx hb d_Mo_init_194 hl (k := 0) rfl (by decide) (by decide) rfl (fun ls hl => ?_)
    refine lv_goto (tgt := 179) (pc := 197) hx hb d_Mo_init_197 (by decide) ?_
    refine lv_iload_n (pc := 179) hx hb d_Mo_init_179 rfl (lv_at hl 0 rfl) ?_
    refine lv_bipush (v := 6) (pc := 180) hx hb d_Mo_init_180 (by decide) ?_
    refine lv_icmp_ge (tgt := 200) (pc := 182) hx hb d_Mo_init_182 (by decide) (fun c_1 => absurd c_1 (by decide)) (fun _ => ?_)
    refine lv_aload_n (pc := 185) hx hb d_Mo_init_185 rfl (lv_at hl 1 rfl) ?_
    refine bl_get (C := R_Mo) (T := T_Mo) (N := 28) (v := .ref (b + 9)) (pc := 186) hx hb hts i_Mo hown hK hP41 0 (by omega) ((o41 _ (by omega)).trans b40) rfl 10 (by decide) (hts _ wd_538) rfl d_Mo_init_186 ?_
    refine lv_iload_n (pc := 189) hx hb d_Mo_init_189 rfl (lv_at hl 0 rfl) ?_
    refine lv_sipush (v := 200) (pc := 190) hx hb d_Mo_init_190 (by decide) ?_
    refine bl_iast (pc := 193) hx hb hK hP41 hz41 hS41 9 (by omega) 0 b41 rfl 1 (by decide) (by decide) rfl d_Mo_init_193 (fun G42 H42 locs42 eG hP42 hz42 hS42 => ?_)
    have b42 : G42 (9) = .inl (cM 0, 6, .inl (upd (upd (fun _ => 0) 0 200) 1 200)) := by rw [eG]; exact va_up_self _ _ _
    have o42 : ∀ v, v ≠ 9 → G42 v = G41 v := fun v hv => by rw [eG]; exact va_up_ne _ _ hv
    clear eG hP41 hz41 hS41
    refine lv_iinc (v := 2) (lv' := [(2, .int 2), (0, .ref (b + 0)), (1, .int a)]) (pc := 194) hx hb d_Mo_init_194 hl (k := 0) rfl (by decide) (by decide) rfl (fun ls hl => ?_)
    refine lv_goto (tgt := 179) (pc := 197) hx hb d_Mo_init_197 (by decide) ?_
    refine lv_iload_n (pc := 179) hx hb d_Mo_init_179 rfl (lv_at hl 0 rfl) ?_
    refine lv_bipush (v := 6) (pc := 180) hx hb d_Mo_init_180 (by decide) ?_
    refine lv_icmp_ge (tgt := 200) (pc := 182) hx hb d_Mo_init_182 (by decide) (fun c_1 => absurd c_1 (by decide)) (fun _ => ?_)
    refine lv_aload_n (pc := 185) hx hb d_Mo_init_185 rfl (lv_at hl 1 rfl) ?_
    refine bl_get (C := R_Mo) (T := T_Mo) (N := 28) (v := .ref (b + 9)) (pc := 186) hx hb hts i_Mo hown hK hP42 0 (by omega) ((o42 _ (by omega)).trans ((o41 _ (by omega)).trans b40)) rfl 10 (by decide) (hts _ wd_538) rfl d_Mo_init_186 ?_
    refine lv_iload_n (pc := 189) hx hb d_Mo_init_189 rfl (lv_at hl 0 rfl) ?_
    refine lv_sipush (v := 200) (pc := 190) hx hb d_Mo_init_190 (by decide) ?_
    refine bl_iast (pc := 193) hx hb hK hP42 hz42 hS42 9 (by omega) 0 b42 rfl 2 (by decide) (by decide) rfl d_Mo_init_193 (fun G43 H43 locs43 eG hP43 hz43 hS43 => ?_)
    have b43 : G43 (9) = .inl (cM 0, 6, .inl (upd (upd (upd (fun _ => 0) 0 200) 1 200) 2 200)) := by rw [eG]; exact va_up_self _ _ _
    have o43 : ∀ v, v ≠ 9 → G43 v = G42 v := fun v hv => by rw [eG]; exact va_up_ne _ _ hv
    clear eG hP42 hz42 hS42
    refine lv_iinc (v := 3) (lv' := [(2, .int 3), (0, .ref (b + 0)), (1, .int a)]) (pc := 194) hx hb d_Mo_init_194 hl (k := 0) rfl (by decide) (by decide) rfl (fun ls hl => ?_)
    refine lv_goto (tgt := 179) (pc := 197) hx hb d_Mo_init_197 (by decide) ?_
    refine lv_iload_n (pc := 179) hx hb d_Mo_init_179 rfl (lv_at hl 0 rfl) ?_
    refine lv_bipush (v := 6) (pc := 180) hx hb d_Mo_init_180 (by decide) ?_
    refine lv_icmp_ge (tgt := 200) (pc := 182) hx hb d_Mo_init_182 (by decide) (fun c_1 => absurd c_1 (by decide)) (fun _ => ?_)
    refine lv_aload_n (pc := 185) hx hb d_Mo_init_185 rfl (lv_at hl 1 rfl) ?_
    refine bl_get (C := R_Mo) (T := T_Mo) (N := 28) (v := .ref (b + 9)) (pc := 186) hx hb hts i_Mo hown hK hP43 0 (by omega) ((o43 _ (by omega)).trans ((o42 _ (by omega)).trans ((o41 _ (by omega)).trans b40))) rfl 10 (by decide) (hts _ wd_538) rfl d_Mo_init_186 ?_
    refine lv_iload_n (pc := 189) hx hb d_Mo_init_189 rfl (lv_at hl 0 rfl) ?_
    refine lv_sipush (v := 200) (pc := 190) hx hb d_Mo_init_190 (by decide) ?_
    refine bl_iast (pc := 193) hx hb hK hP43 hz43 hS43 9 (by omega) 0 b43 rfl 3 (by decide) (by decide) rfl d_Mo_init_193 (fun G44 H44 locs44 eG hP44 hz44 hS44 => ?_)
    have b44 : G44 (9) = .inl (cM 0, 6, .inl (upd (upd (upd (upd (fun _ => 0) 0 200) 1 200) 2 200) 3 200)) := by rw [eG]; exact va_up_self _ _ _
    have o44 : ∀ v, v ≠ 9 → G44 v = G43 v := fun v hv => by rw [eG]; exact va_up_ne _ _ hv
    clear eG hP43 hz43 hS43
    refine lv_iinc (v := 4) (lv' := [(2, .int 4), (0, .ref (b + 0)), (1, .int a)]) (pc := 194) hx hb d_Mo_init_194 hl (k := 0) rfl (by decide) (by decide) rfl (fun ls hl => ?_)
    refine lv_goto (tgt := 179) (pc := 197) hx hb d_Mo_init_197 (by decide) ?_
    refine lv_iload_n (pc := 179) hx hb d_Mo_init_179 rfl (lv_at hl 0 rfl) ?_
    refine lv_bipush (v := 6) (pc := 180) hx hb d_Mo_init_180 (by decide) ?_
    refine lv_icmp_ge (tgt := 200) (pc := 182) hx hb d_Mo_init_182 (by decide) (fun c_1 => absurd c_1 (by decide)) (fun _ => ?_)
    refine lv_aload_n (pc := 185) hx hb d_Mo_init_185 rfl (lv_at hl 1 rfl) ?_
    refine bl_get (C := R_Mo) (T := T_Mo) (N := 28) (v := .ref (b + 9)) (pc := 186) hx hb hts i_Mo hown hK hP44 0 (by omega) ((o44 _ (by omega)).trans ((o43 _ (by omega)).trans ((o42 _ (by omega)).trans ((o41 _ (by omega)).trans b40)))) rfl 10 (by decide) (hts _ wd_538) rfl d_Mo_init_186 ?_
    refine lv_iload_n (pc := 189) hx hb d_Mo_init_189 rfl (lv_at hl 0 rfl) ?_
    refine lv_sipush (v := 200) (pc := 190) hx hb d_Mo_init_190 (by decide) ?_
    refine bl_iast (pc := 193) hx hb hK hP44 hz44 hS44 9 (by omega) 0 b44 rfl 4 (by decide) (by decide) rfl d_Mo_init_193 (fun G45 H45 locs45 eG hP45 hz45 hS45 => ?_)
    have b45 : G45 (9) = .inl (cM 0, 6, .inl (upd (upd (upd (upd (upd (fun _ => 0) 0 200) 1 200) 2 200) 3 200) 4 200)) := by rw [eG]; exact va_up_self _ _ _
    have o45 : ∀ v, v ≠ 9 → G45 v = G44 v := fun v hv => by rw [eG]; exact va_up_ne _ _ hv
    clear eG hP44 hz44 hS44
    refine lv_iinc (v := 5) (lv' := [(2, .int 5), (0, .ref (b + 0)), (1, .int a)]) (pc := 194) hx hb d_Mo_init_194 hl (k := 0) rfl (by decide) (by decide) rfl (fun ls hl => ?_)
    refine lv_goto (tgt := 179) (pc := 197) hx hb d_Mo_init_197 (by decide) ?_
    refine lv_iload_n (pc := 179) hx hb d_Mo_init_179 rfl (lv_at hl 0 rfl) ?_
    refine lv_bipush (v := 6) (pc := 180) hx hb d_Mo_init_180 (by decide) ?_
    refine lv_icmp_ge (tgt := 200) (pc := 182) hx hb d_Mo_init_182 (by decide) (fun c_1 => absurd c_1 (by decide)) (fun _ => ?_)
    refine lv_aload_n (pc := 185) hx hb d_Mo_init_185 rfl (lv_at hl 1 rfl) ?_
    refine bl_get (C := R_Mo) (T := T_Mo) (N := 28) (v := .ref (b + 9)) (pc := 186) hx hb hts i_Mo hown hK hP45 0 (by omega) ((o45 _ (by omega)).trans ((o44 _ (by omega)).trans ((o43 _ (by omega)).trans ((o42 _ (by omega)).trans ((o41 _ (by omega)).trans b40))))) rfl 10 (by decide) (hts _ wd_538) rfl d_Mo_init_186 ?_
    refine lv_iload_n (pc := 189) hx hb d_Mo_init_189 rfl (lv_at hl 0 rfl) ?_
    refine lv_sipush (v := 200) (pc := 190) hx hb d_Mo_init_190 (by decide) ?_
    refine bl_iast (pc := 193) hx hb hK hP45 hz45 hS45 9 (by omega) 0 b45 rfl 5 (by decide) (by decide) rfl d_Mo_init_193 (fun G46 H46 locs46 eG hP46 hz46 hS46 => ?_)
    have b46 : G46 (9) = .inl (cM 0, 6, .inl (upd (upd (upd (upd (upd (upd (fun _ => 0) 0 200) 1 200) 2 200) 3 200) 4 200) 5 200)) := by rw [eG]; exact va_up_self _ _ _
    have o46 : ∀ v, v ≠ 9 → G46 v = G45 v := fun v hv => by rw [eG]; exact va_up_ne _ _ hv
    clear eG hP45 hz45 hS45
    refine lv_iinc (v := 6) (lv' := [(2, .int 6), (0, .ref (b + 0)), (1, .int a)]) (pc := 194) hx hb d_Mo_init_194 hl (k := 0) rfl (by decide) (by decide) rfl (fun ls hl => ?_)
    refine lv_goto (tgt := 179) (pc := 197) hx hb d_Mo_init_197 (by decide) ?_
    refine lv_iload_n (pc := 179) hx hb d_Mo_init_179 rfl (lv_at hl 0 rfl) ?_
    refine lv_bipush (v := 6) (pc := 180) hx hb d_Mo_init_180 (by decide) ?_
    refine lv_icmp_ge (tgt := 200) (pc := 182) hx hb d_Mo_init_182 (by decide) (fun _ => ?_) (fun c_1 => absurd (by decide) c_1)
    exact bl_vret (pc := 200) hx hb hr hlocks hP46 hz46 hS46 ⟨((o46 _ (by omega)).trans ((o45 _ (by omega)).trans ((o44 _ (by omega)).trans ((o43 _ (by omega)).trans ((o42 _ (by omega)).trans ((o41 _ (by omega)).trans b40)))))), ((o46 _ (by omega)).trans ((o45 _ (by omega)).trans ((o44 _ (by omega)).trans ((o43 _ (by omega)).trans ((o42 _ (by omega)).trans ((o41 _ (by omega)).trans ((o40 _ (by omega)).trans ((o39 _ (by omega)).trans ((o38 _ (by omega)).trans ((o37 _ (by omega)).trans ((o36 _ (by omega)).trans ((o35 _ (by omega)).trans ((o34 _ (by omega)).trans ((o33 _ (by omega)).trans ((o32 _ (by omega)).trans ((o31 _ (by omega)).trans ((o30 _ (by omega)).trans ((o29 _ (by omega)).trans ((o28 _ (by omega)).trans ((o27 _ (by omega)).trans ((o26 _ (by omega)).trans ((o25 _ (by omega)).trans ((o24 _ (by omega)).trans ((o23 _ (by omega)).trans ((o22 _ (by omega)).trans ((o21 _ (by omega)).trans ((o20 _ (by omega)).trans ((o19 _ (by omega)).trans ((o18 _ (by omega)).trans ((o17 _ (by omega)).trans ((o16 _ (by omega)).trans ((o15 _ (by omega)).trans ((o14 _ (by omega)).trans ((o13 _ (by omega)).trans ((o12 _ (by omega)).trans ((o11 _ (by omega)).trans ((o10 _ (by omega)).trans ((o9 _ (by omega)).trans ((o8 _ (by omega)).trans ((o7 _ (by omega)).trans ((o6 _ (by omega)).trans ((o5 _ (by omega)).trans ((o4 _ (by omega)).trans ((o3 _ (by omega)).trans ((o2 _ (by omega)).trans b1))))))))))))))))))))))))))))))))))))))))))))), ((o46 _ (by omega)).trans ((o45 _ (by omega)).trans ((o44 _ (by omega)).trans ((o43 _ (by omega)).trans ((o42 _ (by omega)).trans ((o41 _ (by omega)).trans ((o40 _ (by omega)).trans ((o39 _ (by omega)).trans ((o38 _ (by omega)).trans ((o37 _ (by omega)).trans ((o36 _ (by omega)).trans ((o35 _ (by omega)).trans ((o34 _ (by omega)).trans ((o33 _ (by omega)).trans ((o32 _ (by omega)).trans ((o31 _ (by omega)).trans ((o30 _ (by omega)).trans ((o29 _ (by omega)).trans ((o28 _ (by omega)).trans ((o27 _ (by omega)).trans ((o26 _ (by omega)).trans ((o25 _ (by omega)).trans ((o24 _ (by omega)).trans ((o23 _ (by omega)).trans ((o22 _ (by omega)).trans ((o21 _ (by omega)).trans ((o20 _ (by omega)).trans ((o19 _ (by omega)).trans ((o18 _ (by omega)).trans ((o17 _ (by omega)).trans ((o16 _ (by omega)).trans ((o15 _ (by omega)).trans ((o14 _ (by omega)).trans ((o13 _ (by omega)).trans ((o12 _ (by omega)).trans ((o11 _ (by omega)).trans ((o10 _ (by omega)).trans ((o9 _ (by omega)).trans ((o8 _ (by omega)).trans ((o7 _ (by omega)).trans ((o6 _ (by omega)).trans ((o5 _ (by omega)).trans ((o4 _ (by omega)).trans b3))))))))))))))))))))))))))))))))))))))))))), ((o46 _ (by omega)).trans ((o45 _ (by omega)).trans ((o44 _ (by omega)).trans ((o43 _ (by omega)).trans ((o42 _ (by omega)).trans ((o41 _ (by omega)).trans ((o40 _ (by omega)).trans ((o39 _ (by omega)).trans ((o38 _ (by omega)).trans ((o37 _ (by omega)).trans ((o36 _ (by omega)).trans ((o35 _ (by omega)).trans ((o34 _ (by omega)).trans ((o33 _ (by omega)).trans ((o32 _ (by omega)).trans ((o31 _ (by omega)).trans ((o30 _ (by omega)).trans ((o29 _ (by omega)).trans ((o28 _ (by omega)).trans ((o27 _ (by omega)).trans ((o26 _ (by omega)).trans ((o25 _ (by omega)).trans ((o24 _ (by omega)).trans ((o23 _ (by omega)).trans ((o22 _ (by omega)).trans ((o21 _ (by omega)).trans ((o20 _ (by omega)).trans ((o19 _ (by omega)).trans ((o18 _ (by omega)).trans ((o17 _ (by omega)).trans ((o16 _ (by omega)).trans ((o15 _ (by omega)).trans ((o14 _ (by omega)).trans ((o13 _ (by omega)).trans ((o12 _ (by omega)).trans ((o11 _ (by omega)).trans ((o10 _ (by omega)).trans ((o9 _ (by omega)).trans ((o8 _ (by omega)).trans ((o7 _ (by omega)).trans ((o6 _ (by omega)).trans b5))))))))))))))))))))))))))))))))))))))))), ((o46 _ (by omega)).trans ((o45 _ (by omega)).trans ((o44 _ (by omega)).trans ((o43 _ (by omega)).trans ((o42 _ (by omega)).trans ((o41 _ (by omega)).trans ((o40 _ (by omega)).trans ((o39 _ (by omega)).trans ((o38 _ (by omega)).trans ((o37 _ (by omega)).trans ((o36 _ (by omega)).trans ((o35 _ (by omega)).trans ((o34 _ (by omega)).trans ((o33 _ (by omega)).trans ((o32 _ (by omega)).trans ((o31 _ (by omega)).trans ((o30 _ (by omega)).trans ((o29 _ (by omega)).trans ((o28 _ (by omega)).trans ((o27 _ (by omega)).trans ((o26 _ (by omega)).trans ((o25 _ (by omega)).trans ((o24 _ (by omega)).trans ((o23 _ (by omega)).trans ((o22 _ (by omega)).trans ((o21 _ (by omega)).trans ((o20 _ (by omega)).trans ((o19 _ (by omega)).trans ((o18 _ (by omega)).trans ((o17 _ (by omega)).trans ((o16 _ (by omega)).trans ((o15 _ (by omega)).trans ((o14 _ (by omega)).trans ((o13 _ (by omega)).trans ((o12 _ (by omega)).trans ((o11 _ (by omega)).trans ((o10 _ (by omega)).trans ((o9 _ (by omega)).trans b8)))))))))))))))))))))))))))))))))))))), ((o46 _ (by omega)).trans ((o45 _ (by omega)).trans ((o44 _ (by omega)).trans ((o43 _ (by omega)).trans ((o42 _ (by omega)).trans ((o41 _ (by omega)).trans ((o40 _ (by omega)).trans ((o39 _ (by omega)).trans ((o38 _ (by omega)).trans ((o37 _ (by omega)).trans ((o36 _ (by omega)).trans ((o35 _ (by omega)).trans ((o34 _ (by omega)).trans ((o33 _ (by omega)).trans ((o32 _ (by omega)).trans ((o31 _ (by omega)).trans ((o30 _ (by omega)).trans ((o29 _ (by omega)).trans ((o28 _ (by omega)).trans ((o27 _ (by omega)).trans ((o26 _ (by omega)).trans ((o25 _ (by omega)).trans ((o24 _ (by omega)).trans ((o23 _ (by omega)).trans ((o22 _ (by omega)).trans ((o21 _ (by omega)).trans ((o20 _ (by omega)).trans ((o19 _ (by omega)).trans ((o18 _ (by omega)).trans ((o17 _ (by omega)).trans ((o16 _ (by omega)).trans ((o15 _ (by omega)).trans ((o14 _ (by omega)).trans ((o13 _ (by omega)).trans ((o12 _ (by omega)).trans ((o11 _ (by omega)).trans b10)))))))))))))))))))))))))))))))))))), ((o46 _ (by omega)).trans ((o45 _ (by omega)).trans ((o44 _ (by omega)).trans ((o43 _ (by omega)).trans ((o42 _ (by omega)).trans ((o41 _ (by omega)).trans ((o40 _ (by omega)).trans ((o39 _ (by omega)).trans ((o38 _ (by omega)).trans ((o37 _ (by omega)).trans ((o36 _ (by omega)).trans ((o35 _ (by omega)).trans ((o34 _ (by omega)).trans ((o33 _ (by omega)).trans ((o32 _ (by omega)).trans ((o31 _ (by omega)).trans ((o30 _ (by omega)).trans ((o29 _ (by omega)).trans ((o28 _ (by omega)).trans ((o27 _ (by omega)).trans ((o26 _ (by omega)).trans ((o25 _ (by omega)).trans ((o24 _ (by omega)).trans ((o23 _ (by omega)).trans ((o22 _ (by omega)).trans ((o21 _ (by omega)).trans ((o20 _ (by omega)).trans ((o19 _ (by omega)).trans ((o18 _ (by omega)).trans ((o17 _ (by omega)).trans ((o16 _ (by omega)).trans ((o15 _ (by omega)).trans ((o14 _ (by omega)).trans ((o13 _ (by omega)).trans b12)))))))))))))))))))))))))))))))))), ((o46 _ (by omega)).trans ((o45 _ (by omega)).trans ((o44 _ (by omega)).trans ((o43 _ (by omega)).trans ((o42 _ (by omega)).trans ((o41 _ (by omega)).trans ((o40 _ (by omega)).trans ((o39 _ (by omega)).trans ((o38 _ (by omega)).trans ((o37 _ (by omega)).trans ((o36 _ (by omega)).trans ((o35 _ (by omega)).trans ((o34 _ (by omega)).trans ((o33 _ (by omega)).trans ((o32 _ (by omega)).trans ((o31 _ (by omega)).trans ((o30 _ (by omega)).trans ((o29 _ (by omega)).trans ((o28 _ (by omega)).trans ((o27 _ (by omega)).trans ((o26 _ (by omega)).trans ((o25 _ (by omega)).trans ((o24 _ (by omega)).trans ((o23 _ (by omega)).trans ((o22 _ (by omega)).trans ((o21 _ (by omega)).trans ((o20 _ (by omega)).trans ((o19 _ (by omega)).trans ((o18 _ (by omega)).trans ((o17 _ (by omega)).trans ((o16 _ (by omega)).trans ((o15 _ (by omega)).trans b14)))))))))))))))))))))))))))))))), ((o46 _ (by omega)).trans ((o45 _ (by omega)).trans ((o44 _ (by omega)).trans ((o43 _ (by omega)).trans ((o42 _ (by omega)).trans ((o41 _ (by omega)).trans ((o40 _ (by omega)).trans ((o39 _ (by omega)).trans ((o38 _ (by omega)).trans ((o37 _ (by omega)).trans ((o36 _ (by omega)).trans ((o35 _ (by omega)).trans ((o34 _ (by omega)).trans ((o33 _ (by omega)).trans ((o32 _ (by omega)).trans ((o31 _ (by omega)).trans ((o30 _ (by omega)).trans ((o29 _ (by omega)).trans ((o28 _ (by omega)).trans ((o27 _ (by omega)).trans ((o26 _ (by omega)).trans ((o25 _ (by omega)).trans ((o24 _ (by omega)).trans ((o23 _ (by omega)).trans ((o22 _ (by omega)).trans ((o21 _ (by omega)).trans ((o20 _ (by omega)).trans ((o19 _ (by omega)).trans ((o18 _ (by omega)).trans ((o17 _ (by omega)).trans b16)))))))))))))))))))))))))))))), b46, ((o46 _ (by omega)).trans ((o45 _ (by omega)).trans ((o44 _ (by omega)).trans ((o43 _ (by omega)).trans ((o42 _ (by omega)).trans ((o41 _ (by omega)).trans ((o40 _ (by omega)).trans ((o39 _ (by omega)).trans ((o38 _ (by omega)).trans ((o37 _ (by omega)).trans ((o36 _ (by omega)).trans ((o35 _ (by omega)).trans ((o34 _ (by omega)).trans ((o33 _ (by omega)).trans ((o32 _ (by omega)).trans ((o31 _ (by omega)).trans ((o30 _ (by omega)).trans ((o29 _ (by omega)).trans ((o28 _ (by omega)).trans ((o27 _ (by omega)).trans ((o26 _ (by omega)).trans ((o25 _ (by omega)).trans ((o24 _ (by omega)).trans ((o23 _ (by omega)).trans b22)))))))))))))))))))))))), ((o46 _ (by omega)).trans ((o45 _ (by omega)).trans ((o44 _ (by omega)).trans ((o43 _ (by omega)).trans ((o42 _ (by omega)).trans ((o41 _ (by omega)).trans ((o40 _ (by omega)).trans ((o39 _ (by omega)).trans ((o38 _ (by omega)).trans ((o37 _ (by omega)).trans ((o36 _ (by omega)).trans ((o35 _ (by omega)).trans ((o34 _ (by omega)).trans ((o33 _ (by omega)).trans ((o32 _ (by omega)).trans ((o31 _ (by omega)).trans ((o30 _ (by omega)).trans ((o29 _ (by omega)).trans ((o28 _ (by omega)).trans ((o27 _ (by omega)).trans ((o26 _ (by omega)).trans ((o25 _ (by omega)).trans b24)))))))))))))))))))))), ((o46 _ (by omega)).trans ((o45 _ (by omega)).trans ((o44 _ (by omega)).trans ((o43 _ (by omega)).trans ((o42 _ (by omega)).trans ((o41 _ (by omega)).trans ((o40 _ (by omega)).trans ((o39 _ (by omega)).trans ((o38 _ (by omega)).trans ((o37 _ (by omega)).trans ((o36 _ (by omega)).trans ((o35 _ (by omega)).trans ((o34 _ (by omega)).trans ((o33 _ (by omega)).trans ((o32 _ (by omega)).trans ((o31 _ (by omega)).trans ((o30 _ (by omega)).trans ((o29 _ (by omega)).trans ((o28 _ (by omega)).trans ((o27 _ (by omega)).trans b26)))))))))))))))))))), ((o46 _ (by omega)).trans ((o45 _ (by omega)).trans ((o44 _ (by omega)).trans ((o43 _ (by omega)).trans ((o42 _ (by omega)).trans ((o41 _ (by omega)).trans ((o40 _ (by omega)).trans ((o39 _ (by omega)).trans ((o38 _ (by omega)).trans ((o37 _ (by omega)).trans ((o36 _ (by omega)).trans ((o35 _ (by omega)).trans ((o34 _ (by omega)).trans ((o33 _ (by omega)).trans ((o32 _ (by omega)).trans ((o31 _ (by omega)).trans ((o30 _ (by omega)).trans ((o29 _ (by omega)).trans b28)))))))))))))))))), ((o46 _ (by omega)).trans ((o45 _ (by omega)).trans ((o44 _ (by omega)).trans ((o43 _ (by omega)).trans ((o42 _ (by omega)).trans ((o41 _ (by omega)).trans ((o40 _ (by omega)).trans ((o39 _ (by omega)).trans ((o38 _ (by omega)).trans ((o37 _ (by omega)).trans ((o36 _ (by omega)).trans ((o35 _ (by omega)).trans ((o34 _ (by omega)).trans ((o33 _ (by omega)).trans ((o32 _ (by omega)).trans ((o31 _ (by omega)).trans b30)))))))))))))))), ((o46 _ (by omega)).trans ((o45 _ (by omega)).trans ((o44 _ (by omega)).trans ((o43 _ (by omega)).trans ((o42 _ (by omega)).trans ((o41 _ (by omega)).trans ((o40 _ (by omega)).trans ((o39 _ (by omega)).trans ((o38 _ (by omega)).trans ((o37 _ (by omega)).trans ((o36 _ (by omega)).trans ((o35 _ (by omega)).trans ((o34 _ (by omega)).trans ((o33 _ (by omega)).trans b32)))))))))))))), ((o46 _ (by omega)).trans ((o45 _ (by omega)).trans ((o44 _ (by omega)).trans ((o43 _ (by omega)).trans ((o42 _ (by omega)).trans ((o41 _ (by omega)).trans ((o40 _ (by omega)).trans ((o39 _ (by omega)).trans ((o38 _ (by omega)).trans ((o37 _ (by omega)).trans ((o36 _ (by omega)).trans ((o35 _ (by omega)).trans b34)))))))))))), ((o46 _ (by omega)).trans ((o45 _ (by omega)).trans ((o44 _ (by omega)).trans ((o43 _ (by omega)).trans ((o42 _ (by omega)).trans ((o41 _ (by omega)).trans ((o40 _ (by omega)).trans ((o39 _ (by omega)).trans ((o38 _ (by omega)).trans ((o37 _ (by omega)).trans b36)))))))))), ((o46 _ (by omega)).trans ((o45 _ (by omega)).trans ((o44 _ (by omega)).trans ((o43 _ (by omega)).trans ((o42 _ (by omega)).trans ((o41 _ (by omega)).trans ((o40 _ (by omega)).trans ((o39 _ (by omega)).trans b38))))))))⟩ d_Mo_init_200
  · refine lv_iload_n (pc := 163) hx hb d_Mo_init_163 rfl (lv_at hl 1 rfl) ?_
    refine lv_bipush (v := 6) (pc := 164) hx hb d_Mo_init_164 (by decide) ?_
    refine lv_icmp_gt (tgt := 173) (pc := 166) hx hb d_Mo_init_166 (by decide) (fun c_2 => ?_) (fun c_2 => ?_)
    · refine lv_iconst (v := 1) (pc := 173) hx hb d_Mo_init_173 (by decide) ?_
      refine W.eq (g2 := F0 m 174 ls [.int (nI (zN a)), .ref (b + 0)]) (by rw [show zN a = 1 by unfold zN f_GL_within; rw [if_neg c_1, if_pos c_2, if_pos rfl]]; rfl) ?_
      refine bl_put (C := R_Mo) (T := T_Mo) (N := 28) (pc := 174) hx hb hts i_Mo t_Mo t_Mo_ok n_Mo hown hK hP39 hz39 hS39 0 (by omega) b39 rfl 0 (by decide) (hts _ wd_528) (Or.inr ⟨rfl, hin, rfl⟩) rfl rfl (Nat.le_of_ble_eq_true rfl) d_Mo_init_174 (fun G40 H40 locs40 eG hP40 hz40 hS40 => ?_)
      have b40 : G40 (0) = .inr (8, [.int (nI (zN a)), .ref (b + 1), .ref (b + 2), .ref (b + 3), .int 1000, .ref (b + 4), .ref (b + 5), .ref (b + 6), .ref (b + 7), .ref (b + 8), .ref (b + 9), .int 100, .int 500, .ref (b + 10), .ref (b + 11), .ref (b + 12), .ref (b + 13), .ref (b + 14), .ref (b + 15), .int 0, .int 0, .int 0, .int 0, .int 0, .ref (b + 16), .ref (b + 17), .int 0, .ref (b + 18)]) := by rw [eG]; exact va_up_self _ _ _
      have o40 : ∀ v, v ≠ 0 → G40 v = G39 v := fun v hv => by rw [eG]; exact va_up_ne _ _ hv
      clear eG hP39 hz39 hS39
      refine lv_iconst (v := 0) (pc := 177) hx hb d_Mo_init_177 (by decide) ?_
      refine lv_istore_n (lv' := [(2, .int 0), (0, .ref (b + 0)), (1, .int a)]) (pc := 178) hx hb d_Mo_init_178 rfl hl (by decide) rfl (fun ls hl => ?_)
      refine lv_iload_n (pc := 179) hx hb d_Mo_init_179 rfl (lv_at hl 0 rfl) ?_
      refine lv_bipush (v := 6) (pc := 180) hx hb d_Mo_init_180 (by decide) ?_
      refine lv_icmp_ge (tgt := 200) (pc := 182) hx hb d_Mo_init_182 (by decide) (fun c_1 => absurd c_1 (by decide)) (fun _ => ?_)
      refine lv_aload_n (pc := 185) hx hb d_Mo_init_185 rfl (lv_at hl 1 rfl) ?_
      refine bl_get (C := R_Mo) (T := T_Mo) (N := 28) (v := .ref (b + 9)) (pc := 186) hx hb hts i_Mo hown hK hP40 0 (by omega) b40 rfl 10 (by decide) (hts _ wd_538) rfl d_Mo_init_186 ?_
      refine lv_iload_n (pc := 189) hx hb d_Mo_init_189 rfl (lv_at hl 0 rfl) ?_
      refine lv_sipush (v := 200) (pc := 190) hx hb d_Mo_init_190 (by decide) ?_
      refine bl_iast (pc := 193) hx hb hK hP40 hz40 hS40 9 (by omega) 0 ((o40 _ (by omega)).trans ((o39 _ (by omega)).trans ((o38 _ (by omega)).trans ((o37 _ (by omega)).trans ((o36 _ (by omega)).trans ((o35 _ (by omega)).trans ((o34 _ (by omega)).trans ((o33 _ (by omega)).trans ((o32 _ (by omega)).trans ((o31 _ (by omega)).trans ((o30 _ (by omega)).trans ((o29 _ (by omega)).trans ((o28 _ (by omega)).trans ((o27 _ (by omega)).trans ((o26 _ (by omega)).trans ((o25 _ (by omega)).trans ((o24 _ (by omega)).trans ((o23 _ (by omega)).trans ((o22 _ (by omega)).trans ((o21 _ (by omega)).trans ((o20 _ (by omega)).trans ((o19 _ (by omega)).trans b18)))))))))))))))))))))) rfl 0 (by decide) (by decide) rfl d_Mo_init_193 (fun G41 H41 locs41 eG hP41 hz41 hS41 => ?_)
      have b41 : G41 (9) = .inl (cM 0, 6, .inl (upd (fun _ => 0) 0 200)) := by rw [eG]; exact va_up_self _ _ _
      have o41 : ∀ v, v ≠ 9 → G41 v = G40 v := fun v hv => by rw [eG]; exact va_up_ne _ _ hv
      clear eG hP40 hz40 hS40
      refine lv_iinc (v := 1) (lv' := [(2, .int 1), (0, .ref (b + 0)), (1, .int a)]) (pc := 194) hx hb d_Mo_init_194 hl (k := 0) rfl (by decide) (by decide) rfl (fun ls hl => ?_)
      refine lv_goto (tgt := 179) (pc := 197) hx hb d_Mo_init_197 (by decide) ?_
      refine lv_iload_n (pc := 179) hx hb d_Mo_init_179 rfl (lv_at hl 0 rfl) ?_
      refine lv_bipush (v := 6) (pc := 180) hx hb d_Mo_init_180 (by decide) ?_
      refine lv_icmp_ge (tgt := 200) (pc := 182) hx hb d_Mo_init_182 (by decide) (fun c_1 => absurd c_1 (by decide)) (fun _ => ?_)
      refine lv_aload_n (pc := 185) hx hb d_Mo_init_185 rfl (lv_at hl 1 rfl) ?_
      refine bl_get (C := R_Mo) (T := T_Mo) (N := 28) (v := .ref (b + 9)) (pc := 186) hx hb hts i_Mo hown hK hP41 0 (by omega) ((o41 _ (by omega)).trans b40) rfl 10 (by decide) (hts _ wd_538) rfl d_Mo_init_186 ?_
      refine lv_iload_n (pc := 189) hx hb d_Mo_init_189 rfl (lv_at hl 0 rfl) ?_
      refine lv_sipush (v := 200) (pc := 190) hx hb d_Mo_init_190 (by decide) ?_
      refine bl_iast (pc := 193) hx hb hK hP41 hz41 hS41 9 (by omega) 0 b41 rfl 1 (by decide) (by decide) rfl d_Mo_init_193 (fun G42 H42 locs42 eG hP42 hz42 hS42 => ?_)
      have b42 : G42 (9) = .inl (cM 0, 6, .inl (upd (upd (fun _ => 0) 0 200) 1 200)) := by rw [eG]; exact va_up_self _ _ _
      have o42 : ∀ v, v ≠ 9 → G42 v = G41 v := fun v hv => by rw [eG]; exact va_up_ne _ _ hv
      clear eG hP41 hz41 hS41
      refine lv_iinc (v := 2) (lv' := [(2, .int 2), (0, .ref (b + 0)), (1, .int a)]) (pc := 194) hx hb d_Mo_init_194 hl (k := 0) rfl (by decide) (by decide) rfl (fun ls hl => ?_)
      refine lv_goto (tgt := 179) (pc := 197) hx hb d_Mo_init_197 (by decide) ?_
      refine lv_iload_n (pc := 179) hx hb d_Mo_init_179 rfl (lv_at hl 0 rfl) ?_
      refine lv_bipush (v := 6) (pc := 180) hx hb d_Mo_init_180 (by decide) ?_
      refine lv_icmp_ge (tgt := 200) (pc := 182) hx hb d_Mo_init_182 (by decide) (fun c_1 => absurd c_1 (by decide)) (fun _ => ?_)
      refine lv_aload_n (pc := 185) hx hb d_Mo_init_185 rfl (lv_at hl 1 rfl) ?_
      refine bl_get (C := R_Mo) (T := T_Mo) (N := 28) (v := .ref (b + 9)) (pc := 186) hx hb hts i_Mo hown hK hP42 0 (by omega) ((o42 _ (by omega)).trans ((o41 _ (by omega)).trans b40)) rfl 10 (by decide) (hts _ wd_538) rfl d_Mo_init_186 ?_
      refine lv_iload_n (pc := 189) hx hb d_Mo_init_189 rfl (lv_at hl 0 rfl) ?_
      refine lv_sipush (v := 200) (pc := 190) hx hb d_Mo_init_190 (by decide) ?_
      refine bl_iast (pc := 193) hx hb hK hP42 hz42 hS42 9 (by omega) 0 b42 rfl 2 (by decide) (by decide) rfl d_Mo_init_193 (fun G43 H43 locs43 eG hP43 hz43 hS43 => ?_)
      have b43 : G43 (9) = .inl (cM 0, 6, .inl (upd (upd (upd (fun _ => 0) 0 200) 1 200) 2 200)) := by rw [eG]; exact va_up_self _ _ _
      have o43 : ∀ v, v ≠ 9 → G43 v = G42 v := fun v hv => by rw [eG]; exact va_up_ne _ _ hv
      clear eG hP42 hz42 hS42
      refine lv_iinc (v := 3) (lv' := [(2, .int 3), (0, .ref (b + 0)), (1, .int a)]) (pc := 194) hx hb d_Mo_init_194 hl (k := 0) rfl (by decide) (by decide) rfl (fun ls hl => ?_)
      refine lv_goto (tgt := 179) (pc := 197) hx hb d_Mo_init_197 (by decide) ?_
      refine lv_iload_n (pc := 179) hx hb d_Mo_init_179 rfl (lv_at hl 0 rfl) ?_
      refine lv_bipush (v := 6) (pc := 180) hx hb d_Mo_init_180 (by decide) ?_
      refine lv_icmp_ge (tgt := 200) (pc := 182) hx hb d_Mo_init_182 (by decide) (fun c_1 => absurd c_1 (by decide)) (fun _ => ?_)
      refine lv_aload_n (pc := 185) hx hb d_Mo_init_185 rfl (lv_at hl 1 rfl) ?_
      refine bl_get (C := R_Mo) (T := T_Mo) (N := 28) (v := .ref (b + 9)) (pc := 186) hx hb hts i_Mo hown hK hP43 0 (by omega) ((o43 _ (by omega)).trans ((o42 _ (by omega)).trans ((o41 _ (by omega)).trans b40))) rfl 10 (by decide) (hts _ wd_538) rfl d_Mo_init_186 ?_
      refine lv_iload_n (pc := 189) hx hb d_Mo_init_189 rfl (lv_at hl 0 rfl) ?_
      refine lv_sipush (v := 200) (pc := 190) hx hb d_Mo_init_190 (by decide) ?_
      refine bl_iast (pc := 193) hx hb hK hP43 hz43 hS43 9 (by omega) 0 b43 rfl 3 (by decide) (by decide) rfl d_Mo_init_193 (fun G44 H44 locs44 eG hP44 hz44 hS44 => ?_)
      have b44 : G44 (9) = .inl (cM 0, 6, .inl (upd (upd (upd (upd (fun _ => 0) 0 200) 1 200) 2 200) 3 200)) := by rw [eG]; exact va_up_self _ _ _
      have o44 : ∀ v, v ≠ 9 → G44 v = G43 v := fun v hv => by rw [eG]; exact va_up_ne _ _ hv
      clear eG hP43 hz43 hS43
      refine lv_iinc (v := 4) (lv' := [(2, .int 4), (0, .ref (b + 0)), (1, .int a)]) (pc := 194) hx hb d_Mo_init_194 hl (k := 0) rfl (by decide) (by decide) rfl (fun ls hl => ?_)
      refine lv_goto (tgt := 179) (pc := 197) hx hb d_Mo_init_197 (by decide) ?_
      refine lv_iload_n (pc := 179) hx hb d_Mo_init_179 rfl (lv_at hl 0 rfl) ?_
      refine lv_bipush (v := 6) (pc := 180) hx hb d_Mo_init_180 (by decide) ?_
      refine lv_icmp_ge (tgt := 200) (pc := 182) hx hb d_Mo_init_182 (by decide) (fun c_1 => absurd c_1 (by decide)) (fun _ => ?_)
      refine lv_aload_n (pc := 185) hx hb d_Mo_init_185 rfl (lv_at hl 1 rfl) ?_
      refine bl_get (C := R_Mo) (T := T_Mo) (N := 28) (v := .ref (b + 9)) (pc := 186) hx hb hts i_Mo hown hK hP44 0 (by omega) ((o44 _ (by omega)).trans ((o43 _ (by omega)).trans ((o42 _ (by omega)).trans ((o41 _ (by omega)).trans b40)))) rfl 10 (by decide) (hts _ wd_538) rfl d_Mo_init_186 ?_
      refine lv_iload_n (pc := 189) hx hb d_Mo_init_189 rfl (lv_at hl 0 rfl) ?_
      refine lv_sipush (v := 200) (pc := 190) hx hb d_Mo_init_190 (by decide) ?_
      refine bl_iast (pc := 193) hx hb hK hP44 hz44 hS44 9 (by omega) 0 b44 rfl 4 (by decide) (by decide) rfl d_Mo_init_193 (fun G45 H45 locs45 eG hP45 hz45 hS45 => ?_)
      have b45 : G45 (9) = .inl (cM 0, 6, .inl (upd (upd (upd (upd (upd (fun _ => 0) 0 200) 1 200) 2 200) 3 200) 4 200)) := by rw [eG]; exact va_up_self _ _ _
      have o45 : ∀ v, v ≠ 9 → G45 v = G44 v := fun v hv => by rw [eG]; exact va_up_ne _ _ hv
      clear eG hP44 hz44 hS44
      refine lv_iinc (v := 5) (lv' := [(2, .int 5), (0, .ref (b + 0)), (1, .int a)]) (pc := 194) hx hb d_Mo_init_194 hl (k := 0) rfl (by decide) (by decide) rfl (fun ls hl => ?_)
      refine lv_goto (tgt := 179) (pc := 197) hx hb d_Mo_init_197 (by decide) ?_
      refine lv_iload_n (pc := 179) hx hb d_Mo_init_179 rfl (lv_at hl 0 rfl) ?_
      refine lv_bipush (v := 6) (pc := 180) hx hb d_Mo_init_180 (by decide) ?_
      refine lv_icmp_ge (tgt := 200) (pc := 182) hx hb d_Mo_init_182 (by decide) (fun c_1 => absurd c_1 (by decide)) (fun _ => ?_)
      refine lv_aload_n (pc := 185) hx hb d_Mo_init_185 rfl (lv_at hl 1 rfl) ?_
      refine bl_get (C := R_Mo) (T := T_Mo) (N := 28) (v := .ref (b + 9)) (pc := 186) hx hb hts i_Mo hown hK hP45 0 (by omega) ((o45 _ (by omega)).trans ((o44 _ (by omega)).trans ((o43 _ (by omega)).trans ((o42 _ (by omega)).trans ((o41 _ (by omega)).trans b40))))) rfl 10 (by decide) (hts _ wd_538) rfl d_Mo_init_186 ?_
      refine lv_iload_n (pc := 189) hx hb d_Mo_init_189 rfl (lv_at hl 0 rfl) ?_
      refine lv_sipush (v := 200) (pc := 190) hx hb d_Mo_init_190 (by decide) ?_
      refine bl_iast (pc := 193) hx hb hK hP45 hz45 hS45 9 (by omega) 0 b45 rfl 5 (by decide) (by decide) rfl d_Mo_init_193 (fun G46 H46 locs46 eG hP46 hz46 hS46 => ?_)
      have b46 : G46 (9) = .inl (cM 0, 6, .inl (upd (upd (upd (upd (upd (upd (fun _ => 0) 0 200) 1 200) 2 200) 3 200) 4 200) 5 200)) := by rw [eG]; exact va_up_self _ _ _
      have o46 : ∀ v, v ≠ 9 → G46 v = G45 v := fun v hv => by rw [eG]; exact va_up_ne _ _ hv
      clear eG hP45 hz45 hS45
      refine lv_iinc (v := 6) (lv' := [(2, .int 6), (0, .ref (b + 0)), (1, .int a)]) (pc := 194) hx hb d_Mo_init_194 hl (k := 0) rfl (by decide) (by decide) rfl (fun ls hl => ?_)
      refine lv_goto (tgt := 179) (pc := 197) hx hb d_Mo_init_197 (by decide) ?_
      refine lv_iload_n (pc := 179) hx hb d_Mo_init_179 rfl (lv_at hl 0 rfl) ?_
      refine lv_bipush (v := 6) (pc := 180) hx hb d_Mo_init_180 (by decide) ?_
      refine lv_icmp_ge (tgt := 200) (pc := 182) hx hb d_Mo_init_182 (by decide) (fun _ => ?_) (fun c_1 => absurd (by decide) c_1)
      exact bl_vret (pc := 200) hx hb hr hlocks hP46 hz46 hS46 ⟨((o46 _ (by omega)).trans ((o45 _ (by omega)).trans ((o44 _ (by omega)).trans ((o43 _ (by omega)).trans ((o42 _ (by omega)).trans ((o41 _ (by omega)).trans b40)))))), ((o46 _ (by omega)).trans ((o45 _ (by omega)).trans ((o44 _ (by omega)).trans ((o43 _ (by omega)).trans ((o42 _ (by omega)).trans ((o41 _ (by omega)).trans ((o40 _ (by omega)).trans ((o39 _ (by omega)).trans ((o38 _ (by omega)).trans ((o37 _ (by omega)).trans ((o36 _ (by omega)).trans ((o35 _ (by omega)).trans ((o34 _ (by omega)).trans ((o33 _ (by omega)).trans ((o32 _ (by omega)).trans ((o31 _ (by omega)).trans ((o30 _ (by omega)).trans ((o29 _ (by omega)).trans ((o28 _ (by omega)).trans ((o27 _ (by omega)).trans ((o26 _ (by omega)).trans ((o25 _ (by omega)).trans ((o24 _ (by omega)).trans ((o23 _ (by omega)).trans ((o22 _ (by omega)).trans ((o21 _ (by omega)).trans ((o20 _ (by omega)).trans ((o19 _ (by omega)).trans ((o18 _ (by omega)).trans ((o17 _ (by omega)).trans ((o16 _ (by omega)).trans ((o15 _ (by omega)).trans ((o14 _ (by omega)).trans ((o13 _ (by omega)).trans ((o12 _ (by omega)).trans ((o11 _ (by omega)).trans ((o10 _ (by omega)).trans ((o9 _ (by omega)).trans ((o8 _ (by omega)).trans ((o7 _ (by omega)).trans ((o6 _ (by omega)).trans ((o5 _ (by omega)).trans ((o4 _ (by omega)).trans ((o3 _ (by omega)).trans ((o2 _ (by omega)).trans b1))))))))))))))))))))))))))))))))))))))))))))), ((o46 _ (by omega)).trans ((o45 _ (by omega)).trans ((o44 _ (by omega)).trans ((o43 _ (by omega)).trans ((o42 _ (by omega)).trans ((o41 _ (by omega)).trans ((o40 _ (by omega)).trans ((o39 _ (by omega)).trans ((o38 _ (by omega)).trans ((o37 _ (by omega)).trans ((o36 _ (by omega)).trans ((o35 _ (by omega)).trans ((o34 _ (by omega)).trans ((o33 _ (by omega)).trans ((o32 _ (by omega)).trans ((o31 _ (by omega)).trans ((o30 _ (by omega)).trans ((o29 _ (by omega)).trans ((o28 _ (by omega)).trans ((o27 _ (by omega)).trans ((o26 _ (by omega)).trans ((o25 _ (by omega)).trans ((o24 _ (by omega)).trans ((o23 _ (by omega)).trans ((o22 _ (by omega)).trans ((o21 _ (by omega)).trans ((o20 _ (by omega)).trans ((o19 _ (by omega)).trans ((o18 _ (by omega)).trans ((o17 _ (by omega)).trans ((o16 _ (by omega)).trans ((o15 _ (by omega)).trans ((o14 _ (by omega)).trans ((o13 _ (by omega)).trans ((o12 _ (by omega)).trans ((o11 _ (by omega)).trans ((o10 _ (by omega)).trans ((o9 _ (by omega)).trans ((o8 _ (by omega)).trans ((o7 _ (by omega)).trans ((o6 _ (by omega)).trans ((o5 _ (by omega)).trans ((o4 _ (by omega)).trans b3))))))))))))))))))))))))))))))))))))))))))), ((o46 _ (by omega)).trans ((o45 _ (by omega)).trans ((o44 _ (by omega)).trans ((o43 _ (by omega)).trans ((o42 _ (by omega)).trans ((o41 _ (by omega)).trans ((o40 _ (by omega)).trans ((o39 _ (by omega)).trans ((o38 _ (by omega)).trans ((o37 _ (by omega)).trans ((o36 _ (by omega)).trans ((o35 _ (by omega)).trans ((o34 _ (by omega)).trans ((o33 _ (by omega)).trans ((o32 _ (by omega)).trans ((o31 _ (by omega)).trans ((o30 _ (by omega)).trans ((o29 _ (by omega)).trans ((o28 _ (by omega)).trans ((o27 _ (by omega)).trans ((o26 _ (by omega)).trans ((o25 _ (by omega)).trans ((o24 _ (by omega)).trans ((o23 _ (by omega)).trans ((o22 _ (by omega)).trans ((o21 _ (by omega)).trans ((o20 _ (by omega)).trans ((o19 _ (by omega)).trans ((o18 _ (by omega)).trans ((o17 _ (by omega)).trans ((o16 _ (by omega)).trans ((o15 _ (by omega)).trans ((o14 _ (by omega)).trans ((o13 _ (by omega)).trans ((o12 _ (by omega)).trans ((o11 _ (by omega)).trans ((o10 _ (by omega)).trans ((o9 _ (by omega)).trans ((o8 _ (by omega)).trans ((o7 _ (by omega)).trans ((o6 _ (by omega)).trans b5))))))))))))))))))))))))))))))))))))))))), ((o46 _ (by omega)).trans ((o45 _ (by omega)).trans ((o44 _ (by omega)).trans ((o43 _ (by omega)).trans ((o42 _ (by omega)).trans ((o41 _ (by omega)).trans ((o40 _ (by omega)).trans ((o39 _ (by omega)).trans ((o38 _ (by omega)).trans ((o37 _ (by omega)).trans ((o36 _ (by omega)).trans ((o35 _ (by omega)).trans ((o34 _ (by omega)).trans ((o33 _ (by omega)).trans ((o32 _ (by omega)).trans ((o31 _ (by omega)).trans ((o30 _ (by omega)).trans ((o29 _ (by omega)).trans ((o28 _ (by omega)).trans ((o27 _ (by omega)).trans ((o26 _ (by omega)).trans ((o25 _ (by omega)).trans ((o24 _ (by omega)).trans ((o23 _ (by omega)).trans ((o22 _ (by omega)).trans ((o21 _ (by omega)).trans ((o20 _ (by omega)).trans ((o19 _ (by omega)).trans ((o18 _ (by omega)).trans ((o17 _ (by omega)).trans ((o16 _ (by omega)).trans ((o15 _ (by omega)).trans ((o14 _ (by omega)).trans ((o13 _ (by omega)).trans ((o12 _ (by omega)).trans ((o11 _ (by omega)).trans ((o10 _ (by omega)).trans ((o9 _ (by omega)).trans b8)))))))))))))))))))))))))))))))))))))), ((o46 _ (by omega)).trans ((o45 _ (by omega)).trans ((o44 _ (by omega)).trans ((o43 _ (by omega)).trans ((o42 _ (by omega)).trans ((o41 _ (by omega)).trans ((o40 _ (by omega)).trans ((o39 _ (by omega)).trans ((o38 _ (by omega)).trans ((o37 _ (by omega)).trans ((o36 _ (by omega)).trans ((o35 _ (by omega)).trans ((o34 _ (by omega)).trans ((o33 _ (by omega)).trans ((o32 _ (by omega)).trans ((o31 _ (by omega)).trans ((o30 _ (by omega)).trans ((o29 _ (by omega)).trans ((o28 _ (by omega)).trans ((o27 _ (by omega)).trans ((o26 _ (by omega)).trans ((o25 _ (by omega)).trans ((o24 _ (by omega)).trans ((o23 _ (by omega)).trans ((o22 _ (by omega)).trans ((o21 _ (by omega)).trans ((o20 _ (by omega)).trans ((o19 _ (by omega)).trans ((o18 _ (by omega)).trans ((o17 _ (by omega)).trans ((o16 _ (by omega)).trans ((o15 _ (by omega)).trans ((o14 _ (by omega)).trans ((o13 _ (by omega)).trans ((o12 _ (by omega)).trans ((o11 _ (by omega)).trans b10)))))))))))))))))))))))))))))))))))), ((o46 _ (by omega)).trans ((o45 _ (by omega)).trans ((o44 _ (by omega)).trans ((o43 _ (by omega)).trans ((o42 _ (by omega)).trans ((o41 _ (by omega)).trans ((o40 _ (by omega)).trans ((o39 _ (by omega)).trans ((o38 _ (by omega)).trans ((o37 _ (by omega)).trans ((o36 _ (by omega)).trans ((o35 _ (by omega)).trans ((o34 _ (by omega)).trans ((o33 _ (by omega)).trans ((o32 _ (by omega)).trans ((o31 _ (by omega)).trans ((o30 _ (by omega)).trans ((o29 _ (by omega)).trans ((o28 _ (by omega)).trans ((o27 _ (by omega)).trans ((o26 _ (by omega)).trans ((o25 _ (by omega)).trans ((o24 _ (by omega)).trans ((o23 _ (by omega)).trans ((o22 _ (by omega)).trans ((o21 _ (by omega)).trans ((o20 _ (by omega)).trans ((o19 _ (by omega)).trans ((o18 _ (by omega)).trans ((o17 _ (by omega)).trans ((o16 _ (by omega)).trans ((o15 _ (by omega)).trans ((o14 _ (by omega)).trans ((o13 _ (by omega)).trans b12)))))))))))))))))))))))))))))))))), ((o46 _ (by omega)).trans ((o45 _ (by omega)).trans ((o44 _ (by omega)).trans ((o43 _ (by omega)).trans ((o42 _ (by omega)).trans ((o41 _ (by omega)).trans ((o40 _ (by omega)).trans ((o39 _ (by omega)).trans ((o38 _ (by omega)).trans ((o37 _ (by omega)).trans ((o36 _ (by omega)).trans ((o35 _ (by omega)).trans ((o34 _ (by omega)).trans ((o33 _ (by omega)).trans ((o32 _ (by omega)).trans ((o31 _ (by omega)).trans ((o30 _ (by omega)).trans ((o29 _ (by omega)).trans ((o28 _ (by omega)).trans ((o27 _ (by omega)).trans ((o26 _ (by omega)).trans ((o25 _ (by omega)).trans ((o24 _ (by omega)).trans ((o23 _ (by omega)).trans ((o22 _ (by omega)).trans ((o21 _ (by omega)).trans ((o20 _ (by omega)).trans ((o19 _ (by omega)).trans ((o18 _ (by omega)).trans ((o17 _ (by omega)).trans ((o16 _ (by omega)).trans ((o15 _ (by omega)).trans b14)))))))))))))))))))))))))))))))), ((o46 _ (by omega)).trans ((o45 _ (by omega)).trans ((o44 _ (by omega)).trans ((o43 _ (by omega)).trans ((o42 _ (by omega)).trans ((o41 _ (by omega)).trans ((o40 _ (by omega)).trans ((o39 _ (by omega)).trans ((o38 _ (by omega)).trans ((o37 _ (by omega)).trans ((o36 _ (by omega)).trans ((o35 _ (by omega)).trans ((o34 _ (by omega)).trans ((o33 _ (by omega)).trans ((o32 _ (by omega)).trans ((o31 _ (by omega)).trans ((o30 _ (by omega)).trans ((o29 _ (by omega)).trans ((o28 _ (by omega)).trans ((o27 _ (by omega)).trans ((o26 _ (by omega)).trans ((o25 _ (by omega)).trans ((o24 _ (by omega)).trans ((o23 _ (by omega)).trans ((o22 _ (by omega)).trans ((o21 _ (by omega)).trans ((o20 _ (by omega)).trans ((o19 _ (by omega)).trans ((o18 _ (by omega)).trans ((o17 _ (by omega)).trans b16)))))))))))))))))))))))))))))), b46, ((o46 _ (by omega)).trans ((o45 _ (by omega)).trans ((o44 _ (by omega)).trans ((o43 _ (by omega)).trans ((o42 _ (by omega)).trans ((o41 _ (by omega)).trans ((o40 _ (by omega)).trans ((o39 _ (by omega)).trans ((o38 _ (by omega)).trans ((o37 _ (by omega)).trans ((o36 _ (by omega)).trans ((o35 _ (by omega)).trans ((o34 _ (by omega)).trans ((o33 _ (by omega)).trans ((o32 _ (by omega)).trans ((o31 _ (by omega)).trans ((o30 _ (by omega)).trans ((o29 _ (by omega)).trans ((o28 _ (by omega)).trans ((o27 _ (by omega)).trans ((o26 _ (by omega)).trans ((o25 _ (by omega)).trans ((o24 _ (by omega)).trans ((o23 _ (by omega)).trans b22)))))))))))))))))))))))), ((o46 _ (by omega)).trans ((o45 _ (by omega)).trans ((o44 _ (by omega)).trans ((o43 _ (by omega)).trans ((o42 _ (by omega)).trans ((o41 _ (by omega)).trans ((o40 _ (by omega)).trans ((o39 _ (by omega)).trans ((o38 _ (by omega)).trans ((o37 _ (by omega)).trans ((o36 _ (by omega)).trans ((o35 _ (by omega)).trans ((o34 _ (by omega)).trans ((o33 _ (by omega)).trans ((o32 _ (by omega)).trans ((o31 _ (by omega)).trans ((o30 _ (by omega)).trans ((o29 _ (by omega)).trans ((o28 _ (by omega)).trans ((o27 _ (by omega)).trans ((o26 _ (by omega)).trans ((o25 _ (by omega)).trans b24)))))))))))))))))))))), ((o46 _ (by omega)).trans ((o45 _ (by omega)).trans ((o44 _ (by omega)).trans ((o43 _ (by omega)).trans ((o42 _ (by omega)).trans ((o41 _ (by omega)).trans ((o40 _ (by omega)).trans ((o39 _ (by omega)).trans ((o38 _ (by omega)).trans ((o37 _ (by omega)).trans ((o36 _ (by omega)).trans ((o35 _ (by omega)).trans ((o34 _ (by omega)).trans ((o33 _ (by omega)).trans ((o32 _ (by omega)).trans ((o31 _ (by omega)).trans ((o30 _ (by omega)).trans ((o29 _ (by omega)).trans ((o28 _ (by omega)).trans ((o27 _ (by omega)).trans b26)))))))))))))))))))), ((o46 _ (by omega)).trans ((o45 _ (by omega)).trans ((o44 _ (by omega)).trans ((o43 _ (by omega)).trans ((o42 _ (by omega)).trans ((o41 _ (by omega)).trans ((o40 _ (by omega)).trans ((o39 _ (by omega)).trans ((o38 _ (by omega)).trans ((o37 _ (by omega)).trans ((o36 _ (by omega)).trans ((o35 _ (by omega)).trans ((o34 _ (by omega)).trans ((o33 _ (by omega)).trans ((o32 _ (by omega)).trans ((o31 _ (by omega)).trans ((o30 _ (by omega)).trans ((o29 _ (by omega)).trans b28)))))))))))))))))), ((o46 _ (by omega)).trans ((o45 _ (by omega)).trans ((o44 _ (by omega)).trans ((o43 _ (by omega)).trans ((o42 _ (by omega)).trans ((o41 _ (by omega)).trans ((o40 _ (by omega)).trans ((o39 _ (by omega)).trans ((o38 _ (by omega)).trans ((o37 _ (by omega)).trans ((o36 _ (by omega)).trans ((o35 _ (by omega)).trans ((o34 _ (by omega)).trans ((o33 _ (by omega)).trans ((o32 _ (by omega)).trans ((o31 _ (by omega)).trans b30)))))))))))))))), ((o46 _ (by omega)).trans ((o45 _ (by omega)).trans ((o44 _ (by omega)).trans ((o43 _ (by omega)).trans ((o42 _ (by omega)).trans ((o41 _ (by omega)).trans ((o40 _ (by omega)).trans ((o39 _ (by omega)).trans ((o38 _ (by omega)).trans ((o37 _ (by omega)).trans ((o36 _ (by omega)).trans ((o35 _ (by omega)).trans ((o34 _ (by omega)).trans ((o33 _ (by omega)).trans b32)))))))))))))), ((o46 _ (by omega)).trans ((o45 _ (by omega)).trans ((o44 _ (by omega)).trans ((o43 _ (by omega)).trans ((o42 _ (by omega)).trans ((o41 _ (by omega)).trans ((o40 _ (by omega)).trans ((o39 _ (by omega)).trans ((o38 _ (by omega)).trans ((o37 _ (by omega)).trans ((o36 _ (by omega)).trans ((o35 _ (by omega)).trans b34)))))))))))), ((o46 _ (by omega)).trans ((o45 _ (by omega)).trans ((o44 _ (by omega)).trans ((o43 _ (by omega)).trans ((o42 _ (by omega)).trans ((o41 _ (by omega)).trans ((o40 _ (by omega)).trans ((o39 _ (by omega)).trans ((o38 _ (by omega)).trans ((o37 _ (by omega)).trans b36)))))))))), ((o46 _ (by omega)).trans ((o45 _ (by omega)).trans ((o44 _ (by omega)).trans ((o43 _ (by omega)).trans ((o42 _ (by omega)).trans ((o41 _ (by omega)).trans ((o40 _ (by omega)).trans ((o39 _ (by omega)).trans b38))))))))⟩ d_Mo_init_200
    · refine lv_iload_n (pc := 169) hx hb d_Mo_init_169 rfl (lv_at hl 1 rfl) ?_
      refine lv_goto (tgt := 174) (pc := 170) hx hb d_Mo_init_170 (by decide) ?_
      have c_3 : ¬ f_GL_within a 1 6 = 0 := by unfold f_GL_within; rw [if_neg c_1, if_neg c_2]; decide
      refine W.eq (g2 := F0 m 174 ls [.int (nI (zN a)), .ref (b + 0)]) (by rw [show zN a = a.toNatClampNeg by unfold zN; rw [if_neg c_3], ← (zN_in c_3).2]) ?_
      refine bl_put (C := R_Mo) (T := T_Mo) (N := 28) (pc := 174) hx hb hts i_Mo t_Mo t_Mo_ok n_Mo hown hK hP39 hz39 hS39 0 (by omega) b39 rfl 0 (by decide) (hts _ wd_528) (Or.inr ⟨rfl, hin, rfl⟩) rfl rfl (Nat.le_of_ble_eq_true rfl) d_Mo_init_174 (fun G40 H40 locs40 eG hP40 hz40 hS40 => ?_)
      have b40 : G40 (0) = .inr (8, [.int (nI (zN a)), .ref (b + 1), .ref (b + 2), .ref (b + 3), .int 1000, .ref (b + 4), .ref (b + 5), .ref (b + 6), .ref (b + 7), .ref (b + 8), .ref (b + 9), .int 100, .int 500, .ref (b + 10), .ref (b + 11), .ref (b + 12), .ref (b + 13), .ref (b + 14), .ref (b + 15), .int 0, .int 0, .int 0, .int 0, .int 0, .ref (b + 16), .ref (b + 17), .int 0, .ref (b + 18)]) := by rw [eG]; exact va_up_self _ _ _
      have o40 : ∀ v, v ≠ 0 → G40 v = G39 v := fun v hv => by rw [eG]; exact va_up_ne _ _ hv
      clear eG hP39 hz39 hS39
      refine lv_iconst (v := 0) (pc := 177) hx hb d_Mo_init_177 (by decide) ?_
      refine lv_istore_n (lv' := [(2, .int 0), (0, .ref (b + 0)), (1, .int a)]) (pc := 178) hx hb d_Mo_init_178 rfl hl (by decide) rfl (fun ls hl => ?_)
      refine lv_iload_n (pc := 179) hx hb d_Mo_init_179 rfl (lv_at hl 0 rfl) ?_
      refine lv_bipush (v := 6) (pc := 180) hx hb d_Mo_init_180 (by decide) ?_
      refine lv_icmp_ge (tgt := 200) (pc := 182) hx hb d_Mo_init_182 (by decide) (fun c_1 => absurd c_1 (by decide)) (fun _ => ?_)
      refine lv_aload_n (pc := 185) hx hb d_Mo_init_185 rfl (lv_at hl 1 rfl) ?_
      refine bl_get (C := R_Mo) (T := T_Mo) (N := 28) (v := .ref (b + 9)) (pc := 186) hx hb hts i_Mo hown hK hP40 0 (by omega) b40 rfl 10 (by decide) (hts _ wd_538) rfl d_Mo_init_186 ?_
      refine lv_iload_n (pc := 189) hx hb d_Mo_init_189 rfl (lv_at hl 0 rfl) ?_
      refine lv_sipush (v := 200) (pc := 190) hx hb d_Mo_init_190 (by decide) ?_
      refine bl_iast (pc := 193) hx hb hK hP40 hz40 hS40 9 (by omega) 0 ((o40 _ (by omega)).trans ((o39 _ (by omega)).trans ((o38 _ (by omega)).trans ((o37 _ (by omega)).trans ((o36 _ (by omega)).trans ((o35 _ (by omega)).trans ((o34 _ (by omega)).trans ((o33 _ (by omega)).trans ((o32 _ (by omega)).trans ((o31 _ (by omega)).trans ((o30 _ (by omega)).trans ((o29 _ (by omega)).trans ((o28 _ (by omega)).trans ((o27 _ (by omega)).trans ((o26 _ (by omega)).trans ((o25 _ (by omega)).trans ((o24 _ (by omega)).trans ((o23 _ (by omega)).trans ((o22 _ (by omega)).trans ((o21 _ (by omega)).trans ((o20 _ (by omega)).trans ((o19 _ (by omega)).trans b18)))))))))))))))))))))) rfl 0 (by decide) (by decide) rfl d_Mo_init_193 (fun G41 H41 locs41 eG hP41 hz41 hS41 => ?_)
      have b41 : G41 (9) = .inl (cM 0, 6, .inl (upd (fun _ => 0) 0 200)) := by rw [eG]; exact va_up_self _ _ _
      have o41 : ∀ v, v ≠ 9 → G41 v = G40 v := fun v hv => by rw [eG]; exact va_up_ne _ _ hv
      clear eG hP40 hz40 hS40
      refine lv_iinc (v := 1) (lv' := [(2, .int 1), (0, .ref (b + 0)), (1, .int a)]) (pc := 194) hx hb d_Mo_init_194 hl (k := 0) rfl (by decide) (by decide) rfl (fun ls hl => ?_)
      refine lv_goto (tgt := 179) (pc := 197) hx hb d_Mo_init_197 (by decide) ?_
      refine lv_iload_n (pc := 179) hx hb d_Mo_init_179 rfl (lv_at hl 0 rfl) ?_
      refine lv_bipush (v := 6) (pc := 180) hx hb d_Mo_init_180 (by decide) ?_
      refine lv_icmp_ge (tgt := 200) (pc := 182) hx hb d_Mo_init_182 (by decide) (fun c_1 => absurd c_1 (by decide)) (fun _ => ?_)
      refine lv_aload_n (pc := 185) hx hb d_Mo_init_185 rfl (lv_at hl 1 rfl) ?_
      refine bl_get (C := R_Mo) (T := T_Mo) (N := 28) (v := .ref (b + 9)) (pc := 186) hx hb hts i_Mo hown hK hP41 0 (by omega) ((o41 _ (by omega)).trans b40) rfl 10 (by decide) (hts _ wd_538) rfl d_Mo_init_186 ?_
      refine lv_iload_n (pc := 189) hx hb d_Mo_init_189 rfl (lv_at hl 0 rfl) ?_
      refine lv_sipush (v := 200) (pc := 190) hx hb d_Mo_init_190 (by decide) ?_
      refine bl_iast (pc := 193) hx hb hK hP41 hz41 hS41 9 (by omega) 0 b41 rfl 1 (by decide) (by decide) rfl d_Mo_init_193 (fun G42 H42 locs42 eG hP42 hz42 hS42 => ?_)
      have b42 : G42 (9) = .inl (cM 0, 6, .inl (upd (upd (fun _ => 0) 0 200) 1 200)) := by rw [eG]; exact va_up_self _ _ _
      have o42 : ∀ v, v ≠ 9 → G42 v = G41 v := fun v hv => by rw [eG]; exact va_up_ne _ _ hv
      clear eG hP41 hz41 hS41
      refine lv_iinc (v := 2) (lv' := [(2, .int 2), (0, .ref (b + 0)), (1, .int a)]) (pc := 194) hx hb d_Mo_init_194 hl (k := 0) rfl (by decide) (by decide) rfl (fun ls hl => ?_)
      refine lv_goto (tgt := 179) (pc := 197) hx hb d_Mo_init_197 (by decide) ?_
      refine lv_iload_n (pc := 179) hx hb d_Mo_init_179 rfl (lv_at hl 0 rfl) ?_
      refine lv_bipush (v := 6) (pc := 180) hx hb d_Mo_init_180 (by decide) ?_
      refine lv_icmp_ge (tgt := 200) (pc := 182) hx hb d_Mo_init_182 (by decide) (fun c_1 => absurd c_1 (by decide)) (fun _ => ?_)
      refine lv_aload_n (pc := 185) hx hb d_Mo_init_185 rfl (lv_at hl 1 rfl) ?_
      refine bl_get (C := R_Mo) (T := T_Mo) (N := 28) (v := .ref (b + 9)) (pc := 186) hx hb hts i_Mo hown hK hP42 0 (by omega) ((o42 _ (by omega)).trans ((o41 _ (by omega)).trans b40)) rfl 10 (by decide) (hts _ wd_538) rfl d_Mo_init_186 ?_
      refine lv_iload_n (pc := 189) hx hb d_Mo_init_189 rfl (lv_at hl 0 rfl) ?_
      refine lv_sipush (v := 200) (pc := 190) hx hb d_Mo_init_190 (by decide) ?_
      refine bl_iast (pc := 193) hx hb hK hP42 hz42 hS42 9 (by omega) 0 b42 rfl 2 (by decide) (by decide) rfl d_Mo_init_193 (fun G43 H43 locs43 eG hP43 hz43 hS43 => ?_)
      have b43 : G43 (9) = .inl (cM 0, 6, .inl (upd (upd (upd (fun _ => 0) 0 200) 1 200) 2 200)) := by rw [eG]; exact va_up_self _ _ _
      have o43 : ∀ v, v ≠ 9 → G43 v = G42 v := fun v hv => by rw [eG]; exact va_up_ne _ _ hv
      clear eG hP42 hz42 hS42
      refine lv_iinc (v := 3) (lv' := [(2, .int 3), (0, .ref (b + 0)), (1, .int a)]) (pc := 194) hx hb d_Mo_init_194 hl (k := 0) rfl (by decide) (by decide) rfl (fun ls hl => ?_)
      refine lv_goto (tgt := 179) (pc := 197) hx hb d_Mo_init_197 (by decide) ?_
      refine lv_iload_n (pc := 179) hx hb d_Mo_init_179 rfl (lv_at hl 0 rfl) ?_
      refine lv_bipush (v := 6) (pc := 180) hx hb d_Mo_init_180 (by decide) ?_
      refine lv_icmp_ge (tgt := 200) (pc := 182) hx hb d_Mo_init_182 (by decide) (fun c_1 => absurd c_1 (by decide)) (fun _ => ?_)
      refine lv_aload_n (pc := 185) hx hb d_Mo_init_185 rfl (lv_at hl 1 rfl) ?_
      refine bl_get (C := R_Mo) (T := T_Mo) (N := 28) (v := .ref (b + 9)) (pc := 186) hx hb hts i_Mo hown hK hP43 0 (by omega) ((o43 _ (by omega)).trans ((o42 _ (by omega)).trans ((o41 _ (by omega)).trans b40))) rfl 10 (by decide) (hts _ wd_538) rfl d_Mo_init_186 ?_
      refine lv_iload_n (pc := 189) hx hb d_Mo_init_189 rfl (lv_at hl 0 rfl) ?_
      refine lv_sipush (v := 200) (pc := 190) hx hb d_Mo_init_190 (by decide) ?_
      refine bl_iast (pc := 193) hx hb hK hP43 hz43 hS43 9 (by omega) 0 b43 rfl 3 (by decide) (by decide) rfl d_Mo_init_193 (fun G44 H44 locs44 eG hP44 hz44 hS44 => ?_)
      have b44 : G44 (9) = .inl (cM 0, 6, .inl (upd (upd (upd (upd (fun _ => 0) 0 200) 1 200) 2 200) 3 200)) := by rw [eG]; exact va_up_self _ _ _
      have o44 : ∀ v, v ≠ 9 → G44 v = G43 v := fun v hv => by rw [eG]; exact va_up_ne _ _ hv
      clear eG hP43 hz43 hS43
      refine lv_iinc (v := 4) (lv' := [(2, .int 4), (0, .ref (b + 0)), (1, .int a)]) (pc := 194) hx hb d_Mo_init_194 hl (k := 0) rfl (by decide) (by decide) rfl (fun ls hl => ?_)
      refine lv_goto (tgt := 179) (pc := 197) hx hb d_Mo_init_197 (by decide) ?_
      refine lv_iload_n (pc := 179) hx hb d_Mo_init_179 rfl (lv_at hl 0 rfl) ?_
      refine lv_bipush (v := 6) (pc := 180) hx hb d_Mo_init_180 (by decide) ?_
      refine lv_icmp_ge (tgt := 200) (pc := 182) hx hb d_Mo_init_182 (by decide) (fun c_1 => absurd c_1 (by decide)) (fun _ => ?_)
      refine lv_aload_n (pc := 185) hx hb d_Mo_init_185 rfl (lv_at hl 1 rfl) ?_
      refine bl_get (C := R_Mo) (T := T_Mo) (N := 28) (v := .ref (b + 9)) (pc := 186) hx hb hts i_Mo hown hK hP44 0 (by omega) ((o44 _ (by omega)).trans ((o43 _ (by omega)).trans ((o42 _ (by omega)).trans ((o41 _ (by omega)).trans b40)))) rfl 10 (by decide) (hts _ wd_538) rfl d_Mo_init_186 ?_
      refine lv_iload_n (pc := 189) hx hb d_Mo_init_189 rfl (lv_at hl 0 rfl) ?_
      refine lv_sipush (v := 200) (pc := 190) hx hb d_Mo_init_190 (by decide) ?_
      refine bl_iast (pc := 193) hx hb hK hP44 hz44 hS44 9 (by omega) 0 b44 rfl 4 (by decide) (by decide) rfl d_Mo_init_193 (fun G45 H45 locs45 eG hP45 hz45 hS45 => ?_)
      have b45 : G45 (9) = .inl (cM 0, 6, .inl (upd (upd (upd (upd (upd (fun _ => 0) 0 200) 1 200) 2 200) 3 200) 4 200)) := by rw [eG]; exact va_up_self _ _ _
      have o45 : ∀ v, v ≠ 9 → G45 v = G44 v := fun v hv => by rw [eG]; exact va_up_ne _ _ hv
      clear eG hP44 hz44 hS44
      refine lv_iinc (v := 5) (lv' := [(2, .int 5), (0, .ref (b + 0)), (1, .int a)]) (pc := 194) hx hb d_Mo_init_194 hl (k := 0) rfl (by decide) (by decide) rfl (fun ls hl => ?_)
      refine lv_goto (tgt := 179) (pc := 197) hx hb d_Mo_init_197 (by decide) ?_
      refine lv_iload_n (pc := 179) hx hb d_Mo_init_179 rfl (lv_at hl 0 rfl) ?_
      refine lv_bipush (v := 6) (pc := 180) hx hb d_Mo_init_180 (by decide) ?_
      refine lv_icmp_ge (tgt := 200) (pc := 182) hx hb d_Mo_init_182 (by decide) (fun c_1 => absurd c_1 (by decide)) (fun _ => ?_)
      refine lv_aload_n (pc := 185) hx hb d_Mo_init_185 rfl (lv_at hl 1 rfl) ?_
      refine bl_get (C := R_Mo) (T := T_Mo) (N := 28) (v := .ref (b + 9)) (pc := 186) hx hb hts i_Mo hown hK hP45 0 (by omega) ((o45 _ (by omega)).trans ((o44 _ (by omega)).trans ((o43 _ (by omega)).trans ((o42 _ (by omega)).trans ((o41 _ (by omega)).trans b40))))) rfl 10 (by decide) (hts _ wd_538) rfl d_Mo_init_186 ?_
      refine lv_iload_n (pc := 189) hx hb d_Mo_init_189 rfl (lv_at hl 0 rfl) ?_
      refine lv_sipush (v := 200) (pc := 190) hx hb d_Mo_init_190 (by decide) ?_
      refine bl_iast (pc := 193) hx hb hK hP45 hz45 hS45 9 (by omega) 0 b45 rfl 5 (by decide) (by decide) rfl d_Mo_init_193 (fun G46 H46 locs46 eG hP46 hz46 hS46 => ?_)
      have b46 : G46 (9) = .inl (cM 0, 6, .inl (upd (upd (upd (upd (upd (upd (fun _ => 0) 0 200) 1 200) 2 200) 3 200) 4 200) 5 200)) := by rw [eG]; exact va_up_self _ _ _
      have o46 : ∀ v, v ≠ 9 → G46 v = G45 v := fun v hv => by rw [eG]; exact va_up_ne _ _ hv
      clear eG hP45 hz45 hS45
      refine lv_iinc (v := 6) (lv' := [(2, .int 6), (0, .ref (b + 0)), (1, .int a)]) (pc := 194) hx hb d_Mo_init_194 hl (k := 0) rfl (by decide) (by decide) rfl (fun ls hl => ?_)
      refine lv_goto (tgt := 179) (pc := 197) hx hb d_Mo_init_197 (by decide) ?_
      refine lv_iload_n (pc := 179) hx hb d_Mo_init_179 rfl (lv_at hl 0 rfl) ?_
      refine lv_bipush (v := 6) (pc := 180) hx hb d_Mo_init_180 (by decide) ?_
      refine lv_icmp_ge (tgt := 200) (pc := 182) hx hb d_Mo_init_182 (by decide) (fun _ => ?_) (fun c_1 => absurd (by decide) c_1)
      exact bl_vret (pc := 200) hx hb hr hlocks hP46 hz46 hS46 ⟨((o46 _ (by omega)).trans ((o45 _ (by omega)).trans ((o44 _ (by omega)).trans ((o43 _ (by omega)).trans ((o42 _ (by omega)).trans ((o41 _ (by omega)).trans b40)))))), ((o46 _ (by omega)).trans ((o45 _ (by omega)).trans ((o44 _ (by omega)).trans ((o43 _ (by omega)).trans ((o42 _ (by omega)).trans ((o41 _ (by omega)).trans ((o40 _ (by omega)).trans ((o39 _ (by omega)).trans ((o38 _ (by omega)).trans ((o37 _ (by omega)).trans ((o36 _ (by omega)).trans ((o35 _ (by omega)).trans ((o34 _ (by omega)).trans ((o33 _ (by omega)).trans ((o32 _ (by omega)).trans ((o31 _ (by omega)).trans ((o30 _ (by omega)).trans ((o29 _ (by omega)).trans ((o28 _ (by omega)).trans ((o27 _ (by omega)).trans ((o26 _ (by omega)).trans ((o25 _ (by omega)).trans ((o24 _ (by omega)).trans ((o23 _ (by omega)).trans ((o22 _ (by omega)).trans ((o21 _ (by omega)).trans ((o20 _ (by omega)).trans ((o19 _ (by omega)).trans ((o18 _ (by omega)).trans ((o17 _ (by omega)).trans ((o16 _ (by omega)).trans ((o15 _ (by omega)).trans ((o14 _ (by omega)).trans ((o13 _ (by omega)).trans ((o12 _ (by omega)).trans ((o11 _ (by omega)).trans ((o10 _ (by omega)).trans ((o9 _ (by omega)).trans ((o8 _ (by omega)).trans ((o7 _ (by omega)).trans ((o6 _ (by omega)).trans ((o5 _ (by omega)).trans ((o4 _ (by omega)).trans ((o3 _ (by omega)).trans ((o2 _ (by omega)).trans b1))))))))))))))))))))))))))))))))))))))))))))), ((o46 _ (by omega)).trans ((o45 _ (by omega)).trans ((o44 _ (by omega)).trans ((o43 _ (by omega)).trans ((o42 _ (by omega)).trans ((o41 _ (by omega)).trans ((o40 _ (by omega)).trans ((o39 _ (by omega)).trans ((o38 _ (by omega)).trans ((o37 _ (by omega)).trans ((o36 _ (by omega)).trans ((o35 _ (by omega)).trans ((o34 _ (by omega)).trans ((o33 _ (by omega)).trans ((o32 _ (by omega)).trans ((o31 _ (by omega)).trans ((o30 _ (by omega)).trans ((o29 _ (by omega)).trans ((o28 _ (by omega)).trans ((o27 _ (by omega)).trans ((o26 _ (by omega)).trans ((o25 _ (by omega)).trans ((o24 _ (by omega)).trans ((o23 _ (by omega)).trans ((o22 _ (by omega)).trans ((o21 _ (by omega)).trans ((o20 _ (by omega)).trans ((o19 _ (by omega)).trans ((o18 _ (by omega)).trans ((o17 _ (by omega)).trans ((o16 _ (by omega)).trans ((o15 _ (by omega)).trans ((o14 _ (by omega)).trans ((o13 _ (by omega)).trans ((o12 _ (by omega)).trans ((o11 _ (by omega)).trans ((o10 _ (by omega)).trans ((o9 _ (by omega)).trans ((o8 _ (by omega)).trans ((o7 _ (by omega)).trans ((o6 _ (by omega)).trans ((o5 _ (by omega)).trans ((o4 _ (by omega)).trans b3))))))))))))))))))))))))))))))))))))))))))), ((o46 _ (by omega)).trans ((o45 _ (by omega)).trans ((o44 _ (by omega)).trans ((o43 _ (by omega)).trans ((o42 _ (by omega)).trans ((o41 _ (by omega)).trans ((o40 _ (by omega)).trans ((o39 _ (by omega)).trans ((o38 _ (by omega)).trans ((o37 _ (by omega)).trans ((o36 _ (by omega)).trans ((o35 _ (by omega)).trans ((o34 _ (by omega)).trans ((o33 _ (by omega)).trans ((o32 _ (by omega)).trans ((o31 _ (by omega)).trans ((o30 _ (by omega)).trans ((o29 _ (by omega)).trans ((o28 _ (by omega)).trans ((o27 _ (by omega)).trans ((o26 _ (by omega)).trans ((o25 _ (by omega)).trans ((o24 _ (by omega)).trans ((o23 _ (by omega)).trans ((o22 _ (by omega)).trans ((o21 _ (by omega)).trans ((o20 _ (by omega)).trans ((o19 _ (by omega)).trans ((o18 _ (by omega)).trans ((o17 _ (by omega)).trans ((o16 _ (by omega)).trans ((o15 _ (by omega)).trans ((o14 _ (by omega)).trans ((o13 _ (by omega)).trans ((o12 _ (by omega)).trans ((o11 _ (by omega)).trans ((o10 _ (by omega)).trans ((o9 _ (by omega)).trans ((o8 _ (by omega)).trans ((o7 _ (by omega)).trans ((o6 _ (by omega)).trans b5))))))))))))))))))))))))))))))))))))))))), ((o46 _ (by omega)).trans ((o45 _ (by omega)).trans ((o44 _ (by omega)).trans ((o43 _ (by omega)).trans ((o42 _ (by omega)).trans ((o41 _ (by omega)).trans ((o40 _ (by omega)).trans ((o39 _ (by omega)).trans ((o38 _ (by omega)).trans ((o37 _ (by omega)).trans ((o36 _ (by omega)).trans ((o35 _ (by omega)).trans ((o34 _ (by omega)).trans ((o33 _ (by omega)).trans ((o32 _ (by omega)).trans ((o31 _ (by omega)).trans ((o30 _ (by omega)).trans ((o29 _ (by omega)).trans ((o28 _ (by omega)).trans ((o27 _ (by omega)).trans ((o26 _ (by omega)).trans ((o25 _ (by omega)).trans ((o24 _ (by omega)).trans ((o23 _ (by omega)).trans ((o22 _ (by omega)).trans ((o21 _ (by omega)).trans ((o20 _ (by omega)).trans ((o19 _ (by omega)).trans ((o18 _ (by omega)).trans ((o17 _ (by omega)).trans ((o16 _ (by omega)).trans ((o15 _ (by omega)).trans ((o14 _ (by omega)).trans ((o13 _ (by omega)).trans ((o12 _ (by omega)).trans ((o11 _ (by omega)).trans ((o10 _ (by omega)).trans ((o9 _ (by omega)).trans b8)))))))))))))))))))))))))))))))))))))), ((o46 _ (by omega)).trans ((o45 _ (by omega)).trans ((o44 _ (by omega)).trans ((o43 _ (by omega)).trans ((o42 _ (by omega)).trans ((o41 _ (by omega)).trans ((o40 _ (by omega)).trans ((o39 _ (by omega)).trans ((o38 _ (by omega)).trans ((o37 _ (by omega)).trans ((o36 _ (by omega)).trans ((o35 _ (by omega)).trans ((o34 _ (by omega)).trans ((o33 _ (by omega)).trans ((o32 _ (by omega)).trans ((o31 _ (by omega)).trans ((o30 _ (by omega)).trans ((o29 _ (by omega)).trans ((o28 _ (by omega)).trans ((o27 _ (by omega)).trans ((o26 _ (by omega)).trans ((o25 _ (by omega)).trans ((o24 _ (by omega)).trans ((o23 _ (by omega)).trans ((o22 _ (by omega)).trans ((o21 _ (by omega)).trans ((o20 _ (by omega)).trans ((o19 _ (by omega)).trans ((o18 _ (by omega)).trans ((o17 _ (by omega)).trans ((o16 _ (by omega)).trans ((o15 _ (by omega)).trans ((o14 _ (by omega)).trans ((o13 _ (by omega)).trans ((o12 _ (by omega)).trans ((o11 _ (by omega)).trans b10)))))))))))))))))))))))))))))))))))), ((o46 _ (by omega)).trans ((o45 _ (by omega)).trans ((o44 _ (by omega)).trans ((o43 _ (by omega)).trans ((o42 _ (by omega)).trans ((o41 _ (by omega)).trans ((o40 _ (by omega)).trans ((o39 _ (by omega)).trans ((o38 _ (by omega)).trans ((o37 _ (by omega)).trans ((o36 _ (by omega)).trans ((o35 _ (by omega)).trans ((o34 _ (by omega)).trans ((o33 _ (by omega)).trans ((o32 _ (by omega)).trans ((o31 _ (by omega)).trans ((o30 _ (by omega)).trans ((o29 _ (by omega)).trans ((o28 _ (by omega)).trans ((o27 _ (by omega)).trans ((o26 _ (by omega)).trans ((o25 _ (by omega)).trans ((o24 _ (by omega)).trans ((o23 _ (by omega)).trans ((o22 _ (by omega)).trans ((o21 _ (by omega)).trans ((o20 _ (by omega)).trans ((o19 _ (by omega)).trans ((o18 _ (by omega)).trans ((o17 _ (by omega)).trans ((o16 _ (by omega)).trans ((o15 _ (by omega)).trans ((o14 _ (by omega)).trans ((o13 _ (by omega)).trans b12)))))))))))))))))))))))))))))))))), ((o46 _ (by omega)).trans ((o45 _ (by omega)).trans ((o44 _ (by omega)).trans ((o43 _ (by omega)).trans ((o42 _ (by omega)).trans ((o41 _ (by omega)).trans ((o40 _ (by omega)).trans ((o39 _ (by omega)).trans ((o38 _ (by omega)).trans ((o37 _ (by omega)).trans ((o36 _ (by omega)).trans ((o35 _ (by omega)).trans ((o34 _ (by omega)).trans ((o33 _ (by omega)).trans ((o32 _ (by omega)).trans ((o31 _ (by omega)).trans ((o30 _ (by omega)).trans ((o29 _ (by omega)).trans ((o28 _ (by omega)).trans ((o27 _ (by omega)).trans ((o26 _ (by omega)).trans ((o25 _ (by omega)).trans ((o24 _ (by omega)).trans ((o23 _ (by omega)).trans ((o22 _ (by omega)).trans ((o21 _ (by omega)).trans ((o20 _ (by omega)).trans ((o19 _ (by omega)).trans ((o18 _ (by omega)).trans ((o17 _ (by omega)).trans ((o16 _ (by omega)).trans ((o15 _ (by omega)).trans b14)))))))))))))))))))))))))))))))), ((o46 _ (by omega)).trans ((o45 _ (by omega)).trans ((o44 _ (by omega)).trans ((o43 _ (by omega)).trans ((o42 _ (by omega)).trans ((o41 _ (by omega)).trans ((o40 _ (by omega)).trans ((o39 _ (by omega)).trans ((o38 _ (by omega)).trans ((o37 _ (by omega)).trans ((o36 _ (by omega)).trans ((o35 _ (by omega)).trans ((o34 _ (by omega)).trans ((o33 _ (by omega)).trans ((o32 _ (by omega)).trans ((o31 _ (by omega)).trans ((o30 _ (by omega)).trans ((o29 _ (by omega)).trans ((o28 _ (by omega)).trans ((o27 _ (by omega)).trans ((o26 _ (by omega)).trans ((o25 _ (by omega)).trans ((o24 _ (by omega)).trans ((o23 _ (by omega)).trans ((o22 _ (by omega)).trans ((o21 _ (by omega)).trans ((o20 _ (by omega)).trans ((o19 _ (by omega)).trans ((o18 _ (by omega)).trans ((o17 _ (by omega)).trans b16)))))))))))))))))))))))))))))), b46, ((o46 _ (by omega)).trans ((o45 _ (by omega)).trans ((o44 _ (by omega)).trans ((o43 _ (by omega)).trans ((o42 _ (by omega)).trans ((o41 _ (by omega)).trans ((o40 _ (by omega)).trans ((o39 _ (by omega)).trans ((o38 _ (by omega)).trans ((o37 _ (by omega)).trans ((o36 _ (by omega)).trans ((o35 _ (by omega)).trans ((o34 _ (by omega)).trans ((o33 _ (by omega)).trans ((o32 _ (by omega)).trans ((o31 _ (by omega)).trans ((o30 _ (by omega)).trans ((o29 _ (by omega)).trans ((o28 _ (by omega)).trans ((o27 _ (by omega)).trans ((o26 _ (by omega)).trans ((o25 _ (by omega)).trans ((o24 _ (by omega)).trans ((o23 _ (by omega)).trans b22)))))))))))))))))))))))), ((o46 _ (by omega)).trans ((o45 _ (by omega)).trans ((o44 _ (by omega)).trans ((o43 _ (by omega)).trans ((o42 _ (by omega)).trans ((o41 _ (by omega)).trans ((o40 _ (by omega)).trans ((o39 _ (by omega)).trans ((o38 _ (by omega)).trans ((o37 _ (by omega)).trans ((o36 _ (by omega)).trans ((o35 _ (by omega)).trans ((o34 _ (by omega)).trans ((o33 _ (by omega)).trans ((o32 _ (by omega)).trans ((o31 _ (by omega)).trans ((o30 _ (by omega)).trans ((o29 _ (by omega)).trans ((o28 _ (by omega)).trans ((o27 _ (by omega)).trans ((o26 _ (by omega)).trans ((o25 _ (by omega)).trans b24)))))))))))))))))))))), ((o46 _ (by omega)).trans ((o45 _ (by omega)).trans ((o44 _ (by omega)).trans ((o43 _ (by omega)).trans ((o42 _ (by omega)).trans ((o41 _ (by omega)).trans ((o40 _ (by omega)).trans ((o39 _ (by omega)).trans ((o38 _ (by omega)).trans ((o37 _ (by omega)).trans ((o36 _ (by omega)).trans ((o35 _ (by omega)).trans ((o34 _ (by omega)).trans ((o33 _ (by omega)).trans ((o32 _ (by omega)).trans ((o31 _ (by omega)).trans ((o30 _ (by omega)).trans ((o29 _ (by omega)).trans ((o28 _ (by omega)).trans ((o27 _ (by omega)).trans b26)))))))))))))))))))), ((o46 _ (by omega)).trans ((o45 _ (by omega)).trans ((o44 _ (by omega)).trans ((o43 _ (by omega)).trans ((o42 _ (by omega)).trans ((o41 _ (by omega)).trans ((o40 _ (by omega)).trans ((o39 _ (by omega)).trans ((o38 _ (by omega)).trans ((o37 _ (by omega)).trans ((o36 _ (by omega)).trans ((o35 _ (by omega)).trans ((o34 _ (by omega)).trans ((o33 _ (by omega)).trans ((o32 _ (by omega)).trans ((o31 _ (by omega)).trans ((o30 _ (by omega)).trans ((o29 _ (by omega)).trans b28)))))))))))))))))), ((o46 _ (by omega)).trans ((o45 _ (by omega)).trans ((o44 _ (by omega)).trans ((o43 _ (by omega)).trans ((o42 _ (by omega)).trans ((o41 _ (by omega)).trans ((o40 _ (by omega)).trans ((o39 _ (by omega)).trans ((o38 _ (by omega)).trans ((o37 _ (by omega)).trans ((o36 _ (by omega)).trans ((o35 _ (by omega)).trans ((o34 _ (by omega)).trans ((o33 _ (by omega)).trans ((o32 _ (by omega)).trans ((o31 _ (by omega)).trans b30)))))))))))))))), ((o46 _ (by omega)).trans ((o45 _ (by omega)).trans ((o44 _ (by omega)).trans ((o43 _ (by omega)).trans ((o42 _ (by omega)).trans ((o41 _ (by omega)).trans ((o40 _ (by omega)).trans ((o39 _ (by omega)).trans ((o38 _ (by omega)).trans ((o37 _ (by omega)).trans ((o36 _ (by omega)).trans ((o35 _ (by omega)).trans ((o34 _ (by omega)).trans ((o33 _ (by omega)).trans b32)))))))))))))), ((o46 _ (by omega)).trans ((o45 _ (by omega)).trans ((o44 _ (by omega)).trans ((o43 _ (by omega)).trans ((o42 _ (by omega)).trans ((o41 _ (by omega)).trans ((o40 _ (by omega)).trans ((o39 _ (by omega)).trans ((o38 _ (by omega)).trans ((o37 _ (by omega)).trans ((o36 _ (by omega)).trans ((o35 _ (by omega)).trans b34)))))))))))), ((o46 _ (by omega)).trans ((o45 _ (by omega)).trans ((o44 _ (by omega)).trans ((o43 _ (by omega)).trans ((o42 _ (by omega)).trans ((o41 _ (by omega)).trans ((o40 _ (by omega)).trans ((o39 _ (by omega)).trans ((o38 _ (by omega)).trans ((o37 _ (by omega)).trans b36)))))))))), ((o46 _ (by omega)).trans ((o45 _ (by omega)).trans ((o44 _ (by omega)).trans ((o43 _ (by omega)).trans ((o42 _ (by omega)).trans ((o41 _ (by omega)).trans ((o40 _ (by omega)).trans ((o39 _ (by omega)).trans b38))))))))⟩ d_Mo_init_200
