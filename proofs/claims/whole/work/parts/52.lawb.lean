set_option maxRecDepth 100000 in
set_option maxHeartbeats 4000000 in
theorem law_run {p : Program} {l : Launch} {e : Env} {s : State} {m : MethodId} {below : List Frame} {meth : Method} {c : Code} {D : va_G} {cX cM : Nat → ClassId} {Z b L : Nat} {adX adM : Nat → Nat} {xs : Nat → Int32} {Sim : Nat → xS → mS → Prop} (hZ : 1 ≤ Z ∧ Z ≤ 6) (C0 : lw_At p s m meth c b L xs) (hN : nst s) (hL : L ≤ 2561) (hRx : rD (36 + Z) adX) (hRm : rD 19 adM) (hAx : ∀ i, i < 36 + Z → s.heap.size ≤ adX i) (hAm : ∀ i, i < 19 → s.heap.size ≤ adM i) (hXM : ∀ i j, i < 36 + Z → j < 19 → adX i ≠ adM j) (hKx : va_K D clG (tyX cX) s) (hKm : va_K D clG (tyM cM) s) (hSim : LawOK Z Sim) (i k : Nat) (hi : i + 5 ≤ L) (hk : k ≤ 511) (st : xS) (ms : mS) (hs : Sim k st ms) (H : Heap) (locs : List Loc) (ls : Array Slot) (hP : va_P D clG (pw (36 + Z) adX (xgx Z adX cX st)) H) (hQ : va_P D clG (pw 19 adM (mgx Z adM cM ms)) H) (hS : va_S (fun q => s.heap.size ≤ q) s.heap H locs) (hl : lv_has ls 4 [(0, .ref b), (1, .ref (adX 0)), (2, .ref (adM 0)), (3, .int (nI i))]) (kk : ∀ (st : xS) (ms : mS) (H : Heap) (locs : List Loc) (ls : Array Slot), Sim (k + 1) st ms → va_P D clG (pw (36 + Z) adX (xgx Z adX cX st)) H → va_P D clG (pw 19 adM (mgx Z adM cM ms)) H → va_S (fun q => s.heap.size ≤ q) s.heap H locs → lv_has ls 4 [(0, .ref b), (1, .ref (adX 0)), (2, .ref (adM 0)), (3, .int (nI i))] → W p l e room_1 s m #[Value.ref b] below meth c H locs 673831 7080755 (lw_Z below #[Value.ref b] s) (F0 m 666 ls [])) : W p l e room_1 s m #[Value.ref b] below meth c H locs 673831 7080755 (lw_Z below #[Value.ref b] s) (F0 m 455 ls []) := by
  obtain ⟨hx, hb, hr, hml, hown, hts0, hX, hbl, hlocks, hgv⟩ := C0
  have hts : ∀ w ∈ gtb, w.before #[Value.ref b] s = true := fun w h => hts0 w (List.mem_filter.mp h).1
  obtain ⟨h_kind, h_bunker, h_crane, h_grab, h_g2a, h_g2b, h_share, h_air, h_set, h_control, h_burner, h_run, h_bed, h_gas, h_output, h_burning, h_ash, h_balance, h_plan, h_planx, h_planned, h_pdx, h_skip⟩ := hSim
  refine lv_aload_n (pc := 455) hx hb d_Law_455 rfl (lv_at hl 1 rfl) ?_
  refine lv_aload_n (pc := 456) hx hb d_Law_456 rfl (lv_at hl 0 rfl) ?_
  refine lv_iload_n (pc := 457) hx hb d_Law_457 rfl (lv_at hl 3 rfl) ?_
  refine lv_iconst (v := 1) (pc := 458) hx hb d_Law_458 (by decide) ?_
  refine lv_iadd (pc := 459) hx hb d_Law_459 ?_
  refine lw_sld (pc := 460) hx hb hX hbl hS (i + 1) (by omega) (by omega) (nI_add i 1) d_Law_460 ?_
  refine lw_ci (pc := 461) (va_runV (As := [.int (xs (i + 1))]) (rest := []) ⟨hx, hb, hml, hown, hts⟩ (c_GL_run (l := l) hRx hZ st (xs (i + 1)) _) ⟨callB_of 1 hts (gd_c wd_346) rfl rfl rfl (hts _ wd_1) (hts _ wd_343) hd_GL_run ⟨Nat.le_of_ble_eq_true rfl, Nat.le_of_ble_eq_true rfl⟩, hts _ wd_344, hts _ wd_345⟩ ⟨rPc_blind _ _ _ _ _ _ _ _, rg_rec hKx hP 0 (by omega) xgx_X rfl, rPc_at _ hP hKx hN⟩ rfl rfl hl.1 rfl (lv_room (Nat.le_of_ble_eq_true rfl)) d_Law_461 ⟨Nat.le_of_ble_eq_true rfl, Nat.le_of_ble_eq_true rfl⟩) hS hAx hQ (fun i j h1 h2 q => hXM j i h2 h1 q.symm) (fun H locs hP hQ hS => ?_)
  refine lv_aload_n (pc := 464) hx hb d_Law_464 rfl (lv_at hl 2 rfl) ?_
  refine lv_aload_n (pc := 465) hx hb d_Law_465 rfl (lv_at hl 0 rfl) ?_
  refine lv_iload_n (pc := 466) hx hb d_Law_466 rfl (lv_at hl 3 rfl) ?_
  refine lv_iconst (v := 1) (pc := 467) hx hb d_Law_467 (by decide) ?_
  refine lv_iadd (pc := 468) hx hb d_Law_468 ?_
  refine lw_sld (pc := 469) hx hb hX hbl hS (i + 1) (by omega) (by omega) (nI_add i 1) d_Law_469 ?_
  refine lw_ci (pc := 470) (va_runV (As := [.int (xs (i + 1))]) (rest := [.int ((f_GL_run Z st (xs (i + 1))).1)]) ⟨hx, hb, hml, hown, hts⟩ (c_Mo_run (l := l) hRm hZ ms (xs (i + 1)) _) ⟨callB_of 1 hts (gd_c wd_682) rfl rfl rfl (hts _ wd_9) (hts _ wd_679) hd_Mo_run ⟨Nat.le_of_ble_eq_true rfl, Nat.le_of_ble_eq_true rfl⟩, hts _ wd_680, hts _ wd_681⟩ ⟨rPc_blind _ _ _ _ _ _ _ _, rg_rec hKm hQ 0 (by omega) mgx_M rfl, rPc_at _ hQ hKm hN⟩ rfl rfl hl.1 rfl (lv_room (Nat.le_of_ble_eq_true rfl)) d_Law_470 ⟨Nat.le_of_ble_eq_true rfl, Nat.le_of_ble_eq_true rfl⟩) hS hAm hP hXM (fun H locs hQ hP hS => ?_)
  have hans := h_run k st ms (xs (i + 1)) hs hk
  refine lv_icmp_eq (tgt := 666) (pc := 473) hx hb d_Law_473 (by decide) (fun c_1 => ?_) (fun c_1 => absurd hans.1 c_1)
  exact kk _ _ H locs ls hans.2 hP hQ hS hl

set_option maxRecDepth 100000 in
set_option maxHeartbeats 4000000 in
theorem law_bed {p : Program} {l : Launch} {e : Env} {s : State} {m : MethodId} {below : List Frame} {meth : Method} {c : Code} {D : va_G} {cX cM : Nat → ClassId} {Z b L : Nat} {adX adM : Nat → Nat} {xs : Nat → Int32} {Sim : Nat → xS → mS → Prop} (hZ : 1 ≤ Z ∧ Z ≤ 6) (C0 : lw_At p s m meth c b L xs) (hN : nst s) (hL : L ≤ 2561) (hRx : rD (36 + Z) adX) (hRm : rD 19 adM) (hAx : ∀ i, i < 36 + Z → s.heap.size ≤ adX i) (hAm : ∀ i, i < 19 → s.heap.size ≤ adM i) (hXM : ∀ i j, i < 36 + Z → j < 19 → adX i ≠ adM j) (hKx : va_K D clG (tyX cX) s) (hKm : va_K D clG (tyM cM) s) (hSim : LawOK Z Sim) (i k : Nat) (hi : i + 5 ≤ L) (hk : k ≤ 511) (st : xS) (ms : mS) (hs : Sim k st ms) (H : Heap) (locs : List Loc) (ls : Array Slot) (hP : va_P D clG (pw (36 + Z) adX (xgx Z adX cX st)) H) (hQ : va_P D clG (pw 19 adM (mgx Z adM cM ms)) H) (hS : va_S (fun q => s.heap.size ≤ q) s.heap H locs) (hl : lv_has ls 4 [(0, .ref b), (1, .ref (adX 0)), (2, .ref (adM 0)), (3, .int (nI i))]) (kk : ∀ (st : xS) (ms : mS) (H : Heap) (locs : List Loc) (ls : Array Slot), Sim (k + 1) st ms → va_P D clG (pw (36 + Z) adX (xgx Z adX cX st)) H → va_P D clG (pw 19 adM (mgx Z adM cM ms)) H → va_S (fun q => s.heap.size ≤ q) s.heap H locs → lv_has ls 4 [(0, .ref b), (1, .ref (adX 0)), (2, .ref (adM 0)), (3, .int (nI i))] → W p l e room_1 s m #[Value.ref b] below meth c H locs 673831 7080755 (lw_Z below #[Value.ref b] s) (F0 m 666 ls [])) : W p l e room_1 s m #[Value.ref b] below meth c H locs 673831 7080755 (lw_Z below #[Value.ref b] s) (F0 m 478 ls []) := by
  obtain ⟨hx, hb, hr, hml, hown, hts0, hX, hbl, hlocks, hgv⟩ := C0
  have hts : ∀ w ∈ gtb, w.before #[Value.ref b] s = true := fun w h => hts0 w (List.mem_filter.mp h).1
  obtain ⟨h_kind, h_bunker, h_crane, h_grab, h_g2a, h_g2b, h_share, h_air, h_set, h_control, h_burner, h_run, h_bed, h_gas, h_output, h_burning, h_ash, h_balance, h_plan, h_planx, h_planned, h_pdx, h_skip⟩ := hSim
  refine lv_aload_n (pc := 478) hx hb d_Law_478 rfl (lv_at hl 1 rfl) ?_
  refine lv_aload_n (pc := 479) hx hb d_Law_479 rfl (lv_at hl 0 rfl) ?_
  refine lv_iload_n (pc := 480) hx hb d_Law_480 rfl (lv_at hl 3 rfl) ?_
  refine lv_iconst (v := 1) (pc := 481) hx hb d_Law_481 (by decide) ?_
  refine lv_iadd (pc := 482) hx hb d_Law_482 ?_
  refine lw_sld (pc := 483) hx hb hX hbl hS (i + 1) (by omega) (by omega) (nI_add i 1) d_Law_483 ?_
  refine lv_aload_n (pc := 484) hx hb d_Law_484 rfl (lv_at hl 0 rfl) ?_
  refine lv_iload_n (pc := 485) hx hb d_Law_485 rfl (lv_at hl 3 rfl) ?_
  refine lv_iconst (v := 2) (pc := 486) hx hb d_Law_486 (by decide) ?_
  refine lv_iadd (pc := 487) hx hb d_Law_487 ?_
  refine lw_sld (pc := 488) hx hb hX hbl hS (i + 2) (by omega) (by omega) (nI_add i 2) d_Law_488 ?_
  refine lw_cl (pc := 489) (va_runV (As := [.int (xs (i + 1)), .int (xs (i + 2))]) (rest := []) ⟨hx, hb, hml, hown, hts⟩ (c_GL_bed (l := l) hRx hZ st (xs (i + 1)) (xs (i + 2)) _) ⟨callB_of 2 hts (gd_c wd_435) rfl rfl rfl (hts _ wd_1) (hts _ wd_432) hd_GL_bed ⟨Nat.le_of_ble_eq_true rfl, Nat.le_of_ble_eq_true rfl⟩, hts _ wd_433, hts _ wd_434⟩ ⟨rPc_blind _ _ _ _ _ _ _ _, rg_rec hKx hP 0 (by omega) xgx_X rfl, rPc_at _ hP hKx hN⟩ rfl rfl hl.1 rfl (lv_room (Nat.le_of_ble_eq_true rfl)) d_Law_489 ⟨Nat.le_of_ble_eq_true rfl, Nat.le_of_ble_eq_true rfl⟩) hS hAx hQ (fun i j h1 h2 q => hXM j i h2 h1 q.symm) (fun H locs hP hQ hS => ?_)
  refine lv_aload_n (pc := 492) hx hb d_Law_492 rfl (lv_at hl 2 rfl) ?_
  refine lv_aload_n (pc := 493) hx hb d_Law_493 rfl (lv_at hl 0 rfl) ?_
  refine lv_iload_n (pc := 494) hx hb d_Law_494 rfl (lv_at hl 3 rfl) ?_
  refine lv_iconst (v := 1) (pc := 495) hx hb d_Law_495 (by decide) ?_
  refine lv_iadd (pc := 496) hx hb d_Law_496 ?_
  refine lw_sld (pc := 497) hx hb hX hbl hS (i + 1) (by omega) (by omega) (nI_add i 1) d_Law_497 ?_
  refine lv_aload_n (pc := 498) hx hb d_Law_498 rfl (lv_at hl 0 rfl) ?_
  refine lv_iload_n (pc := 499) hx hb d_Law_499 rfl (lv_at hl 3 rfl) ?_
  refine lv_iconst (v := 2) (pc := 500) hx hb d_Law_500 (by decide) ?_
  refine lv_iadd (pc := 501) hx hb d_Law_501 ?_
  refine lw_sld (pc := 502) hx hb hX hbl hS (i + 2) (by omega) (by omega) (nI_add i 2) d_Law_502 ?_
  refine lw_cl (pc := 503) (va_runV (As := [.int (xs (i + 1)), .int (xs (i + 2))]) (rest := [.long (f_GL_bed Z st (xs (i + 1)) (xs (i + 2)))]) ⟨hx, hb, hml, hown, hts⟩ (c_Mo_bed (l := l) hRm hZ ms (xs (i + 1)) (xs (i + 2)) _) ⟨callB_of 2 hts (gd_c wd_719) rfl rfl rfl (hts _ wd_9) (hts _ wd_716) hd_Mo_bed ⟨Nat.le_of_ble_eq_true rfl, Nat.le_of_ble_eq_true rfl⟩, hts _ wd_717, hts _ wd_718⟩ ⟨rPc_blind _ _ _ _ _ _ _ _, rg_rec hKm hQ 0 (by omega) mgx_M rfl, rPc_at _ hQ hKm hN⟩ rfl rfl hl.1 rfl (lv_room (Nat.le_of_ble_eq_true rfl)) d_Law_503 ⟨Nat.le_of_ble_eq_true rfl, Nat.le_of_ble_eq_true rfl⟩) hS hAm hP hXM (fun H locs hQ hP hS => ?_)
  have hans := h_bed k st ms (xs (i + 1)) (xs (i + 2)) hs hk
  refine W.lcmp (pc := 506) hx hb d_Law_506 ?_
  refine lv_if_eq (tgt := 666) (pc := 507) hx hb d_Law_507 (by decide) (fun c_1 => ?_) (fun c_1 => absurd ((lg_cmp_eq _ _).mpr hans) c_1)
  exact kk st ms H locs ls (h_skip k st ms hs hk) hP hQ hS hl

set_option maxRecDepth 100000 in
set_option maxHeartbeats 4000000 in
theorem law_gas {p : Program} {l : Launch} {e : Env} {s : State} {m : MethodId} {below : List Frame} {meth : Method} {c : Code} {D : va_G} {cX cM : Nat → ClassId} {Z b L : Nat} {adX adM : Nat → Nat} {xs : Nat → Int32} {Sim : Nat → xS → mS → Prop} (hZ : 1 ≤ Z ∧ Z ≤ 6) (C0 : lw_At p s m meth c b L xs) (hN : nst s) (hL : L ≤ 2561) (hRx : rD (36 + Z) adX) (hRm : rD 19 adM) (hAx : ∀ i, i < 36 + Z → s.heap.size ≤ adX i) (hAm : ∀ i, i < 19 → s.heap.size ≤ adM i) (hXM : ∀ i j, i < 36 + Z → j < 19 → adX i ≠ adM j) (hKx : va_K D clG (tyX cX) s) (hKm : va_K D clG (tyM cM) s) (hSim : LawOK Z Sim) (i k : Nat) (hi : i + 5 ≤ L) (hk : k ≤ 511) (st : xS) (ms : mS) (hs : Sim k st ms) (H : Heap) (locs : List Loc) (ls : Array Slot) (hP : va_P D clG (pw (36 + Z) adX (xgx Z adX cX st)) H) (hQ : va_P D clG (pw 19 adM (mgx Z adM cM ms)) H) (hS : va_S (fun q => s.heap.size ≤ q) s.heap H locs) (hl : lv_has ls 4 [(0, .ref b), (1, .ref (adX 0)), (2, .ref (adM 0)), (3, .int (nI i))]) (kk : ∀ (st : xS) (ms : mS) (H : Heap) (locs : List Loc) (ls : Array Slot), Sim (k + 1) st ms → va_P D clG (pw (36 + Z) adX (xgx Z adX cX st)) H → va_P D clG (pw 19 adM (mgx Z adM cM ms)) H → va_S (fun q => s.heap.size ≤ q) s.heap H locs → lv_has ls 4 [(0, .ref b), (1, .ref (adX 0)), (2, .ref (adM 0)), (3, .int (nI i))] → W p l e room_1 s m #[Value.ref b] below meth c H locs 673831 7080755 (lw_Z below #[Value.ref b] s) (F0 m 666 ls [])) : W p l e room_1 s m #[Value.ref b] below meth c H locs 673831 7080755 (lw_Z below #[Value.ref b] s) (F0 m 512 ls []) := by
  obtain ⟨hx, hb, hr, hml, hown, hts0, hX, hbl, hlocks, hgv⟩ := C0
  have hts : ∀ w ∈ gtb, w.before #[Value.ref b] s = true := fun w h => hts0 w (List.mem_filter.mp h).1
  obtain ⟨h_kind, h_bunker, h_crane, h_grab, h_g2a, h_g2b, h_share, h_air, h_set, h_control, h_burner, h_run, h_bed, h_gas, h_output, h_burning, h_ash, h_balance, h_plan, h_planx, h_planned, h_pdx, h_skip⟩ := hSim
  refine lv_aload_n (pc := 512) hx hb d_Law_512 rfl (lv_at hl 1 rfl) ?_
  refine lv_aload_n (pc := 513) hx hb d_Law_513 rfl (lv_at hl 0 rfl) ?_
  refine lv_iload_n (pc := 514) hx hb d_Law_514 rfl (lv_at hl 3 rfl) ?_
  refine lv_iconst (v := 1) (pc := 515) hx hb d_Law_515 (by decide) ?_
  refine lv_iadd (pc := 516) hx hb d_Law_516 ?_
  refine lw_sld (pc := 517) hx hb hX hbl hS (i + 1) (by omega) (by omega) (nI_add i 1) d_Law_517 ?_
  refine lw_cl (pc := 518) (va_runV (As := [.int (xs (i + 1))]) (rest := []) ⟨hx, hb, hml, hown, hts⟩ (c_GL_gas (l := l) hRx hZ st (xs (i + 1)) _) ⟨callB_of 1 hts (gd_c wd_440) rfl rfl rfl (hts _ wd_1) (hts _ wd_437) hd_GL_gas ⟨Nat.le_of_ble_eq_true rfl, Nat.le_of_ble_eq_true rfl⟩, hts _ wd_438, hts _ wd_439⟩ ⟨rPc_blind _ _ _ _ _ _ _ _, rg_rec hKx hP 0 (by omega) xgx_X rfl, rPc_at _ hP hKx hN⟩ rfl rfl hl.1 rfl (lv_room (Nat.le_of_ble_eq_true rfl)) d_Law_518 ⟨Nat.le_of_ble_eq_true rfl, Nat.le_of_ble_eq_true rfl⟩) hS hAx hQ (fun i j h1 h2 q => hXM j i h2 h1 q.symm) (fun H locs hP hQ hS => ?_)
  refine lv_aload_n (pc := 521) hx hb d_Law_521 rfl (lv_at hl 2 rfl) ?_
  refine lv_aload_n (pc := 522) hx hb d_Law_522 rfl (lv_at hl 0 rfl) ?_
  refine lv_iload_n (pc := 523) hx hb d_Law_523 rfl (lv_at hl 3 rfl) ?_
  refine lv_iconst (v := 1) (pc := 524) hx hb d_Law_524 (by decide) ?_
  refine lv_iadd (pc := 525) hx hb d_Law_525 ?_
  refine lw_sld (pc := 526) hx hb hX hbl hS (i + 1) (by omega) (by omega) (nI_add i 1) d_Law_526 ?_
  refine lw_cl (pc := 527) (va_runV (As := [.int (xs (i + 1))]) (rest := [.long (f_GL_gas Z st (xs (i + 1)))]) ⟨hx, hb, hml, hown, hts⟩ (c_Mo_gas (l := l) hRm hZ ms (xs (i + 1)) _) ⟨callB_of 1 hts (gd_c wd_724) rfl rfl rfl (hts _ wd_9) (hts _ wd_721) hd_Mo_gas ⟨Nat.le_of_ble_eq_true rfl, Nat.le_of_ble_eq_true rfl⟩, hts _ wd_722, hts _ wd_723⟩ ⟨rPc_blind _ _ _ _ _ _ _ _, rg_rec hKm hQ 0 (by omega) mgx_M rfl, rPc_at _ hQ hKm hN⟩ rfl rfl hl.1 rfl (lv_room (Nat.le_of_ble_eq_true rfl)) d_Law_527 ⟨Nat.le_of_ble_eq_true rfl, Nat.le_of_ble_eq_true rfl⟩) hS hAm hP hXM (fun H locs hQ hP hS => ?_)
  have hans := h_gas k st ms (xs (i + 1)) hs hk
  refine W.lcmp (pc := 530) hx hb d_Law_530 ?_
  refine lv_if_eq (tgt := 666) (pc := 531) hx hb d_Law_531 (by decide) (fun c_1 => ?_) (fun c_1 => absurd ((lg_cmp_eq _ _).mpr hans) c_1)
  exact kk st ms H locs ls (h_skip k st ms hs hk) hP hQ hS hl

set_option maxRecDepth 100000 in
set_option maxHeartbeats 4000000 in
theorem law_output {p : Program} {l : Launch} {e : Env} {s : State} {m : MethodId} {below : List Frame} {meth : Method} {c : Code} {D : va_G} {cX cM : Nat → ClassId} {Z b L : Nat} {adX adM : Nat → Nat} {xs : Nat → Int32} {Sim : Nat → xS → mS → Prop} (hZ : 1 ≤ Z ∧ Z ≤ 6) (C0 : lw_At p s m meth c b L xs) (hN : nst s) (hL : L ≤ 2561) (hRx : rD (36 + Z) adX) (hRm : rD 19 adM) (hAx : ∀ i, i < 36 + Z → s.heap.size ≤ adX i) (hAm : ∀ i, i < 19 → s.heap.size ≤ adM i) (hXM : ∀ i j, i < 36 + Z → j < 19 → adX i ≠ adM j) (hKx : va_K D clG (tyX cX) s) (hKm : va_K D clG (tyM cM) s) (hSim : LawOK Z Sim) (i k : Nat) (hi : i + 5 ≤ L) (hk : k ≤ 511) (st : xS) (ms : mS) (hs : Sim k st ms) (H : Heap) (locs : List Loc) (ls : Array Slot) (hP : va_P D clG (pw (36 + Z) adX (xgx Z adX cX st)) H) (hQ : va_P D clG (pw 19 adM (mgx Z adM cM ms)) H) (hS : va_S (fun q => s.heap.size ≤ q) s.heap H locs) (hl : lv_has ls 4 [(0, .ref b), (1, .ref (adX 0)), (2, .ref (adM 0)), (3, .int (nI i))]) (kk : ∀ (st : xS) (ms : mS) (H : Heap) (locs : List Loc) (ls : Array Slot), Sim (k + 1) st ms → va_P D clG (pw (36 + Z) adX (xgx Z adX cX st)) H → va_P D clG (pw 19 adM (mgx Z adM cM ms)) H → va_S (fun q => s.heap.size ≤ q) s.heap H locs → lv_has ls 4 [(0, .ref b), (1, .ref (adX 0)), (2, .ref (adM 0)), (3, .int (nI i))] → W p l e room_1 s m #[Value.ref b] below meth c H locs 673831 7080755 (lw_Z below #[Value.ref b] s) (F0 m 666 ls [])) : W p l e room_1 s m #[Value.ref b] below meth c H locs 673831 7080755 (lw_Z below #[Value.ref b] s) (F0 m 536 ls []) := by
  obtain ⟨hx, hb, hr, hml, hown, hts0, hX, hbl, hlocks, hgv⟩ := C0
  have hts : ∀ w ∈ gtb, w.before #[Value.ref b] s = true := fun w h => hts0 w (List.mem_filter.mp h).1
  obtain ⟨h_kind, h_bunker, h_crane, h_grab, h_g2a, h_g2b, h_share, h_air, h_set, h_control, h_burner, h_run, h_bed, h_gas, h_output, h_burning, h_ash, h_balance, h_plan, h_planx, h_planned, h_pdx, h_skip⟩ := hSim
  refine lv_aload_n (pc := 536) hx hb d_Law_536 rfl (lv_at hl 1 rfl) ?_
  refine lv_aload_n (pc := 537) hx hb d_Law_537 rfl (lv_at hl 0 rfl) ?_
  refine lv_iload_n (pc := 538) hx hb d_Law_538 rfl (lv_at hl 3 rfl) ?_
  refine lv_iconst (v := 1) (pc := 539) hx hb d_Law_539 (by decide) ?_
  refine lv_iadd (pc := 540) hx hb d_Law_540 ?_
  refine lw_sld (pc := 541) hx hb hX hbl hS (i + 1) (by omega) (by omega) (nI_add i 1) d_Law_541 ?_
  refine lw_ci (pc := 542) (va_runV (As := [.int (xs (i + 1))]) (rest := []) ⟨hx, hb, hml, hown, hts⟩ (c_GL_output (l := l) hRx hZ st (xs (i + 1)) _) ⟨callB_of 1 hts (gd_c wd_444) rfl rfl rfl (hts _ wd_1) (hts _ wd_441) hd_GL_output ⟨Nat.le_of_ble_eq_true rfl, Nat.le_of_ble_eq_true rfl⟩, hts _ wd_442, hts _ wd_443⟩ ⟨rPc_blind _ _ _ _ _ _ _ _, rg_rec hKx hP 0 (by omega) xgx_X rfl, rPc_at _ hP hKx hN⟩ rfl rfl hl.1 rfl (lv_room (Nat.le_of_ble_eq_true rfl)) d_Law_542 ⟨Nat.le_of_ble_eq_true rfl, Nat.le_of_ble_eq_true rfl⟩) hS hAx hQ (fun i j h1 h2 q => hXM j i h2 h1 q.symm) (fun H locs hP hQ hS => ?_)
  refine lv_aload_n (pc := 545) hx hb d_Law_545 rfl (lv_at hl 2 rfl) ?_
  refine lv_aload_n (pc := 546) hx hb d_Law_546 rfl (lv_at hl 0 rfl) ?_
  refine lv_iload_n (pc := 547) hx hb d_Law_547 rfl (lv_at hl 3 rfl) ?_
  refine lv_iconst (v := 1) (pc := 548) hx hb d_Law_548 (by decide) ?_
  refine lv_iadd (pc := 549) hx hb d_Law_549 ?_
  refine lw_sld (pc := 550) hx hb hX hbl hS (i + 1) (by omega) (by omega) (nI_add i 1) d_Law_550 ?_
  refine lw_ci (pc := 551) (va_runV (As := [.int (xs (i + 1))]) (rest := [.int (f_GL_output Z st (xs (i + 1)))]) ⟨hx, hb, hml, hown, hts⟩ (c_Mo_output (l := l) hRm hZ ms (xs (i + 1)) _) ⟨callB_of 1 hts (gd_c wd_729) rfl rfl rfl (hts _ wd_9) (hts _ wd_726) hd_Mo_output ⟨Nat.le_of_ble_eq_true rfl, Nat.le_of_ble_eq_true rfl⟩, hts _ wd_727, hts _ wd_728⟩ ⟨rPc_blind _ _ _ _ _ _ _ _, rg_rec hKm hQ 0 (by omega) mgx_M rfl, rPc_at _ hQ hKm hN⟩ rfl rfl hl.1 rfl (lv_room (Nat.le_of_ble_eq_true rfl)) d_Law_551 ⟨Nat.le_of_ble_eq_true rfl, Nat.le_of_ble_eq_true rfl⟩) hS hAm hP hXM (fun H locs hQ hP hS => ?_)
  have hans := h_output k st ms (xs (i + 1)) hs hk
  refine lv_icmp_eq (tgt := 666) (pc := 554) hx hb d_Law_554 (by decide) (fun c_1 => ?_) (fun c_1 => absurd hans c_1)
  exact kk st ms H locs ls (h_skip k st ms hs hk) hP hQ hS hl

set_option maxRecDepth 100000 in
set_option maxHeartbeats 4000000 in
theorem law_burning {p : Program} {l : Launch} {e : Env} {s : State} {m : MethodId} {below : List Frame} {meth : Method} {c : Code} {D : va_G} {cX cM : Nat → ClassId} {Z b L : Nat} {adX adM : Nat → Nat} {xs : Nat → Int32} {Sim : Nat → xS → mS → Prop} (hZ : 1 ≤ Z ∧ Z ≤ 6) (C0 : lw_At p s m meth c b L xs) (hN : nst s) (hL : L ≤ 2561) (hRx : rD (36 + Z) adX) (hRm : rD 19 adM) (hAx : ∀ i, i < 36 + Z → s.heap.size ≤ adX i) (hAm : ∀ i, i < 19 → s.heap.size ≤ adM i) (hXM : ∀ i j, i < 36 + Z → j < 19 → adX i ≠ adM j) (hKx : va_K D clG (tyX cX) s) (hKm : va_K D clG (tyM cM) s) (hSim : LawOK Z Sim) (i k : Nat) (hi : i + 5 ≤ L) (hk : k ≤ 511) (st : xS) (ms : mS) (hs : Sim k st ms) (H : Heap) (locs : List Loc) (ls : Array Slot) (hP : va_P D clG (pw (36 + Z) adX (xgx Z adX cX st)) H) (hQ : va_P D clG (pw 19 adM (mgx Z adM cM ms)) H) (hS : va_S (fun q => s.heap.size ≤ q) s.heap H locs) (hl : lv_has ls 4 [(0, .ref b), (1, .ref (adX 0)), (2, .ref (adM 0)), (3, .int (nI i))]) (kk : ∀ (st : xS) (ms : mS) (H : Heap) (locs : List Loc) (ls : Array Slot), Sim (k + 1) st ms → va_P D clG (pw (36 + Z) adX (xgx Z adX cX st)) H → va_P D clG (pw 19 adM (mgx Z adM cM ms)) H → va_S (fun q => s.heap.size ≤ q) s.heap H locs → lv_has ls 4 [(0, .ref b), (1, .ref (adX 0)), (2, .ref (adM 0)), (3, .int (nI i))] → W p l e room_1 s m #[Value.ref b] below meth c H locs 673831 7080755 (lw_Z below #[Value.ref b] s) (F0 m 666 ls [])) : W p l e room_1 s m #[Value.ref b] below meth c H locs 673831 7080755 (lw_Z below #[Value.ref b] s) (F0 m 559 ls []) := by
  obtain ⟨hx, hb, hr, hml, hown, hts0, hX, hbl, hlocks, hgv⟩ := C0
  have hts : ∀ w ∈ gtb, w.before #[Value.ref b] s = true := fun w h => hts0 w (List.mem_filter.mp h).1
  obtain ⟨h_kind, h_bunker, h_crane, h_grab, h_g2a, h_g2b, h_share, h_air, h_set, h_control, h_burner, h_run, h_bed, h_gas, h_output, h_burning, h_ash, h_balance, h_plan, h_planx, h_planned, h_pdx, h_skip⟩ := hSim
  refine lv_aload_n (pc := 559) hx hb d_Law_559 rfl (lv_at hl 1 rfl) ?_
  refine lw_ci (pc := 560) (va_runV (As := []) (rest := []) ⟨hx, hb, hml, hown, hts⟩ (c_GL_burning (l := l) hRx hZ st _) ⟨callB_of 0 hts (gd_c wd_448) rfl rfl rfl (hts _ wd_1) (hts _ wd_445) hd_GL_burning ⟨Nat.le_of_ble_eq_true rfl, Nat.le_of_ble_eq_true rfl⟩, hts _ wd_446, hts _ wd_447⟩ ⟨rPc_blind _ _ _ _ _ _ _ _, rg_rec hKx hP 0 (by omega) xgx_X rfl, rPc_at _ hP hKx hN⟩ rfl rfl hl.1 rfl (lv_room (Nat.le_of_ble_eq_true rfl)) d_Law_560 ⟨Nat.le_of_ble_eq_true rfl, Nat.le_of_ble_eq_true rfl⟩) hS hAx hQ (fun i j h1 h2 q => hXM j i h2 h1 q.symm) (fun H locs hP hQ hS => ?_)
  refine lv_aload_n (pc := 563) hx hb d_Law_563 rfl (lv_at hl 2 rfl) ?_
  refine lw_ci (pc := 564) (va_runV (As := []) (rest := [.int (f_GL_burning Z st)]) ⟨hx, hb, hml, hown, hts⟩ (c_Mo_burning (l := l) hRm hZ ms _) ⟨callB_of 0 hts (gd_c wd_733) rfl rfl rfl (hts _ wd_9) (hts _ wd_730) hd_Mo_burning ⟨Nat.le_of_ble_eq_true rfl, Nat.le_of_ble_eq_true rfl⟩, hts _ wd_731, hts _ wd_732⟩ ⟨rPc_blind _ _ _ _ _ _ _ _, rg_rec hKm hQ 0 (by omega) mgx_M rfl, rPc_at _ hQ hKm hN⟩ rfl rfl hl.1 rfl (lv_room (Nat.le_of_ble_eq_true rfl)) d_Law_564 ⟨Nat.le_of_ble_eq_true rfl, Nat.le_of_ble_eq_true rfl⟩) hS hAm hP hXM (fun H locs hQ hP hS => ?_)
  have hans := h_burning k st ms hs hk
  refine lv_icmp_eq (tgt := 666) (pc := 567) hx hb d_Law_567 (by decide) (fun c_1 => ?_) (fun c_1 => absurd hans c_1)
  exact kk st ms H locs ls (h_skip k st ms hs hk) hP hQ hS hl

set_option maxRecDepth 100000 in
set_option maxHeartbeats 4000000 in
theorem law_ash {p : Program} {l : Launch} {e : Env} {s : State} {m : MethodId} {below : List Frame} {meth : Method} {c : Code} {D : va_G} {cX cM : Nat → ClassId} {Z b L : Nat} {adX adM : Nat → Nat} {xs : Nat → Int32} {Sim : Nat → xS → mS → Prop} (hZ : 1 ≤ Z ∧ Z ≤ 6) (C0 : lw_At p s m meth c b L xs) (hN : nst s) (hL : L ≤ 2561) (hRx : rD (36 + Z) adX) (hRm : rD 19 adM) (hAx : ∀ i, i < 36 + Z → s.heap.size ≤ adX i) (hAm : ∀ i, i < 19 → s.heap.size ≤ adM i) (hXM : ∀ i j, i < 36 + Z → j < 19 → adX i ≠ adM j) (hKx : va_K D clG (tyX cX) s) (hKm : va_K D clG (tyM cM) s) (hSim : LawOK Z Sim) (i k : Nat) (hi : i + 5 ≤ L) (hk : k ≤ 511) (st : xS) (ms : mS) (hs : Sim k st ms) (H : Heap) (locs : List Loc) (ls : Array Slot) (hP : va_P D clG (pw (36 + Z) adX (xgx Z adX cX st)) H) (hQ : va_P D clG (pw 19 adM (mgx Z adM cM ms)) H) (hS : va_S (fun q => s.heap.size ≤ q) s.heap H locs) (hl : lv_has ls 4 [(0, .ref b), (1, .ref (adX 0)), (2, .ref (adM 0)), (3, .int (nI i))]) (kk : ∀ (st : xS) (ms : mS) (H : Heap) (locs : List Loc) (ls : Array Slot), Sim (k + 1) st ms → va_P D clG (pw (36 + Z) adX (xgx Z adX cX st)) H → va_P D clG (pw 19 adM (mgx Z adM cM ms)) H → va_S (fun q => s.heap.size ≤ q) s.heap H locs → lv_has ls 4 [(0, .ref b), (1, .ref (adX 0)), (2, .ref (adM 0)), (3, .int (nI i))] → W p l e room_1 s m #[Value.ref b] below meth c H locs 673831 7080755 (lw_Z below #[Value.ref b] s) (F0 m 666 ls [])) : W p l e room_1 s m #[Value.ref b] below meth c H locs 673831 7080755 (lw_Z below #[Value.ref b] s) (F0 m 572 ls []) := by
  obtain ⟨hx, hb, hr, hml, hown, hts0, hX, hbl, hlocks, hgv⟩ := C0
  have hts : ∀ w ∈ gtb, w.before #[Value.ref b] s = true := fun w h => hts0 w (List.mem_filter.mp h).1
  obtain ⟨h_kind, h_bunker, h_crane, h_grab, h_g2a, h_g2b, h_share, h_air, h_set, h_control, h_burner, h_run, h_bed, h_gas, h_output, h_burning, h_ash, h_balance, h_plan, h_planx, h_planned, h_pdx, h_skip⟩ := hSim
  refine lv_aload_n (pc := 572) hx hb d_Law_572 rfl (lv_at hl 1 rfl) ?_
  refine lv_aload_n (pc := 573) hx hb d_Law_573 rfl (lv_at hl 0 rfl) ?_
  refine lv_iload_n (pc := 574) hx hb d_Law_574 rfl (lv_at hl 3 rfl) ?_
  refine lv_iconst (v := 1) (pc := 575) hx hb d_Law_575 (by decide) ?_
  refine lv_iadd (pc := 576) hx hb d_Law_576 ?_
  refine lw_sld (pc := 577) hx hb hX hbl hS (i + 1) (by omega) (by omega) (nI_add i 1) d_Law_577 ?_
  refine lw_cl (pc := 578) (va_runV (As := [.int (xs (i + 1))]) (rest := []) ⟨hx, hb, hml, hown, hts⟩ (c_GL_ash (l := l) hRx hZ st (xs (i + 1)) _) ⟨callB_of 1 hts (gd_c wd_452) rfl rfl rfl (hts _ wd_1) (hts _ wd_449) hd_GL_ash ⟨Nat.le_of_ble_eq_true rfl, Nat.le_of_ble_eq_true rfl⟩, hts _ wd_450, hts _ wd_451⟩ ⟨rPc_blind _ _ _ _ _ _ _ _, rg_rec hKx hP 0 (by omega) xgx_X rfl, rPc_at _ hP hKx hN⟩ rfl rfl hl.1 rfl (lv_room (Nat.le_of_ble_eq_true rfl)) d_Law_578 ⟨Nat.le_of_ble_eq_true rfl, Nat.le_of_ble_eq_true rfl⟩) hS hAx hQ (fun i j h1 h2 q => hXM j i h2 h1 q.symm) (fun H locs hP hQ hS => ?_)
  refine lv_aload_n (pc := 581) hx hb d_Law_581 rfl (lv_at hl 2 rfl) ?_
  refine lv_aload_n (pc := 582) hx hb d_Law_582 rfl (lv_at hl 0 rfl) ?_
  refine lv_iload_n (pc := 583) hx hb d_Law_583 rfl (lv_at hl 3 rfl) ?_
  refine lv_iconst (v := 1) (pc := 584) hx hb d_Law_584 (by decide) ?_
  refine lv_iadd (pc := 585) hx hb d_Law_585 ?_
  refine lw_sld (pc := 586) hx hb hX hbl hS (i + 1) (by omega) (by omega) (nI_add i 1) d_Law_586 ?_
  refine lw_cl (pc := 587) (va_runV (As := [.int (xs (i + 1))]) (rest := [.long (f_GL_ash Z st (xs (i + 1)))]) ⟨hx, hb, hml, hown, hts⟩ (c_Mo_ash (l := l) hRm hZ ms (xs (i + 1)) _) ⟨callB_of 1 hts (gd_c wd_737) rfl rfl rfl (hts _ wd_9) (hts _ wd_734) hd_Mo_ash ⟨Nat.le_of_ble_eq_true rfl, Nat.le_of_ble_eq_true rfl⟩, hts _ wd_735, hts _ wd_736⟩ ⟨rPc_blind _ _ _ _ _ _ _ _, rg_rec hKm hQ 0 (by omega) mgx_M rfl, rPc_at _ hQ hKm hN⟩ rfl rfl hl.1 rfl (lv_room (Nat.le_of_ble_eq_true rfl)) d_Law_587 ⟨Nat.le_of_ble_eq_true rfl, Nat.le_of_ble_eq_true rfl⟩) hS hAm hP hXM (fun H locs hQ hP hS => ?_)
  have hans := h_ash k st ms (xs (i + 1)) hs hk
  refine W.lcmp (pc := 590) hx hb d_Law_590 ?_
  refine lv_if_eq (tgt := 666) (pc := 591) hx hb d_Law_591 (by decide) (fun c_1 => ?_) (fun c_1 => absurd ((lg_cmp_eq _ _).mpr hans) c_1)
  exact kk st ms H locs ls (h_skip k st ms hs hk) hP hQ hS hl

set_option maxRecDepth 100000 in
set_option maxHeartbeats 4000000 in
theorem law_balance {p : Program} {l : Launch} {e : Env} {s : State} {m : MethodId} {below : List Frame} {meth : Method} {c : Code} {D : va_G} {cX cM : Nat → ClassId} {Z b L : Nat} {adX adM : Nat → Nat} {xs : Nat → Int32} {Sim : Nat → xS → mS → Prop} (hZ : 1 ≤ Z ∧ Z ≤ 6) (C0 : lw_At p s m meth c b L xs) (hN : nst s) (hL : L ≤ 2561) (hRx : rD (36 + Z) adX) (hRm : rD 19 adM) (hAx : ∀ i, i < 36 + Z → s.heap.size ≤ adX i) (hAm : ∀ i, i < 19 → s.heap.size ≤ adM i) (hXM : ∀ i j, i < 36 + Z → j < 19 → adX i ≠ adM j) (hKx : va_K D clG (tyX cX) s) (hKm : va_K D clG (tyM cM) s) (hSim : LawOK Z Sim) (i k : Nat) (hi : i + 5 ≤ L) (hk : k ≤ 511) (st : xS) (ms : mS) (hs : Sim k st ms) (H : Heap) (locs : List Loc) (ls : Array Slot) (hP : va_P D clG (pw (36 + Z) adX (xgx Z adX cX st)) H) (hQ : va_P D clG (pw 19 adM (mgx Z adM cM ms)) H) (hS : va_S (fun q => s.heap.size ≤ q) s.heap H locs) (hl : lv_has ls 4 [(0, .ref b), (1, .ref (adX 0)), (2, .ref (adM 0)), (3, .int (nI i))]) (kk : ∀ (st : xS) (ms : mS) (H : Heap) (locs : List Loc) (ls : Array Slot), Sim (k + 1) st ms → va_P D clG (pw (36 + Z) adX (xgx Z adX cX st)) H → va_P D clG (pw 19 adM (mgx Z adM cM ms)) H → va_S (fun q => s.heap.size ≤ q) s.heap H locs → lv_has ls 4 [(0, .ref b), (1, .ref (adX 0)), (2, .ref (adM 0)), (3, .int (nI i))] → W p l e room_1 s m #[Value.ref b] below meth c H locs 673831 7080755 (lw_Z below #[Value.ref b] s) (F0 m 666 ls [])) : W p l e room_1 s m #[Value.ref b] below meth c H locs 673831 7080755 (lw_Z below #[Value.ref b] s) (F0 m 596 ls []) := by
  obtain ⟨hx, hb, hr, hml, hown, hts0, hX, hbl, hlocks, hgv⟩ := C0
  have hts : ∀ w ∈ gtb, w.before #[Value.ref b] s = true := fun w h => hts0 w (List.mem_filter.mp h).1
  obtain ⟨h_kind, h_bunker, h_crane, h_grab, h_g2a, h_g2b, h_share, h_air, h_set, h_control, h_burner, h_run, h_bed, h_gas, h_output, h_burning, h_ash, h_balance, h_plan, h_planx, h_planned, h_pdx, h_skip⟩ := hSim
  refine lv_aload_n (pc := 596) hx hb d_Law_596 rfl (lv_at hl 1 rfl) ?_
  refine lv_aload_n (pc := 597) hx hb d_Law_597 rfl (lv_at hl 0 rfl) ?_
  refine lv_iload_n (pc := 598) hx hb d_Law_598 rfl (lv_at hl 3 rfl) ?_
  refine lv_iconst (v := 1) (pc := 599) hx hb d_Law_599 (by decide) ?_
  refine lv_iadd (pc := 600) hx hb d_Law_600 ?_
  refine lw_sld (pc := 601) hx hb hX hbl hS (i + 1) (by omega) (by omega) (nI_add i 1) d_Law_601 ?_
  refine lw_cl (pc := 602) (va_runV (As := [.int (xs (i + 1))]) (rest := []) ⟨hx, hb, hml, hown, hts⟩ (c_GL_balance (l := l) hRx hZ st (xs (i + 1)) _) ⟨callB_of 1 hts (gd_c wd_456) rfl rfl rfl (hts _ wd_1) (hts _ wd_453) hd_GL_balance ⟨Nat.le_of_ble_eq_true rfl, Nat.le_of_ble_eq_true rfl⟩, hts _ wd_454, hts _ wd_455⟩ ⟨rPc_blind _ _ _ _ _ _ _ _, rg_rec hKx hP 0 (by omega) xgx_X rfl, rPc_at _ hP hKx hN⟩ rfl rfl hl.1 rfl (lv_room (Nat.le_of_ble_eq_true rfl)) d_Law_602 ⟨Nat.le_of_ble_eq_true rfl, Nat.le_of_ble_eq_true rfl⟩) hS hAx hQ (fun i j h1 h2 q => hXM j i h2 h1 q.symm) (fun H locs hP hQ hS => ?_)
  refine lv_aload_n (pc := 605) hx hb d_Law_605 rfl (lv_at hl 2 rfl) ?_
  refine lv_aload_n (pc := 606) hx hb d_Law_606 rfl (lv_at hl 0 rfl) ?_
  refine lv_iload_n (pc := 607) hx hb d_Law_607 rfl (lv_at hl 3 rfl) ?_
  refine lv_iconst (v := 1) (pc := 608) hx hb d_Law_608 (by decide) ?_
  refine lv_iadd (pc := 609) hx hb d_Law_609 ?_
  refine lw_sld (pc := 610) hx hb hX hbl hS (i + 1) (by omega) (by omega) (nI_add i 1) d_Law_610 ?_
  refine lw_cl (pc := 611) (va_runV (As := [.int (xs (i + 1))]) (rest := [.long (f_GL_balance Z st (xs (i + 1)))]) ⟨hx, hb, hml, hown, hts⟩ (c_Mo_balance (l := l) hRm hZ ms (xs (i + 1)) _) ⟨callB_of 1 hts (gd_c wd_742) rfl rfl rfl (hts _ wd_9) (hts _ wd_739) hd_Mo_balance ⟨Nat.le_of_ble_eq_true rfl, Nat.le_of_ble_eq_true rfl⟩, hts _ wd_740, hts _ wd_741⟩ ⟨rPc_blind _ _ _ _ _ _ _ _, rg_rec hKm hQ 0 (by omega) mgx_M rfl, rPc_at _ hQ hKm hN⟩ rfl rfl hl.1 rfl (lv_room (Nat.le_of_ble_eq_true rfl)) d_Law_611 ⟨Nat.le_of_ble_eq_true rfl, Nat.le_of_ble_eq_true rfl⟩) hS hAm hP hXM (fun H locs hQ hP hS => ?_)
  have hans := h_balance k st ms (xs (i + 1)) hs hk
  refine W.lcmp (pc := 614) hx hb d_Law_614 ?_
  refine lv_if_eq (tgt := 666) (pc := 615) hx hb d_Law_615 (by decide) (fun c_1 => ?_) (fun c_1 => absurd ((lg_cmp_eq _ _).mpr hans) c_1)
  exact kk st ms H locs ls (h_skip k st ms hs hk) hP hQ hS hl

set_option maxRecDepth 100000 in
set_option maxHeartbeats 4000000 in
theorem law_plan {p : Program} {l : Launch} {e : Env} {s : State} {m : MethodId} {below : List Frame} {meth : Method} {c : Code} {D : va_G} {cX cM : Nat → ClassId} {Z b L : Nat} {adX adM : Nat → Nat} {xs : Nat → Int32} {Sim : Nat → xS → mS → Prop} (hZ : 1 ≤ Z ∧ Z ≤ 6) (C0 : lw_At p s m meth c b L xs) (hN : nst s) (hL : L ≤ 2561) (hRx : rD (36 + Z) adX) (hRm : rD 19 adM) (hAx : ∀ i, i < 36 + Z → s.heap.size ≤ adX i) (hAm : ∀ i, i < 19 → s.heap.size ≤ adM i) (hXM : ∀ i j, i < 36 + Z → j < 19 → adX i ≠ adM j) (hKx : va_K D clG (tyX cX) s) (hKm : va_K D clG (tyM cM) s) (hSim : LawOK Z Sim) (i k : Nat) (hi : i + 5 ≤ L) (hk : k ≤ 511) (st : xS) (ms : mS) (hs : Sim k st ms) (H : Heap) (locs : List Loc) (ls : Array Slot) (hP : va_P D clG (pw (36 + Z) adX (xgx Z adX cX st)) H) (hQ : va_P D clG (pw 19 adM (mgx Z adM cM ms)) H) (hS : va_S (fun q => s.heap.size ≤ q) s.heap H locs) (hl : lv_has ls 4 [(0, .ref b), (1, .ref (adX 0)), (2, .ref (adM 0)), (3, .int (nI i))]) (kk : ∀ (st : xS) (ms : mS) (H : Heap) (locs : List Loc) (ls : Array Slot), Sim (k + 1) st ms → va_P D clG (pw (36 + Z) adX (xgx Z adX cX st)) H → va_P D clG (pw 19 adM (mgx Z adM cM ms)) H → va_S (fun q => s.heap.size ≤ q) s.heap H locs → lv_has ls 4 [(0, .ref b), (1, .ref (adX 0)), (2, .ref (adM 0)), (3, .int (nI i))] → W p l e room_1 s m #[Value.ref b] below meth c H locs 673831 7080755 (lw_Z below #[Value.ref b] s) (F0 m 666 ls [])) : W p l e room_1 s m #[Value.ref b] below meth c H locs 673831 7080755 (lw_Z below #[Value.ref b] s) (F0 m 620 ls []) := by
  obtain ⟨hx, hb, hr, hml, hown, hts0, hX, hbl, hlocks, hgv⟩ := C0
  have hts : ∀ w ∈ gtb, w.before #[Value.ref b] s = true := fun w h => hts0 w (List.mem_filter.mp h).1
  obtain ⟨h_kind, h_bunker, h_crane, h_grab, h_g2a, h_g2b, h_share, h_air, h_set, h_control, h_burner, h_run, h_bed, h_gas, h_output, h_burning, h_ash, h_balance, h_plan, h_planx, h_planned, h_pdx, h_skip⟩ := hSim
  obtain ⟨qn, hq1, hq2, hq3⟩ := h_planx k st ms hs hk
  refine lv_aload_n (pc := 620) hx hb d_Law_620 rfl (lv_at hl 1 rfl) ?_
  refine lv_aload_n (pc := 621) hx hb d_Law_621 rfl (lv_at hl 0 rfl) ?_
  refine lv_iload_n (pc := 622) hx hb d_Law_622 rfl (lv_at hl 3 rfl) ?_
  refine lv_iconst (v := 1) (pc := 623) hx hb d_Law_623 (by decide) ?_
  refine lv_iadd (pc := 624) hx hb d_Law_624 ?_
  refine lw_sld (pc := 625) hx hb hX hbl hS (i + 1) (by omega) (by omega) (nI_add i 1) d_Law_625 ?_
  refine lw_ci (pc := 626) (va_runV (As := [.int (xs (i + 1))]) (rest := []) ⟨hx, hb, hml, hown, hts⟩ (c_GL_plan (l := l) hRx hZ st (xs (i + 1)) qn hq1 hq2 hq3 _) ⟨callB_of 1 hts (gd_c wd_480) rfl rfl rfl (hts _ wd_1) (hts _ wd_477) hd_GL_plan ⟨Nat.le_of_ble_eq_true rfl, Nat.le_of_ble_eq_true rfl⟩, hts _ wd_478, hts _ wd_479⟩ ⟨rPc_blind _ _ _ _ _ _ _ _, rg_rec hKx hP 0 (by omega) xgx_X rfl, rPc_at _ hP hKx hN⟩ rfl rfl hl.1 rfl (lv_room (Nat.le_of_ble_eq_true rfl)) d_Law_626 ⟨Nat.le_of_ble_eq_true rfl, Nat.le_of_ble_eq_true rfl⟩) hS hAx hQ (fun i j h1 h2 q => hXM j i h2 h1 q.symm) (fun H locs hP hQ hS => ?_)
  refine lv_aload_n (pc := 629) hx hb d_Law_629 rfl (lv_at hl 2 rfl) ?_
  refine lv_aload_n (pc := 630) hx hb d_Law_630 rfl (lv_at hl 0 rfl) ?_
  refine lv_iload_n (pc := 631) hx hb d_Law_631 rfl (lv_at hl 3 rfl) ?_
  refine lv_iconst (v := 1) (pc := 632) hx hb d_Law_632 (by decide) ?_
  refine lv_iadd (pc := 633) hx hb d_Law_633 ?_
  refine lw_sld (pc := 634) hx hb hX hbl hS (i + 1) (by omega) (by omega) (nI_add i 1) d_Law_634 ?_
  refine lw_ci (pc := 635) (va_runV (As := [.int (xs (i + 1))]) (rest := [.int ((f_GL_plan Z st (xs (i + 1)) qn).1)]) ⟨hx, hb, hml, hown, hts⟩ (c_Mo_plan (l := l) hRm hZ ms (xs (i + 1)) _) ⟨callB_of 1 hts (gd_c wd_746) rfl rfl rfl (hts _ wd_9) (hts _ wd_743) hd_Mo_plan ⟨Nat.le_of_ble_eq_true rfl, Nat.le_of_ble_eq_true rfl⟩, hts _ wd_744, hts _ wd_745⟩ ⟨rPc_blind _ _ _ _ _ _ _ _, rg_rec hKm hQ 0 (by omega) mgx_M rfl, rPc_at _ hQ hKm hN⟩ rfl rfl hl.1 rfl (lv_room (Nat.le_of_ble_eq_true rfl)) d_Law_635 ⟨Nat.le_of_ble_eq_true rfl, Nat.le_of_ble_eq_true rfl⟩) hS hAm hP hXM (fun H locs hQ hP hS => ?_)
  have hans := h_plan k st ms (xs (i + 1)) qn hs hk hq1 hq2
  refine lv_icmp_eq (tgt := 666) (pc := 638) hx hb d_Law_638 (by decide) (fun c_1 => ?_) (fun c_1 => absurd hans.1 c_1)
  exact kk _ _ H locs ls hans.2 hP hQ hS hl

set_option maxRecDepth 100000 in
set_option maxHeartbeats 4000000 in
theorem law_planned {p : Program} {l : Launch} {e : Env} {s : State} {m : MethodId} {below : List Frame} {meth : Method} {c : Code} {D : va_G} {cX cM : Nat → ClassId} {Z b L : Nat} {adX adM : Nat → Nat} {xs : Nat → Int32} {Sim : Nat → xS → mS → Prop} (hZ : 1 ≤ Z ∧ Z ≤ 6) (C0 : lw_At p s m meth c b L xs) (hN : nst s) (hL : L ≤ 2561) (hRx : rD (36 + Z) adX) (hRm : rD 19 adM) (hAx : ∀ i, i < 36 + Z → s.heap.size ≤ adX i) (hAm : ∀ i, i < 19 → s.heap.size ≤ adM i) (hXM : ∀ i j, i < 36 + Z → j < 19 → adX i ≠ adM j) (hKx : va_K D clG (tyX cX) s) (hKm : va_K D clG (tyM cM) s) (hSim : LawOK Z Sim) (i k : Nat) (hi : i + 5 ≤ L) (hk : k ≤ 511) (st : xS) (ms : mS) (hs : Sim k st ms) (H : Heap) (locs : List Loc) (ls : Array Slot) (hP : va_P D clG (pw (36 + Z) adX (xgx Z adX cX st)) H) (hQ : va_P D clG (pw 19 adM (mgx Z adM cM ms)) H) (hS : va_S (fun q => s.heap.size ≤ q) s.heap H locs) (hl : lv_has ls 4 [(0, .ref b), (1, .ref (adX 0)), (2, .ref (adM 0)), (3, .int (nI i))]) (kk : ∀ (st : xS) (ms : mS) (H : Heap) (locs : List Loc) (ls : Array Slot), Sim (k + 1) st ms → va_P D clG (pw (36 + Z) adX (xgx Z adX cX st)) H → va_P D clG (pw 19 adM (mgx Z adM cM ms)) H → va_S (fun q => s.heap.size ≤ q) s.heap H locs → lv_has ls 4 [(0, .ref b), (1, .ref (adX 0)), (2, .ref (adM 0)), (3, .int (nI i))] → W p l e room_1 s m #[Value.ref b] below meth c H locs 673831 7080755 (lw_Z below #[Value.ref b] s) (F0 m 666 ls [])) : W p l e room_1 s m #[Value.ref b] below meth c H locs 673831 7080755 (lw_Z below #[Value.ref b] s) (F0 m 643 ls []) := by
  obtain ⟨hx, hb, hr, hml, hown, hts0, hX, hbl, hlocks, hgv⟩ := C0
  have hts : ∀ w ∈ gtb, w.before #[Value.ref b] s = true := fun w h => hts0 w (List.mem_filter.mp h).1
  obtain ⟨h_kind, h_bunker, h_crane, h_grab, h_g2a, h_g2b, h_share, h_air, h_set, h_control, h_burner, h_run, h_bed, h_gas, h_output, h_burning, h_ash, h_balance, h_plan, h_planx, h_planned, h_pdx, h_skip⟩ := hSim
  obtain ⟨gn, hg1, hg2, hg3⟩ := h_pdx k st ms hs hk
  refine lv_aload_n (pc := 643) hx hb d_Law_643 rfl (lv_at hl 1 rfl) ?_
  refine lv_aload_n (pc := 644) hx hb d_Law_644 rfl (lv_at hl 0 rfl) ?_
  refine lv_iload_n (pc := 645) hx hb d_Law_645 rfl (lv_at hl 3 rfl) ?_
  refine lv_iconst (v := 1) (pc := 646) hx hb d_Law_646 (by decide) ?_
  refine lv_iadd (pc := 647) hx hb d_Law_647 ?_
  refine lw_sld (pc := 648) hx hb hX hbl hS (i + 1) (by omega) (by omega) (nI_add i 1) d_Law_648 ?_
  refine lw_ci (pc := 649) (va_runV (As := [.int (xs (i + 1))]) (rest := []) ⟨hx, hb, hml, hown, hts⟩ (c_GL_planned (l := l) hRx hZ st (xs (i + 1)) gn hg1 hg3 _) ⟨callB_of 1 hts (gd_c wd_518) rfl rfl rfl (hts _ wd_1) (hts _ wd_515) hd_GL_planned ⟨Nat.le_of_ble_eq_true rfl, Nat.le_of_ble_eq_true rfl⟩, hts _ wd_516, hts _ wd_517⟩ ⟨rPc_blind _ _ _ _ _ _ _ _, rg_rec hKx hP 0 (by omega) xgx_X rfl, rPc_at _ hP hKx hN⟩ rfl rfl hl.1 rfl (lv_room (Nat.le_of_ble_eq_true rfl)) d_Law_649 ⟨Nat.le_of_ble_eq_true rfl, Nat.le_of_ble_eq_true rfl⟩) hS hAx hQ (fun i j h1 h2 q => hXM j i h2 h1 q.symm) (fun H locs hP hQ hS => ?_)
  refine lv_aload_n (pc := 652) hx hb d_Law_652 rfl (lv_at hl 2 rfl) ?_
  refine lv_aload_n (pc := 653) hx hb d_Law_653 rfl (lv_at hl 0 rfl) ?_
  refine lv_iload_n (pc := 654) hx hb d_Law_654 rfl (lv_at hl 3 rfl) ?_
  refine lv_iconst (v := 1) (pc := 655) hx hb d_Law_655 (by decide) ?_
  refine lv_iadd (pc := 656) hx hb d_Law_656 ?_
  refine lw_sld (pc := 657) hx hb hX hbl hS (i + 1) (by omega) (by omega) (nI_add i 1) d_Law_657 ?_
  refine lw_ci (pc := 658) (va_runV (As := [.int (xs (i + 1))]) (rest := [.int (f_GL_planned Z st (xs (i + 1)))]) ⟨hx, hb, hml, hown, hts⟩ (c_Mo_planned (l := l) hRm hZ ms (xs (i + 1)) gn hg2 hg3 _) ⟨callB_of 1 hts (gd_c wd_758) rfl rfl rfl (hts _ wd_9) (hts _ wd_755) hd_Mo_planned ⟨Nat.le_of_ble_eq_true rfl, Nat.le_of_ble_eq_true rfl⟩, hts _ wd_756, hts _ wd_757⟩ ⟨rPc_blind _ _ _ _ _ _ _ _, rg_rec hKm hQ 0 (by omega) mgx_M rfl, rPc_at _ hQ hKm hN⟩ rfl rfl hl.1 rfl (lv_room (Nat.le_of_ble_eq_true rfl)) d_Law_658 ⟨Nat.le_of_ble_eq_true rfl, Nat.le_of_ble_eq_true rfl⟩) hS hAm hP hXM (fun H locs hQ hP hS => ?_)
  have hans := h_planned k st ms (xs (i + 1)) hs hk
  refine lv_icmp_eq (tgt := 666) (pc := 661) hx hb d_Law_661 (by decide) (fun c_1 => ?_) (fun c_1 => absurd hans c_1)
  exact kk st ms H locs ls (h_skip k st ms hs hk) hP hQ hS hl
