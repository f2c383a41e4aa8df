set_option maxRecDepth 100000 in
set_option maxHeartbeats 4000000 in
/-- THE LAW'S LOOP: k calls done, the i-th int is next; program and reference stand in Sim -/
theorem law_loop {p : Program} {l : Launch} {e : Env} {s : State} {m : MethodId} {below : List Frame} {meth : Method} {c : Code} {D : va_G} {cX cM : Nat → ClassId} {Z b L : Nat} {adX adM : Nat → Nat} {xs : Nat → Int32} {Sim : Nat → xS → mS → Prop} (hZ : 1 ≤ Z ∧ Z ≤ 6) (C0 : lw_At p s m meth c b L xs) (hN : nst s) (hL : L ≤ 2561) (hRx : rD (36 + Z) adX) (hRm : rD 19 adM) (hAx : ∀ i, i < 36 + Z → s.heap.size ≤ adX i) (hAm : ∀ i, i < 19 → s.heap.size ≤ adM i) (hXM : ∀ i j, i < 36 + Z → j < 19 → adX i ≠ adM j) (hKx : va_K D clG (tyX cX) s) (hKm : va_K D clG (tyM cM) s) (hSim : LawOK Z Sim) : ∀ (n i k : Nat) (st : xS) (ms : mS) (H : Heap) (locs : List Loc) (ls : Array Slot), i ≤ L + 5 → L + 1 ≤ i + n → 5 * k + 1 ≤ i → Sim k st ms → va_P D clG (pw (36 + Z) adX (xgx Z adX cX st)) H → va_P D clG (pw 19 adM (mgx Z adM cM ms)) H → va_S (fun q => s.heap.size ≤ q) s.heap H locs → lv_has ls 4 [(0, .ref b), (1, .ref (adX 0)), (2, .ref (adM 0)), (3, .int (nI i))] → W p l e room_1 s m #[Value.ref b] below meth c H locs 673831 7080755 (lw_Z below #[Value.ref b] s) (F0 m 28 ls []) := by
  obtain ⟨hx, hb, hr, hml, hown, hts0, hX, hbl, hlocks, hgv⟩ := id C0
  have hcmp : ∀ i, i ≤ L + 5 → ((nI L - 5 < nI i) ↔ L < i + 5) := fun i hi => by
    have h5 := pk_sub_toInt (a := L) (b := 5) (by omega) (by decide)
    rw [Int32.lt_iff_toInt_lt, show (nI L - 5 : Int32).toInt = (L : Int) - 5 from h5, nI_toInt (by omega)]
    omega
  have hend : ∀ (H : Heap) (locs : List Loc) (ls : Array Slot), va_S (fun q => s.heap.size ≤ q) s.heap H locs → W p l e room_1 s m #[Value.ref b] below meth c H locs 673831 7080755 (lw_Z below #[Value.ref b] s) (F0 m 672 ls []) := fun H locs ls hS => by
    refine lv_iconst (v := 1) (pc := 672) hx hb d_Law_672 (by decide) ?_
    refine va_forget (fun q hq => hS.2.2 q hq) ?_
    exact lw_ret hx hb hr hlocks d_Law_673
  intro n
  induction n with
  | zero =>
    intro i k st ms H locs ls hi hn hki hs hP hQ hS hl
    refine lv_iload_n (pc := 28) hx hb d_Law_28 rfl (lv_at hl 3 rfl) ?_
    refine lv_aload_n (pc := 29) hx hb d_Law_29 rfl (lv_at hl 0 rfl) ?_
    refine va_slen (pc := 30) hx hb hX hbl (Nat.not_le.mpr hbl) hS d_Law_30 ?_
    refine lv_iconst (v := 5) (pc := 31) hx hb d_Law_31 (by decide) ?_
    refine lv_isub (pc := 32) hx hb d_Law_32 ?_
    refine lv_icmp_gt (tgt := 672) (pc := 33) hx hb d_Law_33 (by decide) (fun c_1 => ?_) (fun c_1 => absurd ((hcmp i hi).mpr (by omega)) c_1)
    exact hend H locs ls hS
  | succ n ih =>
    intro i k st ms H locs ls hi hn hki hs hP hQ hS hl
    refine lv_iload_n (pc := 28) hx hb d_Law_28 rfl (lv_at hl 3 rfl) ?_
    refine lv_aload_n (pc := 29) hx hb d_Law_29 rfl (lv_at hl 0 rfl) ?_
    refine va_slen (pc := 30) hx hb hX hbl (Nat.not_le.mpr hbl) hS d_Law_30 ?_
    refine lv_iconst (v := 5) (pc := 31) hx hb d_Law_31 (by decide) ?_
    refine lv_isub (pc := 32) hx hb d_Law_32 ?_
    refine lv_icmp_gt (tgt := 672) (pc := 33) hx hb d_Law_33 (by decide) (fun c_1 => hend H locs ls hS) (fun c_1 => ?_)
    have hiL : i + 5 ≤ L := by
      rcases Nat.lt_or_ge L (i + 5) with q | q
      · exact absurd ((hcmp i hi).mpr q) c_1
      · exact q
    have tail : ∀ (st : xS) (ms : mS) (H : Heap) (locs : List Loc) (ls : Array Slot), Sim (k + 1) st ms → va_P D clG (pw (36 + Z) adX (xgx Z adX cX st)) H → va_P D clG (pw 19 adM (mgx Z adM cM ms)) H → va_S (fun q => s.heap.size ≤ q) s.heap H locs → lv_has ls 4 [(0, .ref b), (1, .ref (adX 0)), (2, .ref (adM 0)), (3, .int (nI i))] → W p l e room_1 s m #[Value.ref b] below meth c H locs 673831 7080755 (lw_Z below #[Value.ref b] s) (F0 m 666 ls []) := fun st ms H locs ls hs hP hQ hS hl => by
      refine lv_iinc (v := nI (i + 5)) (lv' := [(3, .int (nI (i + 5))), (0, .ref b), (1, .ref (adX 0)), (2, .ref (adM 0))]) (pc := 666) hx hb d_Law_666 hl (k := 3) rfl (show nI i + Int32.ofInt 5 = nI (i + 5) from nI_add i 5) (by decide) rfl (fun ls hl => ?_)
      refine lv_goto (tgt := 28) (pc := 669) hx hb d_Law_669 (by decide) ?_
      exact ih (i + 5) (k + 1) st ms H locs ls (by omega) (by omega) (by omega) hs hP hQ hS (lv_sub hl [1, 2, 3, 0] rfl)
    refine lv_aload_n (pc := 36) hx hb d_Law_36 rfl (lv_at hl 0 rfl) ?_
    refine lv_iload_n (pc := 37) hx hb d_Law_37 rfl (lv_at hl 3 rfl) ?_
    refine lw_sld (pc := 38) hx hb hX hbl hS i (by omega) (by omega) rfl d_Law_38 ?_
    refine lv_bipush (v := 31) (pc := 39) hx hb d_Law_39 (by decide) ?_
    refine lv_iand (pc := 41) hx hb d_Law_41 ?_
    obtain ⟨q, hq, eq9⟩ := pk_andE (xs i) (m := 31) 5 (by decide)
    rw [eq9]
    rcases (show q = 0 ∨ q = 1 ∨ q = 2 ∨ q = 3 ∨ q = 4 ∨ q = 5 ∨ q = 6 ∨ q = 7 ∨ q = 8 ∨ q = 9 ∨ q = 10 ∨ q = 11 ∨ q = 12 ∨ q = 13 ∨ q = 14 ∨ q = 15 ∨ q = 16 ∨ q = 17 ∨ 18 ≤ q by omega) with rfl | rfl | rfl | rfl | rfl | rfl | rfl | rfl | rfl | rfl | rfl | rfl | rfl | rfl | rfl | rfl | rfl | rfl | hq18
    · refine lv_tableIn (tgt := 128) (pc := 42) (off := 86) hx hb d_Law_42 (by decide) (by decide) (by decide) (by decide) ?_
      exact law_kind hZ C0 hN hL hRx hRm hAx hAm hXM hKx hKm hSim i k hiL (by omega) st ms hs H locs ls hP hQ hS hl tail
    · refine lv_tableIn (tgt := 171) (pc := 42) (off := 129) hx hb d_Law_42 (by decide) (by decide) (by decide) (by decide) ?_
      exact law_bunker hZ C0 hN hL hRx hRm hAx hAm hXM hKx hKm hSim i k hiL (by omega) st ms hs H locs ls hP hQ hS hl tail
    · refine lv_tableIn (tgt := 214) (pc := 42) (off := 172) hx hb d_Law_42 (by decide) (by decide) (by decide) (by decide) ?_
      exact law_crane hZ C0 hN hL hRx hRm hAx hAm hXM hKx hKm hSim i k hiL (by omega) st ms hs H locs ls hP hQ hS hl tail
    · refine lv_tableIn (tgt := 237) (pc := 42) (off := 195) hx hb d_Law_42 (by decide) (by decide) (by decide) (by decide) ?_
      exact law_grab hZ C0 hN hL hRx hRm hAx hAm hXM hKx hKm hSim i k hiL (by omega) st ms hs H locs ls hP hQ hS hl tail
    · refine lv_tableIn (tgt := 260) (pc := 42) (off := 218) hx hb d_Law_42 (by decide) (by decide) (by decide) (by decide) ?_
      exact law_share hZ C0 hN hL hRx hRm hAx hAm hXM hKx hKm hSim i k hiL (by omega) st ms hs H locs ls hP hQ hS hl tail
    · refine lv_tableIn (tgt := 293) (pc := 42) (off := 251) hx hb d_Law_42 (by decide) (by decide) (by decide) (by decide) ?_
      exact law_air hZ C0 hN hL hRx hRm hAx hAm hXM hKx hKm hSim i k hiL (by omega) st ms hs H locs ls hP hQ hS hl tail
    · refine lv_tableIn (tgt := 336) (pc := 42) (off := 294) hx hb d_Law_42 (by decide) (by decide) (by decide) (by decide) ?_
      exact law_set hZ C0 hN hL hRx hRm hAx hAm hXM hKx hKm hSim i k hiL (by omega) st ms hs H locs ls hP hQ hS hl tail
    · refine lv_tableIn (tgt := 369) (pc := 42) (off := 327) hx hb d_Law_42 (by decide) (by decide) (by decide) (by decide) ?_
      exact law_control hZ C0 hN hL hRx hRm hAx hAm hXM hKx hKm hSim i k hiL (by omega) st ms hs H locs ls hP hQ hS hl tail
    · refine lv_tableIn (tgt := 422) (pc := 42) (off := 380) hx hb d_Law_42 (by decide) (by decide) (by decide) (by decide) ?_
      exact law_burner hZ C0 hN hL hRx hRm hAx hAm hXM hKx hKm hSim i k hiL (by omega) st ms hs H locs ls hP hQ hS hl tail
    · refine lv_tableIn (tgt := 455) (pc := 42) (off := 413) hx hb d_Law_42 (by decide) (by decide) (by decide) (by decide) ?_
      exact law_run hZ C0 hN hL hRx hRm hAx hAm hXM hKx hKm hSim i k hiL (by omega) st ms hs H locs ls hP hQ hS hl tail
    · refine lv_tableIn (tgt := 478) (pc := 42) (off := 436) hx hb d_Law_42 (by decide) (by decide) (by decide) (by decide) ?_
      exact law_bed hZ C0 hN hL hRx hRm hAx hAm hXM hKx hKm hSim i k hiL (by omega) st ms hs H locs ls hP hQ hS hl tail
    · refine lv_tableIn (tgt := 512) (pc := 42) (off := 470) hx hb d_Law_42 (by decide) (by decide) (by decide) (by decide) ?_
      exact law_gas hZ C0 hN hL hRx hRm hAx hAm hXM hKx hKm hSim i k hiL (by omega) st ms hs H locs ls hP hQ hS hl tail
    · refine lv_tableIn (tgt := 536) (pc := 42) (off := 494) hx hb d_Law_42 (by decide) (by decide) (by decide) (by decide) ?_
      exact law_output hZ C0 hN hL hRx hRm hAx hAm hXM hKx hKm hSim i k hiL (by omega) st ms hs H locs ls hP hQ hS hl tail
    · refine lv_tableIn (tgt := 559) (pc := 42) (off := 517) hx hb d_Law_42 (by decide) (by decide) (by decide) (by decide) ?_
      exact law_burning hZ C0 hN hL hRx hRm hAx hAm hXM hKx hKm hSim i k hiL (by omega) st ms hs H locs ls hP hQ hS hl tail
    · refine lv_tableIn (tgt := 572) (pc := 42) (off := 530) hx hb d_Law_42 (by decide) (by decide) (by decide) (by decide) ?_
      exact law_ash hZ C0 hN hL hRx hRm hAx hAm hXM hKx hKm hSim i k hiL (by omega) st ms hs H locs ls hP hQ hS hl tail
    · refine lv_tableIn (tgt := 596) (pc := 42) (off := 554) hx hb d_Law_42 (by decide) (by decide) (by decide) (by decide) ?_
      exact law_balance hZ C0 hN hL hRx hRm hAx hAm hXM hKx hKm hSim i k hiL (by omega) st ms hs H locs ls hP hQ hS hl tail
    · refine lv_tableIn (tgt := 620) (pc := 42) (off := 578) hx hb d_Law_42 (by decide) (by decide) (by decide) (by decide) ?_
      exact law_plan hZ C0 hN hL hRx hRm hAx hAm hXM hKx hKm hSim i k hiL (by omega) st ms hs H locs ls hP hQ hS hl tail
    · refine lv_tableIn (tgt := 643) (pc := 42) (off := 601) hx hb d_Law_42 (by decide) (by decide) (by decide) (by decide) ?_
      exact law_planned hZ C0 hN hL hRx hRm hAx hAm hXM hKx hKm hSim i k hiL (by omega) st ms hs H locs ls hP hQ hS hl tail
    · refine lv_tableOut (tgt := 666) (pc := 42) hx hb d_Law_42 (Or.inr (by rw [nI_toInt (by omega)]; omega)) (by decide) ?_
      have hskip := (hSim.2.2.2.2.2.2.2.2.2.2.2.2.2.2.2.2.2.2.2.2.2.2)
      exact tail st ms H locs ls (hskip k st ms hs (by omega)) hP hQ hS hl
