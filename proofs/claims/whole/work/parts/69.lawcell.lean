/-- what the law's cell(script, 0) answers -/
def c0 (L : Nat) (xs : Nat → Int32) : Int32 := if 0 < L then xs 0 else 0
set_option maxRecDepth 100000 in
set_option maxHeartbeats 4000000 in
theorem h_Law_cell {l : Launch} (b L : Nat) (xs : Nat → Int32) (hL : L ≤ 2561) : RH l y_Law_cell (mws y_Law_cell b_Law_cell 2 (some .int)) ({ frames := 0, cells := 0, slots := 0, locals := 0 } : Room) (fun U => b < U.heap.size ∧ va_X b L xs U U.heap) [.ref b, .int 0] (c0 L xs) := by
  refine RH_of (cc := b_Law_cell) (maxL := 2) (ret := (some .int)) (by decide) (Nat.le_of_ble_eq_true rfl) ?_
  intro p e s m args below meth c ls C hX hl
  obtain ⟨⟨hx, hb, hml, hown, hts⟩, hr, hlocks, hN⟩ := id C
  obtain ⟨hbl, hX⟩ := hX
  have hr : meth.sig.returnType = (some .int) := hr
  have hl : lv_has ls 2 [(0, .ref b), (1, .int 0)] := hl
  have hS : va_S (fun q : Nat => s.heap.size ≤ q) s.heap s.heap [] := va_S.rf
  refine lv_iload_n (pc := 0) hx hb d_Law_cell_0 rfl (lv_at hl 1 rfl) ?_
  refine lv_aload_n (pc := 1) hx hb d_Law_cell_1 rfl (lv_at hl 0 rfl) ?_
  refine va_slen (pc := 2) hx hb hX hbl (Nat.not_le.mpr hbl) hS d_Law_cell_2 ?_
  refine lv_icmp_ge (tgt := 12) (pc := 3) hx hb d_Law_cell_3 (by decide) (fun c_1 => ?_) (fun c_1 => ?_)
  · have h0 : ¬ 0 < L := fun q => nI_nle q (by omega) c_1
    refine lv_iconst (v := 0) (pc := 12) hx hb d_Law_cell_12 (by decide) ?_
    exact rh_zret (pc := 13) hx hb hr hlocks rfl (by unfold c0; rw [if_neg h0]) d_Law_cell_13
  · have h0 : 0 < L := by
      rcases Nat.eq_zero_or_pos L with q | q
      · subst q
        exact absurd (by decide) c_1
      · exact q
    refine lv_aload_n (pc := 6) hx hb d_Law_cell_6 rfl (lv_at hl 0 rfl) ?_
    refine lv_iload_n (pc := 7) hx hb d_Law_cell_7 rfl (lv_at hl 1 rfl) ?_
    refine lw_sld (pc := 8) hx hb hX hbl hS 0 h0 (by omega) rfl d_Law_cell_8 ?_
    refine lv_goto (tgt := 13) (pc := 9) hx hb d_Law_cell_9 (by decide) ?_
    exact rh_zret (pc := 13) hx hb hr hlocks rfl (by unfold c0; rw [if_pos h0]) d_Law_cell_13
