def lm_g1 (Z : Nat) (cx : Nat) (wt : Int32) (wh : Int32) : Nat → Nat → Int32 → mS → Int32 × mS
  | 0, _, rs, st => (rs, st)
  | n + 1, j, rs, st =>
    if wt ≤ 0 then
      (rs, st)
    else
      lm_g1 Z cx wt wh n (j + 1) (rs - (((((ms_cl st ((4 * cx) + j)).toInt64) * wh.toInt64) / wt.toInt64).toInt32)) (f_Mo_take Z st cx j (((((ms_cl st ((4 * cx) + j)).toInt64) * wh.toInt64) / wt.toInt64).toInt32))
set_option maxRecDepth 100000 in
set_option maxHeartbeats 4000000 in
theorem lm_g1_ok {p : Program} {l : Launch} {e : Env} {s : State} {m : MethodId} {args : Array Value} {below : List Frame} {meth : Method} {c : Code} {D : va_G} {cA : Nat → ClassId} {Z : Nat} {ad : Nat → Nat} {Q : State → Prop} (hR : rD 19 ad) (hZ : 1 ≤ Z ∧ Z ≤ 6) (C : Cx p s m args meth c b_Mo_grab 7 R_Mo (some .int)) (hK : va_K D clG (tyM cA) s) (cx : Nat) (wt : Int32) (wh : Int32) (hcx : cx < 6) : ∀ (n : Nat) (j : Nat) (rs : Int32) (st : mS) (H : Heap) (locs : List Loc) (ls : Array Slot), j + n = 4 → va_P D clG (pw 19 ad (mgx Z ad cA (st))) H → va_S (rA 19 ad s.heap.size) s.heap H locs → lv_has ls 7 [(0, .ref (ad 0)), (1, .int (nI cx)), (2, .int wt), (3, .int wh), (4, .int rs), (5, .int (nI j))] → (∀ (H : Heap) (locs : List Loc) (ls : Array Slot) (x9 : Int32), va_P D clG (pw 19 ad (mgx Z ad cA ((lm_g1 Z cx wt wh n j rs st).2))) H → va_S (rA 19 ad s.heap.size) s.heap H locs → lv_has ls 7 [(0, .ref (ad 0)), (1, .int (nI cx)), (2, .int wt), (3, .int wh), (4, .int ((lm_g1 Z cx wt wh n j rs st).1)), (5, .int x9)] → W p l e ({ frames := 1, cells := 0, slots := 0, locals := 23 } : Room) s m args below meth c H locs 0 0 Q (F0 m 91 ls [])) → W p l e ({ frames := 1, cells := 0, slots := 0, locals := 23 } : Room) s m args below meth c H locs 0 0 Q (F0 m 38 ls []) := by
  obtain ⟨⟨hx, hb, hml, hown, hts⟩, hr, hlocks, hN⟩ := id C
  have hown : s.vm.findClass R_Mo = some m.cls := hown
  have hr : meth.sig.returnType = (some .int) := hr
  intro n
  induction n with
  | zero =>
    intro j rs st H locs ls hn hP hS hl hk
    have hj9 : j = 4 := by omega
    refine lv_iload (pc := 38) hx hb d_Mo_grab_38 (lv_at hl 5 rfl) ?_
    refine lv_iconst (v := 4) (pc := 40) hx hb d_Mo_grab_40 (by decide) ?_
    refine lv_icmp_ge (tgt := 91) (pc := 41) hx hb d_Mo_grab_41 (by decide) (fun c_1 => ?_) (fun c_1 => absurd (by rw [hj9]; decide) c_1)
    exact hk H locs ls _ hP hS (lv_sub hl [0, 1, 2, 3, 4, 5] rfl)
  | succ n ih =>
    intro j rs st H locs ls hn hP hS hl hk
    refine lv_iload (pc := 38) hx hb d_Mo_grab_38 (lv_at hl 5 rfl) ?_
    refine lv_iconst (v := 4) (pc := 40) hx hb d_Mo_grab_40 (by decide) ?_
    refine lv_icmp_ge (tgt := 91) (pc := 41) hx hb d_Mo_grab_41 (by decide) (fun c_1 => absurd c_1 (nI_ge (b := 4) (by omega) (by decide))) (fun c_1 => ?_)
    refine lv_iload_n (pc := 44) hx hb d_Mo_grab_44 rfl (lv_at hl 2 rfl) ?_
    refine lv_if_le (tgt := 91) (pc := 45) hx hb d_Mo_grab_45 (by decide) (fun c_2 => ?_) (fun c_2 => ?_)
    · have hk9 := hk
      unfold lm_g1 at hk9
      rw [if_pos c_2] at hk9
      exact hk9 H locs ls _ hP hS (lv_sub hl [0, 1, 2, 3, 4, 5] rfl)
    · refine lv_aload_n (pc := 48) hx hb d_Mo_grab_48 rfl (lv_at hl 0 rfl) ?_
      refine rg_get (C := R_Mo) (T := T_Mo) (N := 28) (v := .ref (ad 3)) (pc := 49) hx hb hts i_Mo hown hK hP 0 (by omega) mgx_M rfl 3 (by decide) (hts _ wd_531) rfl d_Mo_grab_49 ?_
      refine lv_iconst (v := 4) (pc := 52) hx hb d_Mo_grab_52 (by decide) ?_
      refine lv_iload_n (pc := 53) hx hb d_Mo_grab_53 rfl (lv_at hl 1 rfl) ?_
      refine lv_imul (pc := 54) hx hb d_Mo_grab_54 ?_
      rw [show (4 * (nI cx) : Int32) = nI (4 * cx) from pk_mul _ _]
      refine lv_iload (pc := 55) hx hb d_Mo_grab_55 (lv_at hl 5 rfl) ?_
      refine lv_iadd (pc := 57) hx hb d_Mo_grab_57 ?_
      rw [show ((nI (4 * cx)) + (nI j) : Int32) = nI ((4 * cx) + j) from nI_add _ _]
      refine rg_iald (pc := 58) hx hb hK hP 3 (by omega) 0 mgx_cells rfl ((4 * cx) + j) (by omega) (by omega) rfl d_Mo_grab_58 ?_
      refine lv_i2l (pc := 59) hx hb d_Mo_grab_59 rfl ?_
      refine lv_iload_n (pc := 60) hx hb d_Mo_grab_60 rfl (lv_at hl 3 rfl) ?_
      refine lv_i2l (pc := 61) hx hb d_Mo_grab_61 rfl ?_
      refine lv_lmul (pc := 62) hx hb d_Mo_grab_62 ?_
      refine lv_iload_n (pc := 63) hx hb d_Mo_grab_63 rfl (lv_at hl 2 rfl) ?_
      refine lv_i2l (pc := 64) hx hb d_Mo_grab_64 rfl ?_
      refine lv_ldiv (pc := 65) hx hb d_Mo_grab_65 (nz_i2l c_2) ?_
      refine lv_l2i (pc := 66) hx hb d_Mo_grab_66 rfl ?_
      refine lv_istore (lv' := [(6, .int (((((ms_cl st ((4 * cx) + j)).toInt64) * wh.toInt64) / wt.toInt64).toInt32)), (0, .ref (ad 0)), (1, .int (nI cx)), (2, .int wt), (3, .int wh), (4, .int rs), (5, .int (nI j))]) (pc := 67) hx hb d_Mo_grab_67 hl (by decide) rfl (fun ls hl => ?_)
      refine lv_aload_n (pc := 69) hx hb d_Mo_grab_69 rfl (lv_at hl 1 rfl) ?_
      refine lv_iload_n (pc := 70) hx hb d_Mo_grab_70 rfl (lv_at hl 2 rfl) ?_
      refine lv_iload (pc := 71) hx hb d_Mo_grab_71 (lv_at hl 6 rfl) ?_
      refine lv_iload (pc := 73) hx hb d_Mo_grab_73 (lv_at hl 0 rfl) ?_
      refine rg_cv (pc := 75) (va_runV (As := [.int (nI cx), .int (nI j), .int (((((ms_cl st ((4 * cx) + j)).toInt64) * wh.toInt64) / wt.toInt64).toInt32)]) (rest := []) ⟨hx, hb, hml, hown, hts⟩ (c_Mo_take (l := l) hR hZ st cx (by omega) j (by omega) (((((ms_cl st ((4 * cx) + j)).toInt64) * wh.toInt64) / wt.toInt64).toInt32) _) ⟨callB_of 3 hts (gd_c wd_651) rfl rfl rfl (hts _ wd_9) (hts _ wd_648) hd_Mo_take ⟨Nat.le_of_ble_eq_true rfl, Nat.le_of_ble_eq_true rfl⟩, hts _ wd_650, hts _ wp_12⟩ ⟨rPc_blind _ _ _ _ _ _ _ _, rg_rec hK hP 0 (by omega) mgx_M rfl, rPc_at _ hP hK hN⟩ rfl rfl hl.1 rfl (lv_room (Nat.le_of_ble_eq_true rfl)) d_Mo_grab_75 ⟨Nat.zero_le _, Nat.zero_le _⟩) hS (fun H locs hP hS => ?_)
      refine lv_iload (pc := 78) hx hb d_Mo_grab_78 (lv_at hl 5 rfl) ?_
      refine lv_iload (pc := 80) hx hb d_Mo_grab_80 (lv_at hl 0 rfl) ?_
      refine lv_isub (pc := 82) hx hb d_Mo_grab_82 ?_
      refine lv_istore (lv' := [(4, .int (rs - (((((ms_cl st ((4 * cx) + j)).toInt64) * wh.toInt64) / wt.toInt64).toInt32))), (6, .int (((((ms_cl st ((4 * cx) + j)).toInt64) * wh.toInt64) / wt.toInt64).toInt32)), (0, .ref (ad 0)), (1, .int (nI cx)), (2, .int wt), (3, .int wh), (5, .int (nI j))]) (pc := 83) hx hb d_Mo_grab_83 hl (by decide) rfl (fun ls hl => ?_)
      refine lv_iinc (v := nI (j + 1)) (lv' := [(5, .int (nI (j + 1))), (4, .int (rs - (((((ms_cl st ((4 * cx) + j)).toInt64) * wh.toInt64) / wt.toInt64).toInt32))), (6, .int (((((ms_cl st ((4 * cx) + j)).toInt64) * wh.toInt64) / wt.toInt64).toInt32)), (0, .ref (ad 0)), (1, .int (nI cx)), (2, .int wt), (3, .int wh)]) (pc := 85) hx hb d_Mo_grab_85 hl (k := 6) rfl (nI_1 _) (by decide) rfl (fun ls hl => ?_)
      refine lv_goto (tgt := 38) (pc := 88) hx hb d_Mo_grab_88 (by decide) ?_
      have hk9 := hk
      unfold lm_g1 at hk9
      rw [if_neg c_2] at hk9
      exact ih (j + 1) (rs - (((((ms_cl st ((4 * cx) + j)).toInt64) * wh.toInt64) / wt.toInt64).toInt32)) (f_Mo_take Z st cx j (((((ms_cl st ((4 * cx) + j)).toInt64) * wh.toInt64) / wt.toInt64).toInt32)) _ _ ls (by omega) hP hS (lv_sub hl [3, 4, 5, 6, 1, 0] rfl) hk9
def lm_g2 (Z : Nat) (cx : Nat) (wh : Int32) : Nat → Nat → Int32 → mS → Nat × Int32 × mS
  | 0, k, rs, st => (k, rs, st)
  | n + 1, k, rs, st =>
    if rs ≤ 0 then
      (k, rs, st)
    else
      if (ms_cl st ((4 * cx) + k)) ≤ 0 then
        lm_g2 Z cx wh n ((k + 1) % 4) rs st
      else
        lm_g2 Z cx wh n ((k + 1) % 4) (rs + (-1)) (f_Mo_take Z st cx k 1)
set_option maxRecDepth 100000 in
set_option maxHeartbeats 4000000 in
theorem lm_g2_ok {p : Program} {l : Launch} {e : Env} {s : State} {m : MethodId} {args : Array Value} {below : List Frame} {meth : Method} {c : Code} {D : va_G} {cA : Nat → ClassId} {Z : Nat} {ad : Nat → Nat} {Q : State → Prop} (hR : rD 19 ad) (hZ : 1 ≤ Z ∧ Z ≤ 6) (C : Cx p s m args meth c b_Mo_grab 7 R_Mo (some .int)) (hK : va_K D clG (tyM cA) s) (cx : Nat) (wh : Int32) (hcx : cx < 6) : ∀ (n : Nat) (k : Nat) (rs : Int32) (st : mS) (H : Heap) (locs : List Loc) (ls : Array Slot), (k < 4 ∧ (lm_g2 Z cx wh n k rs st).2.1 ≤ 0) → va_P D clG (pw 19 ad (mgx Z ad cA (st))) H → va_S (rA 19 ad s.heap.size) s.heap H locs → lv_has ls 7 [(0, .ref (ad 0)), (1, .int (nI cx)), (3, .int wh), (4, .int rs), (5, .int (nI k))] → (∀ (H : Heap) (locs : List Loc) (ls : Array Slot), va_P D clG (pw 19 ad (mgx Z ad cA ((lm_g2 Z cx wh n k rs st).2.2))) H → va_S (rA 19 ad s.heap.size) s.heap H locs → lv_has ls 7 [(0, .ref (ad 0)), (1, .int (nI cx)), (3, .int wh), (4, .int ((lm_g2 Z cx wh n k rs st).2.1)), (5, .int (nI (lm_g2 Z cx wh n k rs st).1))] → W p l e ({ frames := 1, cells := 0, slots := 0, locals := 23 } : Room) s m args below meth c H locs 0 0 Q (F0 m 135 ls [])) → W p l e ({ frames := 1, cells := 0, slots := 0, locals := 23 } : Room) s m args below meth c H locs 0 0 Q (F0 m 94 ls []) := by
  obtain ⟨⟨hx, hb, hml, hown, hts⟩, hr, hlocks, hN⟩ := id C
  have hown : s.vm.findClass R_Mo = some m.cls := hown
  have hr : meth.sig.returnType = (some .int) := hr
  intro n
  induction n with
  | zero =>
    intro k rs st H locs ls hn hP hS hl hk
    obtain ⟨hk4, hn2⟩ := hn
    refine lv_iload (pc := 94) hx hb d_Mo_grab_94 (lv_at hl 3 rfl) ?_
    refine lv_if_le (tgt := 135) (pc := 96) hx hb d_Mo_grab_96 (by decide) (fun c_1 => ?_) (fun c_1 => absurd hn2 c_1)
    exact hk H locs ls hP hS (lv_sub hl [0, 1, 2, 3, 4] rfl)
  | succ n ih =>
    intro k rs st H locs ls hn hP hS hl hk
    obtain ⟨hk4, hn2⟩ := hn
    refine lv_iload (pc := 94) hx hb d_Mo_grab_94 (lv_at hl 3 rfl) ?_
    refine lv_if_le (tgt := 135) (pc := 96) hx hb d_Mo_grab_96 (by decide) (fun c_1 => ?_) (fun c_1 => ?_)
    · have hk9 := hk
      unfold lm_g2 at hk9
      rw [if_pos c_1] at hk9
      exact hk9 H locs ls hP hS (lv_sub hl [0, 1, 2, 3, 4] rfl)
    · refine lv_aload_n (pc := 99) hx hb d_Mo_grab_99 rfl (lv_at hl 0 rfl) ?_
      refine rg_get (C := R_Mo) (T := T_Mo) (N := 28) (v := .ref (ad 3)) (pc := 100) hx hb hts i_Mo hown hK hP 0 (by omega) mgx_M rfl 3 (by decide) (hts _ wd_531) rfl d_Mo_grab_100 ?_
      refine lv_iconst (v := 4) (pc := 103) hx hb d_Mo_grab_103 (by decide) ?_
      refine lv_iload_n (pc := 104) hx hb d_Mo_grab_104 rfl (lv_at hl 1 rfl) ?_
      refine lv_imul (pc := 105) hx hb d_Mo_grab_105 ?_
      rw [show (4 * (nI cx) : Int32) = nI (4 * cx) from pk_mul _ _]
      refine lv_iload (pc := 106) hx hb d_Mo_grab_106 (lv_at hl 4 rfl) ?_
      refine lv_iadd (pc := 108) hx hb d_Mo_grab_108 ?_
      rw [show ((nI (4 * cx)) + (nI k) : Int32) = nI ((4 * cx) + k) from nI_add _ _]
      refine rg_iald (pc := 109) hx hb hK hP 3 (by omega) 0 mgx_cells rfl ((4 * cx) + k) (by omega) (by omega) rfl d_Mo_grab_109 ?_
      refine lv_if_le (tgt := 124) (pc := 110) hx hb d_Mo_grab_110 (by decide) (fun c_2 => ?_) (fun c_2 => ?_)
      · refine lv_iload (pc := 124) hx hb d_Mo_grab_124 (lv_at hl 4 rfl) ?_
        refine lv_iconst (v := 1) (pc := 126) hx hb d_Mo_grab_126 (by decide) ?_
        refine lv_iadd (pc := 127) hx hb d_Mo_grab_127 ?_
        rw [show ((nI k) + 1 : Int32) = nI (k + 1) from nI_add _ _]
        refine lv_iconst (v := 4) (pc := 128) hx hb d_Mo_grab_128 (by decide) ?_
        refine lv_irem (pc := 129) hx hb d_Mo_grab_129 (by decide) ?_
        rw [show ((nI (k + 1)) - (nI (k + 1)) / 4 * 4 : Int32) = nI ((k + 1) % 4) from pk_rem (d := 4) (by omega) (by omega) (by omega)]
        refine lv_istore (lv' := [(5, .int (nI ((k + 1) % 4))), (0, .ref (ad 0)), (1, .int (nI cx)), (3, .int wh), (4, .int rs)]) (pc := 130) hx hb d_Mo_grab_130 hl (by decide) rfl (fun ls hl => ?_)
        refine lv_goto (tgt := 94) (pc := 132) hx hb d_Mo_grab_132 (by decide) ?_
        have hk9 := hk
        unfold lm_g2 at hk9
        rw [if_neg c_1, if_pos c_2] at hk9
        exact ih ((k + 1) % 4) rs st _ _ ls ⟨Nat.mod_lt _ (by decide), by have h9 := hn2; unfold lm_g2 at h9; rw [if_neg c_1, if_pos c_2] at h9; exact h9⟩ hP hS (lv_sub hl [1, 2, 3, 4, 0] rfl) hk9
      · refine lv_aload_n (pc := 113) hx hb d_Mo_grab_113 rfl (lv_at hl 0 rfl) ?_
        refine lv_iload_n (pc := 114) hx hb d_Mo_grab_114 rfl (lv_at hl 1 rfl) ?_
        refine lv_iload (pc := 115) hx hb d_Mo_grab_115 (lv_at hl 4 rfl) ?_
        refine lv_iconst (v := 1) (pc := 117) hx hb d_Mo_grab_117 (by decide) ?_
        refine rg_cv (pc := 118) (va_runV (As := [.int (nI cx), .int (nI k), .int 1]) (rest := []) ⟨hx, hb, hml, hown, hts⟩ (c_Mo_take (l := l) hR hZ st cx (by omega) k (by omega) 1 _) ⟨callB_of 3 hts (gd_c wd_651) rfl rfl rfl (hts _ wd_9) (hts _ wd_648) hd_Mo_take ⟨Nat.le_of_ble_eq_true rfl, Nat.le_of_ble_eq_true rfl⟩, hts _ wd_650, hts _ wp_12⟩ ⟨rPc_blind _ _ _ _ _ _ _ _, rg_rec hK hP 0 (by omega) mgx_M rfl, rPc_at _ hP hK hN⟩ rfl rfl hl.1 rfl (lv_room (Nat.le_of_ble_eq_true rfl)) d_Mo_grab_118 ⟨Nat.zero_le _, Nat.zero_le _⟩) hS (fun H locs hP hS => ?_)
        refine lv_iinc (v := rs + (-1)) (lv' := [(4, .int (rs + (-1))), (0, .ref (ad 0)), (1, .int (nI cx)), (3, .int wh), (5, .int (nI k))]) (pc := 121) hx hb d_Mo_grab_121 hl (k := 3) rfl rfl (by decide) rfl (fun ls hl => ?_)
        refine lv_iload (pc := 124) hx hb d_Mo_grab_124 (lv_at hl 4 rfl) ?_
        refine lv_iconst (v := 1) (pc := 126) hx hb d_Mo_grab_126 (by decide) ?_
        refine lv_iadd (pc := 127) hx hb d_Mo_grab_127 ?_
        rw [show ((nI k) + 1 : Int32) = nI (k + 1) from nI_add _ _]
        refine lv_iconst (v := 4) (pc := 128) hx hb d_Mo_grab_128 (by decide) ?_
        refine lv_irem (pc := 129) hx hb d_Mo_grab_129 (by decide) ?_
        rw [show ((nI (k + 1)) - (nI (k + 1)) / 4 * 4 : Int32) = nI ((k + 1) % 4) from pk_rem (d := 4) (by omega) (by omega) (by omega)]
        refine lv_istore (lv' := [(5, .int (nI ((k + 1) % 4))), (4, .int (rs + (-1))), (0, .ref (ad 0)), (1, .int (nI cx)), (3, .int wh)]) (pc := 130) hx hb d_Mo_grab_130 hl (by decide) rfl (fun ls hl => ?_)
        refine lv_goto (tgt := 94) (pc := 132) hx hb d_Mo_grab_132 (by decide) ?_
        have hk9 := hk
        unfold lm_g2 at hk9
        rw [if_neg c_1, if_neg c_2] at hk9
        exact ih ((k + 1) % 4) (rs + (-1)) (f_Mo_take Z st cx k 1) _ _ ls ⟨Nat.mod_lt _ (by decide), by have h9 := hn2; unfold lm_g2 at h9; rw [if_neg c_1, if_neg c_2] at h9; exact h9⟩ hP hS (lv_sub hl [2, 3, 4, 1, 0] rfl) hk9
def f_Mo_grab (Z : Nat) (st : mS) (a : Int32) : Int32 × mS :=
  if (f_Mo_isCell a) = 0 then
    ((-1), st)
  else
    if (f_Mo_weightOf Z st a.toNatClampNeg) ≤ (ms_cr st) then
      (f_Mo_weightOf Z st a.toNatClampNeg, (lm_g2 Z a.toNatClampNeg (f_Mo_weightOf Z st a.toNatClampNeg) 4 0 ((lm_g1 Z a.toNatClampNeg (f_Mo_weightOf Z st a.toNatClampNeg) (f_Mo_weightOf Z st a.toNatClampNeg) 4 0 (f_Mo_weightOf Z st a.toNatClampNeg) st).1) ((lm_g1 Z a.toNatClampNeg (f_Mo_weightOf Z st a.toNatClampNeg) (f_Mo_weightOf Z st a.toNatClampNeg) 4 0 (f_Mo_weightOf Z st a.toNatClampNeg) st).2)).2.2)
    else
      (ms_cr st, (lm_g2 Z a.toNatClampNeg (ms_cr st) 4 0 ((lm_g1 Z a.toNatClampNeg (f_Mo_weightOf Z st a.toNatClampNeg) (ms_cr st) 4 0 (ms_cr st) st).1) ((lm_g1 Z a.toNatClampNeg (f_Mo_weightOf Z st a.toNatClampNeg) (ms_cr st) 4 0 (ms_cr st) st).2)).2.2)
set_option maxRecDepth 100000 in
set_option maxHeartbeats 4000000 in
theorem c_Mo_grab {l : Launch} {D : va_G} {cA : Nat → ClassId} {Z : Nat} {ad : Nat → Nat} (hR : rD 19 ad) (hZ : 1 ≤ Z ∧ Z ≤ 6) (st : mS) (a : Int32) (hg2a : a.toNatClampNeg < 6 → ¬ (f_Mo_weightOf Z st a.toNatClampNeg) ≤ (ms_cr st) → (lm_g2 Z a.toNatClampNeg (ms_cr st) 4 0 (lm_g1 Z a.toNatClampNeg (f_Mo_weightOf Z st a.toNatClampNeg) (ms_cr st) 4 0 (ms_cr st) st).1 (lm_g1 Z a.toNatClampNeg (f_Mo_weightOf Z st a.toNatClampNeg) (ms_cr st) 4 0 (ms_cr st) st).2).2.1 ≤ 0) (hg2b : a.toNatClampNeg < 6 → (f_Mo_weightOf Z st a.toNatClampNeg) ≤ (ms_cr st) → (lm_g2 Z a.toNatClampNeg (f_Mo_weightOf Z st a.toNatClampNeg) 4 0 (lm_g1 Z a.toNatClampNeg (f_Mo_weightOf Z st a.toNatClampNeg) (f_Mo_weightOf Z st a.toNatClampNeg) 4 0 (f_Mo_weightOf Z st a.toNatClampNeg) st).1 (lm_g1 Z a.toNatClampNeg (f_Mo_weightOf Z st a.toNatClampNeg) (f_Mo_weightOf Z st a.toNatClampNeg) 4 0 (f_Mo_weightOf Z st a.toNatClampNeg) st).2).2.1 ≤ 0) : RI l y_Mo_grab (mws y_Mo_grab b_Mo_grab 7 (some .int)) ({ frames := 1, cells := 0, slots := 0, locals := 23 } : Room) D clG (tyM cA) 19 ad (mgx Z ad cA (st)) [.ref (ad 0), .int a] (f_Mo_grab Z st a).1 (mgx Z ad cA ((f_Mo_grab Z st a).2)) := by
  refine RI_of (cc := b_Mo_grab) (maxL := 7) (ret := (some .int)) (by decide) (Nat.le_of_ble_eq_true rfl) ?_
  intro p e s m args below meth c ls C hK hP hS hl
  obtain ⟨⟨hx, hb, hml, hown, hts⟩, hr, hlocks, hN⟩ := id C
  have hown : s.vm.findClass R_Mo = some m.cls := hown
  have hr : meth.sig.returnType = (some .int) := hr
  have hl : lv_has ls 7 [(0, .ref (ad 0)), (1, .int a)] := hl
  refine lv_iload_n (pc := 0) hx hb d_Mo_grab_0 rfl (lv_at hl 1 rfl) ?_
  refine rg_ci (pc := 1) (va_runS (As := [.int a]) (rest := []) ⟨hx, hb, hml, hown, hts⟩ (c_Mo_isCell (l := l) a _) ⟨callB_of 1 hts (gd_c wd_632) rfl rfl rfl (hts _ wd_9) (hts _ wd_630) hd_Mo_isCell ⟨Nat.le_of_ble_eq_true rfl, Nat.le_of_ble_eq_true rfl⟩, hts _ wd_631⟩ ⟨rPc_blind _ _ _ _ _ _ _ _, rPc_at _ hP hK hN⟩ rfl rfl hl.1 rfl (lv_room (Nat.le_of_ble_eq_true rfl)) d_Mo_grab_1 ⟨Nat.zero_le _, Nat.zero_le _⟩) hS (fun H locs hP hS => ?_)
  refine lv_if_ne (tgt := 9) (pc := 4) hx hb d_Mo_grab_4 (by decide) (fun c_1 => ?_) (fun c_1 => ?_)
  · have hax := mat_isCell c_1
    have hax1 := hax.1
    rw [hax.2] at hl
    refine lv_aload_n (pc := 9) hx hb d_Mo_grab_9 rfl (lv_at hl 0 rfl) ?_
    refine lv_iload_n (pc := 10) hx hb d_Mo_grab_10 rfl (lv_at hl 1 rfl) ?_
    refine rg_ci (pc := 11) (va_runV (As := [.int (nI a.toNatClampNeg)]) (rest := []) ⟨hx, hb, hml, hown, hts⟩ (c_Mo_weightOf (l := l) hR hZ st a.toNatClampNeg (by omega) _) ⟨callB_of 1 hts (gd_c wd_637) rfl rfl rfl (hts _ wd_9) (hts _ wd_634) hd_Mo_weightOf ⟨Nat.le_of_ble_eq_true rfl, Nat.le_of_ble_eq_true rfl⟩, hts _ wd_636, hts _ wp_11⟩ ⟨rPc_blind _ _ _ _ _ _ _ _, rg_rec hK hP 0 (by omega) mgx_M rfl, rPc_at _ hP hK hN⟩ rfl rfl hl.1 rfl (lv_room (Nat.le_of_ble_eq_true rfl)) d_Mo_grab_11 ⟨Nat.zero_le _, Nat.zero_le _⟩) hS (fun H locs hP hS => ?_)
    refine lv_istore_n (lv' := [(2, .int (f_Mo_weightOf Z st a.toNatClampNeg)), (0, .ref (ad 0)), (1, .int (nI a.toNatClampNeg))]) (pc := 14) hx hb d_Mo_grab_14 rfl hl (by decide) rfl (fun ls hl => ?_)
    refine lv_aload_n (pc := 15) hx hb d_Mo_grab_15 rfl (lv_at hl 1 rfl) ?_
    refine rg_get (C := R_Mo) (T := T_Mo) (N := 28) (v := .int (ms_cr st)) (pc := 16) hx hb hts i_Mo hown hK hP 0 (by omega) mgx_M rfl 4 (by decide) (hts _ wd_532) rfl d_Mo_grab_16 ?_
    refine lv_iload_n (pc := 19) hx hb d_Mo_grab_19 rfl (lv_at hl 0 rfl) ?_
    refine lv_icmp_ge (tgt := 30) (pc := 20) hx hb d_Mo_grab_20 (by decide) (fun c_2 => ?_) (fun c_2 => ?_)
    · refine lv_iload_n (pc := 30) hx hb d_Mo_grab_30 rfl (lv_at hl 0 rfl) ?_
      refine lv_istore_n (lv' := [(3, .int (f_Mo_weightOf Z st a.toNatClampNeg)), (2, .int (f_Mo_weightOf Z st a.toNatClampNeg)), (0, .ref (ad 0)), (1, .int (nI a.toNatClampNeg))]) (pc := 31) hx hb d_Mo_grab_31 rfl hl (by decide) rfl (fun ls hl => ?_)
      refine lv_iload_n (pc := 32) hx hb d_Mo_grab_32 rfl (lv_at hl 0 rfl) ?_
      refine lv_istore (lv' := [(4, .int (f_Mo_weightOf Z st a.toNatClampNeg)), (3, .int (f_Mo_weightOf Z st a.toNatClampNeg)), (2, .int (f_Mo_weightOf Z st a.toNatClampNeg)), (0, .ref (ad 0)), (1, .int (nI a.toNatClampNeg))]) (pc := 33) hx hb d_Mo_grab_33 hl (by decide) rfl (fun ls hl => ?_)
      refine lv_iconst (v := 0) (pc := 35) hx hb d_Mo_grab_35 (by decide) ?_
      refine lv_istore (lv' := [(5, .int 0), (4, .int (f_Mo_weightOf Z st a.toNatClampNeg)), (3, .int (f_Mo_weightOf Z st a.toNatClampNeg)), (2, .int (f_Mo_weightOf Z st a.toNatClampNeg)), (0, .ref (ad 0)), (1, .int (nI a.toNatClampNeg))]) (pc := 36) hx hb d_Mo_grab_36 hl (by decide) rfl (fun ls hl => ?_)
      refine lm_g1_ok hR hZ C hK a.toNatClampNeg (f_Mo_weightOf Z st a.toNatClampNeg) (f_Mo_weightOf Z st a.toNatClampNeg) (by omega) 4 0 (f_Mo_weightOf Z st a.toNatClampNeg) st _ _ ls (by omega) hP hS (lv_sub hl [4, 5, 3, 2, 1, 0] rfl) (fun H locs ls x9 hP hS hl => ?_)
      refine lv_iconst (v := 0) (pc := 91) hx hb d_Mo_grab_91 (by decide) ?_
      refine lv_istore (lv' := [(5, .int 0), (0, .ref (ad 0)), (1, .int (nI a.toNatClampNeg)), (2, .int (f_Mo_weightOf Z st a.toNatClampNeg)), (3, .int (f_Mo_weightOf Z st a.toNatClampNeg)), (4, .int ((lm_g1 Z a.toNatClampNeg (f_Mo_weightOf Z st a.toNatClampNeg) (f_Mo_weightOf Z st a.toNatClampNeg) 4 0 (f_Mo_weightOf Z st a.toNatClampNeg) st).1))]) (pc := 92) hx hb d_Mo_grab_92 hl (by decide) rfl (fun ls hl => ?_)
      refine lm_g2_ok hR hZ C hK a.toNatClampNeg (f_Mo_weightOf Z st a.toNatClampNeg) (by omega) 4 0 ((lm_g1 Z a.toNatClampNeg (f_Mo_weightOf Z st a.toNatClampNeg) (f_Mo_weightOf Z st a.toNatClampNeg) 4 0 (f_Mo_weightOf Z st a.toNatClampNeg) st).1) ((lm_g1 Z a.toNatClampNeg (f_Mo_weightOf Z st a.toNatClampNeg) (f_Mo_weightOf Z st a.toNatClampNeg) 4 0 (f_Mo_weightOf Z st a.toNatClampNeg) st).2) _ _ ls ⟨by decide, hg2b (by omega) c_2⟩ hP hS (lv_sub hl [1, 2, 4, 5, 0] rfl) (fun H locs ls hP hS hl => ?_)
      refine lv_iload_n (pc := 135) hx hb d_Mo_grab_135 rfl (lv_at hl 2 rfl) ?_
      have e9 : f_Mo_grab Z st a = (f_Mo_weightOf Z st a.toNatClampNeg, (lm_g2 Z a.toNatClampNeg (f_Mo_weightOf Z st a.toNatClampNeg) 4 0 ((lm_g1 Z a.toNatClampNeg (f_Mo_weightOf Z st a.toNatClampNeg) (f_Mo_weightOf Z st a.toNatClampNeg) 4 0 (f_Mo_weightOf Z st a.toNatClampNeg) st).1) ((lm_g1 Z a.toNatClampNeg (f_Mo_weightOf Z st a.toNatClampNeg) (f_Mo_weightOf Z st a.toNatClampNeg) 4 0 (f_Mo_weightOf Z st a.toNatClampNeg) st).2)).2.2) := by unfold f_Mo_grab; rw [if_neg c_1, if_pos c_2]
      exact rg_iret (pc := 136) hx hb hr hlocks hP hS ⟨by rw [e9], by rw [e9]⟩ d_Mo_grab_136
    · refine lv_aload_n (pc := 23) hx hb d_Mo_grab_23 rfl (lv_at hl 1 rfl) ?_
      refine rg_get (C := R_Mo) (T := T_Mo) (N := 28) (v := .int (ms_cr st)) (pc := 24) hx hb hts i_Mo hown hK hP 0 (by omega) mgx_M rfl 4 (by decide) (hts _ wd_532) rfl d_Mo_grab_24 ?_
      refine lv_goto (tgt := 31) (pc := 27) hx hb d_Mo_grab_27 (by decide) ?_
      refine lv_istore_n (lv' := [(3, .int (ms_cr st)), (2, .int (f_Mo_weightOf Z st a.toNatClampNeg)), (0, .ref (ad 0)), (1, .int (nI a.toNatClampNeg))]) (pc := 31) hx hb d_Mo_grab_31 rfl hl (by decide) rfl (fun ls hl => ?_)
      refine lv_iload_n (pc := 32) hx hb d_Mo_grab_32 rfl (lv_at hl 0 rfl) ?_
      refine lv_istore (lv' := [(4, .int (ms_cr st)), (3, .int (ms_cr st)), (2, .int (f_Mo_weightOf Z st a.toNatClampNeg)), (0, .ref (ad 0)), (1, .int (nI a.toNatClampNeg))]) (pc := 33) hx hb d_Mo_grab_33 hl (by decide) rfl (fun ls hl => ?_)
      refine lv_iconst (v := 0) (pc := 35) hx hb d_Mo_grab_35 (by decide) ?_
      refine lv_istore (lv' := [(5, .int 0), (4, .int (ms_cr st)), (3, .int (ms_cr st)), (2, .int (f_Mo_weightOf Z st a.toNatClampNeg)), (0, .ref (ad 0)), (1, .int (nI a.toNatClampNeg))]) (pc := 36) hx hb d_Mo_grab_36 hl (by decide) rfl (fun ls hl => ?_)
      refine lm_g1_ok hR hZ C hK a.toNatClampNeg (f_Mo_weightOf Z st a.toNatClampNeg) (ms_cr st) (by omega) 4 0 (ms_cr st) st _ _ ls (by omega) hP hS (lv_sub hl [4, 5, 3, 2, 1, 0] rfl) (fun H locs ls x9 hP hS hl => ?_)
      refine lv_iconst (v := 0) (pc := 91) hx hb d_Mo_grab_91 (by decide) ?_
      refine lv_istore (lv' := [(5, .int 0), (0, .ref (ad 0)), (1, .int (nI a.toNatClampNeg)), (2, .int (f_Mo_weightOf Z st a.toNatClampNeg)), (3, .int (ms_cr st)), (4, .int ((lm_g1 Z a.toNatClampNeg (f_Mo_weightOf Z st a.toNatClampNeg) (ms_cr st) 4 0 (ms_cr st) st).1))]) (pc := 92) hx hb d_Mo_grab_92 hl (by decide) rfl (fun ls hl => ?_)
      refine lm_g2_ok hR hZ C hK a.toNatClampNeg (ms_cr st) (by omega) 4 0 ((lm_g1 Z a.toNatClampNeg (f_Mo_weightOf Z st a.toNatClampNeg) (ms_cr st) 4 0 (ms_cr st) st).1) ((lm_g1 Z a.toNatClampNeg (f_Mo_weightOf Z st a.toNatClampNeg) (ms_cr st) 4 0 (ms_cr st) st).2) _ _ ls ⟨by decide, hg2a (by omega) c_2⟩ hP hS (lv_sub hl [1, 2, 4, 5, 0] rfl) (fun H locs ls hP hS hl => ?_)
      refine lv_iload_n (pc := 135) hx hb d_Mo_grab_135 rfl (lv_at hl 2 rfl) ?_
      have e9 : f_Mo_grab Z st a = (ms_cr st, (lm_g2 Z a.toNatClampNeg (ms_cr st) 4 0 ((lm_g1 Z a.toNatClampNeg (f_Mo_weightOf Z st a.toNatClampNeg) (ms_cr st) 4 0 (ms_cr st) st).1) ((lm_g1 Z a.toNatClampNeg (f_Mo_weightOf Z st a.toNatClampNeg) (ms_cr st) 4 0 (ms_cr st) st).2)).2.2) := by unfold f_Mo_grab; rw [if_neg c_1, if_neg c_2]
      exact rg_iret (pc := 136) hx hb hr hlocks hP hS ⟨by rw [e9], by rw [e9]⟩ d_Mo_grab_136
  · refine lv_iconst (v := (-1)) (pc := 7) hx hb d_Mo_grab_7 (by decide) ?_
    have e9 : f_Mo_grab Z st a = ((-1), st) := by unfold f_Mo_grab; rw [if_pos c_1]
    exact rg_iret (pc := 8) hx hb hr hlocks hP hS ⟨by rw [e9], by rw [e9]⟩ d_Mo_grab_8
