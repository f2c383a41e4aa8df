def lp_total (Z : Nat) (cx : Nat) : Nat → Nat → Int32 → xS → Int32
  | 0, _, s0, _ => s0
  | n + 1, j, s0, st =>
    lp_total Z cx n (j + 1) (s0 + (xs_ck st cx j)) st
set_option maxRecDepth 100000 in
set_option maxHeartbeats 4000000 in
theorem lp_total_ok {p : Program} {l : Launch} {e : Env} {s : State} {m : MethodId} {args : Array Value} {below : List Frame} {meth : Method} {c : Code} {D : va_G} {cA : Nat → ClassId} {Z : Nat} {ad : Nat → Nat} {Q : State → Prop} (hR : rD (36 + Z) ad) (hZ : 1 ≤ Z ∧ Z ≤ 6) (C : Cx p s m args meth c b_Ce_total 3 R_Ce (some .int)) (hK : va_K D clG (tyX cA) s) (cx : Nat) (hc : cx < 6) : ∀ (n : Nat) (j : Nat) (s0 : Int32) (st : xS) (H : Heap) (locs : List Loc) (ls : Array Slot), j + n = 4 → va_P D clG (pw (36 + Z) ad (xgx Z ad cA (st))) H → va_S (rA (36 + Z) ad s.heap.size) s.heap H locs → lv_has ls 3 [(0, .ref (ad (16 + cx))), (1, .int s0), (2, .int (nI j))] → (∀ (H : Heap) (locs : List Loc) (ls : Array Slot), va_P D clG (pw (36 + Z) ad (xgx Z ad cA (st))) H → va_S (rA (36 + Z) ad s.heap.size) s.heap H locs → lv_has ls 3 [(0, .ref (ad (16 + cx))), (1, .int ((lp_total Z cx n j s0 st))), (2, .int (nI 4))] → W p l e ({ frames := 0, cells := 0, slots := 0, locals := 0 } : Room) s m args below meth c H locs 0 0 Q (F0 m 24 ls [])) → W p l e ({ frames := 0, cells := 0, slots := 0, locals := 0 } : Room) s m args below meth c H locs 0 0 Q (F0 m 4 ls []) := by
  obtain ⟨⟨hx, hb, hml, hown, hts⟩, hr, hlocks, hN⟩ := id C
  have hown : s.vm.findClass R_Ce = some m.cls := hown
  have hr : meth.sig.returnType = (some .int) := hr
  intro n
  induction n with
  | zero =>
    intro j s0 st H locs ls hn hP hS hl hk
    have hj9 : j = 4 := by omega
    refine lv_iload_n (pc := 4) hx hb d_Ce_total_4 rfl (lv_at hl 2 rfl) ?_
    refine lv_iconst (v := 4) (pc := 5) hx hb d_Ce_total_5 (by decide) ?_
    refine lv_icmp_ge (tgt := 24) (pc := 6) hx hb d_Ce_total_6 (by decide) (fun c_1 => ?_) (fun c_1 => absurd (by rw [hj9]; decide) c_1)
    exact hk H locs ls hP hS (by rw [hj9] at hl; exact lv_sub hl [0, 1, 2] rfl)
  | succ n ih =>
    intro j s0 st H locs ls hn hP hS hl hk
    refine lv_iload_n (pc := 4) hx hb d_Ce_total_4 rfl (lv_at hl 2 rfl) ?_
    refine lv_iconst (v := 4) (pc := 5) hx hb d_Ce_total_5 (by decide) ?_
    refine lv_icmp_ge (tgt := 24) (pc := 6) hx hb d_Ce_total_6 (by decide) (fun c_1 => absurd c_1 (nI_ge (b := 4) (by omega) (by decide))) (fun c_1 => ?_)
    refine lv_iload_n (pc := 9) hx hb d_Ce_total_9 rfl (lv_at hl 1 rfl) ?_
    refine lv_aload_n (pc := 10) hx hb d_Ce_total_10 rfl (lv_at hl 0 rfl) ?_
    refine rg_get (C := R_Ce) (T := T_Ce) (N := 1) (v := .ref (ad (22 + cx))) (pc := 11) hx hb hts i_Ce hown hK hP (16 + cx) (by omega) (xgx_Cell (j := cx) (by omega)) rfl 0 (by decide) (hts _ wd_206) rfl d_Ce_total_11 ?_
    refine lv_iload_n (pc := 14) hx hb d_Ce_total_14 rfl (lv_at hl 2 rfl) ?_
    refine rg_iald (pc := 15) hx hb hK hP (22 + cx) (by omega) 0 (xgx_Kg (j := cx) (by omega)) rfl j (by omega) (by omega) rfl d_Ce_total_15 ?_
    refine lv_iadd (pc := 16) hx hb d_Ce_total_16 ?_
    refine lv_istore_n (lv' := [(1, .int (s0 + (xs_ck st cx j))), (0, .ref (ad (16 + cx))), (2, .int (nI j))]) (pc := 17) hx hb d_Ce_total_17 rfl hl (by decide) rfl (fun ls hl => ?_)
    refine lv_iinc (v := nI (j + 1)) (lv' := [(2, .int (nI (j + 1))), (1, .int (s0 + (xs_ck st cx j))), (0, .ref (ad (16 + cx)))]) (pc := 18) hx hb d_Ce_total_18 hl (k := 2) rfl (nI_1 _) (by decide) rfl (fun ls hl => ?_)
    refine lv_goto (tgt := 4) (pc := 21) hx hb d_Ce_total_21 (by decide) ?_
    have hk9 := hk
    unfold lp_total at hk9
    exact ih (j + 1) (s0 + (xs_ck st cx j)) st _ _ ls (by omega) hP hS (lv_sub hl [2, 1, 0] rfl) hk9
def f_Ce_total (Z : Nat) (st : xS) (cx : Nat) : Int32 :=
  (lp_total Z cx 4 0 0 st)
set_option maxRecDepth 100000 in
set_option maxHeartbeats 4000000 in
theorem c_Ce_total {l : Launch} {D : va_G} {cA : Nat → ClassId} {Z : Nat} {ad : Nat → Nat} (hR : rD (36 + Z) ad) (hZ : 1 ≤ Z ∧ Z ≤ 6) (st : xS) (cx : Nat) (hcx : cx < 6) : RI l y_Ce_total (mws y_Ce_total b_Ce_total 3 (some .int)) ({ frames := 0, cells := 0, slots := 0, locals := 0 } : Room) D clG (tyX cA) (36 + Z) ad (xgx Z ad cA (st)) [.ref (ad (16 + cx))] (f_Ce_total Z st cx) (xgx Z ad cA (st)) := by
  refine RI_of (cc := b_Ce_total) (maxL := 3) (ret := (some .int)) (by decide) (Nat.le_of_ble_eq_true rfl) ?_
  intro p e s m args below meth c ls C hK hP hS hl
  obtain ⟨⟨hx, hb, hml, hown, hts⟩, hr, hlocks, hN⟩ := id C
  have hown : s.vm.findClass R_Ce = some m.cls := hown
  have hr : meth.sig.returnType = (some .int) := hr
  have hl : lv_has ls 3 [(0, .ref (ad (16 + cx)))] := hl
  refine lv_iconst (v := 0) (pc := 0) hx hb d_Ce_total_0 (by decide) ?_
  refine lv_istore_n (lv' := [(1, .int 0), (0, .ref (ad (16 + cx)))]) (pc := 1) hx hb d_Ce_total_1 rfl hl (by decide) rfl (fun ls hl => ?_)
  refine lv_iconst (v := 0) (pc := 2) hx hb d_Ce_total_2 (by decide) ?_
  refine lv_istore_n (lv' := [(2, .int 0), (1, .int 0), (0, .ref (ad (16 + cx)))]) (pc := 3) hx hb d_Ce_total_3 rfl hl (by decide) rfl (fun ls hl => ?_)
  refine lp_total_ok hR hZ C hK cx (by omega) 4 0 0 st _ _ ls (by omega) hP hS (lv_sub hl [2, 1, 0] rfl) (fun H locs ls hP hS hl => ?_)
  refine lv_iload_n (pc := 24) hx hb d_Ce_total_24 rfl (lv_at hl 1 rfl) ?_
  have e9 : f_Ce_total Z st cx = (lp_total Z cx 4 0 0 st) := rfl
  exact rg_iret (pc := 25) hx hb hr hlocks hP hS ⟨e9.symm, rfl⟩ d_Ce_total_25

def f_Ce_hand (Z : Nat) (st : xS) (cx : Nat) (k1 : Nat) (k : Nat) (a : Int32) : xS :=
  xp_kg (xp_ck st cx k ((xs_ck st cx k) - a)) k1 ((xs_kg (xp_ck st cx k ((xs_ck st cx k) - a)) k1) + a.toInt64)
set_option maxRecDepth 100000 in
set_option maxHeartbeats 4000000 in
theorem c_Ce_hand {l : Launch} {D : va_G} {cA : Nat → ClassId} {Z : Nat} {ad : Nat → Nat} (hR : rD (36 + Z) ad) (hZ : 1 ≤ Z ∧ Z ≤ 6) (st : xS) (cx : Nat) (hcx : cx < 6) (k1 : Nat) (hk1 : k1 < 4) (k : Nat) (hk : k < 4) (a : Int32) : RV l y_Ce_hand (mws y_Ce_hand b_Ce_hand 4 none) ({ frames := 0, cells := 0, slots := 0, locals := 0 } : Room) D clG (tyX cA) (36 + Z) ad (xgx Z ad cA (st)) [.ref (ad (16 + cx)), .ref (ad (12 + k1)), .int (nI k), .int a] (xgx Z ad cA (f_Ce_hand Z st cx k1 k a)) := by
  refine RV_of (cc := b_Ce_hand) (maxL := 4) (ret := none) (by decide) (Nat.le_of_ble_eq_true rfl) ?_
  intro p e s m args below meth c ls C hK hP hS hl
  obtain ⟨⟨hx, hb, hml, hown, hts⟩, hr, hlocks, hN⟩ := id C
  have hown : s.vm.findClass R_Ce = some m.cls := hown
  have hr : meth.sig.returnType = none := hr
  have hl : lv_has ls 4 [(0, .ref (ad (16 + cx))), (1, .ref (ad (12 + k1))), (2, .int (nI k)), (3, .int a)] := hl
  refine lv_aload_n (pc := 0) hx hb d_Ce_hand_0 rfl (lv_at hl 0 rfl) ?_
  refine rg_get (C := R_Ce) (T := T_Ce) (N := 1) (v := .ref (ad (22 + cx))) (pc := 1) hx hb hts i_Ce hown hK hP (16 + cx) (by omega) (xgx_Cell (j := cx) (by omega)) rfl 0 (by decide) (hts _ wd_206) rfl d_Ce_hand_1 ?_
  refine lv_iload_n (pc := 4) hx hb d_Ce_hand_4 rfl (lv_at hl 2 rfl) ?_
  refine lv_dup2_11 (pc := 5) hx hb d_Ce_hand_5 rfl rfl ?_
  refine rg_iald (pc := 6) hx hb hK hP (22 + cx) (by omega) 0 (xgx_Kg (j := cx) (by omega)) rfl k (by omega) (by omega) rfl d_Ce_hand_6 ?_
  refine lv_iload_n (pc := 7) hx hb d_Ce_hand_7 rfl (lv_at hl 3 rfl) ?_
  refine lv_isub (pc := 8) hx hb d_Ce_hand_8 ?_
  refine rg_iast (pc := 9) hx hb hK hR hP hS (22 + cx) (by omega) 0 (xgx_Kg (j := cx) (by omega)) rfl k (by omega) (by omega) rfl d_Ce_hand_9 (xgx_Kg_w (j := cx) (by omega) k ((xs_ck st cx k) - a)) (fun H locs hP hS => ?_)
  refine lv_aload_n (pc := 10) hx hb d_Ce_hand_10 rfl (lv_at hl 1 rfl) ?_
  refine lv_dup (pc := 11) hx hb d_Ce_hand_11 rfl ?_
  refine rg_get (C := R_Ki) (T := T_Ki) (N := 3) (v := .long (xs_kg (xp_ck st cx k ((xs_ck st cx k) - a)) k1)) (pc := 12) hx hb hts i_Ki hown hK hP (12 + k1) (by omega) (xgx_Kind (j := k1) (by omega)) rfl 2 (by decide) (hts _ wd_192) rfl d_Ce_hand_12 ?_
  refine lv_iload_n (pc := 15) hx hb d_Ce_hand_15 rfl (lv_at hl 3 rfl) ?_
  refine lv_i2l (pc := 16) hx hb d_Ce_hand_16 rfl ?_
  refine lv_ladd (pc := 17) hx hb d_Ce_hand_17 ?_
  refine rg_put (C := R_Ki) (T := T_Ki) (N := 3) (pc := 18) hx hb hts i_Ki t_Ki t_Ki_ok n_Ki hown hK hR hP hS (12 + k1) (by omega) (xgx_Kind (j := k1) (by omega)) rfl 2 (by decide) (hts _ wd_192) rfl rfl rfl (Nat.le_of_ble_eq_true rfl) d_Ce_hand_18 (xgx_Kind_kg (j := k1) (by omega) ((xs_kg (xp_ck st cx k ((xs_ck st cx k) - a)) k1) + a.toInt64)) (fun H locs hP hS => ?_)
  have e9 : f_Ce_hand Z st cx k1 k a = xp_kg (xp_ck st cx k ((xs_ck st cx k) - a)) k1 ((xs_kg (xp_ck st cx k ((xs_ck st cx k) - a)) k1) + a.toInt64) := rfl
  exact rg_vret (pc := 21) hx hb hr hlocks hP hS (by rw [e9]) d_Ce_hand_21

theorem nz_i2l {t : Int32} (h : ¬ t ≤ 0) : ¬ t.toInt64 = 0 := fun e => h (by
  have h1 := congrArg Int64.toInt e
  rw [Int32.toInt_toInt64] at h1
  rw [Int32.le_iff_toInt_le, h1]
  decide)

def lp_give1 (Z : Nat) (cx : Nat) (t : Int32) (gr : Int32) : Nat → Nat → Int32 → xS → Int32 × xS
  | 0, _, ms, st => (ms, st)
  | n + 1, j, ms, st =>
    lp_give1 Z cx t gr n (j + 1) (ms - (((((xs_ck st cx j).toInt64) * gr.toInt64) / t.toInt64).toInt32)) (f_Ce_hand Z st cx j j (((((xs_ck st cx j).toInt64) * gr.toInt64) / t.toInt64).toInt32))
set_option maxRecDepth 100000 in
set_option maxHeartbeats 4000000 in
theorem lp_give1_ok {p : Program} {l : Launch} {e : Env} {s : State} {m : MethodId} {args : Array Value} {below : List Frame} {meth : Method} {c : Code} {D : va_G} {cA : Nat → ClassId} {Z : Nat} {ad : Nat → Nat} {Q : State → Prop} (hR : rD (36 + Z) ad) (hZ : 1 ≤ Z ∧ Z ≤ 6) (C : Cx p s m args meth c b_Ce_giveTo 8 R_Ce (some .int)) (hK : va_K D clG (tyX cA) s) (cx : Nat) (t : Int32) (gr : Int32) (hc : cx < 6) (ht : ¬ t ≤ 0) : ∀ (n : Nat) (j : Nat) (ms : Int32) (st : xS) (H : Heap) (locs : List Loc) (ls : Array Slot), j + n = 4 → va_P D clG (pw (36 + Z) ad (xgx Z ad cA (st))) H → va_S (rA (36 + Z) ad s.heap.size) s.heap H locs → lv_has ls 8 [(0, .ref (ad (16 + cx))), (1, .ref (ad 1)), (3, .int t), (4, .int gr), (5, .int ms), (6, .int (nI j))] → (∀ (H : Heap) (locs : List Loc) (ls : Array Slot), va_P D clG (pw (36 + Z) ad (xgx Z ad cA ((lp_give1 Z cx t gr n j ms st).2))) H → va_S (rA (36 + Z) ad s.heap.size) s.heap H locs → lv_has ls 8 [(0, .ref (ad (16 + cx))), (1, .ref (ad 1)), (3, .int t), (4, .int gr), (5, .int ((lp_give1 Z cx t gr n j ms st).1)), (6, .int (nI 4))] → W p l e ({ frames := 1, cells := 0, slots := 0, locals := 23 } : Room) s m args below meth c H locs 0 0 Q (F0 m 80 ls [])) → W p l e ({ frames := 1, cells := 0, slots := 0, locals := 23 } : Room) s m args below meth c H locs 0 0 Q (F0 m 31 ls []) := by
  obtain ⟨⟨hx, hb, hml, hown, hts⟩, hr, hlocks, hN⟩ := id C
  have hown : s.vm.findClass R_Ce = some m.cls := hown
  have hr : meth.sig.returnType = (some .int) := hr
  intro n
  induction n with
  | zero =>
    intro j ms st H locs ls hn hP hS hl hk
    have hj9 : j = 4 := by omega
    refine lv_iload (pc := 31) hx hb d_Ce_giveTo_31 (lv_at hl 5 rfl) ?_
    refine lv_iconst (v := 4) (pc := 33) hx hb d_Ce_giveTo_33 (by decide) ?_
    refine lv_icmp_ge (tgt := 80) (pc := 34) hx hb d_Ce_giveTo_34 (by decide) (fun c_1 => ?_) (fun c_1 => absurd (by rw [hj9]; decide) c_1)
    exact hk H locs ls hP hS (by rw [hj9] at hl; exact lv_sub hl [0, 1, 2, 3, 4, 5] rfl)
  | succ n ih =>
    intro j ms st H locs ls hn hP hS hl hk
    refine lv_iload (pc := 31) hx hb d_Ce_giveTo_31 (lv_at hl 5 rfl) ?_
    refine lv_iconst (v := 4) (pc := 33) hx hb d_Ce_giveTo_33 (by decide) ?_
    refine lv_icmp_ge (tgt := 80) (pc := 34) hx hb d_Ce_giveTo_34 (by decide) (fun c_1 => absurd c_1 (nI_ge (b := 4) (by omega) (by decide))) (fun c_1 => ?_)
    refine lv_aload_n (pc := 37) hx hb d_Ce_giveTo_37 rfl (lv_at hl 0 rfl) ?_
    refine rg_get (C := R_Ce) (T := T_Ce) (N := 1) (v := .ref (ad (22 + cx))) (pc := 38) hx hb hts i_Ce hown hK hP (16 + cx) (by omega) (xgx_Cell (j := cx) (by omega)) rfl 0 (by decide) (hts _ wd_206) rfl d_Ce_giveTo_38 ?_
    refine lv_iload (pc := 41) hx hb d_Ce_giveTo_41 (lv_at hl 5 rfl) ?_
    refine rg_iald (pc := 43) hx hb hK hP (22 + cx) (by omega) 0 (xgx_Kg (j := cx) (by omega)) rfl j (by omega) (by omega) rfl d_Ce_giveTo_43 ?_
    refine lv_i2l (pc := 44) hx hb d_Ce_giveTo_44 rfl ?_
    refine lv_iload (pc := 45) hx hb d_Ce_giveTo_45 (lv_at hl 3 rfl) ?_
    refine lv_i2l (pc := 47) hx hb d_Ce_giveTo_47 rfl ?_
    refine lv_lmul (pc := 48) hx hb d_Ce_giveTo_48 ?_
    refine lv_iload_n (pc := 49) hx hb d_Ce_giveTo_49 rfl (lv_at hl 2 rfl) ?_
    refine lv_i2l (pc := 50) hx hb d_Ce_giveTo_50 rfl ?_
    refine lv_ldiv (pc := 51) hx hb d_Ce_giveTo_51 (nz_i2l ht) ?_
    refine lv_l2i (pc := 52) hx hb d_Ce_giveTo_52 rfl ?_
    refine lv_istore (lv' := [(7, .int (((((xs_ck st cx j).toInt64) * gr.toInt64) / t.toInt64).toInt32)), (0, .ref (ad (16 + cx))), (1, .ref (ad 1)), (3, .int t), (4, .int gr), (5, .int ms), (6, .int (nI j))]) (pc := 53) hx hb d_Ce_giveTo_53 hl (by decide) rfl (fun ls hl => ?_)
    refine lv_aload_n (pc := 55) hx hb d_Ce_giveTo_55 rfl (lv_at hl 1 rfl) ?_
    refine lv_aload_n (pc := 56) hx hb d_Ce_giveTo_56 rfl (lv_at hl 2 rfl) ?_
    refine lv_iload (pc := 57) hx hb d_Ce_giveTo_57 (lv_at hl 6 rfl) ?_
    refine rg_aldq (pc := 59) hx hb hK hP 1 (by omega) 1 xgx_kindsA rfl j (by omega) (by omega) rfl rfl d_Ce_giveTo_59 ?_
    refine lv_iload (pc := 60) hx hb d_Ce_giveTo_60 (lv_at hl 6 rfl) ?_
    refine lv_iload (pc := 62) hx hb d_Ce_giveTo_62 (lv_at hl 0 rfl) ?_
    refine rg_cv (pc := 64) (va_runV (As := [.ref (ad (12 + j)), .int (nI j), .int (((((xs_ck st cx j).toInt64) * gr.toInt64) / t.toInt64).toInt32)]) (rest := []) ⟨hx, hb, hml, hown, hts⟩ (c_Ce_hand (l := l) hR hZ st cx (by omega) j (by omega) j (by omega) (((((xs_ck st cx j).toInt64) * gr.toInt64) / t.toInt64).toInt32) _) ⟨callB_of 3 hts (gd_c wd_305) rfl rfl rfl (hts _ wd_7) (hts _ wd_302) hd_Ce_hand ⟨Nat.le_of_ble_eq_true rfl, Nat.le_of_ble_eq_true rfl⟩, hts _ wd_304, hts _ wp_0⟩ ⟨rPc_blind _ _ _ _ _ _ _ _, rg_rec hK hP (16 + cx) (by omega) (xgx_Cell (j := cx) (by omega)) rfl, rPc_at _ hP hK hN⟩ rfl rfl hl.1 rfl (lv_room (Nat.le_of_ble_eq_true rfl)) d_Ce_giveTo_64 ⟨Nat.zero_le _, Nat.zero_le _⟩) hS (fun H locs hP hS => ?_)
    refine lv_iload (pc := 67) hx hb d_Ce_giveTo_67 (lv_at hl 5 rfl) ?_
    refine lv_iload (pc := 69) hx hb d_Ce_giveTo_69 (lv_at hl 0 rfl) ?_
    refine lv_isub (pc := 71) hx hb d_Ce_giveTo_71 ?_
    refine lv_istore (lv' := [(5, .int (ms - (((((xs_ck st cx j).toInt64) * gr.toInt64) / t.toInt64).toInt32))), (7, .int (((((xs_ck st cx j).toInt64) * gr.toInt64) / t.toInt64).toInt32)), (0, .ref (ad (16 + cx))), (1, .ref (ad 1)), (3, .int t), (4, .int gr), (6, .int (nI j))]) (pc := 72) hx hb d_Ce_giveTo_72 hl (by decide) rfl (fun ls hl => ?_)
    refine lv_iinc (v := nI (j + 1)) (lv' := [(6, .int (nI (j + 1))), (5, .int (ms - (((((xs_ck st cx j).toInt64) * gr.toInt64) / t.toInt64).toInt32))), (7, .int (((((xs_ck st cx j).toInt64) * gr.toInt64) / t.toInt64).toInt32)), (0, .ref (ad (16 + cx))), (1, .ref (ad 1)), (3, .int t), (4, .int gr)]) (pc := 74) hx hb d_Ce_giveTo_74 hl (k := 6) rfl (nI_1 _) (by decide) rfl (fun ls hl => ?_)
    refine lv_goto (tgt := 31) (pc := 77) hx hb d_Ce_giveTo_77 (by decide) ?_
    have hk9 := hk
    unfold lp_give1 at hk9
    exact ih (j + 1) (ms - (((((xs_ck st cx j).toInt64) * gr.toInt64) / t.toInt64).toInt32)) (f_Ce_hand Z st cx j j (((((xs_ck st cx j).toInt64) * gr.toInt64) / t.toInt64).toInt32)) _ _ ls (by omega) hP hS (lv_sub hl [3, 4, 5, 6, 1, 0] rfl) hk9
def lp_give2 (Z : Nat) (cx : Nat) (gr : Int32) : Nat → Nat → Int32 → xS → Int32 × xS
  | 0, _, ms, st => (ms, st)
  | n + 1, j, ms, st =>
    if ms ≤ 0 then
      (ms, st)
    else
      if (xs_ck st cx j) ≤ 0 then
        lp_give2 Z cx gr n (j + 1) ms st
      else
        lp_give2 Z cx gr n (j + 1) (ms + (-1)) (f_Ce_hand Z st cx j j 1)
set_option maxRecDepth 100000 in
set_option maxHeartbeats 4000000 in
theorem lp_give2_ok {p : Program} {l : Launch} {e : Env} {s : State} {m : MethodId} {args : Array Value} {below : List Frame} {meth : Method} {c : Code} {D : va_G} {cA : Nat → ClassId} {Z : Nat} {ad : Nat → Nat} {Q : State → Prop} (hR : rD (36 + Z) ad) (hZ : 1 ≤ Z ∧ Z ≤ 6) (C : Cx p s m args meth c b_Ce_giveTo 8 R_Ce (some .int)) (hK : va_K D clG (tyX cA) s) (cx : Nat) (gr : Int32) (hc : cx < 6) : ∀ (n : Nat) (j : Nat) (ms : Int32) (st : xS) (H : Heap) (locs : List Loc) (ls : Array Slot), j + n = 4 → va_P D clG (pw (36 + Z) ad (xgx Z ad cA (st))) H → va_S (rA (36 + Z) ad s.heap.size) s.heap H locs → lv_has ls 8 [(0, .ref (ad (16 + cx))), (1, .ref (ad 1)), (4, .int gr), (5, .int ms), (6, .int (nI j))] → (∀ (H : Heap) (locs : List Loc) (ls : Array Slot) (x9 : Int32), va_P D clG (pw (36 + Z) ad (xgx Z ad cA ((lp_give2 Z cx gr n j ms st).2))) H → va_S (rA (36 + Z) ad s.heap.size) s.heap H locs → lv_has ls 8 [(0, .ref (ad (16 + cx))), (1, .ref (ad 1)), (4, .int gr), (5, .int ((lp_give2 Z cx gr n j ms st).1)), (6, .int x9)] → W p l e ({ frames := 1, cells := 0, slots := 0, locals := 23 } : Room) s m args below meth c H locs 0 0 Q (F0 m 124 ls [])) → W p l e ({ frames := 1, cells := 0, slots := 0, locals := 23 } : Room) s m args below meth c H locs 0 0 Q (F0 m 83 ls []) := by
  obtain ⟨⟨hx, hb, hml, hown, hts⟩, hr, hlocks, hN⟩ := id C
  have hown : s.vm.findClass R_Ce = some m.cls := hown
  have hr : meth.sig.returnType = (some .int) := hr
  intro n
  induction n with
  | zero =>
    intro j ms st H locs ls hn hP hS hl hk
    have hj9 : j = 4 := by omega
    refine lv_iload (pc := 83) hx hb d_Ce_giveTo_83 (lv_at hl 4 rfl) ?_
    refine lv_iconst (v := 4) (pc := 85) hx hb d_Ce_giveTo_85 (by decide) ?_
    refine lv_icmp_ge (tgt := 124) (pc := 86) hx hb d_Ce_giveTo_86 (by decide) (fun c_1 => ?_) (fun c_1 => absurd (by rw [hj9]; decide) c_1)
    exact hk H locs ls _ hP hS (lv_sub hl [0, 1, 2, 3, 4] rfl)
  | succ n ih =>
    intro j ms st H locs ls hn hP hS hl hk
    refine lv_iload (pc := 83) hx hb d_Ce_giveTo_83 (lv_at hl 4 rfl) ?_
    refine lv_iconst (v := 4) (pc := 85) hx hb d_Ce_giveTo_85 (by decide) ?_
    refine lv_icmp_ge (tgt := 124) (pc := 86) hx hb d_Ce_giveTo_86 (by decide) (fun c_1 => absurd c_1 (nI_ge (b := 4) (by omega) (by decide))) (fun c_1 => ?_)
    refine lv_iload (pc := 89) hx hb d_Ce_giveTo_89 (lv_at hl 3 rfl) ?_
    refine lv_if_le (tgt := 124) (pc := 91) hx hb d_Ce_giveTo_91 (by decide) (fun c_2 => ?_) (fun c_2 => ?_)
    · have hk9 := hk
      unfold lp_give2 at hk9
      rw [if_pos c_2] at hk9
      exact hk9 H locs ls _ hP hS (lv_sub hl [0, 1, 2, 3, 4] rfl)
    · refine lv_aload_n (pc := 94) hx hb d_Ce_giveTo_94 rfl (lv_at hl 0 rfl) ?_
      refine rg_get (C := R_Ce) (T := T_Ce) (N := 1) (v := .ref (ad (22 + cx))) (pc := 95) hx hb hts i_Ce hown hK hP (16 + cx) (by omega) (xgx_Cell (j := cx) (by omega)) rfl 0 (by decide) (hts _ wd_206) rfl d_Ce_giveTo_95 ?_
      refine lv_iload (pc := 98) hx hb d_Ce_giveTo_98 (lv_at hl 4 rfl) ?_
      refine rg_iald (pc := 100) hx hb hK hP (22 + cx) (by omega) 0 (xgx_Kg (j := cx) (by omega)) rfl j (by omega) (by omega) rfl d_Ce_giveTo_100 ?_
      refine lv_if_le (tgt := 118) (pc := 101) hx hb d_Ce_giveTo_101 (by decide) (fun c_3 => ?_) (fun c_3 => ?_)
      · refine lv_iinc (v := nI (j + 1)) (lv' := [(6, .int (nI (j + 1))), (0, .ref (ad (16 + cx))), (1, .ref (ad 1)), (4, .int gr), (5, .int ms)]) (pc := 118) hx hb d_Ce_giveTo_118 hl (k := 4) rfl (nI_1 _) (by decide) rfl (fun ls hl => ?_)
        refine lv_goto (tgt := 83) (pc := 121) hx hb d_Ce_giveTo_121 (by decide) ?_
        have hk9 := hk
        unfold lp_give2 at hk9
        rw [if_neg c_2, if_pos c_3] at hk9
        exact ih (j + 1) ms st _ _ ls (by omega) hP hS (lv_sub hl [1, 2, 3, 4, 0] rfl) hk9
      · refine lv_aload_n (pc := 104) hx hb d_Ce_giveTo_104 rfl (lv_at hl 0 rfl) ?_
        refine lv_aload_n (pc := 105) hx hb d_Ce_giveTo_105 rfl (lv_at hl 1 rfl) ?_
        refine lv_iload (pc := 106) hx hb d_Ce_giveTo_106 (lv_at hl 4 rfl) ?_
        refine rg_aldq (pc := 108) hx hb hK hP 1 (by omega) 1 xgx_kindsA rfl j (by omega) (by omega) rfl rfl d_Ce_giveTo_108 ?_
        refine lv_iload (pc := 109) hx hb d_Ce_giveTo_109 (lv_at hl 4 rfl) ?_
        refine lv_iconst (v := 1) (pc := 111) hx hb d_Ce_giveTo_111 (by decide) ?_
        refine rg_cv (pc := 112) (va_runV (As := [.ref (ad (12 + j)), .int (nI j), .int 1]) (rest := []) ⟨hx, hb, hml, hown, hts⟩ (c_Ce_hand (l := l) hR hZ st cx (by omega) j (by omega) j (by omega) 1 _) ⟨callB_of 3 hts (gd_c wd_305) rfl rfl rfl (hts _ wd_7) (hts _ wd_302) hd_Ce_hand ⟨Nat.le_of_ble_eq_true rfl, Nat.le_of_ble_eq_true rfl⟩, hts _ wd_304, hts _ wp_0⟩ ⟨rPc_blind _ _ _ _ _ _ _ _, rg_rec hK hP (16 + cx) (by omega) (xgx_Cell (j := cx) (by omega)) rfl, rPc_at _ hP hK hN⟩ rfl rfl hl.1 rfl (lv_room (Nat.le_of_ble_eq_true rfl)) d_Ce_giveTo_112 ⟨Nat.zero_le _, Nat.zero_le _⟩) hS (fun H locs hP hS => ?_)
        refine lv_iinc (v := ms + (-1)) (lv' := [(5, .int (ms + (-1))), (0, .ref (ad (16 + cx))), (1, .ref (ad 1)), (4, .int gr), (6, .int (nI j))]) (pc := 115) hx hb d_Ce_giveTo_115 hl (k := 3) rfl rfl (by decide) rfl (fun ls hl => ?_)
        refine lv_iinc (v := nI (j + 1)) (lv' := [(6, .int (nI (j + 1))), (5, .int (ms + (-1))), (0, .ref (ad (16 + cx))), (1, .ref (ad 1)), (4, .int gr)]) (pc := 118) hx hb d_Ce_giveTo_118 hl (k := 4) rfl (nI_1 _) (by decide) rfl (fun ls hl => ?_)
        refine lv_goto (tgt := 83) (pc := 121) hx hb d_Ce_giveTo_121 (by decide) ?_
        have hk9 := hk
        unfold lp_give2 at hk9
        rw [if_neg c_2, if_neg c_3] at hk9
        exact ih (j + 1) (ms + (-1)) (f_Ce_hand Z st cx j j 1) _ _ ls (by omega) hP hS (lv_sub hl [2, 3, 4, 1, 0] rfl) hk9
def f_Ce_giveTo (Z : Nat) (st : xS) (cx : Nat) (a : Int32) : Int32 × xS :=
  if (f_Ce_total Z st cx) ≤ 0 then
    (0, st)
  else
    ((if (f_Ce_total Z st cx) < a then (f_Ce_total Z st cx) else a), (lp_give2 Z cx (if (f_Ce_total Z st cx) < a then (f_Ce_total Z st cx) else a) 4 0 ((lp_give1 Z cx (f_Ce_total Z st cx) (if (f_Ce_total Z st cx) < a then (f_Ce_total Z st cx) else a) 4 0 (if (f_Ce_total Z st cx) < a then (f_Ce_total Z st cx) else a) st).1) ((lp_give1 Z cx (f_Ce_total Z st cx) (if (f_Ce_total Z st cx) < a then (f_Ce_total Z st cx) else a) 4 0 (if (f_Ce_total Z st cx) < a then (f_Ce_total Z st cx) else a) st).2)).2)
set_option maxRecDepth 100000 in
set_option maxHeartbeats 4000000 in
theorem c_Ce_giveTo {l : Launch} {D : va_G} {cA : Nat → ClassId} {Z : Nat} {ad : Nat → Nat} (hR : rD (36 + Z) ad) (hZ : 1 ≤ Z ∧ Z ≤ 6) (st : xS) (cx : Nat) (hcx : cx < 6) (a : Int32) : RI l y_Ce_giveTo (mws y_Ce_giveTo b_Ce_giveTo 8 (some .int)) ({ frames := 1, cells := 0, slots := 0, locals := 23 } : Room) D clG (tyX cA) (36 + Z) ad (xgx Z ad cA (st)) [.ref (ad (16 + cx)), .ref (ad 1), .int a] (f_Ce_giveTo Z st cx a).1 (xgx Z ad cA ((f_Ce_giveTo Z st cx a).2)) := by
  refine RI_of (cc := b_Ce_giveTo) (maxL := 8) (ret := (some .int)) (by decide) (Nat.le_of_ble_eq_true rfl) ?_
  intro p e s m args below meth c ls C hK hP hS hl
  obtain ⟨⟨hx, hb, hml, hown, hts⟩, hr, hlocks, hN⟩ := id C
  have hown : s.vm.findClass R_Ce = some m.cls := hown
  have hr : meth.sig.returnType = (some .int) := hr
  have hl : lv_has ls 8 [(0, .ref (ad (16 + cx))), (1, .ref (ad 1)), (2, .int a)] := hl
  refine lv_aload_n (pc := 0) hx hb d_Ce_giveTo_0 rfl (lv_at hl 0 rfl) ?_
  refine rg_ci (pc := 1) (va_runV (As := []) (rest := []) ⟨hx, hb, hml, hown, hts⟩ (c_Ce_total (l := l) hR hZ st cx (by omega) _) ⟨callB_of 0 hts (gd_c wd_285) rfl rfl rfl (hts _ wd_7) (hts _ wd_298) hd_Ce_total ⟨Nat.le_of_ble_eq_true rfl, Nat.le_of_ble_eq_true rfl⟩, hts _ wd_283, hts _ wd_284⟩ ⟨rPc_blind _ _ _ _ _ _ _ _, rg_rec hK hP (16 + cx) (by omega) (xgx_Cell (j := cx) (by omega)) rfl, rPc_at _ hP hK hN⟩ rfl rfl hl.1 rfl (lv_room (Nat.le_of_ble_eq_true rfl)) d_Ce_giveTo_1 ⟨Nat.zero_le _, Nat.zero_le _⟩) hS (fun H locs hP hS => ?_)
  refine lv_istore_n (lv' := [(3, .int (f_Ce_total Z st cx)), (0, .ref (ad (16 + cx))), (1, .ref (ad 1)), (2, .int a)]) (pc := 4) hx hb d_Ce_giveTo_4 rfl hl (by decide) rfl (fun ls hl => ?_)
  refine lv_iload_n (pc := 5) hx hb d_Ce_giveTo_5 rfl (lv_at hl 0 rfl) ?_
  refine lv_if_le (tgt := 15) (pc := 6) hx hb d_Ce_giveTo_6 (by decide) (fun c_1 => ?_) (fun c_1 => ?_)
  · refine lv_iconst (v := 0) (pc := 15) hx hb d_Ce_giveTo_15 (by decide) ?_
    have e9 : f_Ce_giveTo Z st cx a = (0, st) := by unfold f_Ce_giveTo; rw [if_pos c_1]
    exact rg_iret (pc := 16) hx hb hr hlocks hP hS ⟨by rw [e9], by rw [e9]⟩ d_Ce_giveTo_16
  · refine lv_aload_n (pc := 9) hx hb d_Ce_giveTo_9 rfl (lv_at hl 2 rfl) ?_
    refine rg_alen (v := nI 4) (pc := 10) hx hb hK hP 1 (by omega) 1 xgx_kindsA rfl rfl d_Ce_giveTo_10 ?_
    refine lv_iconst (v := 4) (pc := 11) hx hb d_Ce_giveTo_11 (by decide) ?_
    refine lv_icmp_ge (tgt := 17) (pc := 12) hx hb d_Ce_giveTo_12 (by decide) (fun c_2 => ?_) (fun c_2 => absurd (by decide) c_2)
    refine lv_iload_n (pc := 17) hx hb d_Ce_giveTo_17 rfl (lv_at hl 3 rfl) ?_
    refine lv_iload_n (pc := 18) hx hb d_Ce_giveTo_18 rfl (lv_at hl 0 rfl) ?_
    refine va_mmin (pc := 19) hx hb (hml.trans hl.1.symm) hown (hts _ wd_299) (hts _ wd_300) (hts _ wd_10) (hts _ wd_301) (Nat.le_of_ble_eq_true rfl) (Nat.le_of_ble_eq_true rfl) (Nat.zero_le _) (Nat.zero_le _) d_Ce_giveTo_19 ?_
    refine lv_istore (lv' := [(4, .int ((if (f_Ce_total Z st cx) < a then (f_Ce_total Z st cx) else a))), (3, .int (f_Ce_total Z st cx)), (0, .ref (ad (16 + cx))), (1, .ref (ad 1)), (2, .int a)]) (pc := 22) hx hb d_Ce_giveTo_22 hl (by decide) rfl (fun ls hl => ?_)
    refine lv_iload (pc := 24) hx hb d_Ce_giveTo_24 (lv_at hl 0 rfl) ?_
    refine lv_istore (lv' := [(5, .int ((if (f_Ce_total Z st cx) < a then (f_Ce_total Z st cx) else a))), (4, .int ((if (f_Ce_total Z st cx) < a then (f_Ce_total Z st cx) else a))), (3, .int (f_Ce_total Z st cx)), (0, .ref (ad (16 + cx))), (1, .ref (ad 1)), (2, .int a)]) (pc := 26) hx hb d_Ce_giveTo_26 hl (by decide) rfl (fun ls hl => ?_)
    refine lv_iconst (v := 0) (pc := 28) hx hb d_Ce_giveTo_28 (by decide) ?_
    refine lv_istore (lv' := [(6, .int 0), (5, .int ((if (f_Ce_total Z st cx) < a then (f_Ce_total Z st cx) else a))), (4, .int ((if (f_Ce_total Z st cx) < a then (f_Ce_total Z st cx) else a))), (3, .int (f_Ce_total Z st cx)), (0, .ref (ad (16 + cx))), (1, .ref (ad 1)), (2, .int a)]) (pc := 29) hx hb d_Ce_giveTo_29 hl (by decide) rfl (fun ls hl => ?_)
    refine lp_give1_ok hR hZ C hK cx (f_Ce_total Z st cx) (if (f_Ce_total Z st cx) < a then (f_Ce_total Z st cx) else a) (by omega) c_1 4 0 (if (f_Ce_total Z st cx) < a then (f_Ce_total Z st cx) else a) st _ _ ls (by omega) hP hS (lv_sub hl [4, 5, 3, 2, 1, 0] rfl) (fun H locs ls hP hS hl => ?_)
    refine lv_iconst (v := 0) (pc := 80) hx hb d_Ce_giveTo_80 (by decide) ?_
    refine lv_istore (lv' := [(6, .int 0), (0, .ref (ad (16 + cx))), (1, .ref (ad 1)), (3, .int (f_Ce_total Z st cx)), (4, .int ((if (f_Ce_total Z st cx) < a then (f_Ce_total Z st cx) else a))), (5, .int ((lp_give1 Z cx (f_Ce_total Z st cx) (if (f_Ce_total Z st cx) < a then (f_Ce_total Z st cx) else a) 4 0 (if (f_Ce_total Z st cx) < a then (f_Ce_total Z st cx) else a) st).1))]) (pc := 81) hx hb d_Ce_giveTo_81 hl (by decide) rfl (fun ls hl => ?_)
    refine lp_give2_ok hR hZ C hK cx (if (f_Ce_total Z st cx) < a then (f_Ce_total Z st cx) else a) (by omega) 4 0 ((lp_give1 Z cx (f_Ce_total Z st cx) (if (f_Ce_total Z st cx) < a then (f_Ce_total Z st cx) else a) 4 0 (if (f_Ce_total Z st cx) < a then (f_Ce_total Z st cx) else a) st).1) ((lp_give1 Z cx (f_Ce_total Z st cx) (if (f_Ce_total Z st cx) < a then (f_Ce_total Z st cx) else a) 4 0 (if (f_Ce_total Z st cx) < a then (f_Ce_total Z st cx) else a) st).2) _ _ ls (by omega) hP hS (lv_sub hl [1, 2, 4, 5, 0] rfl) (fun H locs ls x9 hP hS hl => ?_)
    refine lv_iload (pc := 124) hx hb d_Ce_giveTo_124 (lv_at hl 2 rfl) ?_
    have e9 : f_Ce_giveTo Z st cx a = ((if (f_Ce_total Z st cx) < a then (f_Ce_total Z st cx) else a), (lp_give2 Z cx (if (f_Ce_total Z st cx) < a then (f_Ce_total Z st cx) else a) 4 0 ((lp_give1 Z cx (f_Ce_total Z st cx) (if (f_Ce_total Z st cx) < a then (f_Ce_total Z st cx) else a) 4 0 (if (f_Ce_total Z st cx) < a then (f_Ce_total Z st cx) else a) st).1) ((lp_give1 Z cx (f_Ce_total Z st cx) (if (f_Ce_total Z st cx) < a then (f_Ce_total Z st cx) else a) 4 0 (if (f_Ce_total Z st cx) < a then (f_Ce_total Z st cx) else a) st).2)).2) := by unfold f_Ce_giveTo; rw [if_neg c_1]
    exact rg_iret (pc := 126) hx hb hr hlocks hP hS ⟨by rw [e9], by rw [e9]⟩ d_Ce_giveTo_126
