section RAA
variable {p : Program} {l : Launch} {e : Env} {R : Room} {s : State} {m : MethodId} {args : Array Value} {below : List Frame} {meth : Method} {c : Code} {H : Heap} {locs : List Loc} {cells slots : Nat} {Q : State → Prop}
variable {cc : ByteArray} {pc : Nat} {ls : Array Slot} {rest : List Value} {D : va_G} {cl : List vw_C} {tys : List (ClassId × FieldType)} {H0 : Heap} {n : Nat} {ad : Nat → Nat} {g : Nat → va_E}
theorem rg_alda (hexec : p.tables.exec = Jvm.exec) (hb : c.code = cc) (hK : va_K D cl tys s) (hP : va_P D cl (pw n ad g) H) (j : Nat) (hj : j < n) (t0 : Nat) {cA : ClassId} {ty : FieldType} {N : Nat} {f : Nat → Option Nat} (ha : g j = .inl (cA, N, .inr (.inr (.inr (.inr f))))) (ht : tys[t0]? = some (cA, .array ty)) {i : Int32} (x : Nat) (hx : x < N) (hN : N < 2 ^ 31) (hi : i = nI x) {a : Nat} (hf : f x = some a) (hdg : decode cc pc = .ok (.aaload, 1))
    (kk : W p l e R s m args below meth c H locs cells slots Q (F0 m (pc + 1) ls (.ref a :: rest))) : W p l e R s m args below meth c H locs cells slots Q (F0 m pc ls (.int i :: .ref (ad j) :: rest)) := by
  subst hi
  have hin := vp_in_nI hx hN
  have hcl : (nI x).toNatClampNeg = x := nI_clamp (Nat.lt_trans hx hN)
  exact W.aald (v := .ref a) (ty := .array ty) hexec hb (hP j _ (pw_get hj ha)) ((hK.2 t0 _ ht).1 N (fun j => va_rf (f j))) rfl (fun q => by cases q) (by show ¬ (nI x < 0 ∨ (arrV _ _ _).slots.size ≤ _); rw [arrV_size]; exact hin) (by show (arrV _ _ _).slots[_]? = _; rw [arrV_read _ _ (by rw [hcl]; exact hx), hcl, hf]; rfl) rfl rfl hdg kk
end RAA

def lp_cnt (Z : Nat) (g9 : Nat) : Nat → Nat → Int32 → xS → Int32
  | 0, _, pl, _ => pl
  | n + 1, j, pl, st =>
    lp_cnt Z g9 n (j + 1) (pl * (xs_fc st)) st
set_option maxRecDepth 100000 in
set_option maxHeartbeats 4000000 in
theorem lp_cnt_ok {p : Program} {l : Launch} {e : Env} {s : State} {m : MethodId} {args : Array Value} {below : List Frame} {meth : Method} {c : Code} {D : va_G} {cA : Nat → ClassId} {Z : Nat} {ad : Nat → Nat} {Q : State → Prop} (hR : rD (36 + Z) ad) (hZ : 1 ≤ Z ∧ Z ≤ 6) (C : Cx p s m args meth c b_Mi_countPlans 4 R_Mi (some .int)) (hK : va_K D clG (tyX cA) s) (g9 : Nat) (hg9 : g9 < 5) : ∀ (n : Nat) (j : Nat) (pl : Int32) (st : xS) (H : Heap) (locs : List Loc) (ls : Array Slot), j + n = g9 → va_P D clG (pw (36 + Z) ad (xgx Z ad cA (st))) H → va_S (rA (36 + Z) ad s.heap.size) s.heap H locs → lv_has ls 4 [(0, .ref (ad 5)), (1, .int (nI g9)), (2, .int pl), (3, .int (nI j))] → (∀ (H : Heap) (locs : List Loc) (ls : Array Slot), va_P D clG (pw (36 + Z) ad (xgx Z ad cA (st))) H → va_S (rA (36 + Z) ad s.heap.size) s.heap H locs → lv_has ls 4 [(0, .ref (ad 5)), (1, .int (nI g9)), (2, .int ((lp_cnt Z g9 n j pl st))), (3, .int (nI g9))] → W p l e ({ frames := 0, cells := 0, slots := 0, locals := 0 } : Room) s m args below meth c H locs 0 0 Q (F0 m 22 ls [])) → W p l e ({ frames := 0, cells := 0, slots := 0, locals := 0 } : Room) s m args below meth c H locs 0 0 Q (F0 m 4 ls []) := by
  obtain ⟨⟨hx, hb, hml, hown, hts⟩, hr, hlocks, hN⟩ := id C
  have hown : s.vm.findClass R_Mi = some m.cls := hown
  have hr : meth.sig.returnType = (some .int) := hr
  intro n
  induction n with
  | zero =>
    intro j pl st H locs ls hn hP hS hl hk
    have hj9 : j = g9 := by omega
    refine lv_iload_n (pc := 4) hx hb d_Mi_countPlans_4 rfl (lv_at hl 3 rfl) ?_
    refine lv_iload_n (pc := 5) hx hb d_Mi_countPlans_5 rfl (lv_at hl 1 rfl) ?_
    refine lv_icmp_ge (tgt := 22) (pc := 6) hx hb d_Mi_countPlans_6 (by decide) (fun c_1 => ?_) (fun c_1 => absurd (by rw [hj9]; exact Int32.le_refl _) c_1)
    exact hk H locs ls hP hS (by rw [hj9] at hl; exact lv_sub hl [0, 1, 2, 3] rfl)
  | succ n ih =>
    intro j pl st H locs ls hn hP hS hl hk
    refine lv_iload_n (pc := 4) hx hb d_Mi_countPlans_4 rfl (lv_at hl 3 rfl) ?_
    refine lv_iload_n (pc := 5) hx hb d_Mi_countPlans_5 rfl (lv_at hl 1 rfl) ?_
    refine lv_icmp_ge (tgt := 22) (pc := 6) hx hb d_Mi_countPlans_6 (by decide) (fun c_1 => absurd c_1 (nI_ge (b := g9) (by omega) (by omega))) (fun c_1 => ?_)
    refine lv_iload_n (pc := 9) hx hb d_Mi_countPlans_9 rfl (lv_at hl 2 rfl) ?_
    refine lv_aload_n (pc := 10) hx hb d_Mi_countPlans_10 rfl (lv_at hl 0 rfl) ?_
    refine rg_get (C := R_Mi) (T := T_Mi) (N := 6) (v := .int (xs_fc st)) (pc := 11) hx hb hts i_Mi hown hK hP 5 (by omega) xgx_mixer rfl 5 (by decide) (hts _ wd_89) rfl d_Mi_countPlans_11 ?_
    refine lv_imul (pc := 14) hx hb d_Mi_countPlans_14 ?_
    refine lv_istore_n (lv' := [(2, .int (pl * (xs_fc st))), (0, .ref (ad 5)), (1, .int (nI g9)), (3, .int (nI j))]) (pc := 15) hx hb d_Mi_countPlans_15 rfl hl (by decide) rfl (fun ls hl => ?_)
    refine lv_iinc (v := nI (j + 1)) (lv' := [(3, .int (nI (j + 1))), (2, .int (pl * (xs_fc st))), (0, .ref (ad 5)), (1, .int (nI g9))]) (pc := 16) hx hb d_Mi_countPlans_16 hl (k := 3) rfl (nI_1 _) (by decide) rfl (fun ls hl => ?_)
    refine lv_goto (tgt := 4) (pc := 19) hx hb d_Mi_countPlans_19 (by decide) ?_
    have hk9 := hk
    unfold lp_cnt at hk9
    exact ih (j + 1) (pl * (xs_fc st)) st _ _ ls (by omega) hP hS (lv_sub hl [2, 3, 1, 0] rfl) hk9
def f_Mi_countPlans (Z : Nat) (st : xS) (g9 : Nat) : Int32 :=
  (lp_cnt Z g9 g9 0 1 st)
set_option maxRecDepth 100000 in
set_option maxHeartbeats 4000000 in
theorem c_Mi_countPlans {l : Launch} {D : va_G} {cA : Nat → ClassId} {Z : Nat} {ad : Nat → Nat} (hR : rD (36 + Z) ad) (hZ : 1 ≤ Z ∧ Z ≤ 6) (st : xS) (g9 : Nat) (hg9 : g9 < 5) : RI l y_Mi_countPlans (mws y_Mi_countPlans b_Mi_countPlans 4 (some .int)) ({ frames := 0, cells := 0, slots := 0, locals := 0 } : Room) D clG (tyX cA) (36 + Z) ad (xgx Z ad cA (st)) [.ref (ad 5), .int (nI g9)] (f_Mi_countPlans Z st g9) (xgx Z ad cA (st)) := by
  refine RI_of (cc := b_Mi_countPlans) (maxL := 4) (ret := (some .int)) (by decide) (Nat.le_of_ble_eq_true rfl) ?_
  intro p e s m args below meth c ls C hK hP hS hl
  obtain ⟨⟨hx, hb, hml, hown, hts⟩, hr, hlocks, hN⟩ := id C
  have hown : s.vm.findClass R_Mi = some m.cls := hown
  have hr : meth.sig.returnType = (some .int) := hr
  have hl : lv_has ls 4 [(0, .ref (ad 5)), (1, .int (nI g9))] := hl
  refine lv_iconst (v := 1) (pc := 0) hx hb d_Mi_countPlans_0 (by decide) ?_
  refine lv_istore_n (lv' := [(2, .int 1), (0, .ref (ad 5)), (1, .int (nI g9))]) (pc := 1) hx hb d_Mi_countPlans_1 rfl hl (by decide) rfl (fun ls hl => ?_)
  refine lv_iconst (v := 0) (pc := 2) hx hb d_Mi_countPlans_2 (by decide) ?_
  refine lv_istore_n (lv' := [(3, .int 0), (2, .int 1), (0, .ref (ad 5)), (1, .int (nI g9))]) (pc := 3) hx hb d_Mi_countPlans_3 rfl hl (by decide) rfl (fun ls hl => ?_)
  refine lp_cnt_ok hR hZ C hK g9 (by omega) g9 0 1 st _ _ ls (by omega) hP hS (lv_sub hl [2, 3, 1, 0] rfl) (fun H locs ls hP hS hl => ?_)
  refine lv_iload_n (pc := 22) hx hb d_Mi_countPlans_22 rfl (lv_at hl 2 rfl) ?_
  have e9 : f_Mi_countPlans Z st g9 = (lp_cnt Z g9 g9 0 1 st) := rfl
  exact rg_iret (pc := 23) hx hb hr hlocks hP hS ⟨e9.symm, rfl⟩ d_Mi_countPlans_23

/-- the number of a cell -/
def ix6 (x : Int32) : Prop := x.toNatClampNeg < 6 ∧ x = nI x.toNatClampNeg

def lp_sum (Z : Nat) (kx : Nat) (g9 : Nat) : Nat → Nat → Int32 → xS → Int32
  | 0, _, sm, _ => sm
  | n + 1, j, sm, st =>
    lp_sum Z kx g9 n (j + 1) (sm + (xs_ot st ((xs_tr st j).toNatClampNeg) kx)) st
set_option maxRecDepth 100000 in
set_option maxHeartbeats 4000000 in
theorem lp_sum_ok {p : Program} {l : Launch} {e : Env} {s : State} {m : MethodId} {args : Array Value} {below : List Frame} {meth : Method} {c : Code} {D : va_G} {cA : Nat → ClassId} {Z : Nat} {ad : Nat → Nat} {Q : State → Prop} (hR : rD (36 + Z) ad) (hZ : 1 ≤ Z ∧ Z ≤ 6) (C : Cx p s m args meth c b_Mi_sumOfTrial 5 R_Mi (some .int)) (hK : va_K D clG (tyX cA) s) (kx : Nat) (g9 : Nat) (hkx : kx < 4) (hg9 : g9 < 5) : ∀ (n : Nat) (j : Nat) (sm : Int32) (st : xS) (H : Heap) (locs : List Loc) (ls : Array Slot), (j + n = g9 ∧ ∀ i, i < g9 → ix6 (xs_tr st i)) → va_P D clG (pw (36 + Z) ad (xgx Z ad cA (st))) H → va_S (rA (36 + Z) ad s.heap.size) s.heap H locs → lv_has ls 5 [(0, .ref (ad 5)), (1, .int (nI kx)), (2, .int (nI g9)), (3, .int sm), (4, .int (nI j))] → (∀ (H : Heap) (locs : List Loc) (ls : Array Slot), va_P D clG (pw (36 + Z) ad (xgx Z ad cA (st))) H → va_S (rA (36 + Z) ad s.heap.size) s.heap H locs → lv_has ls 5 [(0, .ref (ad 5)), (1, .int (nI kx)), (2, .int (nI g9)), (3, .int ((lp_sum Z kx g9 n j sm st))), (4, .int (nI g9))] → W p l e ({ frames := 0, cells := 0, slots := 0, locals := 0 } : Room) s m args below meth c H locs 0 0 Q (F0 m 40 ls [])) → W p l e ({ frames := 0, cells := 0, slots := 0, locals := 0 } : Room) s m args below meth c H locs 0 0 Q (F0 m 5 ls []) := by
  obtain ⟨⟨hx, hb, hml, hown, hts⟩, hr, hlocks, hN⟩ := id C
  have hown : s.vm.findClass R_Mi = some m.cls := hown
  have hr : meth.sig.returnType = (some .int) := hr
  intro n
  induction n with
  | zero =>
    intro j sm st H locs ls hn hP hS hl hk
    obtain ⟨hn, htr⟩ := hn
    have hj9 : j = g9 := by omega
    refine lv_iload (pc := 5) hx hb d_Mi_sumOfTrial_5 (lv_at hl 4 rfl) ?_
    refine lv_iload_n (pc := 7) hx hb d_Mi_sumOfTrial_7 rfl (lv_at hl 2 rfl) ?_
    refine lv_icmp_ge (tgt := 40) (pc := 8) hx hb d_Mi_sumOfTrial_8 (by decide) (fun c_1 => ?_) (fun c_1 => absurd (by rw [hj9]; exact Int32.le_refl _) c_1)
    exact hk H locs ls hP hS (by rw [hj9] at hl; exact lv_sub hl [0, 1, 2, 3, 4] rfl)
  | succ n ih =>
    intro j sm st H locs ls hn hP hS hl hk
    obtain ⟨hn, htr⟩ := hn
    refine lv_iload (pc := 5) hx hb d_Mi_sumOfTrial_5 (lv_at hl 4 rfl) ?_
    refine lv_iload_n (pc := 7) hx hb d_Mi_sumOfTrial_7 rfl (lv_at hl 2 rfl) ?_
    refine lv_icmp_ge (tgt := 40) (pc := 8) hx hb d_Mi_sumOfTrial_8 (by decide) (fun c_1 => absurd c_1 (nI_ge (b := g9) (by omega) (by omega))) (fun c_1 => ?_)
    refine lv_iload (pc := 11) hx hb d_Mi_sumOfTrial_11 (lv_at hl 4 rfl) ?_
    refine lv_iconst (v := 4) (pc := 13) hx hb d_Mi_sumOfTrial_13 (by decide) ?_
    refine lv_icmp_ge (tgt := 40) (pc := 14) hx hb d_Mi_sumOfTrial_14 (by decide) (fun c_2 => absurd c_2 (nI_ge (b := 4) (by omega) (by decide))) (fun c_2 => ?_)
    refine lv_iload_n (pc := 17) hx hb d_Mi_sumOfTrial_17 rfl (lv_at hl 3 rfl) ?_
    refine lv_aload_n (pc := 18) hx hb d_Mi_sumOfTrial_18 rfl (lv_at hl 0 rfl) ?_
    refine rg_get (C := R_Mi) (T := T_Mi) (N := 6) (v := .ref (ad 8)) (pc := 19) hx hb hts i_Mi hown hK hP 5 (by omega) xgx_mixer rfl 3 (by decide) (hts _ wd_87) rfl d_Mi_sumOfTrial_19 ?_
    refine lv_aload_n (pc := 22) hx hb d_Mi_sumOfTrial_22 rfl (lv_at hl 0 rfl) ?_
    refine rg_get (C := R_Mi) (T := T_Mi) (N := 6) (v := .ref (ad 7)) (pc := 23) hx hb hts i_Mi hown hK hP 5 (by omega) xgx_mixer rfl 2 (by decide) (hts _ wd_86) rfl d_Mi_sumOfTrial_23 ?_
    refine lv_iload (pc := 26) hx hb d_Mi_sumOfTrial_26 (lv_at hl 4 rfl) ?_
    refine rg_iald (pc := 28) hx hb hK hP 7 (by omega) 0 xgx_trial rfl j (by omega) (by omega) rfl d_Mi_sumOfTrial_28 ?_
    have htj := (htr j (by omega)).1
    refine rg_alda (pc := 29) hx hb hK hP 8 (by omega) 5 xgx_ofT rfl ((xs_tr st j).toNatClampNeg) (by omega) (by omega) (htr j (by omega)).2 rfl d_Mi_sumOfTrial_29 ?_
    refine lv_iload_n (pc := 30) hx hb d_Mi_sumOfTrial_30 rfl (lv_at hl 1 rfl) ?_
    refine rg_iald (pc := 31) hx hb hK hP (30 + (xs_tr st j).toNatClampNeg) (by omega) 0 (xgx_Row (j := (xs_tr st j).toNatClampNeg) (by omega)) rfl kx (by omega) (by omega) rfl d_Mi_sumOfTrial_31 ?_
    refine lv_iadd (pc := 32) hx hb d_Mi_sumOfTrial_32 ?_
    refine lv_istore_n (lv' := [(3, .int (sm + (xs_ot st ((xs_tr st j).toNatClampNeg) kx))), (0, .ref (ad 5)), (1, .int (nI kx)), (2, .int (nI g9)), (4, .int (nI j))]) (pc := 33) hx hb d_Mi_sumOfTrial_33 rfl hl (by decide) rfl (fun ls hl => ?_)
    refine lv_iinc (v := nI (j + 1)) (lv' := [(4, .int (nI (j + 1))), (3, .int (sm + (xs_ot st ((xs_tr st j).toNatClampNeg) kx))), (0, .ref (ad 5)), (1, .int (nI kx)), (2, .int (nI g9))]) (pc := 34) hx hb d_Mi_sumOfTrial_34 hl (k := 4) rfl (nI_1 _) (by decide) rfl (fun ls hl => ?_)
    refine lv_goto (tgt := 5) (pc := 37) hx hb d_Mi_sumOfTrial_37 (by decide) ?_
    have hk9 := hk
    unfold lp_sum at hk9
    exact ih (j + 1) (sm + (xs_ot st ((xs_tr st j).toNatClampNeg) kx)) st _ _ ls ⟨by omega, htr⟩ hP hS (lv_sub hl [2, 3, 4, 1, 0] rfl) hk9
def f_Mi_sumOfTrial (Z : Nat) (st : xS) (kx : Nat) (g9 : Nat) : Int32 :=
  (lp_sum Z kx g9 g9 0 0 st)
set_option maxRecDepth 100000 in
set_option maxHeartbeats 4000000 in
theorem c_Mi_sumOfTrial {l : Launch} {D : va_G} {cA : Nat → ClassId} {Z : Nat} {ad : Nat → Nat} (hR : rD (36 + Z) ad) (hZ : 1 ≤ Z ∧ Z ≤ 6) (st : xS) (kx : Nat) (hkx : kx < 4) (g9 : Nat) (hg9 : g9 < 5) (htr : ∀ i, i < g9 → ix6 (xs_tr st i)) : RI l y_Mi_sumOfTrial (mws y_Mi_sumOfTrial b_Mi_sumOfTrial 5 (some .int)) ({ frames := 0, cells := 0, slots := 0, locals := 0 } : Room) D clG (tyX cA) (36 + Z) ad (xgx Z ad cA (st)) [.ref (ad 5), .int (nI kx), .int (nI g9)] (f_Mi_sumOfTrial Z st kx g9) (xgx Z ad cA (st)) := by
  refine RI_of (cc := b_Mi_sumOfTrial) (maxL := 5) (ret := (some .int)) (by decide) (Nat.le_of_ble_eq_true rfl) ?_
  intro p e s m args below meth c ls C hK hP hS hl
  obtain ⟨⟨hx, hb, hml, hown, hts⟩, hr, hlocks, hN⟩ := id C
  have hown : s.vm.findClass R_Mi = some m.cls := hown
  have hr : meth.sig.returnType = (some .int) := hr
  have hl : lv_has ls 5 [(0, .ref (ad 5)), (1, .int (nI kx)), (2, .int (nI g9))] := hl
  refine lv_iconst (v := 0) (pc := 0) hx hb d_Mi_sumOfTrial_0 (by decide) ?_
  refine lv_istore_n (lv' := [(3, .int 0), (0, .ref (ad 5)), (1, .int (nI kx)), (2, .int (nI g9))]) (pc := 1) hx hb d_Mi_sumOfTrial_1 rfl hl (by decide) rfl (fun ls hl => ?_)
  refine lv_iconst (v := 0) (pc := 2) hx hb d_Mi_sumOfTrial_2 (by decide) ?_
  refine lv_istore (lv' := [(4, .int 0), (3, .int 0), (0, .ref (ad 5)), (1, .int (nI kx)), (2, .int (nI g9))]) (pc := 3) hx hb d_Mi_sumOfTrial_3 hl (by decide) rfl (fun ls hl => ?_)
  refine lp_sum_ok hR hZ C hK kx g9 (by omega) (by omega) g9 0 0 st _ _ ls ⟨by omega, htr⟩ hP hS (lv_sub hl [2, 3, 4, 1, 0] rfl) (fun H locs ls hP hS hl => ?_)
  refine lv_iload_n (pc := 40) hx hb d_Mi_sumOfTrial_40 rfl (lv_at hl 3 rfl) ?_
  have e9 : f_Mi_sumOfTrial Z st kx g9 = (lp_sum Z kx g9 g9 0 0 st) := rfl
  exact rg_iret (pc := 41) hx hb hr hlocks hP hS ⟨e9.symm, rfl⟩ d_Mi_sumOfTrial_41

def lp_spr (Z : Nat) (g9 : Nat) : Nat → Nat → Int32 → Int32 → xS → Int32 × Int32
  | 0, _, gr, le, _ => (gr, le)
  | n + 1, j, gr, le, st =>
    lp_spr Z g9 n (j + 1) (if gr < (f_Mi_sumOfTrial Z st j g9) then (f_Mi_sumOfTrial Z st j g9) else gr) (if (f_Mi_sumOfTrial Z st j g9) < le then (f_Mi_sumOfTrial Z st j g9) else le) st
set_option maxRecDepth 100000 in
set_option maxHeartbeats 4000000 in
theorem lp_spr_ok {p : Program} {l : Launch} {e : Env} {s : State} {m : MethodId} {args : Array Value} {below : List Frame} {meth : Method} {c : Code} {D : va_G} {cA : Nat → ClassId} {Z : Nat} {ad : Nat → Nat} {Q : State → Prop} (hR : rD (36 + Z) ad) (hZ : 1 ≤ Z ∧ Z ≤ 6) (C : Cx p s m args meth c b_Mi_spreadOfTrial 6 R_Mi (some .int)) (hK : va_K D clG (tyX cA) s) (g9 : Nat) (hg9 : g9 < 5) : ∀ (n : Nat) (j : Nat) (gr : Int32) (le : Int32) (st : xS) (H : Heap) (locs : List Loc) (ls : Array Slot), (j + n = 4 ∧ ∀ i, i < g9 → ix6 (xs_tr st i)) → va_P D clG (pw (36 + Z) ad (xgx Z ad cA (st))) H → va_S (rA (36 + Z) ad s.heap.size) s.heap H locs → lv_has ls 6 [(0, .ref (ad 5)), (1, .int (nI g9)), (2, .int gr), (3, .int le), (4, .int (nI j))] → (∀ (H : Heap) (locs : List Loc) (ls : Array Slot), va_P D clG (pw (36 + Z) ad (xgx Z ad cA (st))) H → va_S (rA (36 + Z) ad s.heap.size) s.heap H locs → lv_has ls 6 [(0, .ref (ad 5)), (1, .int (nI g9)), (2, .int ((lp_spr Z g9 n j gr le st).1)), (3, .int ((lp_spr Z g9 n j gr le st).2)), (4, .int (nI 4))] → W p l e ({ frames := 1, cells := 0, slots := 0, locals := 24 } : Room) s m args below meth c H locs 0 0 Q (F0 m 47 ls [])) → W p l e ({ frames := 1, cells := 0, slots := 0, locals := 24 } : Room) s m args below meth c H locs 0 0 Q (F0 m 12 ls []) := by
  obtain ⟨⟨hx, hb, hml, hown, hts⟩, hr, hlocks, hN⟩ := id C
  have hown : s.vm.findClass R_Mi = some m.cls := hown
  have hr : meth.sig.returnType = (some .int) := hr
  intro n
  induction n with
  | zero =>
    intro j gr le st H locs ls hn hP hS hl hk
    obtain ⟨hn, htr⟩ := hn
    have hj9 : j = 4 := by omega
    refine lv_iload (pc := 12) hx hb d_Mi_spreadOfTrial_12 (lv_at hl 4 rfl) ?_
    refine lv_iconst (v := 4) (pc := 14) hx hb d_Mi_spreadOfTrial_14 (by decide) ?_
    refine lv_icmp_ge (tgt := 47) (pc := 15) hx hb d_Mi_spreadOfTrial_15 (by decide) (fun c_1 => ?_) (fun c_1 => absurd (by rw [hj9]; decide) c_1)
    exact hk H locs ls hP hS (by rw [hj9] at hl; exact lv_sub hl [0, 1, 2, 3, 4] rfl)
  | succ n ih =>
    intro j gr le st H locs ls hn hP hS hl hk
    obtain ⟨hn, htr⟩ := hn
    refine lv_iload (pc := 12) hx hb d_Mi_spreadOfTrial_12 (lv_at hl 4 rfl) ?_
    refine lv_iconst (v := 4) (pc := 14) hx hb d_Mi_spreadOfTrial_14 (by decide) ?_
    refine lv_icmp_ge (tgt := 47) (pc := 15) hx hb d_Mi_spreadOfTrial_15 (by decide) (fun c_1 => absurd c_1 (nI_ge (b := 4) (by omega) (by decide))) (fun c_1 => ?_)
    refine lv_aload_n (pc := 18) hx hb d_Mi_spreadOfTrial_18 rfl (lv_at hl 0 rfl) ?_
    refine lv_iload (pc := 19) hx hb d_Mi_spreadOfTrial_19 (lv_at hl 4 rfl) ?_
    refine lv_iload_n (pc := 21) hx hb d_Mi_spreadOfTrial_21 rfl (lv_at hl 1 rfl) ?_
    refine rg_ci (pc := 22) (va_runV (As := [.int (nI j), .int (nI g9)]) (rest := []) ⟨hx, hb, hml, hown, hts⟩ (c_Mi_sumOfTrial (l := l) hR hZ st j (by omega) g9 (by omega) htr _) ⟨callB_of 2 hts (gd_c wd_507) rfl rfl rfl (hts _ wd_3) (hts _ wd_504) hd_Mi_sumOfTrial ⟨Nat.le_of_ble_eq_true rfl, Nat.le_of_ble_eq_true rfl⟩, hts _ wd_506, hts _ wp_9⟩ ⟨rPc_blind _ _ _ _ _ _ _ _, rg_rec hK hP 5 (by omega) xgx_mixer rfl, rPc_at _ hP hK hN⟩ rfl rfl hl.1 rfl (lv_room (Nat.le_of_ble_eq_true rfl)) d_Mi_spreadOfTrial_22 ⟨Nat.zero_le _, Nat.zero_le _⟩) hS (fun H locs hP hS => ?_)
    refine lv_istore (lv' := [(5, .int (f_Mi_sumOfTrial Z st j g9)), (0, .ref (ad 5)), (1, .int (nI g9)), (2, .int gr), (3, .int le), (4, .int (nI j))]) (pc := 25) hx hb d_Mi_spreadOfTrial_25 hl (by decide) rfl (fun ls hl => ?_)
    refine lv_iload_n (pc := 27) hx hb d_Mi_spreadOfTrial_27 rfl (lv_at hl 3 rfl) ?_
    refine lv_iload (pc := 28) hx hb d_Mi_spreadOfTrial_28 (lv_at hl 0 rfl) ?_
    refine va_mmax (pc := 30) hx hb (hml.trans hl.1.symm) hown (hts _ wd_508) (hts _ wd_509) (hts _ wd_10) (hts _ wd_510) (Nat.le_of_ble_eq_true rfl) (Nat.le_of_ble_eq_true rfl) (Nat.zero_le _) (Nat.zero_le _) d_Mi_spreadOfTrial_30 ?_
    refine lv_istore_n (lv' := [(2, .int ((if gr < (f_Mi_sumOfTrial Z st j g9) then (f_Mi_sumOfTrial Z st j g9) else gr))), (5, .int (f_Mi_sumOfTrial Z st j g9)), (0, .ref (ad 5)), (1, .int (nI g9)), (3, .int le), (4, .int (nI j))]) (pc := 33) hx hb d_Mi_spreadOfTrial_33 rfl hl (by decide) rfl (fun ls hl => ?_)
    refine lv_iload_n (pc := 34) hx hb d_Mi_spreadOfTrial_34 rfl (lv_at hl 4 rfl) ?_
    refine lv_iload (pc := 35) hx hb d_Mi_spreadOfTrial_35 (lv_at hl 1 rfl) ?_
    refine va_mmin (pc := 37) hx hb (hml.trans hl.1.symm) hown (hts _ wd_499) (hts _ wd_300) (hts _ wd_10) (hts _ wd_301) (Nat.le_of_ble_eq_true rfl) (Nat.le_of_ble_eq_true rfl) (Nat.zero_le _) (Nat.zero_le _) d_Mi_spreadOfTrial_37 ?_
    refine lv_istore_n (lv' := [(3, .int ((if (f_Mi_sumOfTrial Z st j g9) < le then (f_Mi_sumOfTrial Z st j g9) else le))), (2, .int ((if gr < (f_Mi_sumOfTrial Z st j g9) then (f_Mi_sumOfTrial Z st j g9) else gr))), (5, .int (f_Mi_sumOfTrial Z st j g9)), (0, .ref (ad 5)), (1, .int (nI g9)), (4, .int (nI j))]) (pc := 40) hx hb d_Mi_spreadOfTrial_40 rfl hl (by decide) rfl (fun ls hl => ?_)
    refine lv_iinc (v := nI (j + 1)) (lv' := [(4, .int (nI (j + 1))), (3, .int ((if (f_Mi_sumOfTrial Z st j g9) < le then (f_Mi_sumOfTrial Z st j g9) else le))), (2, .int ((if gr < (f_Mi_sumOfTrial Z st j g9) then (f_Mi_sumOfTrial Z st j g9) else gr))), (5, .int (f_Mi_sumOfTrial Z st j g9)), (0, .ref (ad 5)), (1, .int (nI g9))]) (pc := 41) hx hb d_Mi_spreadOfTrial_41 hl (k := 5) rfl (nI_1 _) (by decide) rfl (fun ls hl => ?_)
    refine lv_goto (tgt := 12) (pc := 44) hx hb d_Mi_spreadOfTrial_44 (by decide) ?_
    have hk9 := hk
    unfold lp_spr at hk9
    exact ih (j + 1) (if gr < (f_Mi_sumOfTrial Z st j g9) then (f_Mi_sumOfTrial Z st j g9) else gr) (if (f_Mi_sumOfTrial Z st j g9) < le then (f_Mi_sumOfTrial Z st j g9) else le) st _ _ ls ⟨by omega, htr⟩ hP hS (lv_sub hl [4, 5, 2, 1, 0] rfl) hk9
def f_Mi_spreadOfTrial (Z : Nat) (st : xS) (g9 : Nat) : Int32 :=
  ((lp_spr Z g9 3 1 (f_Mi_sumOfTrial Z st 0 g9) (f_Mi_sumOfTrial Z st 0 g9) st).1) - ((lp_spr Z g9 3 1 (f_Mi_sumOfTrial Z st 0 g9) (f_Mi_sumOfTrial Z st 0 g9) st).2)
set_option maxRecDepth 100000 in
set_option maxHeartbeats 4000000 in
theorem c_Mi_spreadOfTrial {l : Launch} {D : va_G} {cA : Nat → ClassId} {Z : Nat} {ad : Nat → Nat} (hR : rD (36 + Z) ad) (hZ : 1 ≤ Z ∧ Z ≤ 6) (st : xS) (g9 : Nat) (hg9 : g9 < 5) (htr : ∀ i, i < g9 → ix6 (xs_tr st i)) : RI l y_Mi_spreadOfTrial (mws y_Mi_spreadOfTrial b_Mi_spreadOfTrial 6 (some .int)) ({ frames := 1, cells := 0, slots := 0, locals := 24 } : Room) D clG (tyX cA) (36 + Z) ad (xgx Z ad cA (st)) [.ref (ad 5), .int (nI g9)] (f_Mi_spreadOfTrial Z st g9) (xgx Z ad cA (st)) := by
  refine RI_of (cc := b_Mi_spreadOfTrial) (maxL := 6) (ret := (some .int)) (by decide) (Nat.le_of_ble_eq_true rfl) ?_
  intro p e s m args below meth c ls C hK hP hS hl
  obtain ⟨⟨hx, hb, hml, hown, hts⟩, hr, hlocks, hN⟩ := id C
  have hown : s.vm.findClass R_Mi = some m.cls := hown
  have hr : meth.sig.returnType = (some .int) := hr
  have hl : lv_has ls 6 [(0, .ref (ad 5)), (1, .int (nI g9))] := hl
  refine lv_aload_n (pc := 0) hx hb d_Mi_spreadOfTrial_0 rfl (lv_at hl 0 rfl) ?_
  refine lv_iconst (v := 0) (pc := 1) hx hb d_Mi_spreadOfTrial_1 (by decide) ?_
  refine lv_iload_n (pc := 2) hx hb d_Mi_spreadOfTrial_2 rfl (lv_at hl 1 rfl) ?_
  refine rg_ci (pc := 3) (va_runV (As := [.int 0, .int (nI g9)]) (rest := []) ⟨hx, hb, hml, hown, hts⟩ (c_Mi_sumOfTrial (l := l) hR hZ st 0 (by omega) g9 (by omega) htr _) ⟨callB_of 2 hts (gd_c wd_507) rfl rfl rfl (hts _ wd_3) (hts _ wd_504) hd_Mi_sumOfTrial ⟨Nat.le_of_ble_eq_true rfl, Nat.le_of_ble_eq_true rfl⟩, hts _ wd_506, hts _ wp_9⟩ ⟨rPc_blind _ _ _ _ _ _ _ _, rg_rec hK hP 5 (by omega) xgx_mixer rfl, rPc_at _ hP hK hN⟩ rfl rfl hl.1 rfl (lv_room (Nat.le_of_ble_eq_true rfl)) d_Mi_spreadOfTrial_3 ⟨Nat.zero_le _, Nat.zero_le _⟩) hS (fun H locs hP hS => ?_)
  refine lv_istore_n (lv' := [(2, .int (f_Mi_sumOfTrial Z st 0 g9)), (0, .ref (ad 5)), (1, .int (nI g9))]) (pc := 6) hx hb d_Mi_spreadOfTrial_6 rfl hl (by decide) rfl (fun ls hl => ?_)
  refine lv_iload_n (pc := 7) hx hb d_Mi_spreadOfTrial_7 rfl (lv_at hl 0 rfl) ?_
  refine lv_istore_n (lv' := [(3, .int (f_Mi_sumOfTrial Z st 0 g9)), (2, .int (f_Mi_sumOfTrial Z st 0 g9)), (0, .ref (ad 5)), (1, .int (nI g9))]) (pc := 8) hx hb d_Mi_spreadOfTrial_8 rfl hl (by decide) rfl (fun ls hl => ?_)
  refine lv_iconst (v := 1) (pc := 9) hx hb d_Mi_spreadOfTrial_9 (by decide) ?_
  refine lv_istore (lv' := [(4, .int 1), (3, .int (f_Mi_sumOfTrial Z st 0 g9)), (2, .int (f_Mi_sumOfTrial Z st 0 g9)), (0, .ref (ad 5)), (1, .int (nI g9))]) (pc := 10) hx hb d_Mi_spreadOfTrial_10 hl (by decide) rfl (fun ls hl => ?_)
  refine lp_spr_ok hR hZ C hK g9 (by omega) 3 1 (f_Mi_sumOfTrial Z st 0 g9) (f_Mi_sumOfTrial Z st 0 g9) st _ _ ls ⟨by omega, htr⟩ hP hS (lv_sub hl [3, 4, 2, 1, 0] rfl) (fun H locs ls hP hS hl => ?_)
  refine lv_iload_n (pc := 47) hx hb d_Mi_spreadOfTrial_47 rfl (lv_at hl 2 rfl) ?_
  refine lv_iload_n (pc := 48) hx hb d_Mi_spreadOfTrial_48 rfl (lv_at hl 3 rfl) ?_
  refine lv_isub (pc := 49) hx hb d_Mi_spreadOfTrial_49 ?_
  have e9 : f_Mi_spreadOfTrial Z st g9 = ((lp_spr Z g9 3 1 (f_Mi_sumOfTrial Z st 0 g9) (f_Mi_sumOfTrial Z st 0 g9) st).1) - ((lp_spr Z g9 3 1 (f_Mi_sumOfTrial Z st 0 g9) (f_Mi_sumOfTrial Z st 0 g9) st).2) := rfl
  exact rg_iret (pc := 50) hx hb hr hlocks hP hS ⟨e9.symm, rfl⟩ d_Mi_spreadOfTrial_50

theorem min_4 {g : Nat} (h : g < 5) : (if (4 : Int32) < nI g then 4 else nI g) = nI g := by
  rw [if_neg]
  intro q
  exact nI_nlt (a := 4) (b := g) (by omega) (by decide) q

def lp_keep (Z : Nat) (g9 : Nat) : Nat → Nat → xS → xS
  | 0, _, st => st
  | n + 1, j, st =>
    lp_keep Z g9 n (j + 1) (xp_fo st j (xs_tr st j))
set_option maxRecDepth 100000 in
set_option maxHeartbeats 4000000 in
theorem lp_keep_ok {p : Program} {l : Launch} {e : Env} {s : State} {m : MethodId} {args : Array Value} {below : List Frame} {meth : Method} {c : Code} {D : va_G} {cA : Nat → ClassId} {Z : Nat} {ad : Nat → Nat} {Q : State → Prop} (hR : rD (36 + Z) ad) (hZ : 1 ≤ Z ∧ Z ≤ 6) (C : Cx p s m args meth c b_Mi_keepTrial 3 R_Mi none) (hK : va_K D clG (tyX cA) s) (g9 : Nat) (hg9 : g9 < 5) : ∀ (n : Nat) (j : Nat) (st : xS) (H : Heap) (locs : List Loc) (ls : Array Slot), (j + n = g9 ∧ xs_fg st = nI g9) → va_P D clG (pw (36 + Z) ad (xgx Z ad cA (st))) H → va_S (rA (36 + Z) ad s.heap.size) s.heap H locs → lv_has ls 3 [(0, .ref (ad 5)), (1, .int (nI g9)), (2, .int (nI j))] → (∀ (H : Heap) (locs : List Loc) (ls : Array Slot), va_P D clG (pw (36 + Z) ad (xgx Z ad cA ((lp_keep Z g9 n j st)))) H → va_S (rA (36 + Z) ad s.heap.size) s.heap H locs → lv_has ls 3 [(0, .ref (ad 5)), (1, .int (nI g9)), (2, .int (nI g9))] → W p l e ({ frames := 1, cells := 0, slots := 0, locals := 23 } : Room) s m args below meth c H locs 0 0 Q (F0 m 37 ls [])) → W p l e ({ frames := 1, cells := 0, slots := 0, locals := 23 } : Room) s m args below meth c H locs 0 0 Q (F0 m 11 ls []) := by
  obtain ⟨⟨hx, hb, hml, hown, hts⟩, hr, hlocks, hN⟩ := id C
  have hown : s.vm.findClass R_Mi = some m.cls := hown
  have hr : meth.sig.returnType = none := hr
  intro n
  induction n with
  | zero =>
    intro j st H locs ls hn hP hS hl hk
    obtain ⟨hn, hfg⟩ := hn
    have hj9 : j = g9 := by omega
    refine lv_iload_n (pc := 11) hx hb d_Mi_keepTrial_11 rfl (lv_at hl 2 rfl) ?_
    refine lv_aload_n (pc := 12) hx hb d_Mi_keepTrial_12 rfl (lv_at hl 0 rfl) ?_
    refine rg_get (C := R_Mi) (T := T_Mi) (N := 6) (v := .int (xs_fg st)) (pc := 13) hx hb hts i_Mi hown hK hP 5 (by omega) xgx_mixer rfl 1 (by decide) (hts _ wd_84) rfl d_Mi_keepTrial_13 ?_
    rw [hfg]
    refine lv_icmp_ge (tgt := 37) (pc := 16) hx hb d_Mi_keepTrial_16 (by decide) (fun c_1 => ?_) (fun c_1 => absurd (by rw [hj9]; exact Int32.le_refl _) c_1)
    exact hk H locs ls hP hS (by rw [hj9] at hl; exact lv_sub hl [0, 1, 2] rfl)
  | succ n ih =>
    intro j st H locs ls hn hP hS hl hk
    obtain ⟨hn, hfg⟩ := hn
    refine lv_iload_n (pc := 11) hx hb d_Mi_keepTrial_11 rfl (lv_at hl 2 rfl) ?_
    refine lv_aload_n (pc := 12) hx hb d_Mi_keepTrial_12 rfl (lv_at hl 0 rfl) ?_
    refine rg_get (C := R_Mi) (T := T_Mi) (N := 6) (v := .int (xs_fg st)) (pc := 13) hx hb hts i_Mi hown hK hP 5 (by omega) xgx_mixer rfl 1 (by decide) (hts _ wd_84) rfl d_Mi_keepTrial_13 ?_
    rw [hfg]
    refine lv_icmp_ge (tgt := 37) (pc := 16) hx hb d_Mi_keepTrial_16 (by decide) (fun c_1 => absurd c_1 (nI_ge (b := g9) (by omega) (by omega))) (fun c_1 => ?_)
    refine lv_aload_n (pc := 19) hx hb d_Mi_keepTrial_19 rfl (lv_at hl 0 rfl) ?_
    refine rg_get (C := R_Mi) (T := T_Mi) (N := 6) (v := .ref (ad 6)) (pc := 20) hx hb hts i_Mi hown hK hP 5 (by omega) xgx_mixer rfl 0 (by decide) (hts _ wd_82) rfl d_Mi_keepTrial_20 ?_
    refine lv_iload_n (pc := 23) hx hb d_Mi_keepTrial_23 rfl (lv_at hl 2 rfl) ?_
    refine lv_aload_n (pc := 24) hx hb d_Mi_keepTrial_24 rfl (lv_at hl 0 rfl) ?_
    refine rg_get (C := R_Mi) (T := T_Mi) (N := 6) (v := .ref (ad 7)) (pc := 25) hx hb hts i_Mi hown hK hP 5 (by omega) xgx_mixer rfl 2 (by decide) (hts _ wd_86) rfl d_Mi_keepTrial_25 ?_
    refine lv_iload_n (pc := 28) hx hb d_Mi_keepTrial_28 rfl (lv_at hl 2 rfl) ?_
    refine rg_iald (pc := 29) hx hb hK hP 7 (by omega) 0 xgx_trial rfl j (by omega) (by omega) rfl d_Mi_keepTrial_29 ?_
    refine rg_iast (pc := 30) hx hb hK hR hP hS 6 (by omega) 0 xgx_found rfl j (by omega) (by omega) rfl d_Mi_keepTrial_30 (xgx_found_w j (xs_tr st j)) (fun H locs hP hS => ?_)
    refine lv_iinc (v := nI (j + 1)) (lv' := [(2, .int (nI (j + 1))), (0, .ref (ad 5)), (1, .int (nI g9))]) (pc := 31) hx hb d_Mi_keepTrial_31 hl (k := 2) rfl (nI_1 _) (by decide) rfl (fun ls hl => ?_)
    refine lv_goto (tgt := 11) (pc := 34) hx hb d_Mi_keepTrial_34 (by decide) ?_
    have hk9 := hk
    unfold lp_keep at hk9
    exact ih (j + 1) (xp_fo st j (xs_tr st j)) _ _ ls ⟨by omega, hfg⟩ hP hS (lv_sub hl [1, 2, 0] rfl) hk9
def f_Mi_keepTrial (Z : Nat) (st : xS) (g9 : Nat) : xS :=
  (lp_keep Z g9 g9 0 (xp_fg st (nI g9)))
set_option maxRecDepth 100000 in
set_option maxHeartbeats 4000000 in
theorem c_Mi_keepTrial {l : Launch} {D : va_G} {cA : Nat → ClassId} {Z : Nat} {ad : Nat → Nat} (hR : rD (36 + Z) ad) (hZ : 1 ≤ Z ∧ Z ≤ 6) (st : xS) (g9 : Nat) (hg9 : g9 < 5) : RV l y_Mi_keepTrial (mws y_Mi_keepTrial b_Mi_keepTrial 3 none) ({ frames := 1, cells := 0, slots := 0, locals := 23 } : Room) D clG (tyX cA) (36 + Z) ad (xgx Z ad cA (st)) [.ref (ad 5), .int (nI g9)] (xgx Z ad cA (f_Mi_keepTrial Z st g9)) := by
  refine RV_of (cc := b_Mi_keepTrial) (maxL := 3) (ret := none) (by decide) (Nat.le_of_ble_eq_true rfl) ?_
  intro p e s m args below meth c ls C hK hP hS hl
  obtain ⟨⟨hx, hb, hml, hown, hts⟩, hr, hlocks, hN⟩ := id C
  have hown : s.vm.findClass R_Mi = some m.cls := hown
  have hr : meth.sig.returnType = none := hr
  have hl : lv_has ls 3 [(0, .ref (ad 5)), (1, .int (nI g9))] := hl
  refine lv_aload_n (pc := 0) hx hb d_Mi_keepTrial_0 rfl (lv_at hl 0 rfl) ?_
  refine lv_iload_n (pc := 1) hx hb d_Mi_keepTrial_1 rfl (lv_at hl 1 rfl) ?_
  refine lv_iconst (v := 4) (pc := 2) hx hb d_Mi_keepTrial_2 (by decide) ?_
  refine va_mmin (pc := 3) hx hb (hml.trans hl.1.symm) hown (hts _ wd_499) (hts _ wd_300) (hts _ wd_10) (hts _ wd_301) (Nat.le_of_ble_eq_true rfl) (Nat.le_of_ble_eq_true rfl) (Nat.zero_le _) (Nat.zero_le _) d_Mi_keepTrial_3 ?_
  rw [show ((if 4 < (nI g9) then 4 else (nI g9)) : Int32) = nI g9 from min_4 hg9]
  refine rg_put (C := R_Mi) (T := T_Mi) (N := 6) (pc := 6) hx hb hts i_Mi t_Mi t_Mi_ok n_Mi hown hK hR hP hS 5 (by omega) xgx_mixer rfl 1 (by decide) (hts _ wd_84) rfl rfl rfl (Nat.le_of_ble_eq_true rfl) d_Mi_keepTrial_6 (xgx_mixer_fg (nI g9)) (fun H locs hP hS => ?_)
  refine lv_iconst (v := 0) (pc := 9) hx hb d_Mi_keepTrial_9 (by decide) ?_
  refine lv_istore_n (lv' := [(2, .int 0), (0, .ref (ad 5)), (1, .int (nI g9))]) (pc := 10) hx hb d_Mi_keepTrial_10 rfl hl (by decide) rfl (fun ls hl => ?_)
  refine lp_keep_ok hR hZ C hK g9 (by omega) g9 0 (xp_fg st (nI g9)) _ _ ls ⟨by omega, rfl⟩ hP hS (lv_sub hl [1, 2, 0] rfl) (fun H locs ls hP hS hl => ?_)
  have e9 : f_Mi_keepTrial Z st g9 = (lp_keep Z g9 g9 0 (xp_fg st (nI g9))) := rfl
  exact rg_vret (pc := 37) hx hb hr hlocks hP hS (by rw [e9]) d_Mi_keepTrial_37

def lp_spell (Z : Nat) (qn : Nat) : Nat → Nat → xS → Nat × xS
  | 0, r, st => (r, st)
  | n + 1, r, st =>
    lp_spell Z qn n (r / qn) (xp_tr st n (xs_fi st (r % qn)))
set_option maxRecDepth 100000 in
set_option maxHeartbeats 4000000 in
theorem lp_spell_ok {p : Program} {l : Launch} {e : Env} {s : State} {m : MethodId} {args : Array Value} {below : List Frame} {meth : Method} {c : Code} {D : va_G} {cA : Nat → ClassId} {Z : Nat} {ad : Nat → Nat} {Q : State → Prop} (hR : rD (36 + Z) ad) (hZ : 1 ≤ Z ∧ Z ≤ 6) (C : Cx p s m args meth c b_Mi_spellTrial 5 R_Mi none) (hK : va_K D clG (tyX cA) s) (qn : Nat) (hq0 : 0 < qn) (hq6 : qn ≤ 6) : ∀ (n : Nat) (r : Nat) (st : xS) (H : Heap) (locs : List Loc) (ls : Array Slot), (n ≤ 4 ∧ r < 2147483648 ∧ xs_fc st = nI qn) → va_P D clG (pw (36 + Z) ad (xgx Z ad cA (st))) H → va_S (rA (36 + Z) ad s.heap.size) s.heap H locs → lv_has ls 5 [(0, .ref (ad 5)), (3, .int (nI r)), (4, .int (dc n))] → (∀ (H : Heap) (locs : List Loc) (ls : Array Slot), va_P D clG (pw (36 + Z) ad (xgx Z ad cA ((lp_spell Z qn n r st).2))) H → va_S (rA (36 + Z) ad s.heap.size) s.heap H locs → lv_has ls 5 [(0, .ref (ad 5)), (3, .int (nI (lp_spell Z qn n r st).1)), (4, .int (-1))] → W p l e ({ frames := 1, cells := 0, slots := 0, locals := 23 } : Room) s m args below meth c H locs 0 0 Q (F0 m 54 ls [])) → W p l e ({ frames := 1, cells := 0, slots := 0, locals := 23 } : Room) s m args below meth c H locs 0 0 Q (F0 m 11 ls []) := by
  obtain ⟨⟨hx, hb, hml, hown, hts⟩, hr, hlocks, hN⟩ := id C
  have hown : s.vm.findClass R_Mi = some m.cls := hown
  have hr : meth.sig.returnType = none := hr
  intro n
  induction n with
  | zero =>
    intro r st H locs ls hn hP hS hl hk
    obtain ⟨hn, hr9, hfc⟩ := hn
    have hl : lv_has ls 5 [(0, .ref (ad 5)), (3, .int (nI r)), (4, .int (-1))] := hl
    refine lv_iload (pc := 11) hx hb d_Mi_spellTrial_11 (lv_at hl 2 rfl) ?_
    refine lv_if_lt (tgt := 54) (pc := 13) hx hb d_Mi_spellTrial_13 (by decide) (fun c_1 => ?_) (fun c_1 => absurd (by decide) c_1)
    exact hk H locs ls hP hS (lv_sub hl [0, 1, 2] rfl)
  | succ n ih =>
    intro r st H locs ls hn hP hS hl hk
    obtain ⟨hn, hr9, hfc⟩ := hn
    have hl : lv_has ls 5 [(0, .ref (ad 5)), (3, .int (nI r)), (4, .int (nI n))] := hl
    refine lv_iload (pc := 11) hx hb d_Mi_spellTrial_11 (lv_at hl 2 rfl) ?_
    refine lv_if_lt (tgt := 54) (pc := 13) hx hb d_Mi_spellTrial_13 (by decide) (fun c_1 => absurd c_1 (nI_pos (by omega))) (fun c_1 => ?_)
    refine lv_aload_n (pc := 16) hx hb d_Mi_spellTrial_16 rfl (lv_at hl 0 rfl) ?_
    refine rg_get (C := R_Mi) (T := T_Mi) (N := 6) (v := .int (xs_fc st)) (pc := 17) hx hb hts i_Mi hown hK hP 5 (by omega) xgx_mixer rfl 5 (by decide) (hts _ wd_89) rfl d_Mi_spellTrial_17 ?_
    rw [show (xs_fc st : Int32) = nI qn from hfc]
    refine lv_if_le (tgt := 54) (pc := 20) hx hb d_Mi_spellTrial_20 (by decide) (fun c_2 => absurd c_2 (nI_nle (by omega) (by omega))) (fun c_2 => ?_)
    refine lv_aload_n (pc := 23) hx hb d_Mi_spellTrial_23 rfl (lv_at hl 0 rfl) ?_
    refine rg_get (C := R_Mi) (T := T_Mi) (N := 6) (v := .ref (ad 7)) (pc := 24) hx hb hts i_Mi hown hK hP 5 (by omega) xgx_mixer rfl 2 (by decide) (hts _ wd_86) rfl d_Mi_spellTrial_24 ?_
    refine lv_iload (pc := 27) hx hb d_Mi_spellTrial_27 (lv_at hl 2 rfl) ?_
    refine lv_aload_n (pc := 29) hx hb d_Mi_spellTrial_29 rfl (lv_at hl 0 rfl) ?_
    refine rg_get (C := R_Mi) (T := T_Mi) (N := 6) (v := .ref (ad 9)) (pc := 30) hx hb hts i_Mi hown hK hP 5 (by omega) xgx_mixer rfl 4 (by decide) (hts _ wd_88) rfl d_Mi_spellTrial_30 ?_
    refine lv_iload_n (pc := 33) hx hb d_Mi_spellTrial_33 rfl (lv_at hl 1 rfl) ?_
    refine lv_aload_n (pc := 34) hx hb d_Mi_spellTrial_34 rfl (lv_at hl 0 rfl) ?_
    refine rg_get (C := R_Mi) (T := T_Mi) (N := 6) (v := .int (xs_fc st)) (pc := 35) hx hb hts i_Mi hown hK hP 5 (by omega) xgx_mixer rfl 5 (by decide) (hts _ wd_89) rfl d_Mi_spellTrial_35 ?_
    rw [show (xs_fc st : Int32) = nI qn from hfc]
    refine lv_irem (pc := 38) hx hb d_Mi_spellTrial_38 (nI_ne0 (by omega) (by omega)) ?_
    have hmod : r % qn < qn := Nat.mod_lt _ (by omega)
    rw [show ((nI r) - (nI r) / (nI qn) * (nI qn) : Int32) = nI (r % qn) from pk_rem (by omega) (by omega) (by omega)]
    refine rg_iald (pc := 39) hx hb hK hP 9 (by omega) 0 xgx_filled rfl (r % qn) (by omega) (by omega) rfl d_Mi_spellTrial_39 ?_
    refine rg_iast (pc := 40) hx hb hK hR hP hS 7 (by omega) 0 xgx_trial rfl n (by omega) (by omega) rfl d_Mi_spellTrial_40 (xgx_trial_w n (xs_fi st (r % qn))) (fun H locs hP hS => ?_)
    refine lv_iload_n (pc := 41) hx hb d_Mi_spellTrial_41 rfl (lv_at hl 1 rfl) ?_
    refine lv_aload_n (pc := 42) hx hb d_Mi_spellTrial_42 rfl (lv_at hl 0 rfl) ?_
    refine rg_get (C := R_Mi) (T := T_Mi) (N := 6) (v := .int (xs_fc (xp_tr st n (xs_fi st (r % qn))))) (pc := 43) hx hb hts i_Mi hown hK hP 5 (by omega) xgx_mixer rfl 5 (by decide) (hts _ wd_89) rfl d_Mi_spellTrial_43 ?_
    rw [show (xs_fc (xp_tr st n (xs_fi st (r % qn))) : Int32) = nI qn from hfc]
    refine lv_idiv (pc := 46) hx hb d_Mi_spellTrial_46 (nI_ne0 (by omega) (by omega)) ?_
    have hdiv : r / qn ≤ r := Nat.div_le_self _ _
    rw [show ((nI r) / (nI qn) : Int32) = nI (r / qn) from pk_div (by omega) (by omega) (by omega)]
    refine lv_istore_n (lv' := [(3, .int (nI (r / qn))), (0, .ref (ad 5)), (4, .int (nI n))]) (pc := 47) hx hb d_Mi_spellTrial_47 rfl hl (by decide) rfl (fun ls hl => ?_)
    refine lv_iinc (v := dc n) (lv' := [(4, .int (dc n)), (3, .int (nI (r / qn))), (0, .ref (ad 5))]) (pc := 48) hx hb d_Mi_spellTrial_48 hl (k := 2) rfl (dc_dec n) (by decide) rfl (fun ls hl => ?_)
    refine lv_goto (tgt := 11) (pc := 51) hx hb d_Mi_spellTrial_51 (by decide) ?_
    have hk9 := hk
    unfold lp_spell at hk9
    exact ih (r / qn) (xp_tr st n (xs_fi st (r % qn))) _ _ ls ⟨by omega, by omega, hfc⟩ hP hS (lv_sub hl [2, 1, 0] rfl) hk9
def f_Mi_spellTrial (Z : Nat) (st : xS) (w9 : Nat) (g9 : Nat) (qn : Nat) : xS :=
  (lp_spell Z qn g9 w9 st).2
set_option maxRecDepth 100000 in
set_option maxHeartbeats 4000000 in
theorem c_Mi_spellTrial {l : Launch} {D : va_G} {cA : Nat → ClassId} {Z : Nat} {ad : Nat → Nat} (hR : rD (36 + Z) ad) (hZ : 1 ≤ Z ∧ Z ≤ 6) (st : xS) (w9 : Nat) (hw9 : w9 < 2147483648) (g9 : Nat) (hg9 : g9 < 5) (qn : Nat) (hfc : xs_fc st = nI qn) (hq0 : 0 < qn) (hq6 : qn ≤ 6) : RV l y_Mi_spellTrial (mws y_Mi_spellTrial b_Mi_spellTrial 5 none) ({ frames := 1, cells := 0, slots := 0, locals := 23 } : Room) D clG (tyX cA) (36 + Z) ad (xgx Z ad cA (st)) [.ref (ad 5), .int (nI w9), .int (nI g9)] (xgx Z ad cA (f_Mi_spellTrial Z st w9 g9 qn)) := by
  refine RV_of (cc := b_Mi_spellTrial) (maxL := 5) (ret := none) (by decide) (Nat.le_of_ble_eq_true rfl) ?_
  intro p e s m args below meth c ls C hK hP hS hl
  obtain ⟨⟨hx, hb, hml, hown, hts⟩, hr, hlocks, hN⟩ := id C
  have hown : s.vm.findClass R_Mi = some m.cls := hown
  have hr : meth.sig.returnType = none := hr
  have hl : lv_has ls 5 [(0, .ref (ad 5)), (1, .int (nI w9)), (2, .int (nI g9))] := hl
  refine lv_iload_n (pc := 0) hx hb d_Mi_spellTrial_0 rfl (lv_at hl 1 rfl) ?_
  refine lv_istore_n (lv' := [(3, .int (nI w9)), (0, .ref (ad 5)), (1, .int (nI w9)), (2, .int (nI g9))]) (pc := 1) hx hb d_Mi_spellTrial_1 rfl hl (by decide) rfl (fun ls hl => ?_)
  refine lv_iload_n (pc := 2) hx hb d_Mi_spellTrial_2 rfl (lv_at hl 3 rfl) ?_
  refine lv_iconst (v := 4) (pc := 3) hx hb d_Mi_spellTrial_3 (by decide) ?_
  refine va_mmin (pc := 4) hx hb (hml.trans hl.1.symm) hown (hts _ wd_499) (hts _ wd_300) (hts _ wd_10) (hts _ wd_301) (Nat.le_of_ble_eq_true rfl) (Nat.le_of_ble_eq_true rfl) (Nat.zero_le _) (Nat.zero_le _) d_Mi_spellTrial_4 ?_
  rw [show ((if 4 < (nI g9) then 4 else (nI g9)) : Int32) = nI g9 from min_4 hg9]
  refine lv_iconst (v := 1) (pc := 7) hx hb d_Mi_spellTrial_7 (by decide) ?_
  refine lv_isub (pc := 8) hx hb d_Mi_spellTrial_8 ?_
  rw [show (nI g9 - 1 : Int32) = dc g9 from dc_of g9]
  refine lv_istore (lv' := [(4, .int (dc g9)), (3, .int (nI w9)), (0, .ref (ad 5)), (1, .int (nI w9)), (2, .int (nI g9))]) (pc := 9) hx hb d_Mi_spellTrial_9 hl (by decide) rfl (fun ls hl => ?_)
  refine lp_spell_ok hR hZ C hK qn hq0 hq6 g9 w9 st _ _ ls ⟨by omega, by omega, hfc⟩ hP hS (lv_sub hl [2, 1, 0] rfl) (fun H locs ls hP hS hl => ?_)
  have e9 : f_Mi_spellTrial Z st w9 g9 qn = (lp_spell Z qn g9 w9 st).2 := rfl
  exact rg_vret (pc := 54) hx hb hr hlocks hP hS (by rw [e9]) d_Mi_spellTrial_54
