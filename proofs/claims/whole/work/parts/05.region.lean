/-! THE REGION: n cells at the addresses ad, with the contents g. A method's contract speaks of one region; nothing is made, so its addresses stay. -/
def pw (n : Nat) (ad : Nat → Nat) (g : Nat → va_E) : va_W := (List.range n).map (fun i => (ad i, g i))
def rA (n : Nat) (ad : Nat → Nat) (sz : Nat) : Nat → Prop := fun q => (∃ k, k < n ∧ q = ad k) ∨ sz ≤ q
def rD (n : Nat) (ad : Nat → Nat) : Prop := ∀ i j, i < n → j < n → ad i = ad j → i = j
theorem pw_at {n : Nat} {ad : Nat → Nat} {g : Nat → va_E} {i : Nat} {q : Nat × va_E} (h : (pw n ad g)[i]? = some q) : i < n ∧ q = (ad i, g i) := by
  by_cases hi : i < n
  · rw [pw, List.getElem?_map, List.getElem?_range hi] at h
    exact ⟨hi, (Option.some.inj h).symm⟩
  · rw [List.getElem?_eq_none (by simp [pw]; omega)] at h
    cases h
theorem pw_get {n : Nat} {ad : Nat → Nat} {g : Nat → va_E} {i : Nat} {e : va_E} (h : i < n) (hg : g i = e) : (pw n ad g)[i]? = some (ad i, e) := by
  subst hg
  rw [pw, List.getElem?_map, List.getElem?_range h]
  rfl
theorem pw_set {n : Nat} {ad : Nat → Nat} {g : Nat → va_E} {i : Nat} (e : va_E) : (pw n ad g).set i (ad i, e) = pw n ad (va_up g i e) := by
  apply List.ext_getElem?
  intro k
  by_cases hn : k < n
  · by_cases hk : k = i
    · subst hk
      rw [List.getElem?_set_self (by simp [pw]; exact hn), pw_get hn (va_up_self g k e)]
    · rw [List.getElem?_set_ne (Ne.symm hk), pw_get hn rfl, pw_get hn (va_up_ne g e hk)]
  · rw [List.getElem?_eq_none (by simp [pw]; omega), List.getElem?_eq_none (by simp [pw]; omega)]
theorem pw_D {n : Nat} {ad : Nat → Nat} {g : Nat → va_E} {sz : Nat} (h : rD n ad) : va_D (rA n ad sz) (pw n ad g) := by
  refine ⟨fun i j p q hi hj hpq => ?_, fun k q hk => ?_⟩
  · obtain ⟨h1, rfl⟩ := pw_at hi
    obtain ⟨h2, rfl⟩ := pw_at hj
    exact h i j h1 h2 hpq
  · obtain ⟨h1, rfl⟩ := pw_at hk
    exact Or.inl ⟨k, h1, rfl⟩
theorem rA_mono {n : Nat} {ad : Nat → Nat} {a b q : Nat} (h : a ≤ b) (hq : rA n ad b q) : rA n ad a q := hq.elim Or.inl (fun z => Or.inr (Nat.le_trans h z))
theorem pw_congr {n : Nat} {ad : Nat → Nat} {g g' : Nat → va_E} (h : ∀ k, k < n → g k = g' k) : pw n ad g = pw n ad g' := by
  apply List.ext_getElem?
  intro k
  by_cases hn : k < n
  · rw [pw_get hn rfl, pw_get hn rfl, h k hn]
  · rw [List.getElem?_eq_none (by simp [pw]; omega), List.getElem?_eq_none (by simp [pw]; omega)]
def apw {α : Type} (n : Nat) (f rest : Nat → α) : Nat → α := fun k => if k < n then f k else rest (k - n)
theorem apw_l {α : Type} {n : Nat} {f rest : Nat → α} {j : Nat} (h : j < n) : apw n f rest j = f j := by simp [apw, h]
theorem apw_r {α : Type} {n : Nat} {f rest : Nat → α} {j : Nat} : apw n f rest (n + j) = rest j := by
  unfold apw
  rw [if_neg (by omega), Nat.add_sub_cancel_left]
theorem apw_ext {α : Type} {n : Nat} {f f' rest rest' : Nat → α} (h : ∀ i, i < n → f i = f' i) (hr : rest = rest') : apw n f rest = apw n f' rest' := by
  subst hr
  funext k
  by_cases hk : k < n
  · rw [apw_l hk, apw_l hk, h k hk]
  · simp [apw, hk]
theorem apw_ul {α : Type} {n : Nat} {f rest : Nat → α} {j : Nat} {e : α} (h : j < n) : va_up (apw n f rest) j e = apw n (va_up f j e) rest := by
  funext k
  by_cases hk : k = j
  · subst hk; rw [va_up_self, apw_l h, va_up_self]
  · rw [va_up_ne _ _ hk]
    by_cases hn : k < n
    · rw [apw_l hn, apw_l hn, va_up_ne _ _ hk]
    · simp [apw, hn]
theorem apw_ur {α : Type} {n : Nat} {f rest : Nat → α} {j : Nat} {e : α} : va_up (apw n f rest) (n + j) e = apw n f (va_up rest j e) := by
  funext k
  by_cases hk : k = n + j
  · subst hk; rw [va_up_self, apw_r, va_up_self]
  · rw [va_up_ne _ _ hk]
    by_cases hn : k < n
    · rw [apw_l hn, apw_l hn]
    · simp only [apw, hn, if_false]
      rw [va_up_ne _ _ (by omega)]
def b2i (b : Bool) : Int32 := if b then 1 else 0
theorem b2i_n (b : Bool) : narrow .boolean (.int (b2i b)) = .int (b2i b) := by cases b <;> rfl
theorem b2i_f (b : Bool) : fits .boolean (.int (b2i b)) = true := by cases b <;> rfl
section RG
variable {p : Program} {l : Launch} {e : Env} {R : Room} {s : State} {m : MethodId} {args : Array Value} {below : List Frame} {meth : Method} {c : Code} {H : Heap} {locs : List Loc} {cells slots : Nat} {Q : State → Prop}
variable {cc : ByteArray} {pc : Nat} {ls : Array Slot} {rest : List Value} {D : va_G} {cl : List vw_C} {tys : List (ClassId × FieldType)} {H0 : Heap} {n : Nat} {ad : Nat → Nat} {g : Nat → va_E}
theorem rg_get (hexec : p.tables.exec = Jvm.exec) (hb : c.code = cc) {own C : String} {T : u_T} {N ci index : Nat} {Ts : List Cond} (hts : ∀ w ∈ Ts, w.before args s = true) (hin : ∀ w ∈ u_ws C T N, w ∈ Ts) (hown : s.vm.findClass own = some m.cls) (hK : va_K D cl tys s) (hP : va_P D cl (pw n ad g) H) (j : Nat) (hj : j < n) {fs : List Value} (he : g j = .inr (ci, fs)) (hc : cl[ci]? = some (C, T, N)) (k : Nat) (hk : k < N) (hlink : (Cond.fieldLink own index (T k).1 (T k).2.1 (T k).2.2.1).before args s = true) {v : Value} (hv : fs[k]? = some v) (hdg : decode cc pc = .ok (.getfield index, 3))
    (kk : W p l e R s m args below meth c H locs cells slots Q (F0 m (pc + 3) ls (v :: rest))) : W p l e R s m args below meth c H locs cells slots Q (F0 m pc ls (.ref (ad j) :: rest)) :=
  va_get hexec hb hts hin hown hK hP j (pw_get hj he) hc k hk hlink (fun _ h => h) hv hdg kk
theorem rg_put (hexec : p.tables.exec = Jvm.exec) (hb : c.code = cc) {own C : String} {T : u_T} {N ci index : Nat} {Ts : List Cond} (hts : ∀ w ∈ Ts, w.before args s = true) (hin : ∀ w ∈ u_ws C T N, w ∈ Ts) (ty0 : Nat → FieldType) (hty : ∀ k, k < N → parseFieldDescriptor (T k).2.2.1 = some (ty0 k)) (hnm : ∀ a, a < N → ∀ b, b < N → a ≠ b → (T a).2.1 ≠ (T b).2.1) (hown : s.vm.findClass own = some m.cls) (hK : va_K D cl tys s) (hR : rD n ad) (hP : va_P D cl (pw n ad g) H) (hS0 : va_S (rA n ad H0.size) H0 H locs) (j : Nat) (hj : j < n) {fs : List Value} (he : g j = .inr (ci, fs)) (hc : cl[ci]? = some (C, T, N)) (k : Nat) (hk : k < N) (hlink : (Cond.fieldLink own index (T k).1 (T k).2.1 (T k).2.2.1).before args s = true) (hfin : (T k).2.2.2 = false) {v : Value} (hn : narrow (ty0 k) v = v) (hfit : fits (ty0 k) v = true) (hl : k < fs.length) (hdg : decode cc pc = .ok (.putfield index, 3)) {g' : Nat → va_E} (hg' : va_up g j (.inr (ci, fs.set k v)) = g')
    (kk : ∀ (H1 : Heap) (locs1 : List Loc), va_P D cl (pw n ad g') H1 → va_S (rA n ad H0.size) H0 H1 locs1 → W p l e R s m args below meth c H1 locs1 cells slots Q (F0 m (pc + 3) ls rest)) : W p l e R s m args below meth c H locs cells slots Q (F0 m pc ls (v :: .ref (ad j) :: rest)) := by
  refine va_put hexec hb hts hin ty0 hty hnm hown hK hP (pw_D hR) hS0 j (pw_get hj he) hc k hk hlink (fun _ h => h) hfin (hty k hk) hn hfit hl hdg (fun H1 locs1 h1 _ h3 => kk H1 locs1 ?_ h3)
  rw [pw_set, hg'] at h1
  exact h1
theorem rg_iald (hexec : p.tables.exec = Jvm.exec) (hb : c.code = cc) (hK : va_K D cl tys s) (hP : va_P D cl (pw n ad g) H) (j : Nat) (hj : j < n) (t0 : Nat) {cA : ClassId} {N : Nat} {f : Nat → Int32} (ha : g j = .inl (cA, N, .inl f)) (ht : tys[t0]? = some (cA, .int)) {i : Int32} (x : Nat) (hx : x < N) (hN : N < 2 ^ 31) (hi : i = nI x) (hdg : decode cc pc = .ok (.iaload, 1))
    (kk : W p l e R s m args below meth c H locs cells slots Q (F0 m (pc + 1) ls (.int (f x) :: rest))) : W p l e R s m args below meth c H locs cells slots Q (F0 m pc ls (.int i :: .ref (ad j) :: rest)) := by
  subst hi
  refine va_iald hexec hb hK hP j t0 (pw_get hj ha) ht (vp_in_nI hx hN) hdg ?_
  rw [nI_clamp (Nat.lt_trans hx hN)]
  exact kk
theorem rg_lald (hexec : p.tables.exec = Jvm.exec) (hb : c.code = cc) (hK : va_K D cl tys s) (hP : va_P D cl (pw n ad g) H) (j : Nat) (hj : j < n) (t0 : Nat) {cA : ClassId} {N : Nat} {f : Nat → Int64} (ha : g j = .inl (cA, N, .inr (.inl f))) (ht : tys[t0]? = some (cA, .long)) {i : Int32} (x : Nat) (hx : x < N) (hN : N < 2 ^ 31) (hi : i = nI x) (hdg : decode cc pc = .ok (.laload, 1))
    (kk : W p l e R s m args below meth c H locs cells slots Q (F0 m (pc + 1) ls (.long (f x) :: rest))) : W p l e R s m args below meth c H locs cells slots Q (F0 m pc ls (.int i :: .ref (ad j) :: rest)) := by
  subst hi
  refine va_lald hexec hb hK hP j t0 (pw_get hj ha) ht (vp_in_nI hx hN) hdg ?_
  rw [nI_clamp (Nat.lt_trans hx hN)]
  exact kk
theorem rg_aldq (hexec : p.tables.exec = Jvm.exec) (hb : c.code = cc) (hK : va_K D cl tys s) (hP : va_P D cl (pw n ad g) H) (j : Nat) (hj : j < n) (t0 : Nat) {cA : ClassId} {C : String} {N : Nat} {f : Nat → Option Nat} (ha : g j = .inl (cA, N, .inr (.inr (.inr (.inr f))))) (ht : tys[t0]? = some (cA, .object C)) {i : Int32} (x : Nat) (hx : x < N) (hN : N < 2 ^ 31) (hi : i = nI x) {a : Nat} (hf : f x = some a) (hdg : decode cc pc = .ok (.aaload, 1))
    (kk : W p l e R s m args below meth c H locs cells slots Q (F0 m (pc + 1) ls (.ref a :: rest))) : W p l e R s m args below meth c H locs cells slots Q (F0 m pc ls (.int i :: .ref (ad j) :: rest)) := by
  subst hi
  refine va_aldq hexec hb hK hP j t0 (pw_get hj ha) ht (vp_in_nI hx hN) hdg ?_
  rw [nI_clamp (Nat.lt_trans hx hN), hf]
  exact kk
theorem rg_alen (hexec : p.tables.exec = Jvm.exec) (hb : c.code = cc) (hK : va_K D cl tys s) (hP : va_P D cl (pw n ad g) H) (j : Nat) (hj : j < n) (t0 : Nat) {cA : ClassId} {x : vp_A} (ha : g j = .inl (cA, x)) {ty : FieldType} (ht : tys[t0]? = some (cA, ty)) {v : Int32} (hv : Int32.ofNat x.1 = v) (hdg : decode cc pc = .ok (.arraylength, 1))
    (kk : W p l e R s m args below meth c H locs cells slots Q (F0 m (pc + 1) ls (.int v :: rest))) : W p l e R s m args below meth c H locs cells slots Q (F0 m pc ls (.ref (ad j) :: rest)) :=
  va_alen hexec hb hK hP j t0 (pw_get hj ha) ht hv hdg kk
theorem rg_iast (hexec : p.tables.exec = Jvm.exec) (hb : c.code = cc) (hK : va_K D cl tys s) (hR : rD n ad) (hP : va_P D cl (pw n ad g) H) (hS : va_S (rA n ad H0.size) H0 H locs) (j : Nat) (hj : j < n) (t0 : Nat) {cA : ClassId} {N : Nat} {f : Nat → Int32} (ha : g j = .inl (cA, N, .inl f)) (ht : tys[t0]? = some (cA, .int)) {i v : Int32} (x : Nat) (hx : x < N) (hN : N < 2 ^ 31) (hi : i = nI x) (hdg : decode cc pc = .ok (.iastore, 1)) {g' : Nat → va_E} (hg' : va_up g j (.inl (cA, N, .inl (upd f x v))) = g')
    (kk : ∀ (H1 : Heap) (locs1 : List Loc), va_P D cl (pw n ad g') H1 → va_S (rA n ad H0.size) H0 H1 locs1 → W p l e R s m args below meth c H1 locs1 cells slots Q (F0 m (pc + 1) ls rest)) : W p l e R s m args below meth c H locs cells slots Q (F0 m pc ls (.int v :: .int i :: .ref (ad j) :: rest)) := by
  subst hi
  refine va_iast hexec hb hK hP (pw_D hR) hS j t0 (pw_get hj ha) ht (vp_in_nI hx hN) hdg (fun H1 locs1 h1 _ h3 => kk H1 locs1 ?_ h3)
  rw [nI_clamp (Nat.lt_trans hx hN), pw_set, hg'] at h1
  exact h1
theorem rg_last (hexec : p.tables.exec = Jvm.exec) (hb : c.code = cc) (hK : va_K D cl tys s) (hR : rD n ad) (hP : va_P D cl (pw n ad g) H) (hS : va_S (rA n ad H0.size) H0 H locs) (j : Nat) (hj : j < n) (t0 : Nat) {cA : ClassId} {N : Nat} {f : Nat → Int64} (ha : g j = .inl (cA, N, .inr (.inl f))) (ht : tys[t0]? = some (cA, .long)) {i : Int32} {v : Int64} (x : Nat) (hx : x < N) (hN : N < 2 ^ 31) (hi : i = nI x) (hdg : decode cc pc = .ok (.lastore, 1)) {g' : Nat → va_E} (hg' : va_up g j (.inl (cA, N, .inr (.inl (vp_updL f x v)))) = g')
    (kk : ∀ (H1 : Heap) (locs1 : List Loc), va_P D cl (pw n ad g') H1 → va_S (rA n ad H0.size) H0 H1 locs1 → W p l e R s m args below meth c H1 locs1 cells slots Q (F0 m (pc + 1) ls rest)) : W p l e R s m args below meth c H locs cells slots Q (F0 m pc ls (.long v :: .int i :: .ref (ad j) :: rest)) := by
  subst hi
  refine va_last hexec hb hK hP (pw_D hR) hS j t0 (pw_get hj ha) ht (vp_in_nI hx hN) hdg (fun H1 locs1 h1 _ h3 => kk H1 locs1 ?_ h3)
  rw [nI_clamp (Nat.lt_trans hx hN), pw_set, hg'] at h1
  exact h1
end RG
/-! contracts over a region: RI an int (or boolean) answer, RL a long, RV none; P says what the answer and the new contents are -/
def rPc (D : va_G) (cl : List vw_C) (tys : List (ClassId × FieldType)) (n : Nat) (ad : Nat → Nat) (g : Nat → va_E) (sz : Nat) : State → Prop := fun U => U.heap.size = sz ∧ va_P D cl (pw n ad g) U.heap ∧ va_K D cl tys U ∧ nst U
def RI (l : Launch) (y : MethodName) (ws : List Cond) (rm : Room) (D : va_G) (cl : List vw_C) (tys : List (ClassId × FieldType)) (n : Nat) (ad : Nat → Nat) (g : Nat → va_E) (av : List Value) (r0 : Int32) (u0 : Nat → va_E) : Prop :=
  ∀ sz : Nat, Met l y ws rm (va_Pc av (rPc D cl tys n ad g sz)) (va_Qi (fun r u => r = r0 ∧ u = u0) (fun u t => va_P D cl (pw n ad u) t.heap) (rA n ad sz)) 0 0 (rA n ad sz)
def RL (l : Launch) (y : MethodName) (ws : List Cond) (rm : Room) (D : va_G) (cl : List vw_C) (tys : List (ClassId × FieldType)) (n : Nat) (ad : Nat → Nat) (g : Nat → va_E) (av : List Value) (r0 : Int64) (u0 : Nat → va_E) : Prop :=
  ∀ sz : Nat, Met l y ws rm (va_Pc av (rPc D cl tys n ad g sz)) (va_Ql (fun r u => r = r0 ∧ u = u0) (fun u t => va_P D cl (pw n ad u) t.heap) (rA n ad sz)) 0 0 (rA n ad sz)
def RV (l : Launch) (y : MethodName) (ws : List Cond) (rm : Room) (D : va_G) (cl : List vw_C) (tys : List (ClassId × FieldType)) (n : Nat) (ad : Nat → Nat) (g : Nat → va_E) (av : List Value) (u0 : Nat → va_E) : Prop :=
  ∀ sz : Nat, Met l y ws rm (va_Pc av (rPc D cl tys n ad g sz)) (va_Qv (fun u => u = u0) (fun u t => va_P D cl (pw n ad u) t.heap) (rA n ad sz)) 0 0 (rA n ad sz)
theorem rPc_blind (av : List Value) (D : va_G) (cl : List vw_C) (tys : List (ClassId × FieldType)) (n : Nat) (ad : Nat → Nat) (g : Nat → va_E) (sz : Nat) : FrameBlind (va_Pc av (rPc D cl tys n ad g sz)) := fun a U f mk q => by
  obtain ⟨q0, q1, qP, qK, qN⟩ := q
  exact ⟨q0, q1, qP, va_K.moved (u := U) (U := U.calling f mk a) (Vm.Alike.refl U.vm) qK, nst.same (U := U.calling f mk a) rfl qN⟩
theorem rPc_at {D : va_G} {cl : List vw_C} {tys : List (ClassId × FieldType)} {n : Nat} {ad : Nat → Nat} {g : Nat → va_E} {s : State} {H : Heap} (av : List Value) (hP : va_P D cl (pw n ad g) H) (hK : va_K D cl tys s) (hN : nst s) : ∀ U : State, U.heap = H → s.WarmedH U.vm → va_Pc av (rPc D cl tys n ad g H.size) av.toArray U := fun U hU hW => ⟨rfl, by rw [hU], by rw [hU]; exact hP, va_K.moved hW.alike hK, hN.warm hW⟩
section RC
variable {p : Program} {l : Launch} {e : Env} {R : Room} {s : State} {m : MethodId} {args : Array Value} {below : List Frame} {meth : Method} {c : Code} {H : Heap} {locs : List Loc} {cells slots : Nat} {Q : State → Prop}
variable {cc : ByteArray} {pc : Nat} {ls : Array Slot} {st0 rest : List Value} {D : va_G} {cl : List vw_C} {tys : List (ClassId × FieldType)} {H0 : Heap} {n : Nat} {ad : Nat → Nat} {g : Nat → va_E} {a : Array Value} {free : Addr → Prop}
theorem rg_ci {r0 : Int32} {u0 : Nat → va_E} (hr : va_Run p l e R s m args below meth c H locs cells slots 0 0 (F0 m pc ls st0) rest (va_Qi (fun r u => r = r0 ∧ u = u0) (fun u t => va_P D cl (pw n ad u) t.heap) (rA n ad H.size) a) (rA n ad H.size)) (hS : va_S (rA n ad H0.size) H0 H locs)
    (kk : ∀ (H1 : Heap) (locs1 : List Loc), va_P D cl (pw n ad u0) H1 → va_S (rA n ad H0.size) H0 H1 locs1 → W p l e R s m args below meth c H1 locs1 cells slots Q (F0 m (pc + 3) ls (.int r0 :: rest))) : W p l e R s m args below meth c H locs cells slots Q (F0 m pc ls st0) := by
  refine va_calli hr hS (fun _ _ h => rA_mono hS.1 h) (fun _ h => rA_mono hS.1 h) (fun r u t H1 locs1 ht _ hp hb _ _ hS1 => ?_)
  obtain ⟨rfl, rfl⟩ := hp
  exact kk H1 locs1 (ht ▸ hb) hS1
theorem rg_cl {r0 : Int64} {u0 : Nat → va_E} (hr : va_Run p l e R s m args below meth c H locs cells slots 0 0 (F0 m pc ls st0) rest (va_Ql (fun r u => r = r0 ∧ u = u0) (fun u t => va_P D cl (pw n ad u) t.heap) (rA n ad H.size) a) (rA n ad H.size)) (hS : va_S (rA n ad H0.size) H0 H locs)
    (kk : ∀ (H1 : Heap) (locs1 : List Loc), va_P D cl (pw n ad u0) H1 → va_S (rA n ad H0.size) H0 H1 locs1 → W p l e R s m args below meth c H1 locs1 cells slots Q (F0 m (pc + 3) ls (.long r0 :: rest))) : W p l e R s m args below meth c H locs cells slots Q (F0 m pc ls st0) := by
  refine va_calll hr hS (fun _ _ h => rA_mono hS.1 h) (fun _ h => rA_mono hS.1 h) (fun r u t H1 locs1 ht _ hp hb _ _ hS1 => ?_)
  obtain ⟨rfl, rfl⟩ := hp
  exact kk H1 locs1 (ht ▸ hb) hS1
theorem rg_cv {u0 : Nat → va_E} (hr : va_Run p l e R s m args below meth c H locs cells slots 0 0 (F0 m pc ls st0) rest (va_Qv (fun u => u = u0) (fun u t => va_P D cl (pw n ad u) t.heap) (rA n ad H.size) a) (rA n ad H.size)) (hS : va_S (rA n ad H0.size) H0 H locs)
    (kk : ∀ (H1 : Heap) (locs1 : List Loc), va_P D cl (pw n ad u0) H1 → va_S (rA n ad H0.size) H0 H1 locs1 → W p l e R s m args below meth c H1 locs1 cells slots Q (F0 m (pc + 3) ls rest)) : W p l e R s m args below meth c H locs cells slots Q (F0 m pc ls st0) := by
  refine va_callv hr hS (fun _ _ h => rA_mono hS.1 h) (fun _ h => rA_mono hS.1 h) (fun u t H1 locs1 ht _ hp hb _ _ hS1 => ?_)
  obtain rfl := hp
  exact kk H1 locs1 (ht ▸ hb) hS1
theorem rg_rec (hK : va_K D cl tys s) (hP : va_P D cl (pw n ad g) H) (j : Nat) (hj : j < n) {ci : Nat} {fs : List Value} {q : vw_C} (he : g j = .inr (ci, fs)) (hc : cl[ci]? = some q) : ∃ cell : Cell, H[ad j]? = some cell ∧ cell.vm.isStatics = false ∧ s.vm.findClass q.1 = some cell.cls :=
  va_recv hK hP hc (pw_get hj he)
end RC
section RE
variable {p : Program} {l : Launch} {e : Env} {R : Room} {s : State} {m : MethodId} {args : Array Value} {below : List Frame} {meth : Method} {c : Code} {H : Heap} {locs : List Loc}
variable {cc : ByteArray} {pc : Nat} {ls : Array Slot} {D : va_G} {cl : List vw_C} {tys : List (ClassId × FieldType)} {n : Nat} {ad : Nat → Nat} {g u : Nat → va_E}
theorem rg_iret {r0 : Int32} {u0 : Nat → va_E} {v : Int32} (hexec : p.tables.exec = Jvm.exec) (hb : c.code = cc) (hr : meth.sig.returnType = some .int) (hlocks : meth.locks = false) (hP : va_P D cl (pw n ad u) H) (hS : va_S (rA n ad s.heap.size) s.heap H locs) (hp : v = r0 ∧ u = u0) (hdg : decode cc pc = .ok (.ireturn, 1)) :
    W p l e R s m args below meth c H locs 0 0 (MQ below (va_Qi (fun r u => r = r0 ∧ u = u0) (fun u t => va_P D cl (pw n ad u) t.heap) (rA n ad s.heap.size)) args s 0 0 (rA n ad s.heap.size)) (F0 m pc ls [.int v]) :=
  W.iret hexec hb hr (fun t ht _ => ⟨⟨v, u, rfl, hp, by show va_P D cl (pw n ad u) t.heap; rw [ht]; exact hP⟩, hS.F ht⟩) hS.2.2 hdg hlocks
theorem rg_zret {r0 : Int32} {u0 : Nat → va_E} {v : Int32} (hexec : p.tables.exec = Jvm.exec) (hb : c.code = cc) (hr : meth.sig.returnType = some .boolean) (hlocks : meth.locks = false) (hn : narrow .boolean (.int v) = .int v) (hP : va_P D cl (pw n ad u) H) (hS : va_S (rA n ad s.heap.size) s.heap H locs) (hp : v = r0 ∧ u = u0) (hdg : decode cc pc = .ok (.ireturn, 1)) :
    W p l e R s m args below meth c H locs 0 0 (MQ below (va_Qi (fun r u => r = r0 ∧ u = u0) (fun u t => va_P D cl (pw n ad u) t.heap) (rA n ad s.heap.size)) args s 0 0 (rA n ad s.heap.size)) (F0 m pc ls [.int v]) :=
  W.zret hexec hb hr hn (fun t ht _ => ⟨⟨v, u, rfl, hp, by show va_P D cl (pw n ad u) t.heap; rw [ht]; exact hP⟩, hS.F ht⟩) hS.2.2 hdg hlocks
theorem rg_lret {r0 : Int64} {u0 : Nat → va_E} {v : Int64} (hexec : p.tables.exec = Jvm.exec) (hb : c.code = cc) (hr : meth.sig.returnType = some .long) (hlocks : meth.locks = false) (hP : va_P D cl (pw n ad u) H) (hS : va_S (rA n ad s.heap.size) s.heap H locs) (hp : v = r0 ∧ u = u0) (hdg : decode cc pc = .ok (.lreturn, 1)) :
    W p l e R s m args below meth c H locs 0 0 (MQ below (va_Ql (fun r u => r = r0 ∧ u = u0) (fun u t => va_P D cl (pw n ad u) t.heap) (rA n ad s.heap.size)) args s 0 0 (rA n ad s.heap.size)) (F0 m pc ls [.long v]) :=
  W.lret hexec hb hr (fun t ht _ => ⟨⟨v, u, rfl, hp, by show va_P D cl (pw n ad u) t.heap; rw [ht]; exact hP⟩, hS.F ht⟩) hS.2.2 hdg hlocks
theorem rg_vret {u0 : Nat → va_E} (hexec : p.tables.exec = Jvm.exec) (hb : c.code = cc) (hr : meth.sig.returnType = none) (hlocks : meth.locks = false) (hP : va_P D cl (pw n ad u) H) (hS : va_S (rA n ad s.heap.size) s.heap H locs) (hp : u = u0) (hdg : decode cc pc = .ok (.return_, 1)) :
    W p l e R s m args below meth c H locs 0 0 (MQ below (va_Qv (fun u => u = u0) (fun u t => va_P D cl (pw n ad u) t.heap) (rA n ad s.heap.size)) args s 0 0 (rA n ad s.heap.size)) (F0 m pc ls []) :=
  W.vret hexec hb hr (fun t ht _ => ⟨⟨u, rfl, hp, by show va_P D cl (pw n ad u) t.heap; rw [ht]; exact hP⟩, hS.F ht⟩) hS.2.2 hdg hlocks
end RE
/-- what stays the same while a method runs -/
def Cx (p : Program) (s : State) (m : MethodId) (args : Array Value) (meth : Method) (c : Code) (cc : ByteArray) (nL : Nat) (own : String) (ret : Option FieldType) : Prop := CallFix p m c cc nL s args gtb own ∧ meth.sig.returnType = ret ∧ meth.locks = false ∧ nst s
theorem rg_body {l : Launch} {y : MethodName} {rm : Room} {D : va_G} {cl : List vw_C} {tys : List (ClassId × FieldType)} {n : Nat} {ad : Nat → Nat} {g : Nat → va_E} {av : List Value} {Qc : Nat → Array Value → State → Outcome → State → Prop} {cc : ByteArray} {maxL : Nat} {ret : Option FieldType} (hy : plainName y.cls = true) (hlen : (lg_sl av).length ≤ maxL)
    (body : ∀ (p : Program) (e : Env) (s : State) (m : MethodId) (args : Array Value) (below : List Frame) (meth : Method) (c : Code) (ls : Array Slot), Cx p s m args meth c cc maxL y.cls ret → va_K D cl tys s → va_P D cl (pw n ad g) s.heap → va_S (rA n ad s.heap.size) s.heap s.heap [] → lv_has ls maxL (lv_args 0 av) →
      W p l e rm s m args below meth c s.heap [] 0 0 (MQ below (Qc s.heap.size) args s 0 0 (rA n ad s.heap.size)) (F0 m 0 ls [])) (sz : Nat) : Met l y (mws y cc maxL ret) rm (va_Pc av (rPc D cl tys n ad g sz)) (Qc sz) 0 0 (rA n ad sz) := by
  refine Met.ofW (cc := cc) (maxL := maxL) (ret := ret) hy rfl ?_
  intro p e s m args below meth c s₁ B hml hv
  obtain ⟨rfl, hsz, hP, hK, hN⟩ := hv
  subst hsz
  have hl := lv_entry av hlen
  rw [lg_entry_eq]
  exact body p e s m _ below meth c _ ⟨⟨B.exec, B.bytes, hml, findClass_of_methodNamed B.named, fun w h => atoms_spec (ws := mws y cc maxL ret) B.pre w (List.mem_cons_of_mem _ h)⟩, B.returns, B.notSynchronized, hN⟩ hK hP va_S.rf hl
theorem RI_of {l : Launch} {y : MethodName} {rm : Room} {D : va_G} {cl : List vw_C} {tys : List (ClassId × FieldType)} {n : Nat} {ad : Nat → Nat} {g : Nat → va_E} {av : List Value} {cc : ByteArray} {maxL : Nat} {ret : Option FieldType} {r0 : Int32} {u0 : Nat → va_E} (hy : plainName y.cls = true) (hlen : (lg_sl av).length ≤ maxL)
    (body : ∀ (p : Program) (e : Env) (s : State) (m : MethodId) (args : Array Value) (below : List Frame) (meth : Method) (c : Code) (ls : Array Slot), Cx p s m args meth c cc maxL y.cls ret → va_K D cl tys s → va_P D cl (pw n ad g) s.heap → va_S (rA n ad s.heap.size) s.heap s.heap [] → lv_has ls maxL (lv_args 0 av) →
      W p l e rm s m args below meth c s.heap [] 0 0 (MQ below (va_Qi (fun r u => r = r0 ∧ u = u0) (fun u t => va_P D cl (pw n ad u) t.heap) (rA n ad s.heap.size)) args s 0 0 (rA n ad s.heap.size)) (F0 m 0 ls [])) : RI l y (mws y cc maxL ret) rm D cl tys n ad g av r0 u0 :=
  rg_body (Qc := fun sz => va_Qi (fun r u => r = r0 ∧ u = u0) (fun u t => va_P D cl (pw n ad u) t.heap) (rA n ad sz)) hy hlen body
theorem RL_of {l : Launch} {y : MethodName} {rm : Room} {D : va_G} {cl : List vw_C} {tys : List (ClassId × FieldType)} {n : Nat} {ad : Nat → Nat} {g : Nat → va_E} {av : List Value} {cc : ByteArray} {maxL : Nat} {ret : Option FieldType} {r0 : Int64} {u0 : Nat → va_E} (hy : plainName y.cls = true) (hlen : (lg_sl av).length ≤ maxL)
    (body : ∀ (p : Program) (e : Env) (s : State) (m : MethodId) (args : Array Value) (below : List Frame) (meth : Method) (c : Code) (ls : Array Slot), Cx p s m args meth c cc maxL y.cls ret → va_K D cl tys s → va_P D cl (pw n ad g) s.heap → va_S (rA n ad s.heap.size) s.heap s.heap [] → lv_has ls maxL (lv_args 0 av) →
      W p l e rm s m args below meth c s.heap [] 0 0 (MQ below (va_Ql (fun r u => r = r0 ∧ u = u0) (fun u t => va_P D cl (pw n ad u) t.heap) (rA n ad s.heap.size)) args s 0 0 (rA n ad s.heap.size)) (F0 m 0 ls [])) : RL l y (mws y cc maxL ret) rm D cl tys n ad g av r0 u0 :=
  rg_body (Qc := fun sz => va_Ql (fun r u => r = r0 ∧ u = u0) (fun u t => va_P D cl (pw n ad u) t.heap) (rA n ad sz)) hy hlen body
theorem RV_of {l : Launch} {y : MethodName} {rm : Room} {D : va_G} {cl : List vw_C} {tys : List (ClassId × FieldType)} {n : Nat} {ad : Nat → Nat} {g : Nat → va_E} {av : List Value} {cc : ByteArray} {maxL : Nat} {ret : Option FieldType} {u0 : Nat → va_E} (hy : plainName y.cls = true) (hlen : (lg_sl av).length ≤ maxL)
    (body : ∀ (p : Program) (e : Env) (s : State) (m : MethodId) (args : Array Value) (below : List Frame) (meth : Method) (c : Code) (ls : Array Slot), Cx p s m args meth c cc maxL y.cls ret → va_K D cl tys s → va_P D cl (pw n ad g) s.heap → va_S (rA n ad s.heap.size) s.heap s.heap [] → lv_has ls maxL (lv_args 0 av) →
      W p l e rm s m args below meth c s.heap [] 0 0 (MQ below (va_Qv (fun u => u = u0) (fun u t => va_P D cl (pw n ad u) t.heap) (rA n ad s.heap.size)) args s 0 0 (rA n ad s.heap.size)) (F0 m 0 ls [])) : RV l y (mws y cc maxL ret) rm D cl tys n ad g av u0 :=
  rg_body (Qc := fun sz => va_Qv (fun u => u = u0) (fun u t => va_P D cl (pw n ad u) t.heap) (rA n ad sz)) hy hlen body
