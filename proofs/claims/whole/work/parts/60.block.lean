/-! A BLOCK: n cells at b, b + 1 .. , the last of the heap; constructors make it grow. -/
def ba (b : Nat) : Nat → Nat := fun i => b + i
def bA (b : Nat) : Nat → Prop := fun q => b ≤ q
theorem ba_D {b n : Nat} {g : Nat → va_E} : va_D (bA b) (pw n (ba b) g) := by
  refine ⟨fun i j p q hi hj hpq => ?_, fun k q hk => ?_⟩
  · obtain ⟨-, rfl⟩ := pw_at hi
    obtain ⟨-, rfl⟩ := pw_at hj
    exact Nat.add_left_cancel hpq
  · obtain ⟨-, rfl⟩ := pw_at hk
    exact Nat.le_add_right b k
theorem bl_grow {D : va_G} {cl : List vw_C} {b n : Nat} {g : Nat → va_E} {H H1 : Heap} {e : va_E} (hP : va_P D cl (pw n (ba b) g) H) (ho : ∀ q : Nat, q < H.size → H1[q]? = H[q]?) (he : va_at D cl (b + n, e) H1) : va_P D cl (pw (n + 1) (ba b) (va_up g n e)) H1 := by
  intro k q hq
  obtain ⟨h1, rfl⟩ := pw_at hq
  by_cases hk : k = n
  · subst hk
    rw [va_up_self]
    exact he
  · rw [va_up_ne _ _ hk]
    have h2 := hP k _ (pw_get (show k < n by omega) rfl)
    exact h2.kept (ho _ h2.lt)
/-- arrays of our own classes can be made: facts that go along from call to call -/
def aov (U : State) : Prop := va_AO "GrateLayers$Kind" U ∧ va_AO "GrateLayers$Cell" U ∧ va_AO "GrateLayers$Zone" U ∧ va_AO "GrateLayers$Controller" U ∧ (Cond.arrayOver (.array .int)).before #[] U = true
section BL
variable {p : Program} {l : Launch} {e : Env} {R : Room} {s : State} {m : MethodId} {args : Array Value} {below : List Frame} {meth : Method} {c : Code} {H : Heap} {locs : List Loc} {cells slots : Nat} {Q : State → Prop}
variable {cc : ByteArray} {pc : Nat} {ls : Array Slot} {rest : List Value} {D : va_G} {cl : List vw_C} {tys : List (ClassId × FieldType)} {H0 : Heap} {b n : Nat} {g : Nat → va_E}
theorem bl_new (hexec : p.tables.exec = Jvm.exec) (hb : c.code = cc) {own C : String} {T : u_T} {N ci index : Nat} {Ts : List Cond} (hts : ∀ w ∈ Ts, w.before args s = true) (hin : ∀ w ∈ u_ws C T N, w ∈ Ts) (ty : Nat → FieldType) (hty : ∀ k, k < N → parseFieldDescriptor (T k).2.2.1 = some (ty k)) (hown : s.vm.findClass own = some m.cls) (hcl : (Cond.classLink own index C).before args s = true) (hinst : (Cond.instantiable C N).before args s = true) (hini : (Cond.initialized C).before args s = true)
    (hK : va_K D cl tys s) (hP : va_P D cl (pw n (ba b) g) H) (hz : H.size = b + n) (hS : va_S (bA b) H0 H locs) (hc : cl[ci]? = some (C, T, N)) {fs : List Value} (hfs : ∀ j, j < N → defaultValue (ty j) = vp_V fs j) (hcells : cells + 1 ≤ R.cells) (hslots : slots + N ≤ R.slots) (hdg : decode cc pc = .ok (.new index, 3))
    (kk : ∀ (G : Nat → va_E) (H1 : Heap), G = va_up g n (.inr (ci, fs)) → va_P D cl (pw (n + 1) (ba b) G) H1 → H1.size = b + (n + 1) → va_S (bA b) H0 H1 locs → W p l e R s m args below meth c H1 locs (cells + 1) (slots + N) Q (F0 m (pc + 3) ls (.ref (b + n) :: rest))) : W p l e R s m args below meth c H locs cells slots Q (F0 m pc ls rest) := by
  have hKn := hK.1 ci _ hc
  refine W.newcK hexec hb hown hcl hinst hini rfl hdg hcells hslots hKn.2.1 hz fun H1 kC hkC e1 z1 o1 => ?_
  rw [← hz] at o1
  refine kk _ H1 rfl (bl_grow hP o1 ⟨_, hc, (u_born ty hts hin hKn hkC e1 hty).to hfs⟩) (by omega) ⟨Nat.le_trans hS.1 (by omega), fun x h1 h2 => (o1 x (Nat.lt_of_lt_of_le h1 hS.1)).trans (hS.2.1 x h1 h2), hS.2.2⟩
theorem bl_newa (hexec : p.tables.exec = Jvm.exec) (hb : c.code = cc) {atype : ArrayType} (harr : (Cond.arrayClass (newarray.typeOf atype)).before args s = true) {ty : FieldType} (hty : newarray.typeOf atype = ty) {cA0 : ClassId} (hnm : s.vm.findClass ("[" ++ ty.toString) = some cA0) (hP : va_P D cl (pw n (ba b) g) H) (hz : H.size = b + n) (hS : va_S (bA b) H0 H locs)
    {k : Int32} {N' : Nat} {a0 : vp_A} (ha : ∀ cA : ClassId, vp_cell cA a0 = arrV cA N' (fun _ => defaultValue ty)) (hn : ¬ k < 0) (hN : k.toNatClampNeg = N') (hbytes : N' * componentBytes ty ≤ 536870912) (hcells : cells + 1 ≤ R.cells) (hslots : slots + N' ≤ R.slots) (hdg : decode cc pc = .ok (.newarray atype, 2))
    (kk : ∀ (G : Nat → va_E) (H1 : Heap), G = va_up g n (.inl (cA0, a0)) → va_P D cl (pw (n + 1) (ba b) G) H1 → H1.size = b + (n + 1) → va_S (bA b) H0 H1 locs → W p l e R s m args below meth c H1 locs (cells + 1) (slots + N') Q (F0 m (pc + 2) ls (.ref (b + n) :: rest))) : W p l e R s m args below meth c H locs cells slots Q (F0 m pc ls (.int k :: rest)) := by
  subst hty
  refine va_newaK hexec hb harr rfl hdg rfl hn hN hbytes hcells hslots hz fun H1 cA e1 z1 o1 hAr hNm => ?_
  obtain rfl : cA = cA0 := Option.some.inj (hNm.symm.trans hnm)
  rw [← hz] at o1
  refine kk _ H1 rfl (bl_grow hP o1 ?_) (by omega) ⟨Nat.le_trans hS.1 (by omega), fun x h1 h2 => (o1 x (Nat.lt_of_lt_of_le h1 hS.1)).trans (hS.2.1 x h1 h2), hS.2.2⟩
  show H1[b + n]? = some (vp_cell _ _)
  rw [ha]
  exact e1
theorem bl_newq (hexec : p.tables.exec = Jvm.exec) (hb : c.code = cc) {own C : String} {index : Nat} (hown : s.vm.findClass own = some m.cls) (hclink : (Cond.classLink own index C).before args s = true) (hover : va_AO C s) {cA0 : ClassId} (hnm : s.vm.findClass ("[" ++ (FieldType.object C).toString) = some cA0) (hP : va_P D cl (pw n (ba b) g) H) (hz : H.size = b + n) (hS : va_S (bA b) H0 H locs)
    {k : Int32} {N' : Nat} (hn : ¬ k < 0) (hN : k.toNatClampNeg = N') (hbytes : N' * 4 ≤ 536870912) (hcells : cells + 1 ≤ R.cells) (hslots : slots + N' ≤ R.slots) (hdg : decode cc pc = .ok (.anewarray index, 3))
    (kk : ∀ (G : Nat → va_E) (H1 : Heap), G = va_up g n (.inl (cA0, N', .inr (.inr (.inr (.inr (fun _ => none)))))) → va_P D cl (pw (n + 1) (ba b) G) H1 → H1.size = b + (n + 1) → va_S (bA b) H0 H1 locs → W p l e R s m args below meth c H1 locs (cells + 1) (slots + N') Q (F0 m (pc + 3) ls (.ref (b + n) :: rest))) : W p l e R s m args below meth c H locs cells slots Q (F0 m pc ls (.int k :: rest)) := by
  subst hN
  refine W.anew hexec hb hown hclink (va_AO.use hover) rfl hdg rfl hn hbytes hcells hslots fun cA kA comp f1 f2 f3 f4 => ?_
  obtain rfl : cA = cA0 := Option.some.inj (f1.symm.trans hnm)
  generalize hH1 : H.push ({ cls := cA, slots := Array.replicate k.toNatClampNeg .null, vm := .none } : Cell) = H1
  have z1 : H1.size = H.size + 1 := by rw [← hH1, Array.size_push]
  have e1 : H1[H.size]? = some (arrV cA k.toNatClampNeg (fun _ => .null)) := by rw [← hH1, Array.getElem?_push_size, ← arrV_new]
  have o1 : ∀ q : Nat, q < H.size → H1[q]? = H[q]? := fun q hq => by rw [← hH1, Array.getElem?_push, if_neg (Nat.ne_of_lt hq)]
  have K := kk _ H1 rfl (bl_grow hP o1 (by show H1[b + n]? = some (vp_cell _ _); rw [← hz, vp_cell_q]; exact e1)) (by omega) ⟨Nat.le_trans hS.1 (by omega), fun x h1 h2 => (o1 x (Nat.lt_of_lt_of_le h1 hS.1)).trans (hS.2.1 x h1 h2), hS.2.2⟩
  rw [← hz] at K
  exact K
theorem bl_put (hexec : p.tables.exec = Jvm.exec) (hb : c.code = cc) {own C : String} {T : u_T} {N ci index : Nat} {Ts : List Cond} (hts : ∀ w ∈ Ts, w.before args s = true) (hin : ∀ w ∈ u_ws C T N, w ∈ Ts) (ty0 : Nat → FieldType) (hty : ∀ k, k < N → parseFieldDescriptor (T k).2.2.1 = some (ty0 k)) (hnm : ∀ a, a < N → ∀ b, b < N → a ≠ b → (T a).2.1 ≠ (T b).2.1) (hown : s.vm.findClass own = some m.cls) (hK : va_K D cl tys s) (hP : va_P D cl (pw n (ba b) g) H) (hz : H.size = b + n) (hS0 : va_S (bA b) H0 H locs) (j : Nat) (hj : j < n) {fs : List Value} (he : g j = .inr (ci, fs)) (hc : cl[ci]? = some (C, T, N)) (k : Nat) (hk : k < N) (hlink : (Cond.fieldLink own index (T k).1 (T k).2.1 (T k).2.2.1).before args s = true) (hfin : (T k).2.2.2 = false ∨ ((T k).2.2.2 = true ∧ meth.name = "<init>" ∧ (T k).1 = own)) {v : Value} (hn : narrow (ty0 k) v = v) (hfit : fits (ty0 k) v = true) (hl : k < fs.length) (hdg : decode cc pc = .ok (.putfield index, 3))
    (kk : ∀ (G : Nat → va_E) (H1 : Heap) (locs1 : List Loc), G = va_up g j (.inr (ci, fs.set k v)) → va_P D cl (pw n (ba b) G) H1 → H1.size = b + n → va_S (bA b) H0 H1 locs1 → W p l e R s m args below meth c H1 locs1 cells slots Q (F0 m (pc + 3) ls rest)) : W p l e R s m args below meth c H locs cells slots Q (F0 m pc ls (v :: .ref (b + j) :: rest)) := by
  have hD : va_D (bA b) (pw n (ba b) g) := ba_D
  have hw := pw_get (n := n) (ad := ba b) hj he
  have key : ∀ (H1 : Heap) (slot : Nat) (h2 : H1.size = H.size) (h3 : ∀ q : Nat, q ≠ b + j → H1[q]? = H[q]?), va_at D cl (b + j, .inr (ci, fs.set k v)) H1 → W p l e R s m args below meth c H1 (locs ++ [⟨b + j, slot⟩]) cells slots Q (F0 m (pc + 3) ls rest) := fun H1 slot h2 h3 h4 => by
    have h5 := hP.set hD hw h4 h3
    rw [pw_set] at h5
    exact kk _ H1 _ rfl h5 (by omega) (hS0.put h2 h3 (Nat.le_add_right b j))
  have hap := va_apart (own := own) hts hin ty0 hty hnm hK hc
  obtain ⟨r, h1, cell, q1, q2, q3, q4⟩ := hP j _ hw
  obtain rfl : r = (C, T, N) := Option.some.inj (h1.symm.trans hc)
  obtain ⟨hS, hfc, kC, hkC, hkind⟩ := hK.1 ci _ hc
  obtain ⟨cf, kf, fi, f, hi, hsl⟩ := hS k hk
  have hlay := hts _ (hin _ (u_in_lay hk))
  unfold u_lay at hlay
  have hst := (u_facts hfc hkC (u_lays hts hin hk) hi).1
  have hobj : ∀ {H' : Heap}, H'[b + j]? = some (cell.setSlot (D.2 ci k) v) → va_at D cl (b + j, .inr (ci, fs.set k v)) H' := fun e1 => ⟨_, hc, t_OB.to (V := updV (vp_V fs) k v) ⟨_, e1, q2, q3, t_set q4 hap hk v⟩ (fun i _ => vp_updV_set hl v i)⟩
  rcases hfin with hfin | ⟨hfin, hin2, hdecl⟩
  · rw [if_neg (by rw [hfin]; decide)] at hlay
    have h6 := u_store hfc hkC hkind hlay hi (hty k hk) hn hfit
    refine W.putK hexec hb (f := f) ⟨hown, hlink, ⟨_, _, _, hi⟩, hst⟩ (by rw [q2]; exact h6) q1 q3 (by rw [hsl]; exact k2_hasslot (q4 k hk)) rfl rfl hdg fun H' e1 e2 e3 => ?_
    rw [hsl] at e1 ⊢
    exact key H' _ e2 e3 (hobj e1)
  · rw [if_pos hfin] at hlay
    have hcf : m.cls = cf := by
      obtain ⟨_, _, c', _, _, _, -, -, hf', -, -, -, hown2, -⟩ := Cond.laysFinal_spec hlay
      have e1 : c' = cf := by have := hi.symm.trans hf'; simp at this; exact this.1.symm
      rw [hdecl] at hown2
      rw [← e1]; exact Option.some.inj (hown.symm.trans hown2)
    have h6 := u_fits hfc hkC hkind (Or.inr hlay) hi (hty k hk) hn hfit
    refine W.putFinK hexec hb hown hlink hi hst hcf hin2 (by rw [q2]; exact h6) q1 q3 (by rw [hsl]; exact k2_hasslot (q4 k hk)) rfl rfl hdg fun H' e1 e2 e3 => ?_
    rw [hsl] at e1 ⊢
    exact key H' _ e2 e3 (hobj e1)
theorem bl_astq (hexec : p.tables.exec = Jvm.exec) (hb : c.code = cc) (hK : va_K D cl tys s) (hP : va_P D cl (pw n (ba b) g) H) (hz : H.size = b + n) (hS : va_S (bA b) H0 H locs) (j t0 jv ci : Nat) (hj : j < n) (hjv : jv < n) {cA : ClassId} {r : vw_C} {N : Nat} {vs : List Value} {f : Nat → Option Nat} (ha : g j = .inl (cA, N, .inr (.inr (.inr (.inr f))))) (ht : tys[t0]? = some (cA, .object r.1)) (hv : g jv = .inr (ci, vs)) (hc : cl[ci]? = some r) {i : Int32} (x : Nat) (hx : x < N) (hN : N < 2 ^ 31) (hi : i = nI x) (hdg : decode cc pc = .ok (.aastore, 1))
    (kk : ∀ (G : Nat → va_E) (H1 : Heap) (locs1 : List Loc), G = va_up g j (.inl (cA, N, .inr (.inr (.inr (.inr (va_up f x (some (b + jv)))))))) → va_P D cl (pw n (ba b) G) H1 → H1.size = b + n → va_S (bA b) H0 H1 locs1 → W p l e R s m args below meth c H1 locs1 cells slots Q (F0 m (pc + 1) ls rest)) : W p l e R s m args below meth c H locs cells slots Q (F0 m pc ls (.ref (b + jv) :: .int i :: .ref (b + j) :: rest)) := by
  subst hi
  have hD : va_D (bA b) (pw n (ba b) g) := ba_D
  have hin := vp_in_nI hx hN
  have hcl : (nI x).toNatClampNeg = x := nI_clamp (Nat.lt_trans hx hN)
  have hw := pw_get (n := n) (ad := ba b) hj ha
  obtain ⟨r', hr', cellV, g1, g2, g3, -⟩ := hP jv _ (pw_get hjv hv)
  have hcls := (hK.1 ci r hc).2
  obtain ⟨kA, comp, k1, k2, k3, -⟩ := (hK.2 t0 _ ht).2
  obtain rfl : comp = D.1 ci := Option.some.inj (k3.symm.trans hcls.1)
  obtain ⟨kC, hkC, -⟩ := hcls.2
  refine W.aast hexec hb (hP j _ hw) (fun q h => by cases h) (fun h => by cases h) k1 k2 rfl hkC ⟨fun q => hin (Or.inl q), by show _ < (arrV _ _ _).slots.size; rw [arrV_size, hcl]; exact hx⟩ g1 (fun q h => by rw [g3] at h; cases h) (by rw [g2]; exact hkC) (by rw [g2]; exact va_assign hcls) rfl rfl hdg fun H1 e z oq => ?_
  rw [hcl] at e ⊢
  have h4 : va_at D cl (b + j, .inl (cA, N, .inr (.inr (.inr (.inr (va_up f x (some (b + jv)))))))) H1 := by
    show H1[b + j]? = some (vp_cell _ _)
    refine (show H1[b + j]? = _ from e).trans ?_
    rw [vp_cell_q, vp_cell_q, arrV_store]
    congr 2
    funext q
    by_cases hq : q = x
    · subst hq
      simp [updV, va_up, va_rf, ba]
    · simp [updV, va_up, hq]
  have h5 := hP.set hD hw h4 oq
  rw [pw_set] at h5
  exact kk _ H1 _ rfl h5 (by omega) (hS.put z oq (Nat.le_add_right b j))
end BL
/-- a constructor's contract: the block grows from n to k cells; post says what they are -/
def RC (l : Launch) (y : MethodName) (ws : List Cond) (rm : Room) (D : va_G) (cl : List vw_C) (tys : List (ClassId × FieldType)) (b n : Nat) (g : Nat → va_E) (av : List Value) (k : Nat) (post : (Nat → va_E) → Prop) (mc ms : Nat) : Prop :=
  Met l y ws rm (va_Pc av (fun U => U.heap.size = b + n ∧ va_P D cl (pw n (ba b) g) U.heap ∧ va_K D cl tys U ∧ nst U ∧ aov U)) (va_Qv post (fun u t => t.heap.size = b + k ∧ va_P D cl (pw k (ba b) u) t.heap) (bA b)) mc ms (bA b)
