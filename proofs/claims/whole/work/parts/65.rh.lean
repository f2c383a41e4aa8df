/-- a method that leaves the heap as it is -/
def RH (l : Launch) (y : MethodName) (ws : List Cond) (rm : Room) (P0 : State → Prop) (av : List Value) (r0 : Int32) : Prop :=
  ∀ H9 : Heap, Met l y ws rm (va_Pc av (fun U => U.heap = H9 ∧ nst U ∧ P0 U)) (va_Qi (fun r (_ : Unit) => r = r0) (fun _ t => t.heap = H9) (fun _ => False)) 0 0 (fun _ => False)
theorem RH_of {l : Launch} {y : MethodName} {rm : Room} {P0 : State → Prop} {av : List Value} {cc : ByteArray} {maxL : Nat} {ret : Option FieldType} {r0 : Int32} (hy : plainName y.cls = true) (hlen : (lg_sl av).length ≤ maxL)
    (body : ∀ (p : Program) (e : Env) (s : State) (m : MethodId) (args : Array Value) (below : List Frame) (meth : Method) (c : Code) (ls : Array Slot), Cx p s m args meth c cc maxL y.cls ret → P0 s → lv_has ls maxL (lv_args 0 av) →
      W p l e rm s m args below meth c s.heap [] 0 0 (MQ below (va_Qi (fun r (_ : Unit) => r = r0) (fun _ t => t.heap = s.heap) (fun _ => False)) args s 0 0 (fun _ => False)) (F0 m 0 ls [])) : RH l y (mws y cc maxL ret) rm P0 av r0 := by
  intro H9
  refine Met.ofW (cc := cc) (maxL := maxL) (ret := ret) hy rfl ?_
  intro p e s m args below meth c s₁ B hml hv
  obtain ⟨rfl, hh, hN, h0⟩ := hv
  subst hh
  have hl := lv_entry av hlen
  rw [lg_entry_eq]
  exact body p e s m _ below meth c _ ⟨⟨B.exec, B.bytes, hml, findClass_of_methodNamed B.named, fun w h => atoms_spec (ws := mws y cc maxL ret) B.pre w (List.mem_cons_of_mem _ h)⟩, B.returns, B.notSynchronized, hN⟩ h0 hl
section RHS
variable {p : Program} {l : Launch} {e : Env} {R : Room} {s : State} {m : MethodId} {args : Array Value} {below : List Frame} {meth : Method} {c : Code} {H : Heap} {locs : List Loc} {cells slots : Nat} {Q : State → Prop}
variable {cc : ByteArray} {pc : Nat} {ls : Array Slot} {st0 rest : List Value} {H0 : Heap} {A : Nat → Prop} {a : Array Value} {v r0 : Int32} {ty : FieldType}
theorem rh_zret (hexec : p.tables.exec = Jvm.exec) (hb : c.code = cc) (hr : meth.sig.returnType = some ty) (hlocks : meth.locks = false) (hn : narrow ty (.int v) = .int v) (hp : v = r0) (hdg : decode cc pc = .ok (.ireturn, 1)) :
    W p l e R s m args below meth c s.heap [] 0 0 (MQ below (va_Qi (fun r (_ : Unit) => r = r0) (fun _ t => t.heap = s.heap) (fun _ => False)) args s 0 0 (fun _ => False)) (F0 m pc ls [.int v]) :=
  W.zret hexec hb hr hn (fun t ht _ => ⟨⟨v, (), rfl, hp, ht⟩, by rw [ht]; exact Nat.le_refl _, fun q _ _ => by rw [ht]⟩) (fun q h => by cases h) hdg hlocks
theorem rh_c (hr : va_Run p l e R s m args below meth c H locs cells slots 0 0 (F0 m pc ls st0) rest (va_Qi (fun r (_ : Unit) => r = r0) (fun _ t => t.heap = H) (fun _ => False) a) (fun _ => False)) (hS : va_S A H0 H locs)
    (kk : ∀ (locs1 : List Loc), va_S A H0 H locs1 → W p l e R s m args below meth c H locs1 cells slots Q (F0 m (pc + 3) ls (.int r0 :: rest))) : W p l e R s m args below meth c H locs cells slots Q (F0 m pc ls st0) := by
  refine va_calli hr hS (fun _ _ h => h.elim) (fun _ h => h.elim) (fun r u t H1 locs1 ht _ hp hb _ _ hS1 => ?_)
  subst hp
  have e9 : H1 = H := ht.symm.trans hb
  subst e9
  exact kk locs1 hS1
end RHS
theorem rh_blind {P0 : State → Prop} (hP0 : ∀ (U : State) (f : JFrame) (mk : MethodId) (a : Array Value), P0 U → P0 (U.calling f mk a)) (av : List Value) (H9 : Heap) : FrameBlind (va_Pc av (fun U => U.heap = H9 ∧ nst U ∧ P0 U)) := fun a U f mk q => ⟨q.1, q.2.1, nst.same (U := U.calling f mk a) rfl q.2.2.1, hP0 U f mk a q.2.2.2⟩
section BG
variable {p : Program} {l : Launch} {e : Env} {R : Room} {s : State} {m : MethodId} {args : Array Value} {below : List Frame} {meth : Method} {c : Code} {H : Heap} {locs : List Loc} {cells slots : Nat} {Q : State → Prop}
variable {cc : ByteArray} {pc : Nat} {ls : Array Slot} {rest : List Value} {D : va_G} {cl : List vw_C} {tys : List (ClassId × FieldType)} {H0 : Heap} {b n : Nat} {g : Nat → va_E}
theorem bl_get (hexec : p.tables.exec = Jvm.exec) (hb : c.code = cc) {own C : String} {T : u_T} {N ci index : Nat} {Ts : List Cond} (hts : ∀ w ∈ Ts, w.before args s = true) (hin : ∀ w ∈ u_ws C T N, w ∈ Ts) (hown : s.vm.findClass own = some m.cls) (hK : va_K D cl tys s) (hP : va_P D cl (pw n (ba b) g) H) (j : Nat) (hj : j < n) {fs : List Value} (he : g j = .inr (ci, fs)) (hc : cl[ci]? = some (C, T, N)) (k : Nat) (hk : k < N) (hlink : (Cond.fieldLink own index (T k).1 (T k).2.1 (T k).2.2.1).before args s = true) {v : Value} (hv : fs[k]? = some v) (hdg : decode cc pc = .ok (.getfield index, 3))
    (kk : W p l e R s m args below meth c H locs cells slots Q (F0 m (pc + 3) ls (v :: rest))) : W p l e R s m args below meth c H locs cells slots Q (F0 m pc ls (.ref (b + j) :: rest)) :=
  rg_get (ad := ba b) hexec hb hts hin hown hK hP j hj he hc k hk hlink hv hdg kk
theorem bl_alen (hexec : p.tables.exec = Jvm.exec) (hb : c.code = cc) (hK : va_K D cl tys s) (hP : va_P D cl (pw n (ba b) g) H) (j : Nat) (hj : j < n) (t0 : Nat) {cA : ClassId} {x : vp_A} (ha : g j = .inl (cA, x)) {ty : FieldType} (ht : tys[t0]? = some (cA, ty)) {v : Int32} (hv : Int32.ofNat x.1 = v) (hdg : decode cc pc = .ok (.arraylength, 1))
    (kk : W p l e R s m args below meth c H locs cells slots Q (F0 m (pc + 1) ls (.int v :: rest))) : W p l e R s m args below meth c H locs cells slots Q (F0 m pc ls (.ref (b + j) :: rest)) :=
  rg_alen (ad := ba b) hexec hb hK hP j hj t0 ha ht hv hdg kk
end BG

set_option maxRecDepth 100000 in
set_option maxHeartbeats 4000000 in
theorem h_GL_within {l : Launch} (a b d : Int32) : RH l y_GL_within (mws y_GL_within b_GL_within 3 (some .boolean)) ({ frames := 0, cells := 0, slots := 0, locals := 0 } : Room) (fun _ => True) [.int a, .int b, .int d] (f_GL_within a b d) := by
  refine RH_of (cc := b_GL_within) (maxL := 3) (ret := (some .boolean)) (by decide) (Nat.le_of_ble_eq_true rfl) ?_
  intro p e s m args below meth c ls C _ hl
  obtain ⟨⟨hx, hb, hml, hown, hts⟩, hr, hlocks, hN⟩ := id C
  have hr : meth.sig.returnType = (some .boolean) := hr
  have hl : lv_has ls 3 [(0, .int a), (1, .int b), (2, .int d)] := hl
  refine lv_iload_n (pc := 0) hx hb d_GL_within_0 rfl (lv_at hl 0 rfl) ?_
  refine lv_iload_n (pc := 1) hx hb d_GL_within_1 rfl (lv_at hl 1 rfl) ?_
  refine lv_icmp_lt (tgt := 14) (pc := 2) hx hb d_GL_within_2 (by decide) (fun c_1 => ?_) (fun c_1 => ?_)
  · refine lv_iconst (v := 0) (pc := 14) hx hb d_GL_within_14 (by decide) ?_
    have e9 : f_GL_within a b d = 0 := by unfold f_GL_within; rw [if_pos c_1]
    exact rh_zret (pc := 15) hx hb hr hlocks rfl e9.symm d_GL_within_15
  · refine lv_iload_n (pc := 5) hx hb d_GL_within_5 rfl (lv_at hl 0 rfl) ?_
    refine lv_iload_n (pc := 6) hx hb d_GL_within_6 rfl (lv_at hl 2 rfl) ?_
    refine lv_icmp_gt (tgt := 14) (pc := 7) hx hb d_GL_within_7 (by decide) (fun c_2 => ?_) (fun c_2 => ?_)
    · refine lv_iconst (v := 0) (pc := 14) hx hb d_GL_within_14 (by decide) ?_
      have e9 : f_GL_within a b d = 0 := by unfold f_GL_within; rw [if_neg c_1, if_pos c_2]
      exact rh_zret (pc := 15) hx hb hr hlocks rfl e9.symm d_GL_within_15
    · refine lv_iconst (v := 1) (pc := 10) hx hb d_GL_within_10 (by decide) ?_
      refine lv_goto (tgt := 15) (pc := 11) hx hb d_GL_within_11 (by decide) ?_
      have e9 : f_GL_within a b d = 1 := by unfold f_GL_within; rw [if_neg c_1, if_neg c_2]
      exact rh_zret (pc := 15) hx hb hr hlocks rfl e9.symm d_GL_within_15
