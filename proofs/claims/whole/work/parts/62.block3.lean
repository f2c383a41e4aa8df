theorem ao_moved {s U : State} (hv : s.vm.Alike U.vm) (h : (Cond.arrayOver (.array .int)).before #[] s = true) : (Cond.arrayOver (.array .int)).before #[] U = true := by
  have h1 := Cond.arrayOver_setVmC (args := #[]) (s := s) (vm' := U.vm) hv (.array .int)
  rw [h] at h1
  exact h1
theorem aov.warm {s U : State} (hW : s.WarmedH U.vm) (h : aov s) : aov U :=
  ⟨h.1.moved hW.alike, h.2.1.moved hW.alike, h.2.2.1.moved hW.alike, h.2.2.2.1.moved hW.alike, ao_moved hW.alike h.2.2.2.2⟩
theorem aov.same {s U : State} (hv : s.vm = U.vm) (h : aov s) : aov U :=
  ⟨h.1.moved (hv ▸ Vm.Alike.refl _), h.2.1.moved (hv ▸ Vm.Alike.refl _), h.2.2.1.moved (hv ▸ Vm.Alike.refl _), h.2.2.2.1.moved (hv ▸ Vm.Alike.refl _), ao_moved (hv ▸ Vm.Alike.refl _) h.2.2.2.2⟩
def rcPc (D : va_G) (cl : List vw_C) (tys : List (ClassId × FieldType)) (b n : Nat) (g : Nat → va_E) : State → Prop := fun U => U.heap.size = b + n ∧ va_P D cl (pw n (ba b) g) U.heap ∧ va_K D cl tys U ∧ nst U ∧ aov U
theorem rc_blind (av : List Value) (D : va_G) (cl : List vw_C) (tys : List (ClassId × FieldType)) (b n : Nat) (g : Nat → va_E) : FrameBlind (va_Pc av (rcPc D cl tys b n g)) := fun a U f mk q => by
  obtain ⟨q0, q1, qP, qK, qN, qA⟩ := q
  exact ⟨q0, q1, qP, va_K.moved (u := U) (U := U.calling f mk a) (Vm.Alike.refl U.vm) qK, nst.same (U := U.calling f mk a) rfl qN, aov.same (U := U.calling f mk a) rfl qA⟩
theorem rc_at {D : va_G} {cl : List vw_C} {tys : List (ClassId × FieldType)} {b n : Nat} {g : Nat → va_E} {s : State} {H : Heap} (av : List Value) (hP : va_P D cl (pw n (ba b) g) H) (hz : H.size = b + n) (hK : va_K D cl tys s) (hN : nst s) (hO : aov s) : ∀ U : State, U.heap = H → s.WarmedH U.vm → va_Pc av (rcPc D cl tys b n g) av.toArray U := fun U hU hW => ⟨rfl, by rw [hU]; exact hz, by rw [hU]; exact hP, va_K.moved hW.alike hK, hN.warm hW, hO.warm hW⟩
theorem RC_of {l : Launch} {y : MethodName} {rm : Room} {D : va_G} {cl : List vw_C} {tys : List (ClassId × FieldType)} {b n k : Nat} {g : Nat → va_E} {av : List Value} {cc : ByteArray} {maxL mc ms : Nat} {post : (Nat → va_E) → Prop} (hy : plainName y.cls = true) (hnm : y.name = "<init>") (hlen : (lg_sl av).length ≤ maxL)
    (body : ∀ (p : Program) (e : Env) (s : State) (m : MethodId) (args : Array Value) (below : List Frame) (meth : Method) (c : Code) (ls : Array Slot), Cx p s m args meth c cc maxL y.cls none → meth.name = "<init>" → aov s → va_K D cl tys s → s.heap.size = b + n → va_P D cl (pw n (ba b) g) s.heap → va_S (bA b) s.heap s.heap [] → lv_has ls maxL (lv_args 0 av) →
      W p l e rm s m args below meth c s.heap [] 0 0 (MQ below (va_Qv post (fun u t => t.heap.size = b + k ∧ va_P D cl (pw k (ba b) u) t.heap) (bA b)) args s mc ms (bA b)) (F0 m 0 ls [])) : RC l y (mws y cc maxL none) rm D cl tys b n g av k post mc ms := by
  refine Met.ofW (cc := cc) (maxL := maxL) (ret := none) hy rfl ?_
  intro p e s m args below meth c s₁ B hml hv
  obtain ⟨rfl, hsz, hP, hK, hN, hO⟩ := hv
  have hl := lv_entry av hlen
  rw [lg_entry_eq]
  exact body p e s m _ below meth c _ ⟨⟨B.exec, B.bytes, hml, findClass_of_methodNamed B.named, fun w h => atoms_spec (ws := mws y cc maxL none) B.pre w (List.mem_cons_of_mem _ h)⟩, B.returns, B.notSynchronized, hN⟩ (hnm ▸ (name_of_methodNamed B.named B.method).1) hO hK hsz hP va_S.rf hl
section BE
variable {p : Program} {l : Launch} {e : Env} {R : Room} {s : State} {m : MethodId} {args : Array Value} {below : List Frame} {meth : Method} {c : Code} {H : Heap} {locs : List Loc} {cells slots : Nat} {Q : State → Prop}
variable {cc : ByteArray} {pc : Nat} {ls : Array Slot} {st0 rest : List Value} {D : va_G} {cl : List vw_C} {tys : List (ClassId × FieldType)} {H0 : Heap} {b n k : Nat} {g u : Nat → va_E} {post : (Nat → va_E) → Prop} {a : Array Value} {mc ms : Nat}
theorem bl_vret (hexec : p.tables.exec = Jvm.exec) (hb : c.code = cc) (hr : meth.sig.returnType = none) (hlocks : meth.locks = false) (hP : va_P D cl (pw k (ba b) u) H) (hz : H.size = b + k) (hS : va_S (bA b) s.heap H locs) (hp : post u) (hdg : decode cc pc = .ok (.return_, 1)) :
    W p l e R s m args below meth c H locs cells slots (MQ below (va_Qv post (fun u t => t.heap.size = b + k ∧ va_P D cl (pw k (ba b) u) t.heap) (bA b)) args s cells slots (bA b)) (F0 m pc ls []) :=
  W.vret hexec hb hr (fun t ht _ => ⟨⟨u, rfl, hp, by show t.heap.size = b + k ∧ va_P D cl (pw k (ba b) u) t.heap; rw [ht]; exact ⟨hz, hP⟩⟩, hS.F ht⟩) hS.2.2 hdg hlocks
/-- behind a constructor's call -/
theorem bl_cv (hr : va_Run p l e R s m args below meth c H locs cells slots mc ms (F0 m pc ls st0) rest (va_Qv post (fun u t => t.heap.size = b + k ∧ va_P D cl (pw k (ba b) u) t.heap) (bA b) a) (bA b)) (hS : va_S (bA b) H0 H locs)
    (kk : ∀ (G : Nat → va_E) (H1 : Heap) (locs1 : List Loc), post G → va_P D cl (pw k (ba b) G) H1 → H1.size = b + k → va_S (bA b) H0 H1 locs1 → W p l e R s m args below meth c H1 locs1 (cells + mc) (slots + ms) Q (F0 m (pc + 3) ls rest)) : W p l e R s m args below meth c H locs cells slots Q (F0 m pc ls st0) :=
  va_callv hr hS (fun _ _ h => h) (fun _ h => h) (fun u t H1 locs1 ht _ hp hb _ _ hS1 => kk u H1 locs1 hp (ht ▸ hb.2) (ht ▸ hb.1) hS1)
end BE
