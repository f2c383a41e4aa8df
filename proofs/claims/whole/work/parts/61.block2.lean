section BM
variable {p : Program} {l : Launch} {e : Env} {R : Room} {s : State} {m : MethodId} {args : Array Value} {below : List Frame} {meth : Method} {c : Code} {H : Heap} {locs : List Loc} {cells slots : Nat} {Q : State → Prop}
variable {cc : ByteArray} {pc : Nat} {ls : Array Slot} {rest : List Value} {D : va_G} {cl : List vw_C} {tys : List (ClassId × FieldType)} {H0 : Heap} {b n : Nat} {g : Nat → va_E}
/-- new int[6][4] -/
theorem bl_mna (hexec : p.tables.exec = Jvm.exec) (hb : c.code = cc) {own : String} {index : Nat} (hown : s.vm.findClass own = some m.cls) (hclink : (Cond.classLink own index ("[" ++ (FieldType.array .int).toString)).before args s = true) (hover : (Cond.arrayOver (.array .int)).before args s = true) (harr : (Cond.arrayClass .int).before args s = true) {cI cII : ClassId} (hcI : s.vm.findClass (FieldType.array .int).toString = some cI) (hcII : s.vm.findClass ("[" ++ (FieldType.array .int).toString) = some cII)
    (hP : va_P D cl (pw n (ba b) g) H) (hz : H.size = b + n) (hS : va_S (bA b) H0 H locs) (hcells : cells + (1 + 6) ≤ R.cells) (hslots : slots + (6 + 6 * 4) ≤ R.slots) (hdg : decode cc pc = .ok (.multianewarray index 2, 4))
    (kk : ∀ (G : Nat → va_E) (H1 : Heap), G n = .inl (cII, 6, .inr (.inr (.inr (.inr (fun i => if i < 6 then some (b + (n + 1 + i)) else none))))) → (∀ i, i < 6 → G (n + 1 + i) = .inl (cI, 4, .inl (fun _ => 0))) → (∀ v, v < n → G v = g v) → va_P D cl (pw (n + 7) (ba b) G) H1 → H1.size = b + (n + 7) → va_S (bA b) H0 H1 locs → W p l e R s m args below meth c H1 locs (cells + 1 + 6) (slots + 6 + 6 * 4) Q (F0 m (pc + 4) ls (.ref (b + n) :: rest))) : W p l e R s m args below meth c H locs cells slots Q (F0 m pc ls (.int 4 :: .int 6 :: rest)) := by
  intro T hT Xs
  obtain ⟨vm₁, cA, comp, -, fA, fC, hO, -, X', step⟩ := Xs.multianewarray2F hexec hown hclink hover harr (g := F0 m pc ls (.int 4 :: .int 6 :: rest)) rfl (by rw [hb]; exact hdg) rfl (by decide) (by decide) (by decide) (by decide) (by decide) rfl rfl hcells hslots
  obtain rfl : comp = cI := Option.some.inj (fC.symm.trans hcI)
  obtain rfl : cA = cII := Option.some.inj (fA.symm.trans hcII)
  have e6 : (6 : Int32).toNatClampNeg = 6 := by decide
  have e4 : (4 : Int32).toNatClampNeg = 4 := by decide
  rw [e6, e4] at X' step
  generalize hF : Jvm.Free.Multi.fill (T.setVm vm₁) cA comp 6 4 (defaultValue .int) 6 = F at X' step
  have hTh : (T.setVm vm₁).heap = H := hT
  obtain ⟨f1, f2, -, -⟩ := Jvm.Free.Multi.fill_facts (T.setVm vm₁) cA comp 6 4 (defaultValue .int) 6
  rw [hF, hTh] at f1 f2
  have hold : ∀ x : Nat, x < H.size → F.heap[x]? = H[x]? := fun x hx => by
    have := Jvm.Free.Multi.fill_old (T.setVm vm₁) cA comp 6 4 (defaultValue .int) (a := x) (by rw [hTh]; exact hx) 6
    rw [hF, hTh] at this
    exact this
  have hrow : ∀ j : Nat, j < 6 → F.heap[H.size + 1 + j]? = some (vp_cell comp (4, .inl (fun _ => 0))) := fun j hj => by
    have := Jvm.Free.Multi.fill_inner (T.setVm vm₁) cA comp 6 4 (defaultValue .int) 6 j hj
    rw [hF, hTh] at this
    rw [this, vp_cell_i]
    exact congrArg some (arrV_new comp 4 (.int 0))
  have hout : Jvm.Free.Multi.outerC cA 6 H.size 6 = vp_cell cA (6, .inr (.inr (.inr (.inr (fun i => if i < 6 then some (b + (n + 1 + i)) else none))))) := by
    rw [vp_cell_q]
    have key : ∀ i : Nat, Jvm.Free.Multi.outerC cA 6 H.size i = arrV cA 6 (fun j => va_rf (if j < i then some (H.size + 1 + j) else none)) := by
      intro i
      induction i with
      | zero =>
        show ({ cls := cA, slots := Array.replicate 6 .null, vm := .none } : Cell) = _
        rw [arrV_new]
        refine congrArg (arrV cA 6) (funext fun j => ?_)
        simp [va_rf]
      | succ i ih =>
        show (Jvm.Free.Multi.outerC cA 6 H.size i).setSlot i (.ref (H.size + 1 + i)) = _
        rw [ih, arrV_store]
        refine congrArg (arrV cA 6) (funext fun j => ?_)
        by_cases e : j = i
        · subst e
          simp [updV, va_rf]
        · by_cases h : j < i
          · simp [updV, e, h, Nat.lt_succ_of_lt h]
          · simp [updV, e, h, show ¬ j < i + 1 by omega]
    rw [key 6]
    refine congrArg (arrV cA 6) (funext fun j => ?_)
    rw [hz]
    simp only [Nat.add_assoc]
  rw [hout] at f2
  have K := kk (fun v => if v < n then g v else if v = n then .inl (cA, 6, .inr (.inr (.inr (.inr (fun i => if i < 6 then some (b + (n + 1 + i)) else none))))) else .inl (comp, 4, .inl (fun _ => 0))) F.heap (by simp) (fun i _ => by rw [if_neg (by omega), if_neg (by omega)]) (fun v hv => if_pos hv) (fun k q hq => by
    obtain ⟨h1, rfl⟩ := pw_at hq
    by_cases hk : k < n
    · rw [if_pos hk]
      have h2 := hP k _ (pw_get hk rfl)
      exact h2.kept (hold _ h2.lt)
    · rw [if_neg hk]
      by_cases hk2 : k = n
      · subst hk2
        rw [if_pos rfl]
        show F.heap[b + k]? = some (vp_cell _ _)
        rw [← hz]
        exact f2
      · rw [if_neg hk2]
        show F.heap[b + k]? = some (vp_cell _ _)
        have h3 := hrow (k - n - 1) (by omega)
        rw [show H.size + 1 + (k - n - 1) = b + k by omega] at h3
        exact h3) (by omega) ⟨Nat.le_trans hS.1 (by omega), fun x h1 h2 => (hold x (Nat.lt_of_lt_of_le h1 hS.1)).trans (hS.2.1 x h1 h2), hS.2.2⟩
  obtain ⟨t, a1, b1⟩ := K F rfl X'
  refine ⟨t, step t ?_, b1⟩
  rw [show T.heap.size = b + n by rw [hT]; exact hz]
  exact a1
end BM
