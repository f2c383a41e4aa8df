def tyM (cA : Nat → ClassId) : List (ClassId × FieldType) := [(cA 0, .int), (cA 1, .long), (cA 2, .boolean)]
section RZ
variable {p : Program} {l : Launch} {e : Env} {R : Room} {s : State} {m : MethodId} {args : Array Value} {below : List Frame} {meth : Method} {c : Code} {H : Heap} {locs : List Loc} {cells slots : Nat} {Q : State → Prop}
variable {cc : ByteArray} {pc : Nat} {ls : Array Slot} {rest : List Value} {D : va_G} {cl : List vw_C} {tys : List (ClassId × FieldType)} {H0 : Heap} {n : Nat} {ad : Nat → Nat} {g : Nat → va_E}
theorem rg_zald (hexec : p.tables.exec = Jvm.exec) (hb : c.code = cc) (hK : va_K D cl tys s) (hP : va_P D cl (pw n ad g) H) (j : Nat) (hj : j < n) (t0 : Nat) {cA : ClassId} {N : Nat} {f : Nat → Int32} (ha : g j = .inl (cA, N, .inl f)) (ht : tys[t0]? = some (cA, .boolean)) {i : Int32} (x : Nat) (hx : x < N) (hN : N < 2 ^ 31) (hi : i = nI x) (hdg : decode cc pc = .ok (.baload, 1))
    (kk : W p l e R s m args below meth c H locs cells slots Q (F0 m (pc + 1) ls (.int (f x) :: rest))) : W p l e R s m args below meth c H locs cells slots Q (F0 m pc ls (.int i :: .ref (ad j) :: rest)) := by
  subst hi
  refine va_zald hexec hb hK hP j t0 (pw_get hj ha) ht (vp_in_nI hx hN) hdg ?_
  rw [nI_clamp (Nat.lt_trans hx hN)]
  exact kk
theorem rg_zast (hexec : p.tables.exec = Jvm.exec) (hb : c.code = cc) (hK : va_K D cl tys s) (hR : rD n ad) (hP : va_P D cl (pw n ad g) H) (hS : va_S (rA n ad H0.size) H0 H locs) (j : Nat) (hj : j < n) (t0 : Nat) {cA : ClassId} {N : Nat} {f : Nat → Int32} (ha : g j = .inl (cA, N, .inl f)) (ht : tys[t0]? = some (cA, .boolean)) {i v : Int32} (x : Nat) (hx : x < N) (hN : N < 2 ^ 31) (hi : i = nI x) (hv : vp_nar .boolean v = v) (hdg : decode cc pc = .ok (.bastore, 1)) {g' : Nat → va_E} (hg' : va_up g j (.inl (cA, N, .inl (upd f x v))) = g')
    (kk : ∀ (H1 : Heap) (locs1 : List Loc), va_P D cl (pw n ad g') H1 → va_S (rA n ad H0.size) H0 H1 locs1 → W p l e R s m args below meth c H1 locs1 cells slots Q (F0 m (pc + 1) ls rest)) : W p l e R s m args below meth c H locs cells slots Q (F0 m pc ls (.int v :: .int i :: .ref (ad j) :: rest)) := by
  subst hi
  refine va_zast hexec hb hK hP (pw_D hR) hS j t0 (pw_get hj ha) ht (vp_in_nI hx hN) hdg (fun H1 locs1 h1 _ h3 => kk H1 locs1 ?_ h3)
  rw [nI_clamp (Nat.lt_trans hx hN), hv, pw_set, hg'] at h1
  exact h1
end RZ

abbrev mS : Type := (Nat → Int32) × (Nat → Int32) × (Nat → Int32) × (Int32) × (Nat → Int32) × (Nat → Int64) × (Nat → Int64) × (Nat → Int64) × (Nat → Int32) × (Nat → Int32) × (Int32) × (Int32) × (Nat → Int32) × (Nat → Int32) × (Nat → Int32) × (Nat → Int32) × (Nat → Int64) × (Nat → Int32) × (Bool) × (Int32) × (Int32) × (Bool) × (Int32) × (Nat → Int64) × (Nat → Int64) × (Int32) × (Nat → Int32)
def ms_ws (st : mS) : Nat → Int32 := st.1
def ms_ash (st : mS) : Nat → Int32 := st.2.1
def ms_cl (st : mS) : Nat → Int32 := st.2.2.1
def ms_cr (st : mS) : Int32 := st.2.2.2.1
def ms_pe (st : mS) : Nat → Int32 := st.2.2.2.2.1
def ms_wa (st : mS) : Nat → Int64 := st.2.2.2.2.2.1
def ms_fu (st : mS) : Nat → Int64 := st.2.2.2.2.2.2.1
def ms_ah (st : mS) : Nat → Int64 := st.2.2.2.2.2.2.2.1
def ms_ai (st : mS) : Nat → Int32 := st.2.2.2.2.2.2.2.2.1
def ms_dr (st : mS) : Nat → Int32 := st.2.2.2.2.2.2.2.2.2.1
def ms_mv (st : mS) : Int32 := st.2.2.2.2.2.2.2.2.2.2.1
def ms_bo (st : mS) : Int32 := st.2.2.2.2.2.2.2.2.2.2.2.1
def ms_hc (st : mS) : Nat → Int32 := st.2.2.2.2.2.2.2.2.2.2.2.2.1
def ms_tg (st : mS) : Nat → Int32 := st.2.2.2.2.2.2.2.2.2.2.2.2.2.1
def ms_bn (st : mS) : Nat → Int32 := st.2.2.2.2.2.2.2.2.2.2.2.2.2.2.1
def ms_bs (st : mS) : Nat → Int32 := st.2.2.2.2.2.2.2.2.2.2.2.2.2.2.2.1
def ms_su (st : mS) : Nat → Int64 := st.2.2.2.2.2.2.2.2.2.2.2.2.2.2.2.2.1
def ms_ou (st : mS) : Nat → Int32 := st.2.2.2.2.2.2.2.2.2.2.2.2.2.2.2.2.2.1
def ms_hb (st : mS) : Bool := st.2.2.2.2.2.2.2.2.2.2.2.2.2.2.2.2.2.2.1
def ms_be (st : mS) : Int32 := st.2.2.2.2.2.2.2.2.2.2.2.2.2.2.2.2.2.2.2.1
def ms_bh (st : mS) : Int32 := st.2.2.2.2.2.2.2.2.2.2.2.2.2.2.2.2.2.2.2.2.1
def ms_bu (st : mS) : Bool := st.2.2.2.2.2.2.2.2.2.2.2.2.2.2.2.2.2.2.2.2.2.1
def ms_mi (st : mS) : Int32 := st.2.2.2.2.2.2.2.2.2.2.2.2.2.2.2.2.2.2.2.2.2.2.1
def ms_la (st : mS) : Nat → Int64 := st.2.2.2.2.2.2.2.2.2.2.2.2.2.2.2.2.2.2.2.2.2.2.2.1
def ms_al (st : mS) : Nat → Int64 := st.2.2.2.2.2.2.2.2.2.2.2.2.2.2.2.2.2.2.2.2.2.2.2.2.1
def ms_ps (st : mS) : Int32 := st.2.2.2.2.2.2.2.2.2.2.2.2.2.2.2.2.2.2.2.2.2.2.2.2.2.1
def ms_pl (st : mS) : Nat → Int32 := st.2.2.2.2.2.2.2.2.2.2.2.2.2.2.2.2.2.2.2.2.2.2.2.2.2.2
def mp_ws (st : mS) (j : Nat) (v : Int32) : mS := (upd (st.1) j v, st.2)
def mp_ash (st : mS) (j : Nat) (v : Int32) : mS := (st.1, upd (st.2.1) j v, st.2.2)
def mp_cl (st : mS) (j : Nat) (v : Int32) : mS := (st.1, st.2.1, upd (st.2.2.1) j v, st.2.2.2)
def mp_cr (st : mS) (v : Int32) : mS := (st.1, st.2.1, st.2.2.1, v, st.2.2.2.2)
def mp_pe (st : mS) (j : Nat) (v : Int32) : mS := (st.1, st.2.1, st.2.2.1, st.2.2.2.1, upd (st.2.2.2.2.1) j v, st.2.2.2.2.2)
def mp_wa (st : mS) (j : Nat) (v : Int64) : mS := (st.1, st.2.1, st.2.2.1, st.2.2.2.1, st.2.2.2.2.1, vp_updL (st.2.2.2.2.2.1) j v, st.2.2.2.2.2.2)
def mp_fu (st : mS) (j : Nat) (v : Int64) : mS := (st.1, st.2.1, st.2.2.1, st.2.2.2.1, st.2.2.2.2.1, st.2.2.2.2.2.1, vp_updL (st.2.2.2.2.2.2.1) j v, st.2.2.2.2.2.2.2)
def mp_ah (st : mS) (j : Nat) (v : Int64) : mS := (st.1, st.2.1, st.2.2.1, st.2.2.2.1, st.2.2.2.2.1, st.2.2.2.2.2.1, st.2.2.2.2.2.2.1, vp_updL (st.2.2.2.2.2.2.2.1) j v, st.2.2.2.2.2.2.2.2)
def mp_ai (st : mS) (j : Nat) (v : Int32) : mS := (st.1, st.2.1, st.2.2.1, st.2.2.2.1, st.2.2.2.2.1, st.2.2.2.2.2.1, st.2.2.2.2.2.2.1, st.2.2.2.2.2.2.2.1, upd (st.2.2.2.2.2.2.2.2.1) j v, st.2.2.2.2.2.2.2.2.2)
def mp_dr (st : mS) (j : Nat) (v : Int32) : mS := (st.1, st.2.1, st.2.2.1, st.2.2.2.1, st.2.2.2.2.1, st.2.2.2.2.2.1, st.2.2.2.2.2.2.1, st.2.2.2.2.2.2.2.1, st.2.2.2.2.2.2.2.2.1, upd (st.2.2.2.2.2.2.2.2.2.1) j v, st.2.2.2.2.2.2.2.2.2.2)
def mp_mv (st : mS) (v : Int32) : mS := (st.1, st.2.1, st.2.2.1, st.2.2.2.1, st.2.2.2.2.1, st.2.2.2.2.2.1, st.2.2.2.2.2.2.1, st.2.2.2.2.2.2.2.1, st.2.2.2.2.2.2.2.2.1, st.2.2.2.2.2.2.2.2.2.1, v, st.2.2.2.2.2.2.2.2.2.2.2)
def mp_bo (st : mS) (v : Int32) : mS := (st.1, st.2.1, st.2.2.1, st.2.2.2.1, st.2.2.2.2.1, st.2.2.2.2.2.1, st.2.2.2.2.2.2.1, st.2.2.2.2.2.2.2.1, st.2.2.2.2.2.2.2.2.1, st.2.2.2.2.2.2.2.2.2.1, st.2.2.2.2.2.2.2.2.2.2.1, v, st.2.2.2.2.2.2.2.2.2.2.2.2)
def mp_hc (st : mS) (j : Nat) (v : Int32) : mS := (st.1, st.2.1, st.2.2.1, st.2.2.2.1, st.2.2.2.2.1, st.2.2.2.2.2.1, st.2.2.2.2.2.2.1, st.2.2.2.2.2.2.2.1, st.2.2.2.2.2.2.2.2.1, st.2.2.2.2.2.2.2.2.2.1, st.2.2.2.2.2.2.2.2.2.2.1, st.2.2.2.2.2.2.2.2.2.2.2.1, upd (st.2.2.2.2.2.2.2.2.2.2.2.2.1) j v, st.2.2.2.2.2.2.2.2.2.2.2.2.2)
def mp_tg (st : mS) (j : Nat) (v : Int32) : mS := (st.1, st.2.1, st.2.2.1, st.2.2.2.1, st.2.2.2.2.1, st.2.2.2.2.2.1, st.2.2.2.2.2.2.1, st.2.2.2.2.2.2.2.1, st.2.2.2.2.2.2.2.2.1, st.2.2.2.2.2.2.2.2.2.1, st.2.2.2.2.2.2.2.2.2.2.1, st.2.2.2.2.2.2.2.2.2.2.2.1, st.2.2.2.2.2.2.2.2.2.2.2.2.1, upd (st.2.2.2.2.2.2.2.2.2.2.2.2.2.1) j v, st.2.2.2.2.2.2.2.2.2.2.2.2.2.2)
def mp_bn (st : mS) (j : Nat) (v : Int32) : mS := (st.1, st.2.1, st.2.2.1, st.2.2.2.1, st.2.2.2.2.1, st.2.2.2.2.2.1, st.2.2.2.2.2.2.1, st.2.2.2.2.2.2.2.1, st.2.2.2.2.2.2.2.2.1, st.2.2.2.2.2.2.2.2.2.1, st.2.2.2.2.2.2.2.2.2.2.1, st.2.2.2.2.2.2.2.2.2.2.2.1, st.2.2.2.2.2.2.2.2.2.2.2.2.1, st.2.2.2.2.2.2.2.2.2.2.2.2.2.1, upd (st.2.2.2.2.2.2.2.2.2.2.2.2.2.2.1) j v, st.2.2.2.2.2.2.2.2.2.2.2.2.2.2.2)
def mp_bs (st : mS) (j : Nat) (v : Int32) : mS := (st.1, st.2.1, st.2.2.1, st.2.2.2.1, st.2.2.2.2.1, st.2.2.2.2.2.1, st.2.2.2.2.2.2.1, st.2.2.2.2.2.2.2.1, st.2.2.2.2.2.2.2.2.1, st.2.2.2.2.2.2.2.2.2.1, st.2.2.2.2.2.2.2.2.2.2.1, st.2.2.2.2.2.2.2.2.2.2.2.1, st.2.2.2.2.2.2.2.2.2.2.2.2.1, st.2.2.2.2.2.2.2.2.2.2.2.2.2.1, st.2.2.2.2.2.2.2.2.2.2.2.2.2.2.1, upd (st.2.2.2.2.2.2.2.2.2.2.2.2.2.2.2.1) j v, st.2.2.2.2.2.2.2.2.2.2.2.2.2.2.2.2)
def mp_su (st : mS) (j : Nat) (v : Int64) : mS := (st.1, st.2.1, st.2.2.1, st.2.2.2.1, st.2.2.2.2.1, st.2.2.2.2.2.1, st.2.2.2.2.2.2.1, st.2.2.2.2.2.2.2.1, st.2.2.2.2.2.2.2.2.1, st.2.2.2.2.2.2.2.2.2.1, st.2.2.2.2.2.2.2.2.2.2.1, st.2.2.2.2.2.2.2.2.2.2.2.1, st.2.2.2.2.2.2.2.2.2.2.2.2.1, st.2.2.2.2.2.2.2.2.2.2.2.2.2.1, st.2.2.2.2.2.2.2.2.2.2.2.2.2.2.1, st.2.2.2.2.2.2.2.2.2.2.2.2.2.2.2.1, vp_updL (st.2.2.2.2.2.2.2.2.2.2.2.2.2.2.2.2.1) j v, st.2.2.2.2.2.2.2.2.2.2.2.2.2.2.2.2.2)
def mp_ou (st : mS) (j : Nat) (v : Int32) : mS := (st.1, st.2.1, st.2.2.1, st.2.2.2.1, st.2.2.2.2.1, st.2.2.2.2.2.1, st.2.2.2.2.2.2.1, st.2.2.2.2.2.2.2.1, st.2.2.2.2.2.2.2.2.1, st.2.2.2.2.2.2.2.2.2.1, st.2.2.2.2.2.2.2.2.2.2.1, st.2.2.2.2.2.2.2.2.2.2.2.1, st.2.2.2.2.2.2.2.2.2.2.2.2.1, st.2.2.2.2.2.2.2.2.2.2.2.2.2.1, st.2.2.2.2.2.2.2.2.2.2.2.2.2.2.1, st.2.2.2.2.2.2.2.2.2.2.2.2.2.2.2.1, st.2.2.2.2.2.2.2.2.2.2.2.2.2.2.2.2.1, upd (st.2.2.2.2.2.2.2.2.2.2.2.2.2.2.2.2.2.1) j v, st.2.2.2.2.2.2.2.2.2.2.2.2.2.2.2.2.2.2)
def mp_hb (st : mS) (v : Bool) : mS := (st.1, st.2.1, st.2.2.1, st.2.2.2.1, st.2.2.2.2.1, st.2.2.2.2.2.1, st.2.2.2.2.2.2.1, st.2.2.2.2.2.2.2.1, st.2.2.2.2.2.2.2.2.1, st.2.2.2.2.2.2.2.2.2.1, st.2.2.2.2.2.2.2.2.2.2.1, st.2.2.2.2.2.2.2.2.2.2.2.1, st.2.2.2.2.2.2.2.2.2.2.2.2.1, st.2.2.2.2.2.2.2.2.2.2.2.2.2.1, st.2.2.2.2.2.2.2.2.2.2.2.2.2.2.1, st.2.2.2.2.2.2.2.2.2.2.2.2.2.2.2.1, st.2.2.2.2.2.2.2.2.2.2.2.2.2.2.2.2.1, st.2.2.2.2.2.2.2.2.2.2.2.2.2.2.2.2.2.1, v, st.2.2.2.2.2.2.2.2.2.2.2.2.2.2.2.2.2.2.2)
def mp_be (st : mS) (v : Int32) : mS := (st.1, st.2.1, st.2.2.1, st.2.2.2.1, st.2.2.2.2.1, st.2.2.2.2.2.1, st.2.2.2.2.2.2.1, st.2.2.2.2.2.2.2.1, st.2.2.2.2.2.2.2.2.1, st.2.2.2.2.2.2.2.2.2.1, st.2.2.2.2.2.2.2.2.2.2.1, st.2.2.2.2.2.2.2.2.2.2.2.1, st.2.2.2.2.2.2.2.2.2.2.2.2.1, st.2.2.2.2.2.2.2.2.2.2.2.2.2.1, st.2.2.2.2.2.2.2.2.2.2.2.2.2.2.1, st.2.2.2.2.2.2.2.2.2.2.2.2.2.2.2.1, st.2.2.2.2.2.2.2.2.2.2.2.2.2.2.2.2.1, st.2.2.2.2.2.2.2.2.2.2.2.2.2.2.2.2.2.1, st.2.2.2.2.2.2.2.2.2.2.2.2.2.2.2.2.2.2.1, v, st.2.2.2.2.2.2.2.2.2.2.2.2.2.2.2.2.2.2.2.2)
def mp_bh (st : mS) (v : Int32) : mS := (st.1, st.2.1, st.2.2.1, st.2.2.2.1, st.2.2.2.2.1, st.2.2.2.2.2.1, st.2.2.2.2.2.2.1, st.2.2.2.2.2.2.2.1, st.2.2.2.2.2.2.2.2.1, st.2.2.2.2.2.2.2.2.2.1, st.2.2.2.2.2.2.2.2.2.2.1, st.2.2.2.2.2.2.2.2.2.2.2.1, st.2.2.2.2.2.2.2.2.2.2.2.2.1, st.2.2.2.2.2.2.2.2.2.2.2.2.2.1, st.2.2.2.2.2.2.2.2.2.2.2.2.2.2.1, st.2.2.2.2.2.2.2.2.2.2.2.2.2.2.2.1, st.2.2.2.2.2.2.2.2.2.2.2.2.2.2.2.2.1, st.2.2.2.2.2.2.2.2.2.2.2.2.2.2.2.2.2.1, st.2.2.2.2.2.2.2.2.2.2.2.2.2.2.2.2.2.2.1, st.2.2.2.2.2.2.2.2.2.2.2.2.2.2.2.2.2.2.2.1, v, st.2.2.2.2.2.2.2.2.2.2.2.2.2.2.2.2.2.2.2.2.2)
def mp_bu (st : mS) (v : Bool) : mS := (st.1, st.2.1, st.2.2.1, st.2.2.2.1, st.2.2.2.2.1, st.2.2.2.2.2.1, st.2.2.2.2.2.2.1, st.2.2.2.2.2.2.2.1, st.2.2.2.2.2.2.2.2.1, st.2.2.2.2.2.2.2.2.2.1, st.2.2.2.2.2.2.2.2.2.2.1, st.2.2.2.2.2.2.2.2.2.2.2.1, st.2.2.2.2.2.2.2.2.2.2.2.2.1, st.2.2.2.2.2.2.2.2.2.2.2.2.2.1, st.2.2.2.2.2.2.2.2.2.2.2.2.2.2.1, st.2.2.2.2.2.2.2.2.2.2.2.2.2.2.2.1, st.2.2.2.2.2.2.2.2.2.2.2.2.2.2.2.2.1, st.2.2.2.2.2.2.2.2.2.2.2.2.2.2.2.2.2.1, st.2.2.2.2.2.2.2.2.2.2.2.2.2.2.2.2.2.2.1, st.2.2.2.2.2.2.2.2.2.2.2.2.2.2.2.2.2.2.2.1, st.2.2.2.2.2.2.2.2.2.2.2.2.2.2.2.2.2.2.2.2.1, v, st.2.2.2.2.2.2.2.2.2.2.2.2.2.2.2.2.2.2.2.2.2.2)
def mp_mi (st : mS) (v : Int32) : mS := (st.1, st.2.1, st.2.2.1, st.2.2.2.1, st.2.2.2.2.1, st.2.2.2.2.2.1, st.2.2.2.2.2.2.1, st.2.2.2.2.2.2.2.1, st.2.2.2.2.2.2.2.2.1, st.2.2.2.2.2.2.2.2.2.1, st.2.2.2.2.2.2.2.2.2.2.1, st.2.2.2.2.2.2.2.2.2.2.2.1, st.2.2.2.2.2.2.2.2.2.2.2.2.1, st.2.2.2.2.2.2.2.2.2.2.2.2.2.1, st.2.2.2.2.2.2.2.2.2.2.2.2.2.2.1, st.2.2.2.2.2.2.2.2.2.2.2.2.2.2.2.1, st.2.2.2.2.2.2.2.2.2.2.2.2.2.2.2.2.1, st.2.2.2.2.2.2.2.2.2.2.2.2.2.2.2.2.2.1, st.2.2.2.2.2.2.2.2.2.2.2.2.2.2.2.2.2.2.1, st.2.2.2.2.2.2.2.2.2.2.2.2.2.2.2.2.2.2.2.1, st.2.2.2.2.2.2.2.2.2.2.2.2.2.2.2.2.2.2.2.2.1, st.2.2.2.2.2.2.2.2.2.2.2.2.2.2.2.2.2.2.2.2.2.1, v, st.2.2.2.2.2.2.2.2.2.2.2.2.2.2.2.2.2.2.2.2.2.2.2)
def mp_la (st : mS) (j : Nat) (v : Int64) : mS := (st.1, st.2.1, st.2.2.1, st.2.2.2.1, st.2.2.2.2.1, st.2.2.2.2.2.1, st.2.2.2.2.2.2.1, st.2.2.2.2.2.2.2.1, st.2.2.2.2.2.2.2.2.1, st.2.2.2.2.2.2.2.2.2.1, st.2.2.2.2.2.2.2.2.2.2.1, st.2.2.2.2.2.2.2.2.2.2.2.1, st.2.2.2.2.2.2.2.2.2.2.2.2.1, st.2.2.2.2.2.2.2.2.2.2.2.2.2.1, st.2.2.2.2.2.2.2.2.2.2.2.2.2.2.1, st.2.2.2.2.2.2.2.2.2.2.2.2.2.2.2.1, st.2.2.2.2.2.2.2.2.2.2.2.2.2.2.2.2.1, st.2.2.2.2.2.2.2.2.2.2.2.2.2.2.2.2.2.1, st.2.2.2.2.2.2.2.2.2.2.2.2.2.2.2.2.2.2.1, st.2.2.2.2.2.2.2.2.2.2.2.2.2.2.2.2.2.2.2.1, st.2.2.2.2.2.2.2.2.2.2.2.2.2.2.2.2.2.2.2.2.1, st.2.2.2.2.2.2.2.2.2.2.2.2.2.2.2.2.2.2.2.2.2.1, st.2.2.2.2.2.2.2.2.2.2.2.2.2.2.2.2.2.2.2.2.2.2.1, vp_updL (st.2.2.2.2.2.2.2.2.2.2.2.2.2.2.2.2.2.2.2.2.2.2.2.1) j v, st.2.2.2.2.2.2.2.2.2.2.2.2.2.2.2.2.2.2.2.2.2.2.2.2)
def mp_al (st : mS) (j : Nat) (v : Int64) : mS := (st.1, st.2.1, st.2.2.1, st.2.2.2.1, st.2.2.2.2.1, st.2.2.2.2.2.1, st.2.2.2.2.2.2.1, st.2.2.2.2.2.2.2.1, st.2.2.2.2.2.2.2.2.1, st.2.2.2.2.2.2.2.2.2.1, st.2.2.2.2.2.2.2.2.2.2.1, st.2.2.2.2.2.2.2.2.2.2.2.1, st.2.2.2.2.2.2.2.2.2.2.2.2.1, st.2.2.2.2.2.2.2.2.2.2.2.2.2.1, st.2.2.2.2.2.2.2.2.2.2.2.2.2.2.1, st.2.2.2.2.2.2.2.2.2.2.2.2.2.2.2.1, st.2.2.2.2.2.2.2.2.2.2.2.2.2.2.2.2.1, st.2.2.2.2.2.2.2.2.2.2.2.2.2.2.2.2.2.1, st.2.2.2.2.2.2.2.2.2.2.2.2.2.2.2.2.2.2.1, st.2.2.2.2.2.2.2.2.2.2.2.2.2.2.2.2.2.2.2.1, st.2.2.2.2.2.2.2.2.2.2.2.2.2.2.2.2.2.2.2.2.1, st.2.2.2.2.2.2.2.2.2.2.2.2.2.2.2.2.2.2.2.2.2.1, st.2.2.2.2.2.2.2.2.2.2.2.2.2.2.2.2.2.2.2.2.2.2.1, st.2.2.2.2.2.2.2.2.2.2.2.2.2.2.2.2.2.2.2.2.2.2.2.1, vp_updL (st.2.2.2.2.2.2.2.2.2.2.2.2.2.2.2.2.2.2.2.2.2.2.2.2.1) j v, st.2.2.2.2.2.2.2.2.2.2.2.2.2.2.2.2.2.2.2.2.2.2.2.2.2)
def mp_ps (st : mS) (v : Int32) : mS := (st.1, st.2.1, st.2.2.1, st.2.2.2.1, st.2.2.2.2.1, st.2.2.2.2.2.1, st.2.2.2.2.2.2.1, st.2.2.2.2.2.2.2.1, st.2.2.2.2.2.2.2.2.1, st.2.2.2.2.2.2.2.2.2.1, st.2.2.2.2.2.2.2.2.2.2.1, st.2.2.2.2.2.2.2.2.2.2.2.1, st.2.2.2.2.2.2.2.2.2.2.2.2.1, st.2.2.2.2.2.2.2.2.2.2.2.2.2.1, st.2.2.2.2.2.2.2.2.2.2.2.2.2.2.1, st.2.2.2.2.2.2.2.2.2.2.2.2.2.2.2.1, st.2.2.2.2.2.2.2.2.2.2.2.2.2.2.2.2.1, st.2.2.2.2.2.2.2.2.2.2.2.2.2.2.2.2.2.1, st.2.2.2.2.2.2.2.2.2.2.2.2.2.2.2.2.2.2.1, st.2.2.2.2.2.2.2.2.2.2.2.2.2.2.2.2.2.2.2.1, st.2.2.2.2.2.2.2.2.2.2.2.2.2.2.2.2.2.2.2.2.1, st.2.2.2.2.2.2.2.2.2.2.2.2.2.2.2.2.2.2.2.2.2.1, st.2.2.2.2.2.2.2.2.2.2.2.2.2.2.2.2.2.2.2.2.2.2.1, st.2.2.2.2.2.2.2.2.2.2.2.2.2.2.2.2.2.2.2.2.2.2.2.1, st.2.2.2.2.2.2.2.2.2.2.2.2.2.2.2.2.2.2.2.2.2.2.2.2.1, v, st.2.2.2.2.2.2.2.2.2.2.2.2.2.2.2.2.2.2.2.2.2.2.2.2.2.2)
def mp_pl (st : mS) (j : Nat) (v : Int32) : mS := (st.1, st.2.1, st.2.2.1, st.2.2.2.1, st.2.2.2.2.1, st.2.2.2.2.2.1, st.2.2.2.2.2.2.1, st.2.2.2.2.2.2.2.1, st.2.2.2.2.2.2.2.2.1, st.2.2.2.2.2.2.2.2.2.1, st.2.2.2.2.2.2.2.2.2.2.1, st.2.2.2.2.2.2.2.2.2.2.2.1, st.2.2.2.2.2.2.2.2.2.2.2.2.1, st.2.2.2.2.2.2.2.2.2.2.2.2.2.1, st.2.2.2.2.2.2.2.2.2.2.2.2.2.2.1, st.2.2.2.2.2.2.2.2.2.2.2.2.2.2.2.1, st.2.2.2.2.2.2.2.2.2.2.2.2.2.2.2.2.1, st.2.2.2.2.2.2.2.2.2.2.2.2.2.2.2.2.2.1, st.2.2.2.2.2.2.2.2.2.2.2.2.2.2.2.2.2.2.1, st.2.2.2.2.2.2.2.2.2.2.2.2.2.2.2.2.2.2.2.1, st.2.2.2.2.2.2.2.2.2.2.2.2.2.2.2.2.2.2.2.2.1, st.2.2.2.2.2.2.2.2.2.2.2.2.2.2.2.2.2.2.2.2.2.1, st.2.2.2.2.2.2.2.2.2.2.2.2.2.2.2.2.2.2.2.2.2.2.1, st.2.2.2.2.2.2.2.2.2.2.2.2.2.2.2.2.2.2.2.2.2.2.2.1, st.2.2.2.2.2.2.2.2.2.2.2.2.2.2.2.2.2.2.2.2.2.2.2.2.1, st.2.2.2.2.2.2.2.2.2.2.2.2.2.2.2.2.2.2.2.2.2.2.2.2.2.1, upd (st.2.2.2.2.2.2.2.2.2.2.2.2.2.2.2.2.2.2.2.2.2.2.2.2.2.2) j v)
def mgx (Z : Nat) (ad : Nat → Nat) (cA : Nat → ClassId) (st : mS) : Nat → va_E :=
  apw 1 (fun _ => .inr (8, [.int (nI Z), .ref (ad 1), .ref (ad 2), .ref (ad 3), .int (ms_cr st), .ref (ad 4), .ref (ad 5), .ref (ad 6), .ref (ad 7), .ref (ad 8), .ref (ad 9), .int (ms_mv st), .int (ms_bo st), .ref (ad 10), .ref (ad 11), .ref (ad 12), .ref (ad 13), .ref (ad 14), .ref (ad 15), .int (b2i (ms_hb st)), .int (ms_be st), .int (ms_bh st), .int (b2i (ms_bu st)), .int (ms_mi st), .ref (ad 16), .ref (ad 17), .int (ms_ps st), .ref (ad 18)])) (apw 1 (fun _ => .inl (cA 0, 4, .inl (ms_ws st))) (apw 1 (fun _ => .inl (cA 0, 4, .inl (ms_ash st))) (apw 1 (fun _ => .inl (cA 0, 24, .inl (ms_cl st))) (apw 1 (fun _ => .inl (cA 0, 4, .inl (ms_pe st))) (apw 1 (fun _ => .inl (cA 1, 6, .inr (.inl (ms_wa st)))) (apw 1 (fun _ => .inl (cA 1, 6, .inr (.inl (ms_fu st)))) (apw 1 (fun _ => .inl (cA 1, 6, .inr (.inl (ms_ah st)))) (apw 1 (fun _ => .inl (cA 0, 6, .inl (ms_ai st))) (apw 1 (fun _ => .inl (cA 0, 6, .inl (ms_dr st))) (apw 1 (fun _ => .inl (cA 2, 2, .inl (ms_hc st))) (apw 1 (fun _ => .inl (cA 0, 2, .inl (ms_tg st))) (apw 1 (fun _ => .inl (cA 0, 2, .inl (ms_bn st))) (apw 1 (fun _ => .inl (cA 0, 2, .inl (ms_bs st))) (apw 1 (fun _ => .inl (cA 1, 2, .inr (.inl (ms_su st)))) (apw 1 (fun _ => .inl (cA 0, 2, .inl (ms_ou st))) (apw 1 (fun _ => .inl (cA 1, 4, .inr (.inl (ms_la st)))) (apw 1 (fun _ => .inl (cA 1, 10, .inr (.inl (ms_al st)))) (apw 1 (fun _ => .inl (cA 0, 4, .inl (ms_pl st))) (fun _ => .inr (0, []))))))))))))))))))))
theorem mgx_M {Z : Nat} {ad : Nat → Nat} {cA : Nat → ClassId} {st : mS} : mgx Z ad cA st 0 = .inr (8, [.int (nI Z), .ref (ad 1), .ref (ad 2), .ref (ad 3), .int (ms_cr st), .ref (ad 4), .ref (ad 5), .ref (ad 6), .ref (ad 7), .ref (ad 8), .ref (ad 9), .int (ms_mv st), .int (ms_bo st), .ref (ad 10), .ref (ad 11), .ref (ad 12), .ref (ad 13), .ref (ad 14), .ref (ad 15), .int (b2i (ms_hb st)), .int (ms_be st), .int (ms_bh st), .int (b2i (ms_bu st)), .int (ms_mi st), .ref (ad 16), .ref (ad 17), .int (ms_ps st), .ref (ad 18)]) := by
  show mgx Z ad cA st (0) = _
  rw [mgx, apw_l (Nat.zero_lt_one)]
theorem mgx_M_cr {Z : Nat} {ad : Nat → Nat} {cA : Nat → ClassId} {st : mS} (v : Int32) : va_up (mgx Z ad cA st) 0 (.inr (8, [.int (nI Z), .ref (ad 1), .ref (ad 2), .ref (ad 3), .int v, .ref (ad 4), .ref (ad 5), .ref (ad 6), .ref (ad 7), .ref (ad 8), .ref (ad 9), .int (ms_mv st), .int (ms_bo st), .ref (ad 10), .ref (ad 11), .ref (ad 12), .ref (ad 13), .ref (ad 14), .ref (ad 15), .int (b2i (ms_hb st)), .int (ms_be st), .int (ms_bh st), .int (b2i (ms_bu st)), .int (ms_mi st), .ref (ad 16), .ref (ad 17), .int (ms_ps st), .ref (ad 18)])) = mgx Z ad cA (mp_cr st v) := by
  show va_up (mgx Z ad cA st) (0) _ = _
  rw [mgx, apw_ul (Nat.zero_lt_one), mgx]
  refine apw_ext (fun i hi => ?_) rfl
  obtain rfl : i = 0 := by omega
  rw [va_up_self]; rfl
theorem mgx_M_mv {Z : Nat} {ad : Nat → Nat} {cA : Nat → ClassId} {st : mS} (v : Int32) : va_up (mgx Z ad cA st) 0 (.inr (8, [.int (nI Z), .ref (ad 1), .ref (ad 2), .ref (ad 3), .int (ms_cr st), .ref (ad 4), .ref (ad 5), .ref (ad 6), .ref (ad 7), .ref (ad 8), .ref (ad 9), .int v, .int (ms_bo st), .ref (ad 10), .ref (ad 11), .ref (ad 12), .ref (ad 13), .ref (ad 14), .ref (ad 15), .int (b2i (ms_hb st)), .int (ms_be st), .int (ms_bh st), .int (b2i (ms_bu st)), .int (ms_mi st), .ref (ad 16), .ref (ad 17), .int (ms_ps st), .ref (ad 18)])) = mgx Z ad cA (mp_mv st v) := by
  show va_up (mgx Z ad cA st) (0) _ = _
  rw [mgx, apw_ul (Nat.zero_lt_one), mgx]
  refine apw_ext (fun i hi => ?_) rfl
  obtain rfl : i = 0 := by omega
  rw [va_up_self]; rfl
theorem mgx_M_bo {Z : Nat} {ad : Nat → Nat} {cA : Nat → ClassId} {st : mS} (v : Int32) : va_up (mgx Z ad cA st) 0 (.inr (8, [.int (nI Z), .ref (ad 1), .ref (ad 2), .ref (ad 3), .int (ms_cr st), .ref (ad 4), .ref (ad 5), .ref (ad 6), .ref (ad 7), .ref (ad 8), .ref (ad 9), .int (ms_mv st), .int v, .ref (ad 10), .ref (ad 11), .ref (ad 12), .ref (ad 13), .ref (ad 14), .ref (ad 15), .int (b2i (ms_hb st)), .int (ms_be st), .int (ms_bh st), .int (b2i (ms_bu st)), .int (ms_mi st), .ref (ad 16), .ref (ad 17), .int (ms_ps st), .ref (ad 18)])) = mgx Z ad cA (mp_bo st v) := by
  show va_up (mgx Z ad cA st) (0) _ = _
  rw [mgx, apw_ul (Nat.zero_lt_one), mgx]
  refine apw_ext (fun i hi => ?_) rfl
  obtain rfl : i = 0 := by omega
  rw [va_up_self]; rfl
theorem mgx_M_hb {Z : Nat} {ad : Nat → Nat} {cA : Nat → ClassId} {st : mS} (v : Bool) : va_up (mgx Z ad cA st) 0 (.inr (8, [.int (nI Z), .ref (ad 1), .ref (ad 2), .ref (ad 3), .int (ms_cr st), .ref (ad 4), .ref (ad 5), .ref (ad 6), .ref (ad 7), .ref (ad 8), .ref (ad 9), .int (ms_mv st), .int (ms_bo st), .ref (ad 10), .ref (ad 11), .ref (ad 12), .ref (ad 13), .ref (ad 14), .ref (ad 15), .int (b2i v), .int (ms_be st), .int (ms_bh st), .int (b2i (ms_bu st)), .int (ms_mi st), .ref (ad 16), .ref (ad 17), .int (ms_ps st), .ref (ad 18)])) = mgx Z ad cA (mp_hb st v) := by
  show va_up (mgx Z ad cA st) (0) _ = _
  rw [mgx, apw_ul (Nat.zero_lt_one), mgx]
  refine apw_ext (fun i hi => ?_) rfl
  obtain rfl : i = 0 := by omega
  rw [va_up_self]; rfl
theorem mgx_M_be {Z : Nat} {ad : Nat → Nat} {cA : Nat → ClassId} {st : mS} (v : Int32) : va_up (mgx Z ad cA st) 0 (.inr (8, [.int (nI Z), .ref (ad 1), .ref (ad 2), .ref (ad 3), .int (ms_cr st), .ref (ad 4), .ref (ad 5), .ref (ad 6), .ref (ad 7), .ref (ad 8), .ref (ad 9), .int (ms_mv st), .int (ms_bo st), .ref (ad 10), .ref (ad 11), .ref (ad 12), .ref (ad 13), .ref (ad 14), .ref (ad 15), .int (b2i (ms_hb st)), .int v, .int (ms_bh st), .int (b2i (ms_bu st)), .int (ms_mi st), .ref (ad 16), .ref (ad 17), .int (ms_ps st), .ref (ad 18)])) = mgx Z ad cA (mp_be st v) := by
  show va_up (mgx Z ad cA st) (0) _ = _
  rw [mgx, apw_ul (Nat.zero_lt_one), mgx]
  refine apw_ext (fun i hi => ?_) rfl
  obtain rfl : i = 0 := by omega
  rw [va_up_self]; rfl
theorem mgx_M_bh {Z : Nat} {ad : Nat → Nat} {cA : Nat → ClassId} {st : mS} (v : Int32) : va_up (mgx Z ad cA st) 0 (.inr (8, [.int (nI Z), .ref (ad 1), .ref (ad 2), .ref (ad 3), .int (ms_cr st), .ref (ad 4), .ref (ad 5), .ref (ad 6), .ref (ad 7), .ref (ad 8), .ref (ad 9), .int (ms_mv st), .int (ms_bo st), .ref (ad 10), .ref (ad 11), .ref (ad 12), .ref (ad 13), .ref (ad 14), .ref (ad 15), .int (b2i (ms_hb st)), .int (ms_be st), .int v, .int (b2i (ms_bu st)), .int (ms_mi st), .ref (ad 16), .ref (ad 17), .int (ms_ps st), .ref (ad 18)])) = mgx Z ad cA (mp_bh st v) := by
  show va_up (mgx Z ad cA st) (0) _ = _
  rw [mgx, apw_ul (Nat.zero_lt_one), mgx]
  refine apw_ext (fun i hi => ?_) rfl
  obtain rfl : i = 0 := by omega
  rw [va_up_self]; rfl
theorem mgx_M_bu {Z : Nat} {ad : Nat → Nat} {cA : Nat → ClassId} {st : mS} (v : Bool) : va_up (mgx Z ad cA st) 0 (.inr (8, [.int (nI Z), .ref (ad 1), .ref (ad 2), .ref (ad 3), .int (ms_cr st), .ref (ad 4), .ref (ad 5), .ref (ad 6), .ref (ad 7), .ref (ad 8), .ref (ad 9), .int (ms_mv st), .int (ms_bo st), .ref (ad 10), .ref (ad 11), .ref (ad 12), .ref (ad 13), .ref (ad 14), .ref (ad 15), .int (b2i (ms_hb st)), .int (ms_be st), .int (ms_bh st), .int (b2i v), .int (ms_mi st), .ref (ad 16), .ref (ad 17), .int (ms_ps st), .ref (ad 18)])) = mgx Z ad cA (mp_bu st v) := by
  show va_up (mgx Z ad cA st) (0) _ = _
  rw [mgx, apw_ul (Nat.zero_lt_one), mgx]
  refine apw_ext (fun i hi => ?_) rfl
  obtain rfl : i = 0 := by omega
  rw [va_up_self]; rfl
theorem mgx_M_mi {Z : Nat} {ad : Nat → Nat} {cA : Nat → ClassId} {st : mS} (v : Int32) : va_up (mgx Z ad cA st) 0 (.inr (8, [.int (nI Z), .ref (ad 1), .ref (ad 2), .ref (ad 3), .int (ms_cr st), .ref (ad 4), .ref (ad 5), .ref (ad 6), .ref (ad 7), .ref (ad 8), .ref (ad 9), .int (ms_mv st), .int (ms_bo st), .ref (ad 10), .ref (ad 11), .ref (ad 12), .ref (ad 13), .ref (ad 14), .ref (ad 15), .int (b2i (ms_hb st)), .int (ms_be st), .int (ms_bh st), .int (b2i (ms_bu st)), .int v, .ref (ad 16), .ref (ad 17), .int (ms_ps st), .ref (ad 18)])) = mgx Z ad cA (mp_mi st v) := by
  show va_up (mgx Z ad cA st) (0) _ = _
  rw [mgx, apw_ul (Nat.zero_lt_one), mgx]
  refine apw_ext (fun i hi => ?_) rfl
  obtain rfl : i = 0 := by omega
  rw [va_up_self]; rfl
theorem mgx_M_ps {Z : Nat} {ad : Nat → Nat} {cA : Nat → ClassId} {st : mS} (v : Int32) : va_up (mgx Z ad cA st) 0 (.inr (8, [.int (nI Z), .ref (ad 1), .ref (ad 2), .ref (ad 3), .int (ms_cr st), .ref (ad 4), .ref (ad 5), .ref (ad 6), .ref (ad 7), .ref (ad 8), .ref (ad 9), .int (ms_mv st), .int (ms_bo st), .ref (ad 10), .ref (ad 11), .ref (ad 12), .ref (ad 13), .ref (ad 14), .ref (ad 15), .int (b2i (ms_hb st)), .int (ms_be st), .int (ms_bh st), .int (b2i (ms_bu st)), .int (ms_mi st), .ref (ad 16), .ref (ad 17), .int v, .ref (ad 18)])) = mgx Z ad cA (mp_ps st v) := by
  show va_up (mgx Z ad cA st) (0) _ = _
  rw [mgx, apw_ul (Nat.zero_lt_one), mgx]
  refine apw_ext (fun i hi => ?_) rfl
  obtain rfl : i = 0 := by omega
  rw [va_up_self]; rfl
theorem mgx_waterShares {Z : Nat} {ad : Nat → Nat} {cA : Nat → ClassId} {st : mS} : mgx Z ad cA st 1 = .inl (cA 0, 4, .inl (ms_ws st)) := by
  show mgx Z ad cA st (1 + (0)) = _
  rw [mgx, apw_r, apw_l (Nat.zero_lt_one)]
theorem mgx_waterShares_w {Z : Nat} {ad : Nat → Nat} {cA : Nat → ClassId} {st : mS} (x : Nat) (v : Int32) : va_up (mgx Z ad cA st) 1 (.inl (cA 0, 4, .inl (upd (ms_ws st) x v))) = mgx Z ad cA (mp_ws st x v) := by
  show va_up (mgx Z ad cA st) (1 + (0)) _ = _
  rw [mgx, apw_ur, apw_ul (Nat.zero_lt_one), mgx]
  refine apw_ext (fun _ _ => rfl) ?_
  refine apw_ext (fun i hi => ?_) rfl
  obtain rfl : i = 0 := by omega
  rw [va_up_self]; rfl
theorem mgx_ashShares {Z : Nat} {ad : Nat → Nat} {cA : Nat → ClassId} {st : mS} : mgx Z ad cA st 2 = .inl (cA 0, 4, .inl (ms_ash st)) := by
  show mgx Z ad cA st (1 + (1 + (0))) = _
  rw [mgx, apw_r, apw_r, apw_l (Nat.zero_lt_one)]
theorem mgx_ashShares_w {Z : Nat} {ad : Nat → Nat} {cA : Nat → ClassId} {st : mS} (x : Nat) (v : Int32) : va_up (mgx Z ad cA st) 2 (.inl (cA 0, 4, .inl (upd (ms_ash st) x v))) = mgx Z ad cA (mp_ash st x v) := by
  show va_up (mgx Z ad cA st) (1 + (1 + (0))) _ = _
  rw [mgx, apw_ur, apw_ur, apw_ul (Nat.zero_lt_one), mgx]
  refine apw_ext (fun _ _ => rfl) ?_
  refine apw_ext (fun _ _ => rfl) ?_
  refine apw_ext (fun i hi => ?_) rfl
  obtain rfl : i = 0 := by omega
  rw [va_up_self]; rfl
theorem mgx_cells {Z : Nat} {ad : Nat → Nat} {cA : Nat → ClassId} {st : mS} : mgx Z ad cA st 3 = .inl (cA 0, 24, .inl (ms_cl st)) := by
  show mgx Z ad cA st (1 + (1 + (1 + (0)))) = _
  rw [mgx, apw_r, apw_r, apw_r, apw_l (Nat.zero_lt_one)]
theorem mgx_cells_w {Z : Nat} {ad : Nat → Nat} {cA : Nat → ClassId} {st : mS} (x : Nat) (v : Int32) : va_up (mgx Z ad cA st) 3 (.inl (cA 0, 24, .inl (upd (ms_cl st) x v))) = mgx Z ad cA (mp_cl st x v) := by
  show va_up (mgx Z ad cA st) (1 + (1 + (1 + (0)))) _ = _
  rw [mgx, apw_ur, apw_ur, apw_ur, apw_ul (Nat.zero_lt_one), mgx]
  refine apw_ext (fun _ _ => rfl) ?_
  refine apw_ext (fun _ _ => rfl) ?_
  refine apw_ext (fun _ _ => rfl) ?_
  refine apw_ext (fun i hi => ?_) rfl
  obtain rfl : i = 0 := by omega
  rw [va_up_self]; rfl
theorem mgx_pending {Z : Nat} {ad : Nat → Nat} {cA : Nat → ClassId} {st : mS} : mgx Z ad cA st 4 = .inl (cA 0, 4, .inl (ms_pe st)) := by
  show mgx Z ad cA st (1 + (1 + (1 + (1 + (0))))) = _
  rw [mgx, apw_r, apw_r, apw_r, apw_r, apw_l (Nat.zero_lt_one)]
theorem mgx_pending_w {Z : Nat} {ad : Nat → Nat} {cA : Nat → ClassId} {st : mS} (x : Nat) (v : Int32) : va_up (mgx Z ad cA st) 4 (.inl (cA 0, 4, .inl (upd (ms_pe st) x v))) = mgx Z ad cA (mp_pe st x v) := by
  show va_up (mgx Z ad cA st) (1 + (1 + (1 + (1 + (0))))) _ = _
  rw [mgx, apw_ur, apw_ur, apw_ur, apw_ur, apw_ul (Nat.zero_lt_one), mgx]
  refine apw_ext (fun _ _ => rfl) ?_
  refine apw_ext (fun _ _ => rfl) ?_
  refine apw_ext (fun _ _ => rfl) ?_
  refine apw_ext (fun _ _ => rfl) ?_
  refine apw_ext (fun i hi => ?_) rfl
  obtain rfl : i = 0 := by omega
  rw [va_up_self]; rfl
theorem mgx_waters {Z : Nat} {ad : Nat → Nat} {cA : Nat → ClassId} {st : mS} : mgx Z ad cA st 5 = .inl (cA 1, 6, .inr (.inl (ms_wa st))) := by
  show mgx Z ad cA st (1 + (1 + (1 + (1 + (1 + (0)))))) = _
  rw [mgx, apw_r, apw_r, apw_r, apw_r, apw_r, apw_l (Nat.zero_lt_one)]
theorem mgx_waters_w {Z : Nat} {ad : Nat → Nat} {cA : Nat → ClassId} {st : mS} (x : Nat) (v : Int64) : va_up (mgx Z ad cA st) 5 (.inl (cA 1, 6, .inr (.inl (vp_updL (ms_wa st) x v)))) = mgx Z ad cA (mp_wa st x v) := by
  show va_up (mgx Z ad cA st) (1 + (1 + (1 + (1 + (1 + (0)))))) _ = _
  rw [mgx, apw_ur, apw_ur, apw_ur, apw_ur, apw_ur, apw_ul (Nat.zero_lt_one), mgx]
  refine apw_ext (fun _ _ => rfl) ?_
  refine apw_ext (fun _ _ => rfl) ?_
  refine apw_ext (fun _ _ => rfl) ?_
  refine apw_ext (fun _ _ => rfl) ?_
  refine apw_ext (fun _ _ => rfl) ?_
  refine apw_ext (fun i hi => ?_) rfl
  obtain rfl : i = 0 := by omega
  rw [va_up_self]; rfl
theorem mgx_fuels {Z : Nat} {ad : Nat → Nat} {cA : Nat → ClassId} {st : mS} : mgx Z ad cA st 6 = .inl (cA 1, 6, .inr (.inl (ms_fu st))) := by
  show mgx Z ad cA st (1 + (1 + (1 + (1 + (1 + (1 + (0))))))) = _
  rw [mgx, apw_r, apw_r, apw_r, apw_r, apw_r, apw_r, apw_l (Nat.zero_lt_one)]
theorem mgx_fuels_w {Z : Nat} {ad : Nat → Nat} {cA : Nat → ClassId} {st : mS} (x : Nat) (v : Int64) : va_up (mgx Z ad cA st) 6 (.inl (cA 1, 6, .inr (.inl (vp_updL (ms_fu st) x v)))) = mgx Z ad cA (mp_fu st x v) := by
  show va_up (mgx Z ad cA st) (1 + (1 + (1 + (1 + (1 + (1 + (0))))))) _ = _
  rw [mgx, apw_ur, apw_ur, apw_ur, apw_ur, apw_ur, apw_ur, apw_ul (Nat.zero_lt_one), mgx]
  refine apw_ext (fun _ _ => rfl) ?_
  refine apw_ext (fun _ _ => rfl) ?_
  refine apw_ext (fun _ _ => rfl) ?_
  refine apw_ext (fun _ _ => rfl) ?_
  refine apw_ext (fun _ _ => rfl) ?_
  refine apw_ext (fun _ _ => rfl) ?_
  refine apw_ext (fun i hi => ?_) rfl
  obtain rfl : i = 0 := by omega
  rw [va_up_self]; rfl
theorem mgx_ashes {Z : Nat} {ad : Nat → Nat} {cA : Nat → ClassId} {st : mS} : mgx Z ad cA st 7 = .inl (cA 1, 6, .inr (.inl (ms_ah st))) := by
  show mgx Z ad cA st (1 + (1 + (1 + (1 + (1 + (1 + (1 + (0)))))))) = _
  rw [mgx, apw_r, apw_r, apw_r, apw_r, apw_r, apw_r, apw_r, apw_l (Nat.zero_lt_one)]
theorem mgx_ashes_w {Z : Nat} {ad : Nat → Nat} {cA : Nat → ClassId} {st : mS} (x : Nat) (v : Int64) : va_up (mgx Z ad cA st) 7 (.inl (cA 1, 6, .inr (.inl (vp_updL (ms_ah st) x v)))) = mgx Z ad cA (mp_ah st x v) := by
  show va_up (mgx Z ad cA st) (1 + (1 + (1 + (1 + (1 + (1 + (1 + (0)))))))) _ = _
  rw [mgx, apw_ur, apw_ur, apw_ur, apw_ur, apw_ur, apw_ur, apw_ur, apw_ul (Nat.zero_lt_one), mgx]
  refine apw_ext (fun _ _ => rfl) ?_
  refine apw_ext (fun _ _ => rfl) ?_
  refine apw_ext (fun _ _ => rfl) ?_
  refine apw_ext (fun _ _ => rfl) ?_
  refine apw_ext (fun _ _ => rfl) ?_
  refine apw_ext (fun _ _ => rfl) ?_
  refine apw_ext (fun _ _ => rfl) ?_
  refine apw_ext (fun i hi => ?_) rfl
  obtain rfl : i = 0 := by omega
  rw [va_up_self]; rfl
theorem mgx_airs {Z : Nat} {ad : Nat → Nat} {cA : Nat → ClassId} {st : mS} : mgx Z ad cA st 8 = .inl (cA 0, 6, .inl (ms_ai st)) := by
  show mgx Z ad cA st (1 + (1 + (1 + (1 + (1 + (1 + (1 + (1 + (0))))))))) = _
  rw [mgx, apw_r, apw_r, apw_r, apw_r, apw_r, apw_r, apw_r, apw_r, apw_l (Nat.zero_lt_one)]
theorem mgx_airs_w {Z : Nat} {ad : Nat → Nat} {cA : Nat → ClassId} {st : mS} (x : Nat) (v : Int32) : va_up (mgx Z ad cA st) 8 (.inl (cA 0, 6, .inl (upd (ms_ai st) x v))) = mgx Z ad cA (mp_ai st x v) := by
  show va_up (mgx Z ad cA st) (1 + (1 + (1 + (1 + (1 + (1 + (1 + (1 + (0))))))))) _ = _
  rw [mgx, apw_ur, apw_ur, apw_ur, apw_ur, apw_ur, apw_ur, apw_ur, apw_ur, apw_ul (Nat.zero_lt_one), mgx]
  refine apw_ext (fun _ _ => rfl) ?_
  refine apw_ext (fun _ _ => rfl) ?_
  refine apw_ext (fun _ _ => rfl) ?_
  refine apw_ext (fun _ _ => rfl) ?_
  refine apw_ext (fun _ _ => rfl) ?_
  refine apw_ext (fun _ _ => rfl) ?_
  refine apw_ext (fun _ _ => rfl) ?_
  refine apw_ext (fun _ _ => rfl) ?_
  refine apw_ext (fun i hi => ?_) rfl
  obtain rfl : i = 0 := by omega
  rw [va_up_self]; rfl
theorem mgx_dryings {Z : Nat} {ad : Nat → Nat} {cA : Nat → ClassId} {st : mS} : mgx Z ad cA st 9 = .inl (cA 0, 6, .inl (ms_dr st)) := by
  show mgx Z ad cA st (1 + (1 + (1 + (1 + (1 + (1 + (1 + (1 + (1 + (0)))))))))) = _
  rw [mgx, apw_r, apw_r, apw_r, apw_r, apw_r, apw_r, apw_r, apw_r, apw_r, apw_l (Nat.zero_lt_one)]
theorem mgx_dryings_w {Z : Nat} {ad : Nat → Nat} {cA : Nat → ClassId} {st : mS} (x : Nat) (v : Int32) : va_up (mgx Z ad cA st) 9 (.inl (cA 0, 6, .inl (upd (ms_dr st) x v))) = mgx Z ad cA (mp_dr st x v) := by
  show va_up (mgx Z ad cA st) (1 + (1 + (1 + (1 + (1 + (1 + (1 + (1 + (1 + (0)))))))))) _ = _
  rw [mgx, apw_ur, apw_ur, apw_ur, apw_ur, apw_ur, apw_ur, apw_ur, apw_ur, apw_ur, apw_ul (Nat.zero_lt_one), mgx]
  refine apw_ext (fun _ _ => rfl) ?_
  refine apw_ext (fun _ _ => rfl) ?_
  refine apw_ext (fun _ _ => rfl) ?_
  refine apw_ext (fun _ _ => rfl) ?_
  refine apw_ext (fun _ _ => rfl) ?_
  refine apw_ext (fun _ _ => rfl) ?_
  refine apw_ext (fun _ _ => rfl) ?_
  refine apw_ext (fun _ _ => rfl) ?_
  refine apw_ext (fun _ _ => rfl) ?_
  refine apw_ext (fun i hi => ?_) rfl
  obtain rfl : i = 0 := by omega
  rw [va_up_self]; rfl
theorem mgx_hasControl {Z : Nat} {ad : Nat → Nat} {cA : Nat → ClassId} {st : mS} : mgx Z ad cA st 10 = .inl (cA 2, 2, .inl (ms_hc st)) := by
  show mgx Z ad cA st (1 + (1 + (1 + (1 + (1 + (1 + (1 + (1 + (1 + (1 + (0))))))))))) = _
  rw [mgx, apw_r, apw_r, apw_r, apw_r, apw_r, apw_r, apw_r, apw_r, apw_r, apw_r, apw_l (Nat.zero_lt_one)]
theorem mgx_hasControl_w {Z : Nat} {ad : Nat → Nat} {cA : Nat → ClassId} {st : mS} (x : Nat) (v : Int32) : va_up (mgx Z ad cA st) 10 (.inl (cA 2, 2, .inl (upd (ms_hc st) x v))) = mgx Z ad cA (mp_hc st x v) := by
  show va_up (mgx Z ad cA st) (1 + (1 + (1 + (1 + (1 + (1 + (1 + (1 + (1 + (1 + (0))))))))))) _ = _
  rw [mgx, apw_ur, apw_ur, apw_ur, apw_ur, apw_ur, apw_ur, apw_ur, apw_ur, apw_ur, apw_ur, apw_ul (Nat.zero_lt_one), mgx]
  refine apw_ext (fun _ _ => rfl) ?_
  refine apw_ext (fun _ _ => rfl) ?_
  refine apw_ext (fun _ _ => rfl) ?_
  refine apw_ext (fun _ _ => rfl) ?_
  refine apw_ext (fun _ _ => rfl) ?_
  refine apw_ext (fun _ _ => rfl) ?_
  refine apw_ext (fun _ _ => rfl) ?_
  refine apw_ext (fun _ _ => rfl) ?_
  refine apw_ext (fun _ _ => rfl) ?_
  refine apw_ext (fun _ _ => rfl) ?_
  refine apw_ext (fun i hi => ?_) rfl
  obtain rfl : i = 0 := by omega
  rw [va_up_self]; rfl
theorem mgx_targets {Z : Nat} {ad : Nat → Nat} {cA : Nat → ClassId} {st : mS} : mgx Z ad cA st 11 = .inl (cA 0, 2, .inl (ms_tg st)) := by
  show mgx Z ad cA st (1 + (1 + (1 + (1 + (1 + (1 + (1 + (1 + (1 + (1 + (1 + (0)))))))))))) = _
  rw [mgx, apw_r, apw_r, apw_r, apw_r, apw_r, apw_r, apw_r, apw_r, apw_r, apw_r, apw_r, apw_l (Nat.zero_lt_one)]
theorem mgx_targets_w {Z : Nat} {ad : Nat → Nat} {cA : Nat → ClassId} {st : mS} (x : Nat) (v : Int32) : va_up (mgx Z ad cA st) 11 (.inl (cA 0, 2, .inl (upd (ms_tg st) x v))) = mgx Z ad cA (mp_tg st x v) := by
  show va_up (mgx Z ad cA st) (1 + (1 + (1 + (1 + (1 + (1 + (1 + (1 + (1 + (1 + (1 + (0)))))))))))) _ = _
  rw [mgx, apw_ur, apw_ur, apw_ur, apw_ur, apw_ur, apw_ur, apw_ur, apw_ur, apw_ur, apw_ur, apw_ur, apw_ul (Nat.zero_lt_one), mgx]
  refine apw_ext (fun _ _ => rfl) ?_
  refine apw_ext (fun _ _ => rfl) ?_
  refine apw_ext (fun _ _ => rfl) ?_
  refine apw_ext (fun _ _ => rfl) ?_
  refine apw_ext (fun _ _ => rfl) ?_
  refine apw_ext (fun _ _ => rfl) ?_
  refine apw_ext (fun _ _ => rfl) ?_
  refine apw_ext (fun _ _ => rfl) ?_
  refine apw_ext (fun _ _ => rfl) ?_
  refine apw_ext (fun _ _ => rfl) ?_
  refine apw_ext (fun _ _ => rfl) ?_
  refine apw_ext (fun i hi => ?_) rfl
  obtain rfl : i = 0 := by omega
  rw [va_up_self]; rfl
theorem mgx_byNow {Z : Nat} {ad : Nat → Nat} {cA : Nat → ClassId} {st : mS} : mgx Z ad cA st 12 = .inl (cA 0, 2, .inl (ms_bn st)) := by
  show mgx Z ad cA st (1 + (1 + (1 + (1 + (1 + (1 + (1 + (1 + (1 + (1 + (1 + (1 + (0))))))))))))) = _
  rw [mgx, apw_r, apw_r, apw_r, apw_r, apw_r, apw_r, apw_r, apw_r, apw_r, apw_r, apw_r, apw_r, apw_l (Nat.zero_lt_one)]
theorem mgx_byNow_w {Z : Nat} {ad : Nat → Nat} {cA : Nat → ClassId} {st : mS} (x : Nat) (v : Int32) : va_up (mgx Z ad cA st) 12 (.inl (cA 0, 2, .inl (upd (ms_bn st) x v))) = mgx Z ad cA (mp_bn st x v) := by
  show va_up (mgx Z ad cA st) (1 + (1 + (1 + (1 + (1 + (1 + (1 + (1 + (1 + (1 + (1 + (1 + (0))))))))))))) _ = _
  rw [mgx, apw_ur, apw_ur, apw_ur, apw_ur, apw_ur, apw_ur, apw_ur, apw_ur, apw_ur, apw_ur, apw_ur, apw_ur, apw_ul (Nat.zero_lt_one), mgx]
  refine apw_ext (fun _ _ => rfl) ?_
  refine apw_ext (fun _ _ => rfl) ?_
  refine apw_ext (fun _ _ => rfl) ?_
  refine apw_ext (fun _ _ => rfl) ?_
  refine apw_ext (fun _ _ => rfl) ?_
  refine apw_ext (fun _ _ => rfl) ?_
  refine apw_ext (fun _ _ => rfl) ?_
  refine apw_ext (fun _ _ => rfl) ?_
  refine apw_ext (fun _ _ => rfl) ?_
  refine apw_ext (fun _ _ => rfl) ?_
  refine apw_ext (fun _ _ => rfl) ?_
  refine apw_ext (fun _ _ => rfl) ?_
  refine apw_ext (fun i hi => ?_) rfl
  obtain rfl : i = 0 := by omega
  rw [va_up_self]; rfl
theorem mgx_bySum {Z : Nat} {ad : Nat → Nat} {cA : Nat → ClassId} {st : mS} : mgx Z ad cA st 13 = .inl (cA 0, 2, .inl (ms_bs st)) := by
  show mgx Z ad cA st (1 + (1 + (1 + (1 + (1 + (1 + (1 + (1 + (1 + (1 + (1 + (1 + (1 + (0)))))))))))))) = _
  rw [mgx, apw_r, apw_r, apw_r, apw_r, apw_r, apw_r, apw_r, apw_r, apw_r, apw_r, apw_r, apw_r, apw_r, apw_l (Nat.zero_lt_one)]
theorem mgx_bySum_w {Z : Nat} {ad : Nat → Nat} {cA : Nat → ClassId} {st : mS} (x : Nat) (v : Int32) : va_up (mgx Z ad cA st) 13 (.inl (cA 0, 2, .inl (upd (ms_bs st) x v))) = mgx Z ad cA (mp_bs st x v) := by
  show va_up (mgx Z ad cA st) (1 + (1 + (1 + (1 + (1 + (1 + (1 + (1 + (1 + (1 + (1 + (1 + (1 + (0)))))))))))))) _ = _
  rw [mgx, apw_ur, apw_ur, apw_ur, apw_ur, apw_ur, apw_ur, apw_ur, apw_ur, apw_ur, apw_ur, apw_ur, apw_ur, apw_ur, apw_ul (Nat.zero_lt_one), mgx]
  refine apw_ext (fun _ _ => rfl) ?_
  refine apw_ext (fun _ _ => rfl) ?_
  refine apw_ext (fun _ _ => rfl) ?_
  refine apw_ext (fun _ _ => rfl) ?_
  refine apw_ext (fun _ _ => rfl) ?_
  refine apw_ext (fun _ _ => rfl) ?_
  refine apw_ext (fun _ _ => rfl) ?_
  refine apw_ext (fun _ _ => rfl) ?_
  refine apw_ext (fun _ _ => rfl) ?_
  refine apw_ext (fun _ _ => rfl) ?_
  refine apw_ext (fun _ _ => rfl) ?_
  refine apw_ext (fun _ _ => rfl) ?_
  refine apw_ext (fun _ _ => rfl) ?_
  refine apw_ext (fun i hi => ?_) rfl
  obtain rfl : i = 0 := by omega
  rw [va_up_self]; rfl
theorem mgx_sums {Z : Nat} {ad : Nat → Nat} {cA : Nat → ClassId} {st : mS} : mgx Z ad cA st 14 = .inl (cA 1, 2, .inr (.inl (ms_su st))) := by
  show mgx Z ad cA st (1 + (1 + (1 + (1 + (1 + (1 + (1 + (1 + (1 + (1 + (1 + (1 + (1 + (1 + (0))))))))))))))) = _
  rw [mgx, apw_r, apw_r, apw_r, apw_r, apw_r, apw_r, apw_r, apw_r, apw_r, apw_r, apw_r, apw_r, apw_r, apw_r, apw_l (Nat.zero_lt_one)]
theorem mgx_sums_w {Z : Nat} {ad : Nat → Nat} {cA : Nat → ClassId} {st : mS} (x : Nat) (v : Int64) : va_up (mgx Z ad cA st) 14 (.inl (cA 1, 2, .inr (.inl (vp_updL (ms_su st) x v)))) = mgx Z ad cA (mp_su st x v) := by
  show va_up (mgx Z ad cA st) (1 + (1 + (1 + (1 + (1 + (1 + (1 + (1 + (1 + (1 + (1 + (1 + (1 + (1 + (0))))))))))))))) _ = _
  rw [mgx, apw_ur, apw_ur, apw_ur, apw_ur, apw_ur, apw_ur, apw_ur, apw_ur, apw_ur, apw_ur, apw_ur, apw_ur, apw_ur, apw_ur, apw_ul (Nat.zero_lt_one), mgx]
  refine apw_ext (fun _ _ => rfl) ?_
  refine apw_ext (fun _ _ => rfl) ?_
  refine apw_ext (fun _ _ => rfl) ?_
  refine apw_ext (fun _ _ => rfl) ?_
  refine apw_ext (fun _ _ => rfl) ?_
  refine apw_ext (fun _ _ => rfl) ?_
  refine apw_ext (fun _ _ => rfl) ?_
  refine apw_ext (fun _ _ => rfl) ?_
  refine apw_ext (fun _ _ => rfl) ?_
  refine apw_ext (fun _ _ => rfl) ?_
  refine apw_ext (fun _ _ => rfl) ?_
  refine apw_ext (fun _ _ => rfl) ?_
  refine apw_ext (fun _ _ => rfl) ?_
  refine apw_ext (fun _ _ => rfl) ?_
  refine apw_ext (fun i hi => ?_) rfl
  obtain rfl : i = 0 := by omega
  rw [va_up_self]; rfl
theorem mgx_outputs {Z : Nat} {ad : Nat → Nat} {cA : Nat → ClassId} {st : mS} : mgx Z ad cA st 15 = .inl (cA 0, 2, .inl (ms_ou st)) := by
  show mgx Z ad cA st (1 + (1 + (1 + (1 + (1 + (1 + (1 + (1 + (1 + (1 + (1 + (1 + (1 + (1 + (1 + (0)))))))))))))))) = _
  rw [mgx, apw_r, apw_r, apw_r, apw_r, apw_r, apw_r, apw_r, apw_r, apw_r, apw_r, apw_r, apw_r, apw_r, apw_r, apw_r, apw_l (Nat.zero_lt_one)]
theorem mgx_outputs_w {Z : Nat} {ad : Nat → Nat} {cA : Nat → ClassId} {st : mS} (x : Nat) (v : Int32) : va_up (mgx Z ad cA st) 15 (.inl (cA 0, 2, .inl (upd (ms_ou st) x v))) = mgx Z ad cA (mp_ou st x v) := by
  show va_up (mgx Z ad cA st) (1 + (1 + (1 + (1 + (1 + (1 + (1 + (1 + (1 + (1 + (1 + (1 + (1 + (1 + (1 + (0)))))))))))))))) _ = _
  rw [mgx, apw_ur, apw_ur, apw_ur, apw_ur, apw_ur, apw_ur, apw_ur, apw_ur, apw_ur, apw_ur, apw_ur, apw_ur, apw_ur, apw_ur, apw_ur, apw_ul (Nat.zero_lt_one), mgx]
  refine apw_ext (fun _ _ => rfl) ?_
  refine apw_ext (fun _ _ => rfl) ?_
  refine apw_ext (fun _ _ => rfl) ?_
  refine apw_ext (fun _ _ => rfl) ?_
  refine apw_ext (fun _ _ => rfl) ?_
  refine apw_ext (fun _ _ => rfl) ?_
  refine apw_ext (fun _ _ => rfl) ?_
  refine apw_ext (fun _ _ => rfl) ?_
  refine apw_ext (fun _ _ => rfl) ?_
  refine apw_ext (fun _ _ => rfl) ?_
  refine apw_ext (fun _ _ => rfl) ?_
  refine apw_ext (fun _ _ => rfl) ?_
  refine apw_ext (fun _ _ => rfl) ?_
  refine apw_ext (fun _ _ => rfl) ?_
  refine apw_ext (fun _ _ => rfl) ?_
  refine apw_ext (fun i hi => ?_) rfl
  obtain rfl : i = 0 := by omega
  rw [va_up_self]; rfl
theorem mgx_latest {Z : Nat} {ad : Nat → Nat} {cA : Nat → ClassId} {st : mS} : mgx Z ad cA st 16 = .inl (cA 1, 4, .inr (.inl (ms_la st))) := by
  show mgx Z ad cA st (1 + (1 + (1 + (1 + (1 + (1 + (1 + (1 + (1 + (1 + (1 + (1 + (1 + (1 + (1 + (1 + (0))))))))))))))))) = _
  rw [mgx, apw_r, apw_r, apw_r, apw_r, apw_r, apw_r, apw_r, apw_r, apw_r, apw_r, apw_r, apw_r, apw_r, apw_r, apw_r, apw_r, apw_l (Nat.zero_lt_one)]
theorem mgx_latest_w {Z : Nat} {ad : Nat → Nat} {cA : Nat → ClassId} {st : mS} (x : Nat) (v : Int64) : va_up (mgx Z ad cA st) 16 (.inl (cA 1, 4, .inr (.inl (vp_updL (ms_la st) x v)))) = mgx Z ad cA (mp_la st x v) := by
  show va_up (mgx Z ad cA st) (1 + (1 + (1 + (1 + (1 + (1 + (1 + (1 + (1 + (1 + (1 + (1 + (1 + (1 + (1 + (1 + (0))))))))))))))))) _ = _
  rw [mgx, apw_ur, apw_ur, apw_ur, apw_ur, apw_ur, apw_ur, apw_ur, apw_ur, apw_ur, apw_ur, apw_ur, apw_ur, apw_ur, apw_ur, apw_ur, apw_ur, apw_ul (Nat.zero_lt_one), mgx]
  refine apw_ext (fun _ _ => rfl) ?_
  refine apw_ext (fun _ _ => rfl) ?_
  refine apw_ext (fun _ _ => rfl) ?_
  refine apw_ext (fun _ _ => rfl) ?_
  refine apw_ext (fun _ _ => rfl) ?_
  refine apw_ext (fun _ _ => rfl) ?_
  refine apw_ext (fun _ _ => rfl) ?_
  refine apw_ext (fun _ _ => rfl) ?_
  refine apw_ext (fun _ _ => rfl) ?_
  refine apw_ext (fun _ _ => rfl) ?_
  refine apw_ext (fun _ _ => rfl) ?_
  refine apw_ext (fun _ _ => rfl) ?_
  refine apw_ext (fun _ _ => rfl) ?_
  refine apw_ext (fun _ _ => rfl) ?_
  refine apw_ext (fun _ _ => rfl) ?_
  refine apw_ext (fun _ _ => rfl) ?_
  refine apw_ext (fun i hi => ?_) rfl
  obtain rfl : i = 0 := by omega
  rw [va_up_self]; rfl
theorem mgx_all {Z : Nat} {ad : Nat → Nat} {cA : Nat → ClassId} {st : mS} : mgx Z ad cA st 17 = .inl (cA 1, 10, .inr (.inl (ms_al st))) := by
  show mgx Z ad cA st (1 + (1 + (1 + (1 + (1 + (1 + (1 + (1 + (1 + (1 + (1 + (1 + (1 + (1 + (1 + (1 + (1 + (0)))))))))))))))))) = _
  rw [mgx, apw_r, apw_r, apw_r, apw_r, apw_r, apw_r, apw_r, apw_r, apw_r, apw_r, apw_r, apw_r, apw_r, apw_r, apw_r, apw_r, apw_r, apw_l (Nat.zero_lt_one)]
theorem mgx_all_w {Z : Nat} {ad : Nat → Nat} {cA : Nat → ClassId} {st : mS} (x : Nat) (v : Int64) : va_up (mgx Z ad cA st) 17 (.inl (cA 1, 10, .inr (.inl (vp_updL (ms_al st) x v)))) = mgx Z ad cA (mp_al st x v) := by
  show va_up (mgx Z ad cA st) (1 + (1 + (1 + (1 + (1 + (1 + (1 + (1 + (1 + (1 + (1 + (1 + (1 + (1 + (1 + (1 + (1 + (0)))))))))))))))))) _ = _
  rw [mgx, apw_ur, apw_ur, apw_ur, apw_ur, apw_ur, apw_ur, apw_ur, apw_ur, apw_ur, apw_ur, apw_ur, apw_ur, apw_ur, apw_ur, apw_ur, apw_ur, apw_ur, apw_ul (Nat.zero_lt_one), mgx]
  refine apw_ext (fun _ _ => rfl) ?_
  refine apw_ext (fun _ _ => rfl) ?_
  refine apw_ext (fun _ _ => rfl) ?_
  refine apw_ext (fun _ _ => rfl) ?_
  refine apw_ext (fun _ _ => rfl) ?_
  refine apw_ext (fun _ _ => rfl) ?_
  refine apw_ext (fun _ _ => rfl) ?_
  refine apw_ext (fun _ _ => rfl) ?_
  refine apw_ext (fun _ _ => rfl) ?_
  refine apw_ext (fun _ _ => rfl) ?_
  refine apw_ext (fun _ _ => rfl) ?_
  refine apw_ext (fun _ _ => rfl) ?_
  refine apw_ext (fun _ _ => rfl) ?_
  refine apw_ext (fun _ _ => rfl) ?_
  refine apw_ext (fun _ _ => rfl) ?_
  refine apw_ext (fun _ _ => rfl) ?_
  refine apw_ext (fun _ _ => rfl) ?_
  refine apw_ext (fun i hi => ?_) rfl
  obtain rfl : i = 0 := by omega
  rw [va_up_self]; rfl
theorem mgx_plan {Z : Nat} {ad : Nat → Nat} {cA : Nat → ClassId} {st : mS} : mgx Z ad cA st 18 = .inl (cA 0, 4, .inl (ms_pl st)) := by
  show mgx Z ad cA st (1 + (1 + (1 + (1 + (1 + (1 + (1 + (1 + (1 + (1 + (1 + (1 + (1 + (1 + (1 + (1 + (1 + (1 + (0))))))))))))))))))) = _
  rw [mgx, apw_r, apw_r, apw_r, apw_r, apw_r, apw_r, apw_r, apw_r, apw_r, apw_r, apw_r, apw_r, apw_r, apw_r, apw_r, apw_r, apw_r, apw_r, apw_l (Nat.zero_lt_one)]
theorem mgx_plan_w {Z : Nat} {ad : Nat → Nat} {cA : Nat → ClassId} {st : mS} (x : Nat) (v : Int32) : va_up (mgx Z ad cA st) 18 (.inl (cA 0, 4, .inl (upd (ms_pl st) x v))) = mgx Z ad cA (mp_pl st x v) := by
  show va_up (mgx Z ad cA st) (1 + (1 + (1 + (1 + (1 + (1 + (1 + (1 + (1 + (1 + (1 + (1 + (1 + (1 + (1 + (1 + (1 + (1 + (0))))))))))))))))))) _ = _
  rw [mgx, apw_ur, apw_ur, apw_ur, apw_ur, apw_ur, apw_ur, apw_ur, apw_ur, apw_ur, apw_ur, apw_ur, apw_ur, apw_ur, apw_ur, apw_ur, apw_ur, apw_ur, apw_ur, apw_ul (Nat.zero_lt_one), mgx]
  refine apw_ext (fun _ _ => rfl) ?_
  refine apw_ext (fun _ _ => rfl) ?_
  refine apw_ext (fun _ _ => rfl) ?_
  refine apw_ext (fun _ _ => rfl) ?_
  refine apw_ext (fun _ _ => rfl) ?_
  refine apw_ext (fun _ _ => rfl) ?_
  refine apw_ext (fun _ _ => rfl) ?_
  refine apw_ext (fun _ _ => rfl) ?_
  refine apw_ext (fun _ _ => rfl) ?_
  refine apw_ext (fun _ _ => rfl) ?_
  refine apw_ext (fun _ _ => rfl) ?_
  refine apw_ext (fun _ _ => rfl) ?_
  refine apw_ext (fun _ _ => rfl) ?_
  refine apw_ext (fun _ _ => rfl) ?_
  refine apw_ext (fun _ _ => rfl) ?_
  refine apw_ext (fun _ _ => rfl) ?_
  refine apw_ext (fun _ _ => rfl) ?_
  refine apw_ext (fun _ _ => rfl) ?_
  refine apw_ext (fun i hi => ?_) rfl
  obtain rfl : i = 0 := by omega
  rw [va_up_self]; rfl
