def f_GL_within (a : Int32) (b : Int32) (d : Int32) : Int32 :=
  if a < b then
    0
  else
    if d < a then
      0
    else
      1
set_option maxRecDepth 100000 in
set_option maxHeartbeats 4000000 in
theorem c_GL_within {l : Launch} {D : va_G} {cl : List vw_C} {tys : List (ClassId × FieldType)} {n : Nat} {ad : Nat → Nat} {g : Nat → va_E} (a : Int32) (b : Int32) (d : Int32) : RI l y_GL_within (mws y_GL_within b_GL_within 3 (some .boolean)) ({ frames := 0, cells := 0, slots := 0, locals := 0 } : Room) D cl tys n ad (g) [.int a, .int b, .int d] (f_GL_within a b d) (g) := by
  refine RI_of (cc := b_GL_within) (maxL := 3) (ret := (some .boolean)) (by decide) (Nat.le_of_ble_eq_true rfl) ?_
  intro p e s m args below meth c ls C hK hP hS hl
  obtain ⟨⟨hx, hb, hml, hown, hts⟩, hr, hlocks, hN⟩ := id C
  have hown : s.vm.findClass R_GL = some m.cls := hown
  have hr : meth.sig.returnType = (some .boolean) := hr
  have hl : lv_has ls 3 [(0, .int a), (1, .int b), (2, .int d)] := hl
  refine lv_iload_n (pc := 0) hx hb d_GL_within_0 rfl (lv_at hl 0 rfl) ?_
  refine lv_iload_n (pc := 1) hx hb d_GL_within_1 rfl (lv_at hl 1 rfl) ?_
  refine lv_icmp_lt (tgt := 14) (pc := 2) hx hb d_GL_within_2 (by decide) (fun c_1 => ?_) (fun c_1 => ?_)
  · refine lv_iconst (v := 0) (pc := 14) hx hb d_GL_within_14 (by decide) ?_
    have e9 : f_GL_within a b d = 0 := by unfold f_GL_within; rw [if_pos c_1]
    exact rg_zret (pc := 15) hx hb hr hlocks rfl hP hS ⟨e9.symm, rfl⟩ d_GL_within_15
  · refine lv_iload_n (pc := 5) hx hb d_GL_within_5 rfl (lv_at hl 0 rfl) ?_
    refine lv_iload_n (pc := 6) hx hb d_GL_within_6 rfl (lv_at hl 2 rfl) ?_
    refine lv_icmp_gt (tgt := 14) (pc := 7) hx hb d_GL_within_7 (by decide) (fun c_2 => ?_) (fun c_2 => ?_)
    · refine lv_iconst (v := 0) (pc := 14) hx hb d_GL_within_14 (by decide) ?_
      have e9 : f_GL_within a b d = 0 := by unfold f_GL_within; rw [if_neg c_1, if_pos c_2]
      exact rg_zret (pc := 15) hx hb hr hlocks rfl hP hS ⟨e9.symm, rfl⟩ d_GL_within_15
    · refine lv_iconst (v := 1) (pc := 10) hx hb d_GL_within_10 (by decide) ?_
      refine lv_goto (tgt := 15) (pc := 11) hx hb d_GL_within_11 (by decide) ?_
      have e9 : f_GL_within a b d = 1 := by unfold f_GL_within; rw [if_neg c_1, if_neg c_2]
      exact rg_zret (pc := 15) hx hb hr hlocks rfl hP hS ⟨e9.symm, rfl⟩ d_GL_within_15

theorem zz_within (a b d : Int32) : narrow .boolean (.int (f_GL_within a b d)) = .int (f_GL_within a b d) := by
  unfold f_GL_within; split <;> (try split) <;> rfl

def f_GL_isKind (a : Int32) : Int32 :=
  f_GL_within a 0 3
set_option maxRecDepth 100000 in
set_option maxHeartbeats 4000000 in
theorem c_GL_isKind {l : Launch} {D : va_G} {cl : List vw_C} {tys : List (ClassId × FieldType)} {n : Nat} {ad : Nat → Nat} {g : Nat → va_E} (a : Int32) : RI l y_GL_isKind (mws y_GL_isKind b_GL_isKind 1 (some .boolean)) ({ frames := 1, cells := 0, slots := 0, locals := 22 } : Room) D cl tys n ad (g) [.int a] (f_GL_isKind a) (g) := by
  refine RI_of (cc := b_GL_isKind) (maxL := 1) (ret := (some .boolean)) (by decide) (Nat.le_of_ble_eq_true rfl) ?_
  intro p e s m args below meth c ls C hK hP hS hl
  obtain ⟨⟨hx, hb, hml, hown, hts⟩, hr, hlocks, hN⟩ := id C
  have hown : s.vm.findClass R_GL = some m.cls := hown
  have hr : meth.sig.returnType = (some .boolean) := hr
  have hl : lv_has ls 1 [(0, .int a)] := hl
  refine lv_iload_n (pc := 0) hx hb d_GL_isKind_0 rfl (lv_at hl 0 rfl) ?_
  refine lv_iconst (v := 0) (pc := 1) hx hb d_GL_isKind_1 (by decide) ?_
  refine lv_iconst (v := 3) (pc := 2) hx hb d_GL_isKind_2 (by decide) ?_
  refine rg_ci (pc := 3) (va_runS (As := [.int a, .int 0, .int 3]) (rest := []) ⟨hx, hb, hml, hown, hts⟩ (c_GL_within (l := l) a 0 3 _) ⟨callB_of 3 hts (gd_c wd_112) rfl rfl rfl (hts _ wd_1) (hts _ wd_273) hd_GL_within ⟨Nat.le_of_ble_eq_true rfl, Nat.le_of_ble_eq_true rfl⟩, hts _ wd_111⟩ ⟨rPc_blind _ _ _ _ _ _ _ _, rPc_at _ hP hK hN⟩ rfl rfl hl.1 rfl (lv_room (Nat.le_of_ble_eq_true rfl)) d_GL_isKind_3 ⟨Nat.zero_le _, Nat.zero_le _⟩) hS (fun H locs hP hS => ?_)
  have e9 : f_GL_isKind a = f_GL_within a 0 3 := rfl
  exact rg_zret (pc := 6) hx hb hr hlocks (zz_within _ _ _) hP hS ⟨e9.symm, rfl⟩ d_GL_isKind_6

def f_GL_isCell (a : Int32) : Int32 :=
  f_GL_within a 0 5
set_option maxRecDepth 100000 in
set_option maxHeartbeats 4000000 in
theorem c_GL_isCell {l : Launch} {D : va_G} {cl : List vw_C} {tys : List (ClassId × FieldType)} {n : Nat} {ad : Nat → Nat} {g : Nat → va_E} (a : Int32) : RI l y_GL_isCell (mws y_GL_isCell b_GL_isCell 1 (some .boolean)) ({ frames := 1, cells := 0, slots := 0, locals := 22 } : Room) D cl tys n ad (g) [.int a] (f_GL_isCell a) (g) := by
  refine RI_of (cc := b_GL_isCell) (maxL := 1) (ret := (some .boolean)) (by decide) (Nat.le_of_ble_eq_true rfl) ?_
  intro p e s m args below meth c ls C hK hP hS hl
  obtain ⟨⟨hx, hb, hml, hown, hts⟩, hr, hlocks, hN⟩ := id C
  have hown : s.vm.findClass R_GL = some m.cls := hown
  have hr : meth.sig.returnType = (some .boolean) := hr
  have hl : lv_has ls 1 [(0, .int a)] := hl
  refine lv_iload_n (pc := 0) hx hb d_GL_isCell_0 rfl (lv_at hl 0 rfl) ?_
  refine lv_iconst (v := 0) (pc := 1) hx hb d_GL_isCell_1 (by decide) ?_
  refine lv_iconst (v := 5) (pc := 2) hx hb d_GL_isCell_2 (by decide) ?_
  refine rg_ci (pc := 3) (va_runS (As := [.int a, .int 0, .int 5]) (rest := []) ⟨hx, hb, hml, hown, hts⟩ (c_GL_within (l := l) a 0 5 _) ⟨callB_of 3 hts (gd_c wd_112) rfl rfl rfl (hts _ wd_1) (hts _ wd_273) hd_GL_within ⟨Nat.le_of_ble_eq_true rfl, Nat.le_of_ble_eq_true rfl⟩, hts _ wd_111⟩ ⟨rPc_blind _ _ _ _ _ _ _ _, rPc_at _ hP hK hN⟩ rfl rfl hl.1 rfl (lv_room (Nat.le_of_ble_eq_true rfl)) d_GL_isCell_3 ⟨Nat.zero_le _, Nat.zero_le _⟩) hS (fun H locs hP hS => ?_)
  have e9 : f_GL_isCell a = f_GL_within a 0 5 := rfl
  exact rg_zret (pc := 6) hx hb hr hlocks (zz_within _ _ _) hP hS ⟨e9.symm, rfl⟩ d_GL_isCell_6

def f_GL_isController (a : Int32) : Int32 :=
  f_GL_within a 0 1
set_option maxRecDepth 100000 in
set_option maxHeartbeats 4000000 in
theorem c_GL_isController {l : Launch} {D : va_G} {cl : List vw_C} {tys : List (ClassId × FieldType)} {n : Nat} {ad : Nat → Nat} {g : Nat → va_E} (a : Int32) : RI l y_GL_isController (mws y_GL_isController b_GL_isController 1 (some .boolean)) ({ frames := 1, cells := 0, slots := 0, locals := 22 } : Room) D cl tys n ad (g) [.int a] (f_GL_isController a) (g) := by
  refine RI_of (cc := b_GL_isController) (maxL := 1) (ret := (some .boolean)) (by decide) (Nat.le_of_ble_eq_true rfl) ?_
  intro p e s m args below meth c ls C hK hP hS hl
  obtain ⟨⟨hx, hb, hml, hown, hts⟩, hr, hlocks, hN⟩ := id C
  have hown : s.vm.findClass R_GL = some m.cls := hown
  have hr : meth.sig.returnType = (some .boolean) := hr
  have hl : lv_has ls 1 [(0, .int a)] := hl
  refine lv_iload_n (pc := 0) hx hb d_GL_isController_0 rfl (lv_at hl 0 rfl) ?_
  refine lv_iconst (v := 0) (pc := 1) hx hb d_GL_isController_1 (by decide) ?_
  refine lv_iconst (v := 1) (pc := 2) hx hb d_GL_isController_2 (by decide) ?_
  refine rg_ci (pc := 3) (va_runS (As := [.int a, .int 0, .int 1]) (rest := []) ⟨hx, hb, hml, hown, hts⟩ (c_GL_within (l := l) a 0 1 _) ⟨callB_of 3 hts (gd_c wd_112) rfl rfl rfl (hts _ wd_1) (hts _ wd_273) hd_GL_within ⟨Nat.le_of_ble_eq_true rfl, Nat.le_of_ble_eq_true rfl⟩, hts _ wd_111⟩ ⟨rPc_blind _ _ _ _ _ _ _ _, rPc_at _ hP hK hN⟩ rfl rfl hl.1 rfl (lv_room (Nat.le_of_ble_eq_true rfl)) d_GL_isController_3 ⟨Nat.zero_le _, Nat.zero_le _⟩) hS (fun H locs hP hS => ?_)
  have e9 : f_GL_isController a = f_GL_within a 0 1 := rfl
  exact rg_zret (pc := 6) hx hb hr hlocks (zz_within _ _ _) hP hS ⟨e9.symm, rfl⟩ d_GL_isController_6

def f_GL_thousandths (a : Int64) (b : Int32) : Int64 :=
  (a * b.toInt64) / 1000
set_option maxRecDepth 100000 in
set_option maxHeartbeats 4000000 in
theorem c_GL_thousandths {l : Launch} {D : va_G} {cl : List vw_C} {tys : List (ClassId × FieldType)} {n : Nat} {ad : Nat → Nat} {g : Nat → va_E} (a : Int64) (b : Int32) : RL l y_GL_thousandths (mws y_GL_thousandths b_GL_thousandths 3 (some .long)) ({ frames := 0, cells := 0, slots := 0, locals := 0 } : Room) D cl tys n ad (g) [.long a, .int b] (f_GL_thousandths a b) (g) := by
  refine RL_of (cc := b_GL_thousandths) (maxL := 3) (ret := (some .long)) (by decide) (Nat.le_of_ble_eq_true rfl) ?_
  intro p e s m args below meth c ls C hK hP hS hl
  obtain ⟨⟨hx, hb, hml, hown, hts⟩, hr, hlocks, hN⟩ := id C
  have hown : s.vm.findClass R_GL = some m.cls := hown
  have hr : meth.sig.returnType = (some .long) := hr
  have hl : lv_has ls 3 [(0, .long a), (2, .int b)] := hl
  refine lv_lload_n (pc := 0) hx hb d_GL_thousandths_0 rfl (lv_at hl 0 rfl) ?_
  refine lv_iload_n (pc := 1) hx hb d_GL_thousandths_1 rfl (lv_at hl 1 rfl) ?_
  refine lv_i2l (pc := 2) hx hb d_GL_thousandths_2 rfl ?_
  refine lv_lmul (pc := 3) hx hb d_GL_thousandths_3 ?_
  refine lv_ldc2 (v := 1000) (pc := 4) hx hb hown (hts _ wd_358) d_GL_thousandths_4 ?_
  refine lv_ldiv (pc := 7) hx hb d_GL_thousandths_7 (by decide) ?_
  have e9 : f_GL_thousandths a b = (a * b.toInt64) / 1000 := rfl
  exact rg_lret (pc := 8) hx hb hr hlocks hP hS ⟨e9.symm, rfl⟩ d_GL_thousandths_8

def f_GL_cut (a : Int64) (b : Int64) (d : Int64) : Int64 :=
  (if (if a < d then a else d) < b then b else (if a < d then a else d))
set_option maxRecDepth 100000 in
set_option maxHeartbeats 4000000 in
theorem c_GL_cut {l : Launch} {D : va_G} {cl : List vw_C} {tys : List (ClassId × FieldType)} {n : Nat} {ad : Nat → Nat} {g : Nat → va_E} (a : Int64) (b : Int64) (d : Int64) : RL l y_GL_cut (mws y_GL_cut b_GL_cut 6 (some .long)) ({ frames := 1, cells := 0, slots := 0, locals := 23 } : Room) D cl tys n ad (g) [.long a, .long b, .long d] (f_GL_cut a b d) (g) := by
  refine RL_of (cc := b_GL_cut) (maxL := 6) (ret := (some .long)) (by decide) (Nat.le_of_ble_eq_true rfl) ?_
  intro p e s m args below meth c ls C hK hP hS hl
  obtain ⟨⟨hx, hb, hml, hown, hts⟩, hr, hlocks, hN⟩ := id C
  have hown : s.vm.findClass R_GL = some m.cls := hown
  have hr : meth.sig.returnType = (some .long) := hr
  have hl : lv_has ls 6 [(0, .long a), (2, .long b), (4, .long d)] := hl
  refine lv_lload_n (pc := 0) hx hb d_GL_cut_0 rfl (lv_at hl 1 rfl) ?_
  refine lv_lload (pc := 1) hx hb d_GL_cut_1 (lv_at hl 2 rfl) ?_
  refine lv_lload_n (pc := 3) hx hb d_GL_cut_3 rfl (lv_at hl 0 rfl) ?_
  refine va_mmin_long (pc := 4) hx hb (hml.trans hl.1.symm) hown (hts _ wd_418) (hts _ wd_380) (hts _ wd_10) (hts _ wd_381) (Nat.le_of_ble_eq_true rfl) (Nat.le_of_ble_eq_true rfl) (Nat.zero_le _) (Nat.zero_le _) d_GL_cut_4 ?_
  refine va_mmax_long (pc := 7) hx hb (hml.trans hl.1.symm) hown (hts _ wd_419) (hts _ wd_420) (hts _ wd_10) (hts _ wd_421) (Nat.le_of_ble_eq_true rfl) (Nat.le_of_ble_eq_true rfl) (Nat.zero_le _) (Nat.zero_le _) d_GL_cut_7 ?_
  have e9 : f_GL_cut a b d = (if (if a < d then a else d) < b then b else (if a < d then a else d)) := rfl
  exact rg_lret (pc := 10) hx hb hr hlocks hP hS ⟨e9.symm, rfl⟩ d_GL_cut_10

/-! a method of java/lang/Math that no native row stands for: entered like one's own -/
theorem rg_bodyF {l : Launch} {y : MethodName} {rm : Room} {D : va_G} {cl : List vw_C} {tys : List (ClassId × FieldType)} {n : Nat} {ad : Nat → Nat} {g : Nat → va_E} {av : List Value} {Qc : Nat → Array Value → State → Outcome → State → Prop} {cc : ByteArray} {maxL : Nat} {ret : Option FieldType} (hy : plainFor y = true) (hlen : (lg_sl av).length ≤ maxL)
    (body : ∀ (p : Program) (e : Env) (s : State) (m : MethodId) (args : Array Value) (below : List Frame) (meth : Method) (c : Code) (ls : Array Slot), Cx p s m args meth c cc maxL y.cls ret → va_K D cl tys s → va_P D cl (pw n ad g) s.heap → va_S (rA n ad s.heap.size) s.heap s.heap [] → lv_has ls maxL (lv_args 0 av) →
      W p l e rm s m args below meth c s.heap [] 0 0 (MQ below (Qc s.heap.size) args s 0 0 (rA n ad s.heap.size)) (F0 m 0 ls [])) (sz : Nat) : Met l y (mws y cc maxL ret) rm (va_Pc av (rPc D cl tys n ad g sz)) (Qc sz) 0 0 (rA n ad sz) := by
  refine MetFree.of_bodySF (code := cc) (maxLocals := maxL) (ret := ret) hy ?_ ?_
  · intro args s m h hn
    obtain ⟨meth, c, h1, h2, h3, h4, h5, h6, -, -⟩ := Cond.code_spec hn (atoms_spec (ws := mws y cc maxL ret) h _ List.mem_cons_self)
    exact ⟨meth, c, h1, h2, h3, h4, h5, h6⟩
  · intro p e s m args below meth c s₁ B hml hv _
    obtain ⟨rfl, hsz, hP, hK, hN⟩ := hv
    subst hsz
    have hl := lv_entry av hlen
    have hh0 : s₁.heap = s.heap := by rw [B.state]; rfl
    have K := body p e s m _ below meth c _ ⟨⟨B.exec, B.bytes, hml, findClass_of_methodNamed B.named, fun w h => atoms_spec (ws := mws y cc maxL ret) B.pre w (List.mem_cons_of_mem _ h)⟩, B.returns, B.notSynchronized, hN⟩ hK hP va_S.rf hl
    rw [← lg_entry_eq] at K
    obtain ⟨t, a1, o, b1, b2, b3⟩ := K s₁ hh0 (Stand.of_body B)
    exact ⟨t, o, a1, b1, b2, b3⟩
theorem RL_ofF {l : Launch} {y : MethodName} {rm : Room} {D : va_G} {cl : List vw_C} {tys : List (ClassId × FieldType)} {n : Nat} {ad : Nat → Nat} {g : Nat → va_E} {av : List Value} {cc : ByteArray} {maxL : Nat} {ret : Option FieldType} {r0 : Int64} {u0 : Nat → va_E} (hy : plainFor y = true) (hlen : (lg_sl av).length ≤ maxL)
    (body : ∀ (p : Program) (e : Env) (s : State) (m : MethodId) (args : Array Value) (below : List Frame) (meth : Method) (c : Code) (ls : Array Slot), Cx p s m args meth c cc maxL y.cls ret → va_K D cl tys s → va_P D cl (pw n ad g) s.heap → va_S (rA n ad s.heap.size) s.heap s.heap [] → lv_has ls maxL (lv_args 0 av) →
      W p l e rm s m args below meth c s.heap [] 0 0 (MQ below (va_Ql (fun r u => r = r0 ∧ u = u0) (fun u t => va_P D cl (pw n ad u) t.heap) (rA n ad s.heap.size)) args s 0 0 (rA n ad s.heap.size)) (F0 m 0 ls [])) : RL l y (mws y cc maxL ret) rm D cl tys n ad g av r0 u0 :=
  rg_bodyF (Qc := fun sz => va_Ql (fun r u => r = r0 ∧ u = u0) (fun u t => va_P D cl (pw n ad u) t.heap) (rA n ad sz)) hy hlen body

def f_Ma_floorDiv (a : Int64) (b : Int64) : Int64 :=
  if 0 ≤ (lg_cmp (a ^^^ b) 0) then
    a / b
  else
    if (lg_cmp ((a / b) * b) a) = 0 then
      a / b
    else
      (a / b) - 1
set_option maxRecDepth 100000 in
set_option maxHeartbeats 4000000 in
theorem c_Ma_floorDiv {l : Launch} {D : va_G} {cl : List vw_C} {tys : List (ClassId × FieldType)} {n : Nat} {ad : Nat → Nat} {g : Nat → va_E} (a : Int64) (b : Int64) (hb0 : ¬ b = 0) : RL l y_Ma_floorDiv (mws y_Ma_floorDiv b_Ma_floorDiv 6 (some .long)) ({ frames := 0, cells := 0, slots := 0, locals := 0 } : Room) D cl tys n ad (g) [.long a, .long b] (f_Ma_floorDiv a b) (g) := by
  refine RL_ofF (cc := b_Ma_floorDiv) (maxL := 6) (ret := (some .long)) (by decide +kernel) (Nat.le_of_ble_eq_true rfl) ?_
  intro p e s m args below meth c ls C hK hP hS hl
  obtain ⟨⟨hx, hb, hml, hown, hts⟩, hr, hlocks, hN⟩ := id C
  have hown : s.vm.findClass R_Ma = some m.cls := hown
  have hr : meth.sig.returnType = (some .long) := hr
  have hl : lv_has ls 6 [(0, .long a), (2, .long b)] := hl
  refine lv_lload_n (pc := 0) hx hb d_Ma_floorDiv_0 rfl (lv_at hl 0 rfl) ?_
  refine lv_lload_n (pc := 1) hx hb d_Ma_floorDiv_1 rfl (lv_at hl 1 rfl) ?_
  refine lv_ldiv (pc := 2) hx hb d_Ma_floorDiv_2 hb0 ?_
  refine lv_lstore (lv' := [(4, .long (a / b)), (0, .long a), (2, .long b)]) (pc := 3) hx hb d_Ma_floorDiv_3 hl (by decide) rfl (fun ls hl => ?_)
  refine lv_lload_n (pc := 5) hx hb d_Ma_floorDiv_5 rfl (lv_at hl 1 rfl) ?_
  refine lv_lload_n (pc := 6) hx hb d_Ma_floorDiv_6 rfl (lv_at hl 2 rfl) ?_
  refine lv_lxor (pc := 7) hx hb d_Ma_floorDiv_7 ?_
  refine lv_lconst (v := 0) (pc := 8) hx hb d_Ma_floorDiv_8 (by decide) ?_
  refine W.lcmp (pc := 9) hx hb d_Ma_floorDiv_9 ?_
  refine lv_if_ge (tgt := 27) (pc := 10) hx hb d_Ma_floorDiv_10 (by decide) (fun c_1 => ?_) (fun c_1 => ?_)
  · refine lv_lload (pc := 27) hx hb d_Ma_floorDiv_27 (lv_at hl 0 rfl) ?_
    have e9 : f_Ma_floorDiv a b = a / b := by unfold f_Ma_floorDiv; rw [if_pos c_1]
    exact rg_lret (pc := 29) hx hb hr hlocks hP hS ⟨e9.symm, rfl⟩ d_Ma_floorDiv_29
  · refine lv_lload (pc := 13) hx hb d_Ma_floorDiv_13 (lv_at hl 0 rfl) ?_
    refine lv_lload_n (pc := 15) hx hb d_Ma_floorDiv_15 rfl (lv_at hl 2 rfl) ?_
    refine lv_lmul (pc := 16) hx hb d_Ma_floorDiv_16 ?_
    refine lv_lload_n (pc := 17) hx hb d_Ma_floorDiv_17 rfl (lv_at hl 1 rfl) ?_
    refine W.lcmp (pc := 18) hx hb d_Ma_floorDiv_18 ?_
    refine lv_if_eq (tgt := 27) (pc := 19) hx hb d_Ma_floorDiv_19 (by decide) (fun c_2 => ?_) (fun c_2 => ?_)
    · refine lv_lload (pc := 27) hx hb d_Ma_floorDiv_27 (lv_at hl 0 rfl) ?_
      have e9 : f_Ma_floorDiv a b = a / b := by unfold f_Ma_floorDiv; rw [if_neg c_1, if_pos c_2]
      exact rg_lret (pc := 29) hx hb hr hlocks hP hS ⟨e9.symm, rfl⟩ d_Ma_floorDiv_29
    · refine lv_lload (pc := 22) hx hb d_Ma_floorDiv_22 (lv_at hl 0 rfl) ?_
      refine lv_lconst (v := 1) (pc := 24) hx hb d_Ma_floorDiv_24 (by decide) ?_
      refine lv_lsub (pc := 25) hx hb d_Ma_floorDiv_25 ?_
      have e9 : f_Ma_floorDiv a b = (a / b) - 1 := by unfold f_Ma_floorDiv; rw [if_neg c_1, if_neg c_2]
      exact rg_lret (pc := 26) hx hb hr hlocks hP hS ⟨e9.symm, rfl⟩ d_Ma_floorDiv_26
