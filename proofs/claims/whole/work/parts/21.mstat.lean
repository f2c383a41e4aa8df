def f_Mo_isIn (a : Int64) (b : Int64) (d : Int64) : Int32 :=
  if (lg_cmp a b) < 0 then
    0
  else
    if 0 < (lg_cmp a d) then
      0
    else
      1
set_option maxRecDepth 100000 in
set_option maxHeartbeats 4000000 in
theorem c_Mo_isIn {l : Launch} {D : va_G} {cl : List vw_C} {tys : List (ClassId × FieldType)} {n : Nat} {ad : Nat → Nat} {g : Nat → va_E} (a : Int64) (b : Int64) (d : Int64) : RI l y_Mo_isIn (mws y_Mo_isIn b_Mo_isIn 6 (some .boolean)) ({ frames := 0, cells := 0, slots := 0, locals := 0 } : Room) D cl tys n ad (g) [.long a, .long b, .long d] (f_Mo_isIn a b d) (g) := by
  refine RI_of (cc := b_Mo_isIn) (maxL := 6) (ret := (some .boolean)) (by decide) (Nat.le_of_ble_eq_true rfl) ?_
  intro p e s m args below meth c ls C hK hP hS hl
  obtain ⟨⟨hx, hb, hml, hown, hts⟩, hr, hlocks, hN⟩ := id C
  have hown : s.vm.findClass R_Mo = some m.cls := hown
  have hr : meth.sig.returnType = (some .boolean) := hr
  have hl : lv_has ls 6 [(0, .long a), (2, .long b), (4, .long d)] := hl
  refine lv_lload_n (pc := 0) hx hb d_Mo_isIn_0 rfl (lv_at hl 0 rfl) ?_
  refine lv_lload_n (pc := 1) hx hb d_Mo_isIn_1 rfl (lv_at hl 1 rfl) ?_
  refine W.lcmp (pc := 2) hx hb d_Mo_isIn_2 ?_
  refine lv_if_lt (tgt := 17) (pc := 3) hx hb d_Mo_isIn_3 (by decide) (fun c_1 => ?_) (fun c_1 => ?_)
  · refine lv_iconst (v := 0) (pc := 17) hx hb d_Mo_isIn_17 (by decide) ?_
    have e9 : f_Mo_isIn a b d = 0 := by unfold f_Mo_isIn; rw [if_pos c_1]
    exact rg_zret (pc := 18) hx hb hr hlocks rfl hP hS ⟨e9.symm, rfl⟩ d_Mo_isIn_18
  · refine lv_lload_n (pc := 6) hx hb d_Mo_isIn_6 rfl (lv_at hl 0 rfl) ?_
    refine lv_lload (pc := 7) hx hb d_Mo_isIn_7 (lv_at hl 2 rfl) ?_
    refine W.lcmp (pc := 9) hx hb d_Mo_isIn_9 ?_
    refine lv_if_gt (tgt := 17) (pc := 10) hx hb d_Mo_isIn_10 (by decide) (fun c_2 => ?_) (fun c_2 => ?_)
    · refine lv_iconst (v := 0) (pc := 17) hx hb d_Mo_isIn_17 (by decide) ?_
      have e9 : f_Mo_isIn a b d = 0 := by unfold f_Mo_isIn; rw [if_neg c_1, if_pos c_2]
      exact rg_zret (pc := 18) hx hb hr hlocks rfl hP hS ⟨e9.symm, rfl⟩ d_Mo_isIn_18
    · refine lv_iconst (v := 1) (pc := 13) hx hb d_Mo_isIn_13 (by decide) ?_
      refine lv_goto (tgt := 18) (pc := 14) hx hb d_Mo_isIn_14 (by decide) ?_
      have e9 : f_Mo_isIn a b d = 1 := by unfold f_Mo_isIn; rw [if_neg c_1, if_neg c_2]
      exact rg_zret (pc := 18) hx hb hr hlocks rfl hP hS ⟨e9.symm, rfl⟩ d_Mo_isIn_18

def f_Mo_isKind (a : Int32) : Int32 :=
  if a < 0 then
    0
  else
    if 4 ≤ a then
      0
    else
      1
set_option maxRecDepth 100000 in
set_option maxHeartbeats 4000000 in
theorem c_Mo_isKind {l : Launch} {D : va_G} {cl : List vw_C} {tys : List (ClassId × FieldType)} {n : Nat} {ad : Nat → Nat} {g : Nat → va_E} (a : Int32) : RI l y_Mo_isKind (mws y_Mo_isKind b_Mo_isKind 1 (some .boolean)) ({ frames := 0, cells := 0, slots := 0, locals := 0 } : Room) D cl tys n ad (g) [.int a] (f_Mo_isKind a) (g) := by
  refine RI_of (cc := b_Mo_isKind) (maxL := 1) (ret := (some .boolean)) (by decide) (Nat.le_of_ble_eq_true rfl) ?_
  intro p e s m args below meth c ls C hK hP hS hl
  obtain ⟨⟨hx, hb, hml, hown, hts⟩, hr, hlocks, hN⟩ := id C
  have hown : s.vm.findClass R_Mo = some m.cls := hown
  have hr : meth.sig.returnType = (some .boolean) := hr
  have hl : lv_has ls 1 [(0, .int a)] := hl
  refine lv_iload_n (pc := 0) hx hb d_Mo_isKind_0 rfl (lv_at hl 0 rfl) ?_
  refine lv_if_lt (tgt := 13) (pc := 1) hx hb d_Mo_isKind_1 (by decide) (fun c_1 => ?_) (fun c_1 => ?_)
  · refine lv_iconst (v := 0) (pc := 13) hx hb d_Mo_isKind_13 (by decide) ?_
    have e9 : f_Mo_isKind a = 0 := by unfold f_Mo_isKind; rw [if_pos c_1]
    exact rg_zret (pc := 14) hx hb hr hlocks rfl hP hS ⟨e9.symm, rfl⟩ d_Mo_isKind_14
  · refine lv_iload_n (pc := 4) hx hb d_Mo_isKind_4 rfl (lv_at hl 0 rfl) ?_
    refine lv_iconst (v := 4) (pc := 5) hx hb d_Mo_isKind_5 (by decide) ?_
    refine lv_icmp_ge (tgt := 13) (pc := 6) hx hb d_Mo_isKind_6 (by decide) (fun c_2 => ?_) (fun c_2 => ?_)
    · refine lv_iconst (v := 0) (pc := 13) hx hb d_Mo_isKind_13 (by decide) ?_
      have e9 : f_Mo_isKind a = 0 := by unfold f_Mo_isKind; rw [if_neg c_1, if_pos c_2]
      exact rg_zret (pc := 14) hx hb hr hlocks rfl hP hS ⟨e9.symm, rfl⟩ d_Mo_isKind_14
    · refine lv_iconst (v := 1) (pc := 9) hx hb d_Mo_isKind_9 (by decide) ?_
      refine lv_goto (tgt := 14) (pc := 10) hx hb d_Mo_isKind_10 (by decide) ?_
      have e9 : f_Mo_isKind a = 1 := by unfold f_Mo_isKind; rw [if_neg c_1, if_neg c_2]
      exact rg_zret (pc := 14) hx hb hr hlocks rfl hP hS ⟨e9.symm, rfl⟩ d_Mo_isKind_14

def f_Mo_isCell (a : Int32) : Int32 :=
  if a < 0 then
    0
  else
    if 6 ≤ a then
      0
    else
      1
set_option maxRecDepth 100000 in
set_option maxHeartbeats 4000000 in
theorem c_Mo_isCell {l : Launch} {D : va_G} {cl : List vw_C} {tys : List (ClassId × FieldType)} {n : Nat} {ad : Nat → Nat} {g : Nat → va_E} (a : Int32) : RI l y_Mo_isCell (mws y_Mo_isCell b_Mo_isCell 1 (some .boolean)) ({ frames := 0, cells := 0, slots := 0, locals := 0 } : Room) D cl tys n ad (g) [.int a] (f_Mo_isCell a) (g) := by
  refine RI_of (cc := b_Mo_isCell) (maxL := 1) (ret := (some .boolean)) (by decide) (Nat.le_of_ble_eq_true rfl) ?_
  intro p e s m args below meth c ls C hK hP hS hl
  obtain ⟨⟨hx, hb, hml, hown, hts⟩, hr, hlocks, hN⟩ := id C
  have hown : s.vm.findClass R_Mo = some m.cls := hown
  have hr : meth.sig.returnType = (some .boolean) := hr
  have hl : lv_has ls 1 [(0, .int a)] := hl
  refine lv_iload_n (pc := 0) hx hb d_Mo_isCell_0 rfl (lv_at hl 0 rfl) ?_
  refine lv_if_lt (tgt := 14) (pc := 1) hx hb d_Mo_isCell_1 (by decide) (fun c_1 => ?_) (fun c_1 => ?_)
  · refine lv_iconst (v := 0) (pc := 14) hx hb d_Mo_isCell_14 (by decide) ?_
    have e9 : f_Mo_isCell a = 0 := by unfold f_Mo_isCell; rw [if_pos c_1]
    exact rg_zret (pc := 15) hx hb hr hlocks rfl hP hS ⟨e9.symm, rfl⟩ d_Mo_isCell_15
  · refine lv_iload_n (pc := 4) hx hb d_Mo_isCell_4 rfl (lv_at hl 0 rfl) ?_
    refine lv_bipush (v := 6) (pc := 5) hx hb d_Mo_isCell_5 (by decide) ?_
    refine lv_icmp_ge (tgt := 14) (pc := 7) hx hb d_Mo_isCell_7 (by decide) (fun c_2 => ?_) (fun c_2 => ?_)
    · refine lv_iconst (v := 0) (pc := 14) hx hb d_Mo_isCell_14 (by decide) ?_
      have e9 : f_Mo_isCell a = 0 := by unfold f_Mo_isCell; rw [if_neg c_1, if_pos c_2]
      exact rg_zret (pc := 15) hx hb hr hlocks rfl hP hS ⟨e9.symm, rfl⟩ d_Mo_isCell_15
    · refine lv_iconst (v := 1) (pc := 10) hx hb d_Mo_isCell_10 (by decide) ?_
      refine lv_goto (tgt := 15) (pc := 11) hx hb d_Mo_isCell_11 (by decide) ?_
      have e9 : f_Mo_isCell a = 1 := by unfold f_Mo_isCell; rw [if_neg c_1, if_neg c_2]
      exact rg_zret (pc := 15) hx hb hr hlocks rfl hP hS ⟨e9.symm, rfl⟩ d_Mo_isCell_15

def f_Mo_partOf (a : Int64) (b : Int64) : Int64 :=
  (a * b) / 1000
set_option maxRecDepth 100000 in
set_option maxHeartbeats 4000000 in
theorem c_Mo_partOf {l : Launch} {D : va_G} {cl : List vw_C} {tys : List (ClassId × FieldType)} {n : Nat} {ad : Nat → Nat} {g : Nat → va_E} (a : Int64) (b : Int64) : RL l y_Mo_partOf (mws y_Mo_partOf b_Mo_partOf 4 (some .long)) ({ frames := 0, cells := 0, slots := 0, locals := 0 } : Room) D cl tys n ad (g) [.long a, .long b] (f_Mo_partOf a b) (g) := by
  refine RL_of (cc := b_Mo_partOf) (maxL := 4) (ret := (some .long)) (by decide) (Nat.le_of_ble_eq_true rfl) ?_
  intro p e s m args below meth c ls C hK hP hS hl
  obtain ⟨⟨hx, hb, hml, hown, hts⟩, hr, hlocks, hN⟩ := id C
  have hown : s.vm.findClass R_Mo = some m.cls := hown
  have hr : meth.sig.returnType = (some .long) := hr
  have hl : lv_has ls 4 [(0, .long a), (2, .long b)] := hl
  refine lv_lload_n (pc := 0) hx hb d_Mo_partOf_0 rfl (lv_at hl 0 rfl) ?_
  refine lv_lload_n (pc := 1) hx hb d_Mo_partOf_1 rfl (lv_at hl 1 rfl) ?_
  refine lv_lmul (pc := 2) hx hb d_Mo_partOf_2 ?_
  refine lv_ldc2 (v := 1000) (pc := 3) hx hb hown (hts _ wd_622) d_Mo_partOf_3 ?_
  refine lv_ldiv (pc := 6) hx hb d_Mo_partOf_6 (by decide) ?_
  have e9 : f_Mo_partOf a b = (a * b) / 1000 := rfl
  exact rg_lret (pc := 7) hx hb hr hlocks hP hS ⟨e9.symm, rfl⟩ d_Mo_partOf_7

def f_Mo_least (a : Int64) (b : Int64) : Int64 :=
  if 0 ≤ (lg_cmp a b) then
    b
  else
    a
set_option maxRecDepth 100000 in
set_option maxHeartbeats 4000000 in
theorem c_Mo_least {l : Launch} {D : va_G} {cl : List vw_C} {tys : List (ClassId × FieldType)} {n : Nat} {ad : Nat → Nat} {g : Nat → va_E} (a : Int64) (b : Int64) : RL l y_Mo_least (mws y_Mo_least b_Mo_least 4 (some .long)) ({ frames := 0, cells := 0, slots := 0, locals := 0 } : Room) D cl tys n ad (g) [.long a, .long b] (f_Mo_least a b) (g) := by
  refine RL_of (cc := b_Mo_least) (maxL := 4) (ret := (some .long)) (by decide) (Nat.le_of_ble_eq_true rfl) ?_
  intro p e s m args below meth c ls C hK hP hS hl
  obtain ⟨⟨hx, hb, hml, hown, hts⟩, hr, hlocks, hN⟩ := id C
  have hown : s.vm.findClass R_Mo = some m.cls := hown
  have hr : meth.sig.returnType = (some .long) := hr
  have hl : lv_has ls 4 [(0, .long a), (2, .long b)] := hl
  refine lv_lload_n (pc := 0) hx hb d_Mo_least_0 rfl (lv_at hl 0 rfl) ?_
  refine lv_lload_n (pc := 1) hx hb d_Mo_least_1 rfl (lv_at hl 1 rfl) ?_
  refine W.lcmp (pc := 2) hx hb d_Mo_least_2 ?_
  refine lv_if_ge (tgt := 10) (pc := 3) hx hb d_Mo_least_3 (by decide) (fun c_1 => ?_) (fun c_1 => ?_)
  · refine lv_lload_n (pc := 10) hx hb d_Mo_least_10 rfl (lv_at hl 1 rfl) ?_
    have e9 : f_Mo_least a b = b := by unfold f_Mo_least; rw [if_pos c_1]
    exact rg_lret (pc := 11) hx hb hr hlocks hP hS ⟨e9.symm, rfl⟩ d_Mo_least_11
  · refine lv_lload_n (pc := 6) hx hb d_Mo_least_6 rfl (lv_at hl 0 rfl) ?_
    refine lv_goto (tgt := 11) (pc := 7) hx hb d_Mo_least_7 (by decide) ?_
    have e9 : f_Mo_least a b = a := by unfold f_Mo_least; rw [if_neg c_1]
    exact rg_lret (pc := 11) hx hb hr hlocks hP hS ⟨e9.symm, rfl⟩ d_Mo_least_11

def f_Mo_cut (a : Int64) (b : Int64) (d : Int64) : Int64 :=
  if 0 ≤ (lg_cmp a b) then
    if (lg_cmp a d) ≤ 0 then
      a
    else
      d
  else
    b
set_option maxRecDepth 100000 in
set_option maxHeartbeats 4000000 in
theorem c_Mo_cut {l : Launch} {D : va_G} {cl : List vw_C} {tys : List (ClassId × FieldType)} {n : Nat} {ad : Nat → Nat} {g : Nat → va_E} (a : Int64) (b : Int64) (d : Int64) : RL l y_Mo_cut (mws y_Mo_cut b_Mo_cut 6 (some .long)) ({ frames := 0, cells := 0, slots := 0, locals := 0 } : Room) D cl tys n ad (g) [.long a, .long b, .long d] (f_Mo_cut a b d) (g) := by
  refine RL_of (cc := b_Mo_cut) (maxL := 6) (ret := (some .long)) (by decide) (Nat.le_of_ble_eq_true rfl) ?_
  intro p e s m args below meth c ls C hK hP hS hl
  obtain ⟨⟨hx, hb, hml, hown, hts⟩, hr, hlocks, hN⟩ := id C
  have hown : s.vm.findClass R_Mo = some m.cls := hown
  have hr : meth.sig.returnType = (some .long) := hr
  have hl : lv_has ls 6 [(0, .long a), (2, .long b), (4, .long d)] := hl
  refine lv_lload_n (pc := 0) hx hb d_Mo_cut_0 rfl (lv_at hl 0 rfl) ?_
  refine lv_lload_n (pc := 1) hx hb d_Mo_cut_1 rfl (lv_at hl 1 rfl) ?_
  refine W.lcmp (pc := 2) hx hb d_Mo_cut_2 ?_
  refine lv_if_ge (tgt := 10) (pc := 3) hx hb d_Mo_cut_3 (by decide) (fun c_1 => ?_) (fun c_1 => ?_)
  · refine lv_lload_n (pc := 10) hx hb d_Mo_cut_10 rfl (lv_at hl 0 rfl) ?_
    refine lv_lload (pc := 11) hx hb d_Mo_cut_11 (lv_at hl 2 rfl) ?_
    refine W.lcmp (pc := 13) hx hb d_Mo_cut_13 ?_
    refine lv_if_le (tgt := 22) (pc := 14) hx hb d_Mo_cut_14 (by decide) (fun c_2 => ?_) (fun c_2 => ?_)
    · refine lv_lload_n (pc := 22) hx hb d_Mo_cut_22 rfl (lv_at hl 0 rfl) ?_
      have e9 : f_Mo_cut a b d = a := by unfold f_Mo_cut; rw [if_pos c_1, if_pos c_2]
      exact rg_lret (pc := 23) hx hb hr hlocks hP hS ⟨e9.symm, rfl⟩ d_Mo_cut_23
    · refine lv_lload (pc := 17) hx hb d_Mo_cut_17 (lv_at hl 2 rfl) ?_
      refine lv_goto (tgt := 23) (pc := 19) hx hb d_Mo_cut_19 (by decide) ?_
      have e9 : f_Mo_cut a b d = d := by unfold f_Mo_cut; rw [if_pos c_1, if_neg c_2]
      exact rg_lret (pc := 23) hx hb hr hlocks hP hS ⟨e9.symm, rfl⟩ d_Mo_cut_23
  · refine lv_lload_n (pc := 6) hx hb d_Mo_cut_6 rfl (lv_at hl 1 rfl) ?_
    refine lv_goto (tgt := 23) (pc := 7) hx hb d_Mo_cut_7 (by decide) ?_
    have e9 : f_Mo_cut a b d = b := by unfold f_Mo_cut; rw [if_neg c_1]
    exact rg_lret (pc := 23) hx hb hr hlocks hP hS ⟨e9.symm, rfl⟩ d_Mo_cut_23

def f_Mo_isZone (Z : Nat) (st : mS) (a : Int32) : Int32 :=
  if a < 0 then
    0
  else
    if (nI Z) ≤ a then
      0
    else
      1
set_option maxRecDepth 100000 in
set_option maxHeartbeats 4000000 in
theorem c_Mo_isZone {l : Launch} {D : va_G} {cA : Nat → ClassId} {Z : Nat} {ad : Nat → Nat} (hR : rD 19 ad) (hZ : 1 ≤ Z ∧ Z ≤ 6) (st : mS) (a : Int32) : RI l y_Mo_isZone (mws y_Mo_isZone b_Mo_isZone 2 (some .boolean)) ({ frames := 0, cells := 0, slots := 0, locals := 0 } : Room) D clG (tyM cA) 19 ad (mgx Z ad cA (st)) [.ref (ad 0), .int a] (f_Mo_isZone Z st a) (mgx Z ad cA (st)) := by
  refine RI_of (cc := b_Mo_isZone) (maxL := 2) (ret := (some .boolean)) (by decide) (Nat.le_of_ble_eq_true rfl) ?_
  intro p e s m args below meth c ls C hK hP hS hl
  obtain ⟨⟨hx, hb, hml, hown, hts⟩, hr, hlocks, hN⟩ := id C
  have hown : s.vm.findClass R_Mo = some m.cls := hown
  have hr : meth.sig.returnType = (some .boolean) := hr
  have hl : lv_has ls 2 [(0, .ref (ad 0)), (1, .int a)] := hl
  refine lv_iload_n (pc := 0) hx hb d_Mo_isZone_0 rfl (lv_at hl 1 rfl) ?_
  refine lv_if_lt (tgt := 16) (pc := 1) hx hb d_Mo_isZone_1 (by decide) (fun c_1 => ?_) (fun c_1 => ?_)
  · refine lv_iconst (v := 0) (pc := 16) hx hb d_Mo_isZone_16 (by decide) ?_
    have e9 : f_Mo_isZone Z st a = 0 := by unfold f_Mo_isZone; rw [if_pos c_1]
    exact rg_zret (pc := 17) hx hb hr hlocks rfl hP hS ⟨e9.symm, rfl⟩ d_Mo_isZone_17
  · refine lv_iload_n (pc := 4) hx hb d_Mo_isZone_4 rfl (lv_at hl 1 rfl) ?_
    refine lv_aload_n (pc := 5) hx hb d_Mo_isZone_5 rfl (lv_at hl 0 rfl) ?_
    refine rg_get (C := R_Mo) (T := T_Mo) (N := 28) (v := .int (nI Z)) (pc := 6) hx hb hts i_Mo hown hK hP 0 (by omega) mgx_M rfl 0 (by decide) (hts _ wd_528) rfl d_Mo_isZone_6 ?_
    refine lv_icmp_ge (tgt := 16) (pc := 9) hx hb d_Mo_isZone_9 (by decide) (fun c_2 => ?_) (fun c_2 => ?_)
    · refine lv_iconst (v := 0) (pc := 16) hx hb d_Mo_isZone_16 (by decide) ?_
      have e9 : f_Mo_isZone Z st a = 0 := by unfold f_Mo_isZone; rw [if_neg c_1, if_pos c_2]
      exact rg_zret (pc := 17) hx hb hr hlocks rfl hP hS ⟨e9.symm, rfl⟩ d_Mo_isZone_17
    · refine lv_iconst (v := 1) (pc := 12) hx hb d_Mo_isZone_12 (by decide) ?_
      refine lv_goto (tgt := 17) (pc := 13) hx hb d_Mo_isZone_13 (by decide) ?_
      have e9 : f_Mo_isZone Z st a = 1 := by unfold f_Mo_isZone; rw [if_neg c_1, if_neg c_2]
      exact rg_zret (pc := 17) hx hb hr hlocks rfl hP hS ⟨e9.symm, rfl⟩ d_Mo_isZone_17

theorem mat_isKind {a : Int32} (h : ¬ f_Mo_isKind a = 0) : a.toNatClampNeg < 4 ∧ a = nI a.toNatClampNeg := by
  unfold f_Mo_isKind at h
  by_cases h0 : a < 0
  · rw [if_pos h0] at h; exact absurd rfl h
  · rw [if_neg h0] at h
    by_cases h1 : nI 4 ≤ a
    · rw [if_pos (show 4 ≤ a from h1)] at h; exact absurd rfl h
    · exact nat_ix (by omega) h0 h1
theorem mat_isCell {a : Int32} (h : ¬ f_Mo_isCell a = 0) : a.toNatClampNeg < 6 ∧ a = nI a.toNatClampNeg := by
  unfold f_Mo_isCell at h
  by_cases h0 : a < 0
  · rw [if_pos h0] at h; exact absurd rfl h
  · rw [if_neg h0] at h
    by_cases h1 : nI 6 ≤ a
    · rw [if_pos (show 6 ≤ a from h1)] at h; exact absurd rfl h
    · exact nat_ix (by omega) h0 h1
theorem mat_isZone {Z : Nat} {st : mS} {a : Int32} (hZ : 1 ≤ Z ∧ Z ≤ 6) (h : ¬ f_Mo_isZone Z st a = 0) : a.toNatClampNeg < Z ∧ a = nI a.toNatClampNeg := by
  unfold f_Mo_isZone at h
  by_cases h0 : a < 0
  · rw [if_pos h0] at h; exact absurd rfl h
  · rw [if_neg h0] at h
    by_cases h1 : nI Z ≤ a
    · rw [if_pos (show nI Z ≤ a from h1)] at h; exact absurd rfl h
    · exact nat_ix (by omega) h0 h1

theorem mat_isIn {a : Int32} (n : Nat) (hn : n + 1 < 2 ^ 31) {b : Int64} (hb : b.toInt = n) (h : ¬ f_Mo_isIn a.toInt64 0 b = 0) : a.toNatClampNeg < n + 1 ∧ a = nI a.toNatClampNeg := by
  unfold f_Mo_isIn at h
  have e0 : (0 : Int64).toInt = 0 := by decide
  have e1 : (0 : Int32).toInt = 0 := by decide
  by_cases h0 : lg_cmp a.toInt64 0 < 0
  · rw [if_pos h0] at h; exact absurd rfl h
  · rw [if_neg h0] at h
    by_cases h1 : 0 < lg_cmp a.toInt64 b
    · rw [if_pos h1] at h; exact absurd rfl h
    · rw [lg_cmp_lt, Int64.lt_iff_toInt_lt, Int32.toInt_toInt64, e0] at h0
      rw [lg_cmp_gt, Int64.lt_iff_toInt_lt, Int32.toInt_toInt64, hb] at h1
      refine nat_ix hn (fun q => ?_) (fun q => ?_)
      · rw [Int32.lt_iff_toInt_lt, e1] at q; exact h0 q
      · rw [Int32.le_iff_toInt_le, nI_toInt hn] at q; omega

def f_Mo_weightOf (Z : Nat) (st : mS) (cx : Nat) : Int32 :=
  (((ms_cl st (4 * cx)) + (ms_cl st ((4 * cx) + 1))) + (ms_cl st ((4 * cx) + 2))) + (ms_cl st ((4 * cx) + 3))
set_option maxRecDepth 100000 in
set_option maxHeartbeats 4000000 in
theorem c_Mo_weightOf {l : Launch} {D : va_G} {cA : Nat → ClassId} {Z : Nat} {ad : Nat → Nat} (hR : rD 19 ad) (hZ : 1 ≤ Z ∧ Z ≤ 6) (st : mS) (cx : Nat) (hcx : cx < 6) : RI l y_Mo_weightOf (mws y_Mo_weightOf b_Mo_weightOf 2 (some .int)) ({ frames := 0, cells := 0, slots := 0, locals := 0 } : Room) D clG (tyM cA) 19 ad (mgx Z ad cA (st)) [.ref (ad 0), .int (nI cx)] (f_Mo_weightOf Z st cx) (mgx Z ad cA (st)) := by
  refine RI_of (cc := b_Mo_weightOf) (maxL := 2) (ret := (some .int)) (by decide) (Nat.le_of_ble_eq_true rfl) ?_
  intro p e s m args below meth c ls C hK hP hS hl
  obtain ⟨⟨hx, hb, hml, hown, hts⟩, hr, hlocks, hN⟩ := id C
  have hown : s.vm.findClass R_Mo = some m.cls := hown
  have hr : meth.sig.returnType = (some .int) := hr
  have hl : lv_has ls 2 [(0, .ref (ad 0)), (1, .int (nI cx))] := hl
  refine lv_aload_n (pc := 0) hx hb d_Mo_weightOf_0 rfl (lv_at hl 0 rfl) ?_
  refine rg_get (C := R_Mo) (T := T_Mo) (N := 28) (v := .ref (ad 3)) (pc := 1) hx hb hts i_Mo hown hK hP 0 (by omega) mgx_M rfl 3 (by decide) (hts _ wd_531) rfl d_Mo_weightOf_1 ?_
  refine lv_iconst (v := 4) (pc := 4) hx hb d_Mo_weightOf_4 (by decide) ?_
  refine lv_iload_n (pc := 5) hx hb d_Mo_weightOf_5 rfl (lv_at hl 1 rfl) ?_
  refine lv_imul (pc := 6) hx hb d_Mo_weightOf_6 ?_
  rw [show (4 * (nI cx) : Int32) = nI (4 * cx) from pk_mul _ _]
  refine rg_iald (pc := 7) hx hb hK hP 3 (by omega) 0 mgx_cells rfl (4 * cx) (by omega) (by omega) rfl d_Mo_weightOf_7 ?_
  refine lv_aload_n (pc := 8) hx hb d_Mo_weightOf_8 rfl (lv_at hl 0 rfl) ?_
  refine rg_get (C := R_Mo) (T := T_Mo) (N := 28) (v := .ref (ad 3)) (pc := 9) hx hb hts i_Mo hown hK hP 0 (by omega) mgx_M rfl 3 (by decide) (hts _ wd_531) rfl d_Mo_weightOf_9 ?_
  refine lv_iconst (v := 4) (pc := 12) hx hb d_Mo_weightOf_12 (by decide) ?_
  refine lv_iload_n (pc := 13) hx hb d_Mo_weightOf_13 rfl (lv_at hl 1 rfl) ?_
  refine lv_imul (pc := 14) hx hb d_Mo_weightOf_14 ?_
  rw [show (4 * (nI cx) : Int32) = nI (4 * cx) from pk_mul _ _]
  refine lv_iconst (v := 1) (pc := 15) hx hb d_Mo_weightOf_15 (by decide) ?_
  refine lv_iadd (pc := 16) hx hb d_Mo_weightOf_16 ?_
  rw [show ((nI (4 * cx)) + 1 : Int32) = nI ((4 * cx) + 1) from nI_add _ _]
  refine rg_iald (pc := 17) hx hb hK hP 3 (by omega) 0 mgx_cells rfl ((4 * cx) + 1) (by omega) (by omega) rfl d_Mo_weightOf_17 ?_
  refine lv_iadd (pc := 18) hx hb d_Mo_weightOf_18 ?_
  refine lv_aload_n (pc := 19) hx hb d_Mo_weightOf_19 rfl (lv_at hl 0 rfl) ?_
  refine rg_get (C := R_Mo) (T := T_Mo) (N := 28) (v := .ref (ad 3)) (pc := 20) hx hb hts i_Mo hown hK hP 0 (by omega) mgx_M rfl 3 (by decide) (hts _ wd_531) rfl d_Mo_weightOf_20 ?_
  refine lv_iconst (v := 4) (pc := 23) hx hb d_Mo_weightOf_23 (by decide) ?_
  refine lv_iload_n (pc := 24) hx hb d_Mo_weightOf_24 rfl (lv_at hl 1 rfl) ?_
  refine lv_imul (pc := 25) hx hb d_Mo_weightOf_25 ?_
  rw [show (4 * (nI cx) : Int32) = nI (4 * cx) from pk_mul _ _]
  refine lv_iconst (v := 2) (pc := 26) hx hb d_Mo_weightOf_26 (by decide) ?_
  refine lv_iadd (pc := 27) hx hb d_Mo_weightOf_27 ?_
  rw [show ((nI (4 * cx)) + 2 : Int32) = nI ((4 * cx) + 2) from nI_add _ _]
  refine rg_iald (pc := 28) hx hb hK hP 3 (by omega) 0 mgx_cells rfl ((4 * cx) + 2) (by omega) (by omega) rfl d_Mo_weightOf_28 ?_
  refine lv_iadd (pc := 29) hx hb d_Mo_weightOf_29 ?_
  refine lv_aload_n (pc := 30) hx hb d_Mo_weightOf_30 rfl (lv_at hl 0 rfl) ?_
  refine rg_get (C := R_Mo) (T := T_Mo) (N := 28) (v := .ref (ad 3)) (pc := 31) hx hb hts i_Mo hown hK hP 0 (by omega) mgx_M rfl 3 (by decide) (hts _ wd_531) rfl d_Mo_weightOf_31 ?_
  refine lv_iconst (v := 4) (pc := 34) hx hb d_Mo_weightOf_34 (by decide) ?_
  refine lv_iload_n (pc := 35) hx hb d_Mo_weightOf_35 rfl (lv_at hl 1 rfl) ?_
  refine lv_imul (pc := 36) hx hb d_Mo_weightOf_36 ?_
  rw [show (4 * (nI cx) : Int32) = nI (4 * cx) from pk_mul _ _]
  refine lv_iconst (v := 3) (pc := 37) hx hb d_Mo_weightOf_37 (by decide) ?_
  refine lv_iadd (pc := 38) hx hb d_Mo_weightOf_38 ?_
  rw [show ((nI (4 * cx)) + 3 : Int32) = nI ((4 * cx) + 3) from nI_add _ _]
  refine rg_iald (pc := 39) hx hb hK hP 3 (by omega) 0 mgx_cells rfl ((4 * cx) + 3) (by omega) (by omega) rfl d_Mo_weightOf_39 ?_
  refine lv_iadd (pc := 40) hx hb d_Mo_weightOf_40 ?_
  have e9 : f_Mo_weightOf Z st cx = (((ms_cl st (4 * cx)) + (ms_cl st ((4 * cx) + 1))) + (ms_cl st ((4 * cx) + 2))) + (ms_cl st ((4 * cx) + 3)) := rfl
  exact rg_iret (pc := 41) hx hb hr hlocks hP hS ⟨e9.symm, rfl⟩ d_Mo_weightOf_41

def f_Mo_take (Z : Nat) (st : mS) (cx : Nat) (k : Nat) (a : Int32) : mS :=
  mp_pe (mp_cl st ((4 * cx) + k) ((ms_cl st ((4 * cx) + k)) - a)) k ((ms_pe (mp_cl st ((4 * cx) + k) ((ms_cl st ((4 * cx) + k)) - a)) k) + a)
set_option maxRecDepth 100000 in
set_option maxHeartbeats 4000000 in
theorem c_Mo_take {l : Launch} {D : va_G} {cA : Nat → ClassId} {Z : Nat} {ad : Nat → Nat} (hR : rD 19 ad) (hZ : 1 ≤ Z ∧ Z ≤ 6) (st : mS) (cx : Nat) (hcx : cx < 6) (k : Nat) (hk : k < 4) (a : Int32) : RV l y_Mo_take (mws y_Mo_take b_Mo_take 4 none) ({ frames := 0, cells := 0, slots := 0, locals := 0 } : Room) D clG (tyM cA) 19 ad (mgx Z ad cA (st)) [.ref (ad 0), .int (nI cx), .int (nI k), .int a] (mgx Z ad cA (f_Mo_take Z st cx k a)) := by
  refine RV_of (cc := b_Mo_take) (maxL := 4) (ret := none) (by decide) (Nat.le_of_ble_eq_true rfl) ?_
  intro p e s m args below meth c ls C hK hP hS hl
  obtain ⟨⟨hx, hb, hml, hown, hts⟩, hr, hlocks, hN⟩ := id C
  have hown : s.vm.findClass R_Mo = some m.cls := hown
  have hr : meth.sig.returnType = none := hr
  have hl : lv_has ls 4 [(0, .ref (ad 0)), (1, .int (nI cx)), (2, .int (nI k)), (3, .int a)] := hl
  refine lv_aload_n (pc := 0) hx hb d_Mo_take_0 rfl (lv_at hl 0 rfl) ?_
  refine rg_get (C := R_Mo) (T := T_Mo) (N := 28) (v := .ref (ad 3)) (pc := 1) hx hb hts i_Mo hown hK hP 0 (by omega) mgx_M rfl 3 (by decide) (hts _ wd_531) rfl d_Mo_take_1 ?_
  refine lv_iconst (v := 4) (pc := 4) hx hb d_Mo_take_4 (by decide) ?_
  refine lv_iload_n (pc := 5) hx hb d_Mo_take_5 rfl (lv_at hl 1 rfl) ?_
  refine lv_imul (pc := 6) hx hb d_Mo_take_6 ?_
  rw [show (4 * (nI cx) : Int32) = nI (4 * cx) from pk_mul _ _]
  refine lv_iload_n (pc := 7) hx hb d_Mo_take_7 rfl (lv_at hl 2 rfl) ?_
  refine lv_iadd (pc := 8) hx hb d_Mo_take_8 ?_
  rw [show ((nI (4 * cx)) + (nI k) : Int32) = nI ((4 * cx) + k) from nI_add _ _]
  refine lv_dup2_11 (pc := 9) hx hb d_Mo_take_9 rfl rfl ?_
  refine rg_iald (pc := 10) hx hb hK hP 3 (by omega) 0 mgx_cells rfl ((4 * cx) + k) (by omega) (by omega) rfl d_Mo_take_10 ?_
  refine lv_iload_n (pc := 11) hx hb d_Mo_take_11 rfl (lv_at hl 3 rfl) ?_
  refine lv_isub (pc := 12) hx hb d_Mo_take_12 ?_
  refine rg_iast (pc := 13) hx hb hK hR hP hS 3 (by omega) 0 mgx_cells rfl ((4 * cx) + k) (by omega) (by omega) rfl d_Mo_take_13 (mgx_cells_w ((4 * cx) + k) ((ms_cl st ((4 * cx) + k)) - a)) (fun H locs hP hS => ?_)
  refine lv_aload_n (pc := 14) hx hb d_Mo_take_14 rfl (lv_at hl 0 rfl) ?_
  refine rg_get (C := R_Mo) (T := T_Mo) (N := 28) (v := .ref (ad 4)) (pc := 15) hx hb hts i_Mo hown hK hP 0 (by omega) mgx_M rfl 5 (by decide) (hts _ wd_533) rfl d_Mo_take_15 ?_
  refine lv_iload_n (pc := 18) hx hb d_Mo_take_18 rfl (lv_at hl 2 rfl) ?_
  refine lv_dup2_11 (pc := 19) hx hb d_Mo_take_19 rfl rfl ?_
  refine rg_iald (pc := 20) hx hb hK hP 4 (by omega) 0 mgx_pending rfl k (by omega) (by omega) rfl d_Mo_take_20 ?_
  refine lv_iload_n (pc := 21) hx hb d_Mo_take_21 rfl (lv_at hl 3 rfl) ?_
  refine lv_iadd (pc := 22) hx hb d_Mo_take_22 ?_
  refine rg_iast (pc := 23) hx hb hK hR hP hS 4 (by omega) 0 mgx_pending rfl k (by omega) (by omega) rfl d_Mo_take_23 (mgx_pending_w k ((ms_pe (mp_cl st ((4 * cx) + k) ((ms_cl st ((4 * cx) + k)) - a)) k) + a)) (fun H locs hP hS => ?_)
  have e9 : f_Mo_take Z st cx k a = mp_pe (mp_cl st ((4 * cx) + k) ((ms_cl st ((4 * cx) + k)) - a)) k ((ms_pe (mp_cl st ((4 * cx) + k) ((ms_cl st ((4 * cx) + k)) - a)) k) + a) := rfl
  exact rg_vret (pc := 24) hx hb hr hlocks hP hS (by rw [e9]) d_Mo_take_24
