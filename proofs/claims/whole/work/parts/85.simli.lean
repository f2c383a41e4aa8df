/-! lists of grabs -/
def tup (L : List Nat) : Nat → List (List Nat)
  | 0 => [[]]
  | g + 1 => L.flatMap (fun c => (tup L g).map (fun p => c :: p))
theorem tup_f1 (P : Nat → Bool) (M : List (List Nat)) : ∀ L : List Nat, (L.flatMap (fun c => M.map (fun p => c :: p))).filter (fun p => p.all P) = (L.filter P).flatMap (fun c => (M.filter (fun p => p.all P)).map (fun p => c :: p))
  | [] => rfl
  | c :: L => by
    rw [List.flatMap_cons, List.filter_append, tup_f1 P M L, List.filter_map]
    cases hc : P c with
    | true =>
      rw [List.filter_cons_of_pos hc, List.flatMap_cons]
      congr 2
      congr 1
      funext p
      show (P c && p.all P) = p.all P
      rw [hc, Bool.true_and]
    | false =>
      rw [List.filter_cons_of_neg (by rw [hc]; decide)]
      have e : List.filter ((fun p : List Nat => p.all P) ∘ fun p => c :: p) M = [] := by
        rw [List.filter_eq_nil_iff]
        intro p _
        show ¬ (P c && p.all P) = true
        rw [hc, Bool.false_and]
        decide
      rw [e]
      rfl
theorem tup_filter (P : Nat → Bool) (L : List Nat) : ∀ g, (tup L g).filter (fun p => p.all P) = tup (L.filter P) g
  | 0 => rfl
  | g + 1 => by rw [tup, tup, tup_f1, tup_filter P L g]
theorem range_mul (b : Nat) : ∀ a, List.range (a * b) = (List.range a).flatMap (fun i => (List.range b).map (fun r => i * b + r))
  | 0 => by rw [Nat.zero_mul]; rfl
  | a + 1 => by
    rw [Nat.succ_mul, List.range_add, range_mul b a, List.range_succ, List.flatMap_append, List.flatMap_cons, List.flatMap_nil, List.append_nil]
def dgt (q g j i : Nat) : Nat := j / q ^ (g - 1 - i) % q
def cel (h : Nat → Nat) (q g j : Nat) : List Nat := (List.range g).map (fun i => h (dgt q g j i))
theorem dgt_0 {q g i r : Nat} (hi : i < q) (hr : r < q ^ g) : dgt q (g + 1) (i * q ^ g + r) 0 = i := by
  have hp : 0 < q ^ g := by omega
  unfold dgt
  rw [show g + 1 - 1 - 0 = g by omega, Nat.add_comm, Nat.add_mul_div_right _ _ hp, Nat.div_eq_of_lt hr, Nat.zero_add, Nat.mod_eq_of_lt hi]
theorem dgt_s {q g i r k : Nat} (hq : 0 < q) (hk : k < g) : dgt q (g + 1) (i * q ^ g + r) (k + 1) = dgt q g r k := by
  unfold dgt
  have e : g + 1 - 1 - (k + 1) = g - 1 - k := by omega
  have e2 : q ^ g = q ^ k * q * q ^ (g - 1 - k) := by
    rw [← Nat.pow_succ, ← Nat.pow_add]
    congr 1
    omega
  have hp : 0 < q ^ (g - 1 - k) := Nat.pow_pos hq
  rw [e, e2, ← Nat.mul_assoc, Nat.add_comm, Nat.add_mul_div_right _ _ hp, ← Nat.mul_assoc, Nat.add_mul_mod_self_right]
theorem cel_s {h : Nat → Nat} {q g i r : Nat} (hi : i < q) (hr : r < q ^ g) : cel h q (g + 1) (i * q ^ g + r) = h i :: cel h q g r := by
  unfold cel
  rw [List.range_succ_eq_map, List.map_cons, List.map_map, dgt_0 hi hr]
  congr 1
  apply List.map_congr_left
  intro k hk
  show h (dgt q (g + 1) (i * q ^ g + r) (k + 1)) = _
  rw [dgt_s (by omega) (List.mem_range.mp hk)]
theorem flat_congr {α β : Type} {f g : α → List β} : ∀ L : List α, (∀ x, x ∈ L → f x = g x) → L.flatMap f = L.flatMap g
  | [], _ => rfl
  | x :: L, h => by
    rw [List.flatMap_cons, List.flatMap_cons, h x (List.mem_cons_self ..), flat_congr L (fun y hy => h y (List.mem_cons_of_mem _ hy))]
theorem cel_tup (h : Nat → Nat) (q : Nat) : ∀ g, (List.range (q ^ g)).map (cel h q g) = tup ((List.range q).map h) g
  | 0 => rfl
  | g + 1 => by
    rw [Nat.pow_succ', range_mul, List.map_flatMap, tup, ← cel_tup h q g, List.flatMap_map]
    apply flat_congr
    intro i hi
    rw [List.map_map, List.map_map]
    apply List.map_congr_left
    intro r hr
    exact cel_s (List.mem_range.mp hi) (List.mem_range.mp hr)
def bst (sp : List Nat → Int32) (A : Option (Int32 × List Nat)) (p : List Nat) : Option (Int32 × List Nat) :=
  match A with
  | none => some (sp p, p)
  | some (l, q) => if l ≤ sp p then some (l, q) else some (sp p, p)
def spr2 (s : Nat → Int32) : Nat → Nat → Int32 → Int32 → Int32 × Int32
  | 0, _, gr, le => (gr, le)
  | n + 1, j, gr, le => spr2 s n (j + 1) (if gr < s j then s j else gr) (if s j < le then s j else le)
def smv (v : Nat → Nat → Int32) (k : Nat) (p : List Nat) (s : Int32) : Int32 := p.foldl (fun s c => s + v c k) s
def spv (v : Nat → Nat → Int32) (p : List Nat) : Int32 := (spr2 (fun k => smv v k p 0) 3 1 (smv v 0 p 0) (smv v 0 p 0)).1 - (spr2 (fun k => smv v k p 0) 3 1 (smv v 0 p 0) (smv v 0 p 0)).2
/-- sums of shares -/
theorem smv_b {v : Nat → Nat → Int32} {k : Nat} : ∀ (p : List Nat) (s : Int32), (∀ c, c ∈ p → 0 ≤ (v c k).toInt ∧ (v c k).toInt ≤ 1000) → 0 ≤ s.toInt → s.toInt + 1000 * p.length ≤ 100000 → 0 ≤ (smv v k p s).toInt ∧ (smv v k p s).toInt ≤ s.toInt + 1000 * p.length
  | [], s, _, h0, _ => ⟨h0, by show s.toInt ≤ s.toInt + 1000 * 0; omega⟩
  | c :: p, s, h, h0, h1 => by
    obtain ⟨a0, a1⟩ := h c (List.mem_cons_self ..)
    rw [List.length_cons] at h1 ⊢
    have e : (s + v c k).toInt = s.toInt + (v c k).toInt := by
      rw [Int32.toInt_add]
      exact Int.bmod_eq_of_le (by omega) (by omega)
    have q := smv_b p (s + v c k) (fun c2 hc2 => h c2 (List.mem_cons_of_mem _ hc2)) (by omega) (by omega)
    rw [e] at q
    show 0 ≤ (smv v k p (s + v c k)).toInt ∧ (smv v k p (s + v c k)).toInt ≤ _
    omega
theorem spr2_b {s : Nat → Int32} (hs : ∀ j, j < 4 → 0 ≤ (s j).toInt ∧ (s j).toInt ≤ 4000) : ∀ n j gr le, j + n = 4 → 0 ≤ le.toInt → le.toInt ≤ gr.toInt → gr.toInt ≤ 4000 → 0 ≤ (spr2 s n j gr le).2.toInt ∧ (spr2 s n j gr le).2.toInt ≤ (spr2 s n j gr le).1.toInt ∧ (spr2 s n j gr le).1.toInt ≤ 4000
  | 0, _, gr, le, _, h1, h2, h3 => ⟨h1, h2, h3⟩
  | n + 1, j, gr, le, hj, h1, h2, h3 => by
    obtain ⟨a0, a1⟩ := hs j (by omega)
    rw [spr2]
    have g1 : (if gr < s j then s j else gr).toInt = if gr.toInt < (s j).toInt then (s j).toInt else gr.toInt := by
      by_cases c : gr < s j
      · rw [if_pos c, if_pos (Int32.lt_iff_toInt_lt.mp c)]
      · rw [if_neg c, if_neg (fun q => c (Int32.lt_iff_toInt_lt.mpr q))]
    have g2 : (if s j < le then s j else le).toInt = if (s j).toInt < le.toInt then (s j).toInt else le.toInt := by
      by_cases c : s j < le
      · rw [if_pos c, if_pos (Int32.lt_iff_toInt_lt.mp c)]
      · rw [if_neg c, if_neg (fun q => c (Int32.lt_iff_toInt_lt.mpr q))]
    refine spr2_b hs n (j + 1) _ _ (by omega) ?_ ?_ ?_
    · rw [g2]; split <;> omega
    · rw [g1, g2]; split <;> split <;> omega
    · rw [g1]; split <;> omega
theorem spv_b {v : Nat → Nat → Int32} {p : List Nat} (hl : p.length ≤ 4) (h : ∀ c k, c ∈ p → k < 4 → 0 ≤ (v c k).toInt ∧ (v c k).toInt ≤ 1000) : 0 ≤ (spv v p).toInt := by
  have hs : ∀ j, j < 4 → 0 ≤ (smv v j p 0).toInt ∧ (smv v j p 0).toInt ≤ 4000 := fun j hj => by
    have q := smv_b p 0 (fun c hc => h c j hc hj) (by rw [iz32]; decide) (by rw [iz32]; omega)
    rw [iz32] at q
    omega
  have q := spr2_b hs 3 1 (smv v 0 p 0) (smv v 0 p 0) rfl (hs 0 (by decide)).1 (Int.le_refl _) (hs 0 (by decide)).2
  unfold spv
  rw [i32sub (by omega) (by omega) (by omega) (by omega)]
  omega
/-! the look at the cells -/
def siK0 (st : xS) (ms : mS) : Prop := xs_gs st = ms_cr ms ∧ xs_bk st = ms_al ms 0 ∧ (∀ i, i < 4 → xs_kw st i = ms_ws ms i ∧ xs_ka st i = ms_ash ms i) ∧ (∀ c i, c < 6 → i < 4 → xs_ck st c i = ms_cl ms (4 * c + i))
def siPl (st : xS) (ms : mS) : Prop := ∃ gn : Nat, xs_fg st = nI gn ∧ ms_ps ms = nI gn ∧ gn ≤ 4 ∧ ∀ i, i < gn → xs_fo st i = ms_pl ms i
def siE0 (Z : Nat) (t : Int32) (d b : Int64) (st : xS) (ms : mS) : Prop := siK0 st ms ∧ siG st ms ∧ siT Z st ms ∧ siH st ms ∧ siL st ms ∧ siC st ms ∧ siM Z st ms ∧ siA st ms ∧ siZ Z st ms ∧ siD d st ms ∧ siN b st ms ∧ siI t st ms
theorem siE_in {Z : Nat} {t : Int32} {d b : Int64} {st : xS} {ms : mS} (h : siE Z t d b st ms) : siE0 Z t d b st ms ∧ siPl st ms := ⟨⟨⟨h.1.1, h.1.2.1, h.1.2.2.1, h.1.2.2.2.1⟩, h.2⟩, h.1.2.2.2.2⟩
theorem siE_out {Z : Nat} {t : Int32} {d b : Int64} {st : xS} {ms : mS} (h : siE0 Z t d b st ms) (h2 : siPl st ms) : siE Z t d b st ms := ⟨⟨h.1.1, h.1.2.1, h.1.2.2.1, h.1.2.2.2, h2⟩, h.2⟩
