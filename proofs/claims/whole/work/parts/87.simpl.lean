theorem rx_fi_tr {st : xS} {j : Nat} {v : Int32} : xs_fi (xp_tr st j v) = xs_fi st := (rfl)
theorem rx_tr_tr {st : xS} {j : Nat} {v : Int32} : xs_tr (xp_tr st j v) = upd (xs_tr st) j v := (rfl)
theorem rx_tr_fo {st : xS} {j : Nat} {v : Int32} : xs_tr (xp_fo st j v) = xs_tr st := (rfl)
theorem rx_fo_fo {st : xS} {j : Nat} {v : Int32} : xs_fo (xp_fo st j v) = upd (xs_fo st) j v := (rfl)
theorem rx_fc_tr {st : xS} {j : Nat} {v : Int32} : xs_fc (xp_tr st j v) = xs_fc st := (rfl)
theorem rx_ot_tr {st : xS} {j : Nat} {v : Int32} : xs_ot (xp_tr st j v) = xs_ot st := (rfl)
theorem rx_fo_tr {st : xS} {j : Nat} {v : Int32} : xs_fo (xp_tr st j v) = xs_fo st := (rfl)
theorem rx_fg_tr {st : xS} {j : Nat} {v : Int32} : xs_fg (xp_tr st j v) = xs_fg st := (rfl)
theorem rx_fc_fo {st : xS} {j : Nat} {v : Int32} : xs_fc (xp_fo st j v) = xs_fc st := (rfl)
theorem rx_fc_fg {st : xS} {v : Int32} : xs_fc (xp_fg st v) = xs_fc st := (rfl)
theorem rx_fi_fo {st : xS} {j : Nat} {v : Int32} : xs_fi (xp_fo st j v) = xs_fi st := (rfl)
theorem rx_fi_fg {st : xS} {v : Int32} : xs_fi (xp_fg st v) = xs_fi st := (rfl)
theorem rx_ot_fo {st : xS} {j : Nat} {v : Int32} : xs_ot (xp_fo st j v) = xs_ot st := (rfl)
theorem rx_ot_fg {st : xS} {v : Int32} : xs_ot (xp_fg st v) = xs_ot st := (rfl)
theorem rx_fg_fo {st : xS} {j : Nat} {v : Int32} : xs_fg (xp_fo st j v) = xs_fg st := (rfl)
theorem rx_fg_fg {st : xS} {v : Int32} : xs_fg (xp_fg st v) = v := (rfl)
theorem rx_tr_fg {st : xS} {v : Int32} : xs_tr (xp_fg st v) = xs_tr st := (rfl)
theorem rm_pl_pl {st : mS} {j : Nat} {v : Int32} : ms_pl (mp_pl st j v) = upd (ms_pl st) j v := (rfl)
theorem fb_K_pl {ms : mS} {Z : Nat} {j : Nat} {v : Int32} : sbK Z (mp_pl ms j v) = sbK Z ms := (rfl)
theorem fb_M_pl {ms : mS} {Z : Nat} {j : Nat} {v : Int32} : sbM Z (mp_pl ms j v) = sbM Z ms := (rfl)
theorem fb_F_pl {ms : mS} {Z : Nat} {B : Int} {j : Nat} {v : Int32} : sbF Z B (mp_pl ms j v) = sbF Z B ms := (rfl)
theorem fb_K_ps {ms : mS} {Z : Nat} {v : Int32} : sbK Z (mp_ps ms v) = sbK Z ms := (rfl)
theorem fb_M_ps {ms : mS} {Z : Nat} {v : Int32} : sbM Z (mp_ps ms v) = sbM Z ms := (rfl)
theorem fb_F_ps {ms : mS} {Z : Nat} {B : Int} {v : Int32} : sbF Z B (mp_ps ms v) = sbF Z B ms := (rfl)
theorem rm_ps_pl {st : mS} {j : Nat} {v : Int32} : ms_ps (mp_pl st j v) = ms_ps st := (rfl)
theorem rm_ps_ps {st : mS} {v : Int32} : ms_ps (mp_ps st v) = v := (rfl)
/-! the plan -/
theorem sp_inv {Z qn : Nat} (Pr : xS → Prop) (hp : ∀ (st : xS) (j : Nat) (v : Int32), Pr st → Pr (xp_tr st j v)) : ∀ (n r : Nat) (st : xS), Pr st → Pr (lp_spell Z qn n r st).2
  | 0, _, st, h => h
  | n + 1, r, st, h => by
    rw [lp_spell]
    exact sp_inv Pr hp n (r / qn) _ (hp _ _ _ h)
theorem sp_tr {Z qn : Nat} : ∀ (n r : Nat) (st : xS) (i : Nat), xs_tr (lp_spell Z qn n r st).2 i = if i < n then xs_fi st (dgt qn n r i) else xs_tr st i
  | 0, _, st, i => by rw [if_neg (by omega)]; rfl
  | n + 1, r, st, i => by
    rw [lp_spell, sp_tr n (r / qn), rx_fi_tr, rx_tr_tr]
    unfold upd dgt
    by_cases e : i < n
    · rw [if_pos e, if_pos (by omega), Nat.div_div_eq_div_mul, ← Nat.pow_succ', show n + 1 - 1 - i = n - 1 - i + 1 by omega]
    · rw [if_neg e]
      by_cases e2 : i = n
      · rw [if_pos e2, if_pos (by omega), show n + 1 - 1 - i = 0 by omega, Nat.pow_zero, Nat.div_one]
      · rw [if_neg e2, if_neg (by omega)]
theorem kp_inv {Z g : Nat} (Pr : xS → Prop) (hp : ∀ (st : xS) (j : Nat) (v : Int32), Pr st → Pr (xp_fo st j v)) : ∀ (n j : Nat) (st : xS), Pr st → Pr (lp_keep Z g n j st)
  | 0, _, st, h => h
  | n + 1, j, st, h => by
    rw [lp_keep]
    exact kp_inv Pr hp n (j + 1) _ (hp _ _ _ h)
theorem kp_fo {Z g : Nat} : ∀ (n j : Nat) (st : xS) (i : Nat), xs_fo (lp_keep Z g n j st) i = if j ≤ i ∧ i < j + n then xs_tr st i else xs_fo st i
  | 0, j, st, i => by rw [if_neg (by omega)]; rfl
  | n + 1, j, st, i => by
    rw [lp_keep, kp_fo n (j + 1), rx_tr_fo, rx_fo_fo]
    unfold upd
    by_cases e : i = j
    · subst e
      rw [if_neg (by omega), if_pos rfl, if_pos (by omega)]
    · by_cases e2 : j + 1 ≤ i ∧ i < j + 1 + n
      · rw [if_pos e2, if_pos (by omega)]
      · rw [if_neg e2, if_neg e, if_neg (by omega)]
theorem sum_x {Z k g : Nat} {v : Nat → Nat → Int32} {st : xS} (f : Nat → Nat) : ∀ (n j : Nat) (s : Int32), (∀ i, j ≤ i → i < j + n → xs_ot st (xs_tr st i).toNatClampNeg k = v (f i) k) → lp_sum Z k g n j s st = smv v k ((List.range' j n).map f) s
  | 0, _, s, _ => rfl
  | n + 1, j, s, h => by
    rw [lp_sum, sum_x f n (j + 1) _ (fun i h1 h2 => h i (by omega) (by omega)), h j (by omega) (by omega)]
    rfl
theorem spr_x {Z g : Nat} {s : Nat → Int32} {st : xS} (hs : ∀ j, j < 4 → f_Mi_sumOfTrial Z st j g = s j) : ∀ (n j : Nat) (gr le : Int32), j + n = 4 → lp_spr Z g n j gr le st = spr2 s n j gr le
  | 0, _, _, _, _ => rfl
  | n + 1, j, gr, le, hj => by
    rw [lp_spr, spr2, hs j (by omega), spr_x hs n (j + 1) _ _ (by omega)]
theorem spx {Z g : Nat} {v : Nat → Nat → Int32} {st : xS} (f : Nat → Nat) (h : ∀ i k, i < g → k < 4 → xs_ot st (xs_tr st i).toNatClampNeg k = v (f i) k) : f_Mi_spreadOfTrial Z st g = spv v ((List.range g).map f) := by
  have hs : ∀ j, j < 4 → f_Mi_sumOfTrial Z st j g = smv v j ((List.range g).map f) 0 := fun j hj => by
    unfold f_Mi_sumOfTrial
    rw [sum_x f g 0 0 (fun i _ h2 => h i j (by omega) hj), List.range_eq_range']
  unfold f_Mi_spreadOfTrial spv
  rw [spr_x hs 3 1 _ _ rfl, hs 0 (by decide)]
theorem sum_m {Z w g k : Nat} {mo fe : Int32} {ms : mS} : ∀ (n j : Nat) (s : Int32), lm_spB Z w g k mo fe n j s ms = smv (shv Z ms) k ((List.range' j n).map (fun i => dgt 6 g w i)) s
  | 0, _, s => rfl
  | n + 1, j, s => by
    rw [lm_spB, sum_m n (j + 1)]
    rfl
theorem lt_le32 {a b : Int32} : ¬ a ≤ b ↔ b < a := by
  rw [Int32.le_iff_toInt_le, Int32.lt_iff_toInt_lt]
  omega
theorem spr_m {Z w g : Nat} {s : Nat → Int32} {ms : mS} (hs : ∀ mo fe j, lm_spB Z w g j mo fe g 0 0 ms = s j) (h0 : ∀ j, j < 4 → 0 ≤ (s j).toInt) : ∀ (n j : Nat) (mo fe : Int32), j + n = 4 → 0 ≤ mo.toInt → lm_spO Z w g n j mo fe ms = spr2 s n j mo fe
  | 0, _, _, _, _, _ => rfl
  | n + 1, j, mo, fe, hj, hm => by
    have q := h0 j (by omega)
    rw [lm_spO, spr2, hs, if_neg (fun c => by have := Int32.lt_iff_toInt_lt.mp c; rw [iz32] at this; omega)]
    by_cases c1 : fe ≤ s j
    · rw [if_pos c1, if_neg (show ¬ s j < fe from fun z => lt_le32.mpr z c1)]
      by_cases c2 : s j ≤ mo
      · rw [if_pos c2, if_neg (show ¬ mo < s j from fun z => lt_le32.mpr z c2)]
        exact spr_m hs h0 n (j + 1) _ _ (by omega) hm
      · rw [if_neg c2, if_pos (lt_le32.mp c2)]
        exact spr_m hs h0 n (j + 1) _ _ (by omega) q
    · rw [if_neg c1, if_pos (lt_le32.mp c1)]
      by_cases c2 : s j ≤ mo
      · rw [if_pos c2, if_neg (show ¬ mo < s j from fun z => lt_le32.mpr z c2)]
        exact spr_m hs h0 n (j + 1) _ _ (by omega) hm
      · rw [if_neg c2, if_pos (lt_le32.mp c2)]
        exact spr_m hs h0 n (j + 1) _ _ (by omega) q
theorem spm {Z w g : Nat} {ms : mS} (bK : sbK Z ms) (hg : g ≤ 4) (hv : (cel id 6 g w).all (fil Z ms) = true) : f_Mo_spreadOfB Z ms w g = spv (shv Z ms) (cel id 6 g w) := by
  have hm : ∀ c, c ∈ cel id 6 g w → c < 6 ∧ fil Z ms c = true := fun c hc => by
    refine ⟨?_, List.all_eq_true.mp hv c hc⟩
    obtain ⟨i, _, rfl⟩ := List.mem_map.mp hc
    exact Nat.mod_lt _ (by decide)
  have hl : (cel id 6 g w).length = g := by unfold cel; rw [List.length_map, List.length_range]
  have hs : ∀ mo fe j, lm_spB Z w g j mo fe g 0 0 ms = smv (shv Z ms) j (cel id 6 g w) 0 := fun mo fe j => by
    rw [sum_m]
    unfold cel
    rw [List.range_eq_range']
    rfl
  have h0 : ∀ j, j < 4 → 0 ≤ (smv (shv Z ms) j (cel id 6 g w) 0).toInt := fun j hj => by
    have q := smv_b (v := shv Z ms) (k := j) (cel id 6 g w) 0 (fun c hc => (shv_b bK (hm c hc).1 hj (hm c hc).2).2) (by rw [iz32]; decide) (by rw [iz32, hl]; omega)
    exact q.1
  unfold f_Mo_spreadOfB spv
  have q0 := h0 0 (by decide)
  have e : lm_spO Z w g 4 0 (-1) 0 ms = spr2 (fun k => smv (shv Z ms) k (cel id 6 g w) 0) 3 1 (smv (shv Z ms) 0 (cel id 6 g w) 0) (smv (shv Z ms) 0 (cel id 6 g w) 0) := by
    rw [lm_spO, hs, if_pos (by decide), if_neg (fun c => by have := Int32.le_iff_toInt_le.mp c; rw [show ((-1 : Int32)).toInt = -1 by decide] at this; omega)]
    exact spr_m hs h0 3 1 _ _ rfl q0
  rw [e]
theorem spread_m {Z w g : Nat} {ms : mS} (bK : sbK Z ms) (hg : g ≤ 4) : f_Mo_spreadOf Z ms w g = if (cel id 6 g w).all (fil Z ms) = true then spv (shv Z ms) (cel id 6 g w) else -1 := by
  unfold f_Mo_spreadOf
  by_cases hv : (cel id 6 g w).all (fil Z ms) = true
  · rw [if_pos hv, if_pos (fun i hi hz => ?_)]
    · exact spm bK hg hv
    · have hm : dgt 6 g w i ∈ cel id 6 g w := List.mem_map.mpr ⟨i, List.mem_range.mpr hi, rfl⟩
      have := of_decide_eq_true (List.all_eq_true.mp hv _ hm)
      rw [show dgt 6 g w i = dg w g i from rfl, hz, iz32] at this
      omega
  · rw [if_neg hv, if_neg (fun hall => hv ?_)]
    rw [List.all_eq_true]
    intro c hc
    obtain ⟨i, hi, rfl⟩ := List.mem_map.mp hc
    have h6 : dgt 6 g w i < 6 := Nat.mod_lt _ (by decide)
    have wb := weight_b (c := dg w g i) h6 bK
    refine decide_eq_true ?_
    rcases Int.lt_or_le 0 (f_Mo_weightOf Z ms (dg w g i)).toInt with q | q
    · exact q
    · exact absurd (Int32.toInt_inj.mp (by rw [iz32]; omega)) (hall i (List.mem_range.mp hi))
theorem nI_b {n : Nat} (h : n ≤ 1000000) : (nI n).toInt = n := by
  show (Int32.ofNat n).toInt = n
  rw [Int32.toInt_ofNat', show Int32.size = 4294967296 from rfl]
  exact Int.bmod_eq_of_le (by omega) (by omega)
/-- the reference's search -/
def bRel (g : Nat) (A : Option (Int32 × List Nat)) (be le : Int32) : Prop :=
  match A with
  | none => be = -1
  | some (l, q) => ∃ w, w < 6 ^ g ∧ be = nI w ∧ q = cel id 6 g w ∧ le = l
theorem m6 {g : Nat} (hg : g ≤ 4) : 6 ^ g ≤ 1296 := by
  rcases (show g = 0 ∨ g = 1 ∨ g = 2 ∨ g = 3 ∨ g = 4 by omega) with rfl | rfl | rfl | rfl | rfl <;> decide
theorem best_m {Z g pn : Nat} {ms : mS} (bK : sbK Z ms) (hg : g ≤ 4) : ∀ (n j : Nat), j + n ≤ 6 ^ g → ∀ (be le : Int32) (A : Option (Int32 × List Nat)), bRel g A be le → bRel g (((((List.range' j n).map (cel id 6 g)).filter (fun p => p.all (fil Z ms)))).foldl (bst (spv (shv Z ms))) A) (lm_best Z g pn n j be le ms).1 (lm_best Z g pn n j be le ms).2
  | 0, _, _, be, le, A, h => h
  | n + 1, j, hj, be, le, A, h => by
    have hp := m6 hg
    rw [List.range'_succ, List.map_cons, List.filter_cons, lm_best, spread_m bK hg]
    by_cases hv : (cel id 6 g j).all (fil Z ms) = true
    · rw [if_pos hv, if_pos hv]
      have hs : 0 ≤ (spv (shv Z ms) (cel id 6 g j)).toInt := by
        refine spv_b (by unfold cel; rw [List.length_map, List.length_range]; exact hg) (fun c k hc hk => ?_)
        have h6 : c < 6 := by
          obtain ⟨i, _, rfl⟩ := List.mem_map.mp hc
          exact Nat.mod_lt _ (by decide)
        exact (shv_b bK h6 hk (List.all_eq_true.mp hv c hc)).2
      rw [if_neg (fun c => by have := Int32.lt_iff_toInt_lt.mp c; rw [iz32] at this; omega), List.foldl_cons]
      have hset : bRel g (some (spv (shv Z ms) (cel id 6 g j), cel id 6 g j)) (nI j) (spv (shv Z ms) (cel id 6 g j)) := ⟨j, by omega, rfl, rfl, rfl⟩
      cases A with
      | none =>
        have h : be = -1 := h
        rw [if_pos (by rw [h]; decide)]
        exact best_m bK hg n (j + 1) (by omega) _ _ _ hset
      | some a =>
        obtain ⟨l, q⟩ := a
        obtain ⟨w, hw, hb, hq, hl⟩ := id h
        rw [if_neg (fun c => by have := Int32.lt_iff_toInt_lt.mp c; rw [iz32, hb, nI_b (by omega)] at this; omega), hl]
        by_cases c : l ≤ spv (shv Z ms) (cel id 6 g j)
        · rw [if_pos c, show bst (spv (shv Z ms)) (some (l, q)) (cel id 6 g j) = some (l, q) from if_pos c]
          exact best_m bK hg n (j + 1) (by omega) _ _ _ (hl ▸ h)
        · rw [if_neg c, show bst (spv (shv Z ms)) (some (l, q)) (cel id 6 g j) = some (spv (shv Z ms) (cel id 6 g j), cel id 6 g j) from if_neg c]
          exact best_m bK hg n (j + 1) (by omega) _ _ _ hset
    · rw [if_neg hv, if_neg hv, if_pos (by decide)]
      exact best_m bK hg n (j + 1) (by omega) _ _ _ h
/-- the program's search -/
def cRel (g : Nat) (A : Option (Int32 × List Nat)) (le : Int32) (st : xS) (ms : mS) : Prop :=
  match A with
  | none => le = -1 ∧ siPl st ms
  | some (l, q) => le = l ∧ 0 ≤ l.toInt ∧ xs_fg st = nI g ∧ ∀ i, i < g → xs_fo st i = nI (q.getD i 0)
theorem cel_d {h : Nat → Nat} {q g j i : Nat} (hi : i < g) : (cel h q g j).getD i 0 = h (dgt q g j i) := by
  unfold cel
  rw [List.getD_eq_getElem?_getD, List.getElem?_map, List.getElem?_range hi]
  rfl
theorem least_x {Z g pn : Nat} {t : Int32} {d b : Int64} {ms : mS} (bK : sbK Z ms) (hg : g ≤ 4) : ∀ (n j : Nat) (le : Int32) (st : xS) (A : Option (Int32 × List Nat)), siE0 Z t d b st ms → lkI Z ms (FL Z ms) st → (0 < n → 0 < (FL Z ms).length) → cRel g A le st ms → siE0 Z t d b (lp_least Z (FL Z ms).length g pn n j le st).2 ms ∧ cRel g (((List.range' j n).map (cel (fun i => (FL Z ms).getD i 0) (FL Z ms).length g)).foldl (bst (spv (shv Z ms))) A) (lp_least Z (FL Z ms).length g pn n j le st).1 (lp_least Z (FL Z ms).length g pn n j le st).2 ms
  | 0, _, le, st, A, h, _, _, hA => ⟨h, hA⟩
  | n + 1, j, le, st, A, h, hL, hn, hA => by
    have hq := hn (by omega)
    generalize hs : f_Mi_spellTrial Z st j g (FL Z ms).length = s1
    have hs' : (lp_spell Z (FL Z ms).length g j st).2 = s1 := hs
    have h1 : siE0 Z t d b s1 ms := hs' ▸ sp_inv (fun s => siE0 Z t d b s ms) (fun s i v q => by rw [f0_tr]; exact q) g j st h
    have r1 : xs_fc s1 = xs_fc st := hs' ▸ sp_inv (fun s => xs_fc s = xs_fc st) (fun s i v q => rx_fc_tr.trans q) g j st rfl
    have r2 : xs_fi s1 = xs_fi st := hs' ▸ sp_inv (fun s => xs_fi s = xs_fi st) (fun s i v q => rx_fi_tr.trans q) g j st rfl
    have r3 : xs_ot s1 = xs_ot st := hs' ▸ sp_inv (fun s => xs_ot s = xs_ot st) (fun s i v q => rx_ot_tr.trans q) g j st rfl
    have r4 : xs_fo s1 = xs_fo st := hs' ▸ sp_inv (fun s => xs_fo s = xs_fo st) (fun s i v q => rx_fo_tr.trans q) g j st rfl
    have r5 : xs_fg s1 = xs_fg st := hs' ▸ sp_inv (fun s => xs_fg s = xs_fg st) (fun s i v q => rx_fg_tr.trans q) g j st rfl
    have r6 : ∀ i, i < g → xs_tr s1 i = nI ((FL Z ms).getD (dgt (FL Z ms).length g j i) 0) := fun i hi => by
      rw [← hs', sp_tr, if_pos hi]
      exact hL.2.1 _ (Nat.mod_lt _ hq)
    have hmem : ∀ i, (FL Z ms).getD (dgt (FL Z ms).length g j i) 0 ∈ FL Z ms := fun i => by
      rw [List.getD_eq_getElem?_getD, List.getElem?_eq_getElem (show dgt (FL Z ms).length g j i < (FL Z ms).length from Nat.mod_lt _ hq), Option.getD_some]
      exact List.getElem_mem _
    have hL1 : lkI Z ms (FL Z ms) s1 := ⟨r1.trans hL.1, by rw [r2]; exact hL.2.1, by rw [r3]; exact hL.2.2⟩
    have hsp : f_Mi_spreadOfTrial Z s1 g = spv (shv Z ms) (cel (fun i => (FL Z ms).getD i 0) (FL Z ms).length g j) := by
      refine spx (fun i => (FL Z ms).getD (dgt (FL Z ms).length g j i) 0) (fun i k hi hk => ?_)
      have h6 := (FL_m (hmem i)).1
      rw [r6 i hi, nI6c (by omega)]
      exact hL1.2.2 _ k (hmem i) hk
    have hnn : 0 ≤ (spv (shv Z ms) (cel (fun i => (FL Z ms).getD i 0) (FL Z ms).length g j)).toInt := by
      refine spv_b (by unfold cel; rw [List.length_map, List.length_range]; exact hg) (fun c k hc hk => ?_)
      obtain ⟨i, _, rfl⟩ := List.mem_map.mp hc
      have hm := FL_m (hmem i)
      exact (shv_b bK hm.1 hk hm.2).2
    have hk0 : siE0 Z t d b (f_Mi_keepTrial Z s1 g) ms := kp_inv (fun s => siE0 Z t d b s ms) (fun s i v q => by rw [f0_fo]; exact q) g 0 _ (by rw [f0_fg]; exact h1)
    have k1 : xs_fc (f_Mi_keepTrial Z s1 g) = xs_fc s1 := kp_inv (fun s => xs_fc s = xs_fc s1) (fun s i v q => rx_fc_fo.trans q) g 0 _ rx_fc_fg
    have k2 : xs_fi (f_Mi_keepTrial Z s1 g) = xs_fi s1 := kp_inv (fun s => xs_fi s = xs_fi s1) (fun s i v q => rx_fi_fo.trans q) g 0 _ rx_fi_fg
    have k3 : xs_ot (f_Mi_keepTrial Z s1 g) = xs_ot s1 := kp_inv (fun s => xs_ot s = xs_ot s1) (fun s i v q => rx_ot_fo.trans q) g 0 _ rx_ot_fg
    have k4 : xs_fg (f_Mi_keepTrial Z s1 g) = nI g := kp_inv (fun s => xs_fg s = nI g) (fun s i v q => rx_fg_fo.trans q) g 0 _ rx_fg_fg
    have k5 : ∀ i, i < g → xs_fo (f_Mi_keepTrial Z s1 g) i = nI ((cel (fun i => (FL Z ms).getD i 0) (FL Z ms).length g j).getD i 0) := fun i hi => by
      unfold f_Mi_keepTrial
      rw [kp_fo, if_pos (by omega), rx_tr_fg, r6 i hi, cel_d hi]
    have hLk : lkI Z ms (FL Z ms) (f_Mi_keepTrial Z s1 g) := ⟨k1.trans hL1.1, by rw [k2]; exact hL1.2.1, by rw [k3]; exact hL1.2.2⟩
    have hset : cRel g (some (spv (shv Z ms) (cel (fun i => (FL Z ms).getD i 0) (FL Z ms).length g j), cel (fun i => (FL Z ms).getD i 0) (FL Z ms).length g j)) (spv (shv Z ms) (cel (fun i => (FL Z ms).getD i 0) (FL Z ms).length g j)) (f_Mi_keepTrial Z s1 g) ms := ⟨rfl, hnn, k4, k5⟩
    rw [List.range'_succ, List.map_cons, List.foldl_cons, lp_least, hs, hsp]
    cases A with
    | none =>
      rw [if_pos hA.1]
      exact least_x bK hg n (j + 1) _ _ _ hk0 hLk (fun _ => hq) hset
    | some a =>
      obtain ⟨l, q⟩ := a
      obtain ⟨a1, a2, a3, a4⟩ := hA
      rw [if_neg (fun c => by rw [a1] at c; rw [c] at a2; exact absurd a2 (by decide)), a1]
      by_cases c : l ≤ spv (shv Z ms) (cel (fun i => (FL Z ms).getD i 0) (FL Z ms).length g j)
      · rw [if_pos c, show bst (spv (shv Z ms)) (some (l, q)) (cel (fun i => (FL Z ms).getD i 0) (FL Z ms).length g j) = some (l, q) from if_pos c]
        exact least_x bK hg n (j + 1) _ _ _ h1 hL1 (fun _ => hq) ⟨rfl, a2, r5.trans a3, fun i hi => by rw [r4]; exact a4 i hi⟩
      · rw [if_neg c, show bst (spv (shv Z ms)) (some (l, q)) (cel (fun i => (FL Z ms).getD i 0) (FL Z ms).length g j) = some (spv (shv Z ms) (cel (fun i => (FL Z ms).getD i 0) (FL Z ms).length g j), cel (fun i => (FL Z ms).getD i 0) (FL Z ms).length g j) from if_neg c]
        exact least_x bK hg n (j + 1) _ _ _ hk0 hLk (fun _ => hq) hset
theorem FL_map {Z : Nat} {ms : mS} : (List.range (FL Z ms).length).map (fun i => (FL Z ms).getD i 0) = FL Z ms := by
  apply List.ext_getElem?
  intro i
  rw [List.getElem?_map]
  by_cases h : i < (FL Z ms).length
  · rw [List.getElem?_range h, List.getElem?_eq_getElem h, Option.map_some, List.getD_eq_getElem?_getD, List.getElem?_eq_getElem h, Option.getD_some]
  · rw [List.getElem?_eq_none (by rw [List.length_range]; omega), List.getElem?_eq_none (by omega)]
    rfl
/-- both search the same lists in the same order -/
theorem same_lists {Z g : Nat} {ms : mS} : ((List.range' 0 (6 ^ g)).map (cel id 6 g)).filter (fun p => p.all (fil Z ms)) = (List.range' 0 ((FL Z ms).length ^ g)).map (cel (fun i => (FL Z ms).getD i 0) (FL Z ms).length g) := by
  rw [← List.range_eq_range', ← List.range_eq_range', cel_tup, cel_tup, FL_map, tup_filter, List.map_id]
  rfl
theorem pl_inv {Z g b9 : Nat} {le : Int32} (Pr : mS → Prop) (hp : ∀ (ms : mS) (j : Nat) (v : Int32), Pr ms → Pr (mp_pl ms j v)) : ∀ (n j : Nat) (ms : mS), Pr ms → Pr (lm_plan Z g b9 le n j ms)
  | 0, _, ms, h => h
  | n + 1, j, ms, h => by
    rw [lm_plan]
    exact pl_inv Pr hp n (j + 1) _ (hp _ _ _ h)
theorem cellOf_n {Z w k g : Nat} {ms : mS} : ∀ (n j r : Nat), lm_cellOf Z w k g n j r ms = r / 6 ^ n
  | 0, _, r => by rw [lm_cellOf, Nat.pow_zero, Nat.div_one]
  | n + 1, j, r => by rw [lm_cellOf, cellOf_n n, Nat.div_div_eq_div_mul, ← Nat.pow_succ']
theorem pl_pl {Z g b9 : Nat} {le : Int32} : ∀ (n j : Nat) (ms : mS) (i : Nat), ms_pl (lm_plan Z g b9 le n j ms) i = if j ≤ i ∧ i < j + n then nI (dgt 6 g b9 i) else ms_pl ms i
  | 0, j, ms, i => by rw [if_neg (by omega)]; rfl
  | n + 1, j, ms, i => by
    rw [lm_plan, pl_pl n (j + 1), rm_pl_pl]
    unfold upd f_Mo_cellOf
    rw [cellOf_n]
    by_cases e : i = j
    · subst e
      rw [if_neg (by omega), if_pos rfl, if_pos (by omega)]
      rfl
    · by_cases e2 : j + 1 ≤ i ∧ i < j + 1 + n
      · rw [if_pos e2, if_pos (by omega)]
      · rw [if_neg e2, if_neg e, if_neg (by omega)]
theorem nI6i {a b : Nat} (ha : a ≤ 6) (hb : b ≤ 6) (h : nI a = nI b) : a = b := by
  have := congrArg Int32.toNatClampNeg h
  rwa [nI6c ha, nI6c hb] at this
theorem siB_pl {Z g b9 n j : Nat} {le : Int32} {B : Int} {v : Int32} {ms : mS} (hB : siB Z B ms) : siB Z B (lm_plan Z g b9 le n j (mp_ps ms v)) := by
  refine pl_inv (fun m => siB Z B m) (fun m i v h => ?_) n j _ ?_
  · obtain ⟨h1, h2, h3⟩ := h
    exact ⟨by rw [fb_K_pl]; exact h1, by rw [fb_M_pl]; exact h2, by rw [fb_F_pl]; exact h3⟩
  · obtain ⟨h1, h2, h3⟩ := hB
    exact ⟨by rw [fb_K_ps]; exact h1, by rw [fb_M_ps]; exact h2, by rw [fb_F_ps]; exact h3⟩
theorem ok_plan {Z k : Nat} {st : xS} {ms : mS} (a : Int32) (qn : Nat) (h : siS Z k st ms) (hq : xs_fc (f_Mi_look Z st) = nI qn) (hq6 : qn ≤ 6) : siR Z (k + 1) (f_GL_plan Z st a qn) (f_Mo_plan Z ms a) := by
  unfold f_GL_plan f_Mo_plan
  refine if2 (R := siR Z (k + 1)) ((wi a 1 4).trans (ii a 1 4).symm) (fun _ => ⟨rfl, siS_up h⟩) (fun c => ?_)
  have c : 1 ≤ a.toInt ∧ a.toInt ≤ 4 := Decidable.not_not.mp (fun q => c ((wi a 1 4).mpr q))
  have hg : a.toNatClampNeg ≤ 4 := by rw [cln]; omega
  have hg1 : 1 ≤ a.toNatClampNeg := by rw [cln]; omega
  generalize a.toNatClampNeg = g at hg hg1 ⊢
  obtain ⟨i1, i2⟩ := siE_in h.1
  obtain ⟨l1, l2, l3, l4⟩ := look_ok h.2.1 i1
  have eq9 : qn = (FL Z ms).length := nI6i hq6 FL_6 (hq.symm.trans l2.1)
  subst eq9
  have hpl : siPl (f_Mi_look Z st) ms := by
    obtain ⟨gn, q1, q2, q3, q4⟩ := i2
    exact ⟨gn, l4.trans q1, q2, q3, fun i hi => by rw [l3]; exact q4 i hi⟩
  have X := least_x (g := g) (pn := (FL Z ms).length ^ g) h.2.1 hg ((FL Z ms).length ^ g) 0 (-1) (f_Mi_look Z st) none l1 l2 (fun hp => by
    rcases Nat.eq_zero_or_pos (FL Z ms).length with z | z
    · rw [z, Nat.zero_pow hg1] at hp; omega
    · exact z) ⟨rfl, hpl⟩
  have Y := best_m (g := g) (pn := 6 ^ g) h.2.1 hg (6 ^ g) 0 (by omega) (-1) 0 none (show (-1 : Int32) = -1 from rfl)
  rw [same_lists] at Y
  unfold f_Mi_leastSpread
  generalize hA : List.foldl (bst (spv (shv Z ms))) none ((List.range' 0 ((FL Z ms).length ^ g)).map (cel (fun i => (FL Z ms).getD i 0) (FL Z ms).length g)) = A at X Y
  generalize hx : lp_least Z (FL Z ms).length g ((FL Z ms).length ^ g) ((FL Z ms).length ^ g) 0 (-1) (f_Mi_look Z st) = x at X ⊢
  generalize hy : lm_best Z g (6 ^ g) (6 ^ g) 0 (-1) 0 ms = y at Y ⊢
  obtain ⟨X1, X2⟩ := X
  cases A with
  | none =>
    have Y : y.1 = -1 := Y
    rw [if_neg (by rw [Y]; decide)]
    exact ⟨X2.1, siS_mk (siE_out X1 X2.2) h.2⟩
  | some a =>
    obtain ⟨l, q⟩ := a
    obtain ⟨w, hw, hb, hcq, hl⟩ := Y
    obtain ⟨x1, x2, x3, x4⟩ := X2
    have h1296 := m6 hg
    have hwb : (nI w).toInt = w := nI_b (by omega)
    have hwc : (nI w).toNatClampNeg = w := by rw [cln, hwb]; omega
    rw [hb, hwc, if_pos (Int32.le_iff_toInt_le.mpr (by rw [iz32, hwb]; omega))]
    refine ⟨x1.trans hl.symm, siS_mk (siE_out ?_ ?_) (siB_pl h.2)⟩
    · exact pl_inv (fun m => siE0 Z 0 0 0 x.2 m) (fun m i v z => by rw [f0_pl]; exact z) g 0 _ (by rw [f0_ps]; exact X1)
    · refine ⟨g, x3, ?_, hg, fun i hi => ?_⟩
      · exact pl_inv (fun m => ms_ps m = nI g) (fun m i v z => rm_ps_pl.trans z) g 0 _ rm_ps_ps
      · rw [x4 i hi, pl_pl, if_pos (by omega), hcq, cel_d hi]
        rfl
theorem ok_planned {Z k : Nat} {st : xS} {ms : mS} (a : Int32) (h : siS Z k st ms) : f_GL_planned Z st a = f_Mo_planned Z ms a := by
  obtain ⟨gn, q1, q2, q3, q4⟩ := h.1.1.2.2.2.2
  unfold f_GL_planned f_Mo_planned
  rw [q1, q2]
  refine if2 (R := fun x y => x = y) Iff.rfl (fun _ => rfl) (fun c1 => ?_)
  refine if2 (R := fun x y => x = y) Iff.rfl (fun _ => rfl) (fun c2 => ?_)
  have c1 : ¬ a.toInt < (0 : Int32).toInt := fun q => c1 (Int32.lt_iff_toInt_lt.mpr q)
  have c2 : ¬ (nI gn).toInt ≤ a.toInt := fun q => c2 (Int32.le_iff_toInt_le.mpr q)
  rw [iz32] at c1
  rw [nI_b (by omega)] at c2
  exact q4 _ (by rw [cln]; omega)
/-- all that the law asks of the two -/
theorem law_ok {Z : Nat} (hZ : 1 ≤ Z ∧ Z ≤ 6) : LawOK Z (siS Z) := by
  refine ⟨fun k st ms a b d h hk => ok_kind a b d h, fun k st ms a b d h hk => ok_bunker a b d h, fun k st ms a h hk => ok_crane a h, fun k st ms a h hk => ok_grab hk a h, fun k st ms a h hk hc c4 => ok_g2a hk a h hc c4, fun k st ms a h hk hc c4 => ok_g2b hk a h hc c4, fun k st ms a b h hk => ok_share a b h, fun k st ms a b d h hk => ok_air hZ.2 a b d h, fun k st ms a b h hk => ok_set a b h, fun k st ms a b d f4 h hk => ok_control a b d f4 h, fun k st ms a b h hk => ok_burner a b h, fun k st ms a h hk => ok_run hZ hk a h, fun k st ms a b h hk => ok_bed hZ.2 a b h, fun k st ms a h hk => ok_gas a h, fun k st ms a h hk => ok_output a h, fun k st ms h hk => ok_burning h, fun k st ms a h hk => ok_ash a h, fun k st ms a h hk => ok_balance a h, fun k st ms a qn h hk hq hq6 => ok_plan a qn h hq hq6, fun k st ms h hk => ok_planx h, fun k st ms a h hk => ok_planned a h, fun k st ms h hk => ?_, fun k st ms h hk => siS_up h⟩
  obtain ⟨gn, q1, q2, q3, _⟩ := h.1.1.2.2.2.2
  exact ⟨gn, q1, q2, q3⟩
