/-! the two states side by side -/
def siK (st : xS) (ms : mS) : Prop := xs_gs st = ms_cr ms ∧ xs_bk st = ms_al ms 0 ∧ (∀ i, i < 4 → xs_kw st i = ms_ws ms i ∧ xs_ka st i = ms_ash ms i) ∧ (∀ c i, c < 6 → i < 4 → xs_ck st c i = ms_cl ms (4 * c + i)) ∧ (∃ gn : Nat, xs_fg st = nI gn ∧ ms_ps ms = nI gn ∧ gn ≤ 4 ∧ ∀ i, i < gn → xs_fo st i = ms_pl ms i)
def siG (st : xS) (ms : mS) : Prop := ∀ i, i < 4 → xs_kg st i = (ms_pe ms i).toInt64
def siT (Z : Nat) (st : xS) (ms : mS) : Prop := xs_bo st = ms_bo ms ∧ xs_bt st = ms_hb ms ∧ xs_bl st = ms_be ms ∧ xs_bh st = ms_bh ms ∧ (∀ i, i < 2 → b2i (xs_ct st i) = ms_hc ms i ∧ xs_cg st i = ms_tg ms i ∧ xs_cp st i = ms_bn ms i ∧ xs_ci st i = ms_bs ms i) ∧ (∀ j, j < Z → xs_zd st j = ms_dr ms j)
def siH (st : xS) (ms : mS) : Prop := xs_he st = ms_al ms 9 ∧ xs_fA st = ms_al ms 5 ∧ xs_nA st = ms_al ms 6 ∧ xs_sA st = ms_al ms 7 ∧ xs_yA st = ms_al ms 8
def siL (st : xS) (ms : mS) : Prop := xs_sm st = ms_la ms 0 ∧ xs_ox st = ms_la ms 1 ∧ xs_bu st = ms_la ms 2 ∧ xs_dr st = ms_la ms 3 ∧ xs_bb st = ms_bu ms
def siC (st : xS) (ms : mS) : Prop := ∀ i, i < 2 → xs_co st i = ms_ou ms i ∧ xs_cs st i = ms_su ms i
def siM (Z : Nat) (st : xS) (ms : mS) : Prop := xs_mv st = ms_mv ms ∧ ∀ j, j < Z → xs_zv st j = ms_ai ms j
def siA (st : xS) (ms : mS) : Prop := xs_lA st = ms_al ms 3 ∧ xs_aA st = ms_al ms 4
def siZ (Z : Nat) (st : xS) (ms : mS) : Prop := ∀ j, j < Z → xs_zw st j = ms_wa ms j ∧ xs_zf st j = ms_fu ms j ∧ xs_za st j = ms_ah ms j
def siD (d : Int64) (st : xS) (ms : mS) : Prop := xs_dA st + d = ms_al ms 1
def siN (d : Int64) (st : xS) (ms : mS) : Prop := xs_bA st + d = ms_al ms 2
def siI (t : Int32) (st : xS) (ms : mS) : Prop := xs_nm st + t = ms_mi ms
/-- equal, but for t minutes, d dried and b burnt that the program hasn't booked yet -/
def siE (Z : Nat) (t : Int32) (d b : Int64) (st : xS) (ms : mS) : Prop := siK st ms ∧ siG st ms ∧ siT Z st ms ∧ siH st ms ∧ siL st ms ∧ siC st ms ∧ siM Z st ms ∧ siA st ms ∧ siZ Z st ms ∧ siD d st ms ∧ siN b st ms ∧ siI t st ms
def sZ (f : Nat → Int64) : Nat → Int
  | 0 => 0
  | n + 1 => sZ f n + (f n).toInt
def sbK (Z : Nat) (ms : mS) : Prop := (1 ≤ (ms_cr ms).toInt ∧ (ms_cr ms).toInt ≤ 10000) ∧ (∀ i, i < 4 → 0 ≤ (ms_ws ms i).toInt ∧ 0 ≤ (ms_ash ms i).toInt ∧ (ms_ws ms i).toInt + (ms_ash ms i).toInt ≤ 1000) ∧ (∀ c i, c < 6 → i < 4 → 0 ≤ (ms_cl ms (4 * c + i)).toInt) ∧ (∀ c, c < 6 → (ms_cl ms (4 * c)).toInt + (ms_cl ms (4 * c + 1)).toInt + (ms_cl ms (4 * c + 2)).toInt + (ms_cl ms (4 * c + 3)).toInt ≤ 100000)
def sbM (Z : Nat) (ms : mS) : Prop := (0 ≤ (ms_mv ms).toInt ∧ (ms_mv ms).toInt ≤ 1000) ∧ ∀ j, j < Z → 0 ≤ (ms_ai ms j).toInt ∧ (ms_ai ms j).toInt ≤ 100000
def sbF (Z : Nat) (B : Int) (ms : mS) : Prop := (∀ i, i < 4 → 0 ≤ (ms_pe ms i).toInt) ∧ (∀ j, j < Z → 0 ≤ (ms_fu ms j).toInt) ∧ sZ (ms_fu ms) Z + (ms_pe ms 0).toInt + (ms_pe ms 1).toInt + (ms_pe ms 2).toInt + (ms_pe ms 3).toInt ≤ B
def siB (Z : Nat) (B : Int) (ms : mS) : Prop := sbK Z ms ∧ sbM Z ms ∧ sbF Z B ms
theorem pu_part2 (a : Int64) (x : Int32) : f_GL_thousandths a x = f_Mo_partOf a x.toInt64 := (rfl)
theorem i64z : (0 : Int64).toInt = 0 := by decide
theorem i64t : (1000 : Int64).toInt = 1000 := by decide
/-- a part of a weight: not negative, and no more than the whole -/
theorem pu_pt {n x : Int64} (h0 : 0 ≤ n.toInt) (h1 : n.toInt ≤ 1000000000) (x0 : 0 ≤ x.toInt) (x1 : x.toInt ≤ 1000) : (f_Mo_partOf n x).toInt = n.toInt * x.toInt / 1000 ∧ 0 ≤ (f_Mo_partOf n x).toInt ∧ (f_Mo_partOf n x).toInt ≤ n.toInt := by
  have hm0 : 0 ≤ n.toInt * x.toInt := Int.mul_nonneg h0 x0
  have hm1 : n.toInt * x.toInt ≤ n.toInt * 1000 := Int.mul_le_mul_of_nonneg_left x1 h0
  have hm : (n * x).toInt = n.toInt * x.toInt := by
    rw [Int64.toInt_mul]
    exact Int.bmod_eq_of_le (by omega) (by omega)
  have hd : (n * x / 1000).toInt = n.toInt * x.toInt / 1000 := by
    rw [Int64.toInt_div, hm, i64t, Int.tdiv_eq_ediv_of_nonneg hm0]
    exact Int.bmod_eq_of_le (by omega) (by omega)
  have e : f_Mo_partOf n x = n * x / 1000 := rfl
  rw [e, hd]
  refine ⟨rfl, by omega, by omega⟩
theorem i64sub {a b : Int64} (h0 : 0 ≤ b.toInt) (h1 : b.toInt ≤ a.toInt) : (a - b).toInt = a.toInt - b.toInt := by
  have := a.toInt_lt
  rw [Int64.toInt_sub]
  exact Int.bmod_eq_of_le (by omega) (by omega)
theorem i64add {a b : Int64} (h0 : 0 ≤ a.toInt) (h1 : 0 ≤ b.toInt) (h2 : a.toInt + b.toInt ≤ 1000000000000) : (a + b).toInt = a.toInt + b.toInt := by
  rw [Int64.toInt_add]
  exact Int.bmod_eq_of_le (by omega) (by omega)
theorem sZ_up (f : Nat → Int64) (j : Nat) (v : Int64) : ∀ n, sZ (vp_updL f j v) n = sZ f n + (if j < n then v.toInt - (f j).toInt else 0)
  | 0 => by simp [sZ]
  | n + 1 => by
    rw [sZ, sZ, sZ_up f j v n]
    by_cases h : j < n
    · rw [if_pos h, if_pos (by omega), show vp_updL f j v n = f n from if_neg (by omega)]
      omega
    · rw [if_neg h]
      by_cases h2 : n = j
      · subst h2
        rw [if_pos (by omega), show vp_updL f n v n = v from if_pos rfl]
        omega
      · rw [if_neg (by omega), show vp_updL f j v n = f n from if_neg h2]
        omega
theorem sZ_le (f : Nat → Int64) : ∀ n, (∀ j, j < n → 0 ≤ (f j).toInt) → 0 ≤ sZ f n ∧ ∀ j, j < n → (f j).toInt ≤ sZ f n
  | 0, _ => ⟨Int.le_refl _, fun j h => absurd h (Nat.not_lt_zero _)⟩
  | n + 1, h => by
    obtain ⟨h1, h2⟩ := sZ_le f n (fun j hj => h j (by omega))
    have h3 := h n (by omega)
    refine ⟨by rw [sZ]; omega, fun j hj => ?_⟩
    rw [sZ]
    by_cases e : j = n
    · subst e; omega
    · have := h2 j (by omega); omega
theorem updL_eq {f : Nat → Int64} {j : Nat} {v : Int64} : vp_updL f j v j = v := if_pos rfl
theorem updL_ne {f : Nat → Int64} {i j : Nat} {v : Int64} (h : i ≠ j) : vp_updL f j v i = f i := if_neg h
theorem updL2 {f g : Nat → Int64} {i n : Nat} {v w : Int64} (h : f i = g i) (hv : v = w) : vp_updL f n v i = vp_updL g n w i := by
  unfold vp_updL
  rw [h, hv]
theorem updI2 {f g : Nat → Int32} {i n : Nat} {v w : Int32} (h : f i = g i) (hv : v = w) : upd f n v i = upd g n w i := by
  unfold upd
  rw [h, hv]
