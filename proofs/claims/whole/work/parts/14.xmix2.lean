theorem fi_tr {st : xS} {n : Nat} {v : Int32} : xs_fi (xp_tr st n v) = xs_fi st := rfl
theorem tr_tr {st : xS} {n : Nat} {v : Int32} : xs_tr (xp_tr st n v) = upd (xs_tr st) n v := rfl
theorem fc_fc {st : xS} {v : Int32} : xs_fc (xp_fc st v) = v := rfl
theorem fc_fi {st : xS} {n : Nat} {v : Int32} : xs_fc (xp_fi st n v) = xs_fc st := rfl
theorem spell_fc (Z qn : Nat) : ∀ (n r : Nat) (st : xS), xs_fc (lp_spell Z qn n r st).2 = xs_fc st
  | 0, _, _ => rfl
  | n + 1, r, st => by unfold lp_spell; rw [spell_fc Z qn n]; rfl
theorem spell_fi (Z qn : Nat) : ∀ (n r : Nat) (st : xS), xs_fi (lp_spell Z qn n r st).2 = xs_fi st
  | 0, _, _ => rfl
  | n + 1, r, st => by unfold lp_spell; rw [spell_fi Z qn n]; rfl
theorem spell_tr (Z qn : Nat) : ∀ (n r : Nat) (st : xS) (i : Nat), n ≤ i → xs_tr (lp_spell Z qn n r st).2 i = xs_tr st i
  | 0, _, _, _, _ => rfl
  | n + 1, r, st, i, h => by
    unfold lp_spell
    rw [spell_tr Z qn n _ _ i (by omega)]
    exact pk_un (by omega)
theorem spell_ix {Z qn : Nat} (hq : 0 < qn) : ∀ (n r : Nat) (st : xS), (∀ i, i < qn → ix6 (xs_fi st i)) → ∀ i, i < n → ix6 (xs_tr (lp_spell Z qn n r st).2 i)
  | 0, _, _, _, _, h => absurd h (Nat.not_lt_zero _)
  | n + 1, r, st, hf, i, h => by
    unfold lp_spell
    by_cases hi : i < n
    · exact spell_ix hq n (r / qn) (xp_tr st n (xs_fi st (r % qn))) (fun k hk => by rw [fi_tr]; exact hf k hk) i hi
    · obtain rfl : i = n := by omega
      rw [spell_tr Z qn i _ _ i (Nat.le_refl _), tr_tr, pk_us]
      exact hf _ (Nat.mod_lt _ hq)
theorem spl_fc {Z qn w g : Nat} {st : xS} : xs_fc (f_Mi_spellTrial Z st w g qn) = xs_fc st := spell_fc Z qn g w st
theorem spl_fi {Z qn w g : Nat} {st : xS} : xs_fi (f_Mi_spellTrial Z st w g qn) = xs_fi st := spell_fi Z qn g w st
theorem kp_fc (Z g9 : Nat) : ∀ (n j : Nat) (st : xS), xs_fc (lp_keep Z g9 n j st) = xs_fc st
  | 0, _, _ => rfl
  | n + 1, j, st => by unfold lp_keep; rw [kp_fc Z g9 n]; rfl
theorem kp_fi (Z g9 : Nat) : ∀ (n j : Nat) (st : xS), xs_fi (lp_keep Z g9 n j st) = xs_fi st
  | 0, _, _ => rfl
  | n + 1, j, st => by unfold lp_keep; rw [kp_fi Z g9 n]; rfl
theorem keep_fc {Z g : Nat} {st : xS} : xs_fc (f_Mi_keepTrial Z st g) = xs_fc st := by unfold f_Mi_keepTrial; rw [kp_fc]; rfl
theorem keep_fi {Z g : Nat} {st : xS} : xs_fi (f_Mi_keepTrial Z st g) = xs_fi st := by unfold f_Mi_keepTrial; rw [kp_fi]; rfl
theorem cnt_pow (Z g9 qn : Nat) {st : xS} (h : xs_fc st = nI qn) : ∀ (n j a : Nat), lp_cnt Z g9 n j (nI a) st = nI (a * qn ^ n)
  | 0, _, a => by rw [Nat.pow_zero, Nat.mul_one]; rfl
  | n + 1, j, a => by
    unfold lp_cnt
    rw [h, pk_mul, cnt_pow Z g9 qn h n, Nat.pow_succ', Nat.mul_assoc]
theorem cnt_eq {Z g9 qn : Nat} {st : xS} (h : xs_fc st = nI qn) : f_Mi_countPlans Z st g9 = nI (qn ^ g9) := by
  have := cnt_pow Z g9 qn h g9 0 1
  rw [Nat.one_mul] at this
  exact this
theorem pw6 {q g : Nat} (hq : q ≤ 6) (hg : g < 5) : q ^ g ≤ 1296 := by
  have h1 := Nat.pow_le_pow_left hq g
  have h2 : 6 ^ g ≤ 6 ^ 4 := Nat.pow_le_pow_right (by decide) (by omega)
  have h3 : (6 : Nat) ^ 4 = 1296 := by decide
  omega
theorem pw0 {q g : Nat} (hg : 1 ≤ g) (h : 0 < q ^ g) : 0 < q := by
  rcases Nat.eq_zero_or_pos q with e | e
  · subst e
    rw [Nat.zero_pow (by omega)] at h
    exact absurd h (Nat.lt_irrefl 0)
  · exact e

def lp_least (Z : Nat) (qn : Nat) (g9 : Nat) (pn : Nat) : Nat → Nat → Int32 → xS → Int32 × xS
  | 0, _, le, st => (le, st)
  | n + 1, j, le, st =>
    if le = (-1) then
      lp_least Z qn g9 pn n (j + 1) (f_Mi_spreadOfTrial Z (f_Mi_spellTrial Z st j g9 qn) g9) (f_Mi_keepTrial Z (f_Mi_spellTrial Z st j g9 qn) g9)
    else
      if le ≤ (f_Mi_spreadOfTrial Z (f_Mi_spellTrial Z st j g9 qn) g9) then
        lp_least Z qn g9 pn n (j + 1) le (f_Mi_spellTrial Z st j g9 qn)
      else
        lp_least Z qn g9 pn n (j + 1) (f_Mi_spreadOfTrial Z (f_Mi_spellTrial Z st j g9 qn) g9) (f_Mi_keepTrial Z (f_Mi_spellTrial Z st j g9 qn) g9)
set_option maxRecDepth 100000 in
set_option maxHeartbeats 4000000 in
theorem lp_least_ok {p : Program} {l : Launch} {e : Env} {s : State} {m : MethodId} {args : Array Value} {below : List Frame} {meth : Method} {c : Code} {D : va_G} {cA : Nat → ClassId} {Z : Nat} {ad : Nat → Nat} {Q : State → Prop} (hR : rD (36 + Z) ad) (hZ : 1 ≤ Z ∧ Z ≤ 6) (C : Cx p s m args meth c b_Mi_leastSpread 6 R_Mi (some .int)) (hK : va_K D clG (tyX cA) s) (qn : Nat) (g9 : Nat) (pn : Nat) (hq6 : qn ≤ 6) (hg9 : g9 < 5) (hpn : pn ≤ 1296) (hpq : 0 < pn → 0 < qn) : ∀ (n : Nat) (j : Nat) (le : Int32) (st : xS) (H : Heap) (locs : List Loc) (ls : Array Slot), (j + n = pn ∧ xs_fc st = nI qn ∧ ∀ i, i < qn → ix6 (xs_fi st i)) → va_P D clG (pw (36 + Z) ad (xgx Z ad cA (st))) H → va_S (rA (36 + Z) ad s.heap.size) s.heap H locs → lv_has ls 6 [(0, .ref (ad 5)), (1, .int (nI g9)), (2, .int le), (3, .int (nI pn)), (4, .int (nI j))] → (∀ (H : Heap) (locs : List Loc) (ls : Array Slot), va_P D clG (pw (36 + Z) ad (xgx Z ad cA ((lp_least Z qn g9 pn n j le st).2))) H → va_S (rA (36 + Z) ad s.heap.size) s.heap H locs → lv_has ls 6 [(0, .ref (ad 5)), (1, .int (nI g9)), (2, .int ((lp_least Z qn g9 pn n j le st).1)), (3, .int (nI pn)), (4, .int (nI pn))] → W p l e ({ frames := 2, cells := 0, slots := 0, locals := 49 } : Room) s m args below meth c H locs 0 0 Q (F0 m 56 ls [])) → W p l e ({ frames := 2, cells := 0, slots := 0, locals := 49 } : Room) s m args below meth c H locs 0 0 Q (F0 m 11 ls []) := by
  obtain ⟨⟨hx, hb, hml, hown, hts⟩, hr, hlocks, hN⟩ := id C
  have hown : s.vm.findClass R_Mi = some m.cls := hown
  have hr : meth.sig.returnType = (some .int) := hr
  intro n
  induction n with
  | zero =>
    intro j le st H locs ls hn hP hS hl hk
    obtain ⟨hn, hfc, hfi⟩ := hn
    have hj9 : j = pn := by omega
    refine lv_iload (pc := 11) hx hb d_Mi_leastSpread_11 (lv_at hl 4 rfl) ?_
    refine lv_iload_n (pc := 13) hx hb d_Mi_leastSpread_13 rfl (lv_at hl 3 rfl) ?_
    refine lv_icmp_ge (tgt := 56) (pc := 14) hx hb d_Mi_leastSpread_14 (by decide) (fun c_1 => ?_) (fun c_1 => absurd (by rw [hj9]; exact Int32.le_refl _) c_1)
    exact hk H locs ls hP hS (by rw [hj9] at hl; exact lv_sub hl [0, 1, 2, 3, 4] rfl)
  | succ n ih =>
    intro j le st H locs ls hn hP hS hl hk
    obtain ⟨hn, hfc, hfi⟩ := hn
    refine lv_iload (pc := 11) hx hb d_Mi_leastSpread_11 (lv_at hl 4 rfl) ?_
    refine lv_iload_n (pc := 13) hx hb d_Mi_leastSpread_13 rfl (lv_at hl 3 rfl) ?_
    refine lv_icmp_ge (tgt := 56) (pc := 14) hx hb d_Mi_leastSpread_14 (by decide) (fun c_1 => absurd c_1 (nI_ge (b := pn) (by omega) (by omega))) (fun c_1 => ?_)
    refine lv_aload_n (pc := 17) hx hb d_Mi_leastSpread_17 rfl (lv_at hl 0 rfl) ?_
    refine lv_iload (pc := 18) hx hb d_Mi_leastSpread_18 (lv_at hl 4 rfl) ?_
    refine lv_iload_n (pc := 20) hx hb d_Mi_leastSpread_20 rfl (lv_at hl 1 rfl) ?_
    refine rg_cv (pc := 21) (va_runV (As := [.int (nI j), .int (nI g9)]) (rest := []) ⟨hx, hb, hml, hown, hts⟩ (c_Mi_spellTrial (l := l) hR hZ st j (by omega) g9 (by omega) qn hfc (hpq (by omega)) hq6 _) ⟨callB_of 2 hts (gd_c wd_498) rfl rfl rfl (hts _ wd_3) (hts _ wd_495) hd_Mi_spellTrial ⟨Nat.le_of_ble_eq_true rfl, Nat.le_of_ble_eq_true rfl⟩, hts _ wd_497, hts _ wp_7⟩ ⟨rPc_blind _ _ _ _ _ _ _ _, rg_rec hK hP 5 (by omega) xgx_mixer rfl, rPc_at _ hP hK hN⟩ rfl rfl hl.1 rfl (lv_room (Nat.le_of_ble_eq_true rfl)) d_Mi_leastSpread_21 ⟨Nat.zero_le _, Nat.zero_le _⟩) hS (fun H locs hP hS => ?_)
    refine lv_aload_n (pc := 24) hx hb d_Mi_leastSpread_24 rfl (lv_at hl 0 rfl) ?_
    refine lv_iload_n (pc := 25) hx hb d_Mi_leastSpread_25 rfl (lv_at hl 1 rfl) ?_
    refine rg_ci (pc := 26) (va_runV (As := [.int (nI g9)]) (rest := []) ⟨hx, hb, hml, hown, hts⟩ (c_Mi_spreadOfTrial (l := l) hR hZ (f_Mi_spellTrial Z st j g9 qn) g9 (by omega) (fun i hi => spell_ix (hpq (by omega)) g9 j st hfi i hi) _) ⟨callB_of 1 hts (gd_c wd_503) rfl rfl rfl (hts _ wd_3) (hts _ wd_500) hd_Mi_spreadOfTrial ⟨Nat.le_of_ble_eq_true rfl, Nat.le_of_ble_eq_true rfl⟩, hts _ wd_502, hts _ wp_8⟩ ⟨rPc_blind _ _ _ _ _ _ _ _, rg_rec hK hP 5 (by omega) xgx_mixer rfl, rPc_at _ hP hK hN⟩ rfl rfl hl.1 rfl (lv_room (Nat.le_of_ble_eq_true rfl)) d_Mi_leastSpread_26 ⟨Nat.zero_le _, Nat.zero_le _⟩) hS (fun H locs hP hS => ?_)
    refine lv_istore (lv' := [(5, .int (f_Mi_spreadOfTrial Z (f_Mi_spellTrial Z st j g9 qn) g9)), (0, .ref (ad 5)), (1, .int (nI g9)), (2, .int le), (3, .int (nI pn)), (4, .int (nI j))]) (pc := 29) hx hb d_Mi_leastSpread_29 hl (by decide) rfl (fun ls hl => ?_)
    refine lv_iload_n (pc := 31) hx hb d_Mi_leastSpread_31 rfl (lv_at hl 3 rfl) ?_
    refine lv_iconst (v := (-1)) (pc := 32) hx hb d_Mi_leastSpread_32 (by decide) ?_
    refine lv_icmp_eq (tgt := 42) (pc := 33) hx hb d_Mi_leastSpread_33 (by decide) (fun c_2 => ?_) (fun c_2 => ?_)
    · refine lv_iload (pc := 42) hx hb d_Mi_leastSpread_42 (lv_at hl 0 rfl) ?_
      refine lv_istore_n (lv' := [(2, .int (f_Mi_spreadOfTrial Z (f_Mi_spellTrial Z st j g9 qn) g9)), (5, .int (f_Mi_spreadOfTrial Z (f_Mi_spellTrial Z st j g9 qn) g9)), (0, .ref (ad 5)), (1, .int (nI g9)), (3, .int (nI pn)), (4, .int (nI j))]) (pc := 44) hx hb d_Mi_leastSpread_44 rfl hl (by decide) rfl (fun ls hl => ?_)
      refine lv_aload_n (pc := 45) hx hb d_Mi_leastSpread_45 rfl (lv_at hl 2 rfl) ?_
      refine lv_iload_n (pc := 46) hx hb d_Mi_leastSpread_46 rfl (lv_at hl 3 rfl) ?_
      refine rg_cv (pc := 47) (va_runV (As := [.int (nI g9)]) (rest := []) ⟨hx, hb, hml, hown, hts⟩ (c_Mi_keepTrial (l := l) hR hZ (f_Mi_spellTrial Z st j g9 qn) g9 (by omega) _) ⟨callB_of 1 hts (gd_c wd_514) rfl rfl rfl (hts _ wd_3) (hts _ wd_511) hd_Mi_keepTrial ⟨Nat.le_of_ble_eq_true rfl, Nat.le_of_ble_eq_true rfl⟩, hts _ wd_513, hts _ wp_10⟩ ⟨rPc_blind _ _ _ _ _ _ _ _, rg_rec hK hP 5 (by omega) xgx_mixer rfl, rPc_at _ hP hK hN⟩ rfl rfl hl.1 rfl (lv_room (Nat.le_of_ble_eq_true rfl)) d_Mi_leastSpread_47 ⟨Nat.zero_le _, Nat.zero_le _⟩) hS (fun H locs hP hS => ?_)
      refine lv_iinc (v := nI (j + 1)) (lv' := [(4, .int (nI (j + 1))), (2, .int (f_Mi_spreadOfTrial Z (f_Mi_spellTrial Z st j g9 qn) g9)), (5, .int (f_Mi_spreadOfTrial Z (f_Mi_spellTrial Z st j g9 qn) g9)), (0, .ref (ad 5)), (1, .int (nI g9)), (3, .int (nI pn))]) (pc := 50) hx hb d_Mi_leastSpread_50 hl (k := 5) rfl (nI_1 _) (by decide) rfl (fun ls hl => ?_)
      refine lv_goto (tgt := 11) (pc := 53) hx hb d_Mi_leastSpread_53 (by decide) ?_
      have hk9 := hk
      unfold lp_least at hk9
      rw [if_pos c_2] at hk9
      exact ih (j + 1) (f_Mi_spreadOfTrial Z (f_Mi_spellTrial Z st j g9 qn) g9) (f_Mi_keepTrial Z (f_Mi_spellTrial Z st j g9 qn) g9) _ _ ls ⟨by omega, by simp only [keep_fc, spl_fc]; exact hfc, by simp only [keep_fi, spl_fi]; exact hfi⟩ hP hS (lv_sub hl [3, 4, 1, 5, 0] rfl) hk9
    · refine lv_iload (pc := 36) hx hb d_Mi_leastSpread_36 (lv_at hl 0 rfl) ?_
      refine lv_iload_n (pc := 38) hx hb d_Mi_leastSpread_38 rfl (lv_at hl 3 rfl) ?_
      refine lv_icmp_ge (tgt := 50) (pc := 39) hx hb d_Mi_leastSpread_39 (by decide) (fun c_3 => ?_) (fun c_3 => ?_)
      · refine lv_iinc (v := nI (j + 1)) (lv' := [(4, .int (nI (j + 1))), (5, .int (f_Mi_spreadOfTrial Z (f_Mi_spellTrial Z st j g9 qn) g9)), (0, .ref (ad 5)), (1, .int (nI g9)), (2, .int le), (3, .int (nI pn))]) (pc := 50) hx hb d_Mi_leastSpread_50 hl (k := 5) rfl (nI_1 _) (by decide) rfl (fun ls hl => ?_)
        refine lv_goto (tgt := 11) (pc := 53) hx hb d_Mi_leastSpread_53 (by decide) ?_
        have hk9 := hk
        unfold lp_least at hk9
        rw [if_neg c_2, if_pos c_3] at hk9
        exact ih (j + 1) le (f_Mi_spellTrial Z st j g9 qn) _ _ ls ⟨by omega, by simp only [keep_fc, spl_fc]; exact hfc, by simp only [keep_fi, spl_fi]; exact hfi⟩ hP hS (lv_sub hl [2, 3, 4, 5, 0] rfl) hk9
      · refine lv_iload (pc := 42) hx hb d_Mi_leastSpread_42 (lv_at hl 0 rfl) ?_
        refine lv_istore_n (lv' := [(2, .int (f_Mi_spreadOfTrial Z (f_Mi_spellTrial Z st j g9 qn) g9)), (5, .int (f_Mi_spreadOfTrial Z (f_Mi_spellTrial Z st j g9 qn) g9)), (0, .ref (ad 5)), (1, .int (nI g9)), (3, .int (nI pn)), (4, .int (nI j))]) (pc := 44) hx hb d_Mi_leastSpread_44 rfl hl (by decide) rfl (fun ls hl => ?_)
        refine lv_aload_n (pc := 45) hx hb d_Mi_leastSpread_45 rfl (lv_at hl 2 rfl) ?_
        refine lv_iload_n (pc := 46) hx hb d_Mi_leastSpread_46 rfl (lv_at hl 3 rfl) ?_
        refine rg_cv (pc := 47) (va_runV (As := [.int (nI g9)]) (rest := []) ⟨hx, hb, hml, hown, hts⟩ (c_Mi_keepTrial (l := l) hR hZ (f_Mi_spellTrial Z st j g9 qn) g9 (by omega) _) ⟨callB_of 1 hts (gd_c wd_514) rfl rfl rfl (hts _ wd_3) (hts _ wd_511) hd_Mi_keepTrial ⟨Nat.le_of_ble_eq_true rfl, Nat.le_of_ble_eq_true rfl⟩, hts _ wd_513, hts _ wp_10⟩ ⟨rPc_blind _ _ _ _ _ _ _ _, rg_rec hK hP 5 (by omega) xgx_mixer rfl, rPc_at _ hP hK hN⟩ rfl rfl hl.1 rfl (lv_room (Nat.le_of_ble_eq_true rfl)) d_Mi_leastSpread_47 ⟨Nat.zero_le _, Nat.zero_le _⟩) hS (fun H locs hP hS => ?_)
        refine lv_iinc (v := nI (j + 1)) (lv' := [(4, .int (nI (j + 1))), (2, .int (f_Mi_spreadOfTrial Z (f_Mi_spellTrial Z st j g9 qn) g9)), (5, .int (f_Mi_spreadOfTrial Z (f_Mi_spellTrial Z st j g9 qn) g9)), (0, .ref (ad 5)), (1, .int (nI g9)), (3, .int (nI pn))]) (pc := 50) hx hb d_Mi_leastSpread_50 hl (k := 5) rfl (nI_1 _) (by decide) rfl (fun ls hl => ?_)
        refine lv_goto (tgt := 11) (pc := 53) hx hb d_Mi_leastSpread_53 (by decide) ?_
        have hk9 := hk
        unfold lp_least at hk9
        rw [if_neg c_2, if_neg c_3] at hk9
        exact ih (j + 1) (f_Mi_spreadOfTrial Z (f_Mi_spellTrial Z st j g9 qn) g9) (f_Mi_keepTrial Z (f_Mi_spellTrial Z st j g9 qn) g9) _ _ ls ⟨by omega, by simp only [keep_fc, spl_fc]; exact hfc, by simp only [keep_fi, spl_fi]; exact hfi⟩ hP hS (lv_sub hl [3, 4, 1, 5, 0] rfl) hk9
def f_Mi_leastSpread (Z : Nat) (st : xS) (g9 : Nat) (qn : Nat) : Int32 × xS :=
  ((lp_least Z qn g9 (qn ^ g9) (qn ^ g9) 0 (-1) st).1, (lp_least Z qn g9 (qn ^ g9) (qn ^ g9) 0 (-1) st).2)
set_option maxRecDepth 100000 in
set_option maxHeartbeats 4000000 in
theorem c_Mi_leastSpread {l : Launch} {D : va_G} {cA : Nat → ClassId} {Z : Nat} {ad : Nat → Nat} (hR : rD (36 + Z) ad) (hZ : 1 ≤ Z ∧ Z ≤ 6) (st : xS) (g9 : Nat) (hg9 : g9 < 5) (qn : Nat) (hfc : xs_fc st = nI qn) (hq6 : qn ≤ 6) (hfi : ∀ i, i < qn → ix6 (xs_fi st i)) (hg1 : 1 ≤ g9) : RI l y_Mi_leastSpread (mws y_Mi_leastSpread b_Mi_leastSpread 6 (some .int)) ({ frames := 2, cells := 0, slots := 0, locals := 49 } : Room) D clG (tyX cA) (36 + Z) ad (xgx Z ad cA (st)) [.ref (ad 5), .int (nI g9)] (f_Mi_leastSpread Z st g9 qn).1 (xgx Z ad cA ((f_Mi_leastSpread Z st g9 qn).2)) := by
  refine RI_of (cc := b_Mi_leastSpread) (maxL := 6) (ret := (some .int)) (by decide) (Nat.le_of_ble_eq_true rfl) ?_
  intro p e s m args below meth c ls C hK hP hS hl
  obtain ⟨⟨hx, hb, hml, hown, hts⟩, hr, hlocks, hN⟩ := id C
  have hown : s.vm.findClass R_Mi = some m.cls := hown
  have hr : meth.sig.returnType = (some .int) := hr
  have hl : lv_has ls 6 [(0, .ref (ad 5)), (1, .int (nI g9))] := hl
  refine lv_iconst (v := (-1)) (pc := 0) hx hb d_Mi_leastSpread_0 (by decide) ?_
  refine lv_istore_n (lv' := [(2, .int (-1)), (0, .ref (ad 5)), (1, .int (nI g9))]) (pc := 1) hx hb d_Mi_leastSpread_1 rfl hl (by decide) rfl (fun ls hl => ?_)
  refine lv_aload_n (pc := 2) hx hb d_Mi_leastSpread_2 rfl (lv_at hl 1 rfl) ?_
  refine lv_iload_n (pc := 3) hx hb d_Mi_leastSpread_3 rfl (lv_at hl 2 rfl) ?_
  refine rg_ci (pc := 4) (va_runV (As := [.int (nI g9)]) (rest := []) ⟨hx, hb, hml, hown, hts⟩ (c_Mi_countPlans (l := l) hR hZ st g9 (by omega) _) ⟨callB_of 1 hts (gd_c wd_494) rfl rfl rfl (hts _ wd_3) (hts _ wd_491) hd_Mi_countPlans ⟨Nat.le_of_ble_eq_true rfl, Nat.le_of_ble_eq_true rfl⟩, hts _ wd_493, hts _ wp_6⟩ ⟨rPc_blind _ _ _ _ _ _ _ _, rg_rec hK hP 5 (by omega) xgx_mixer rfl, rPc_at _ hP hK hN⟩ rfl rfl hl.1 rfl (lv_room (Nat.le_of_ble_eq_true rfl)) d_Mi_leastSpread_4 ⟨Nat.zero_le _, Nat.zero_le _⟩) hS (fun H locs hP hS => ?_)
  have hpn : qn ^ g9 ≤ 1296 := pw6 hq6 hg9
  rw [show (f_Mi_countPlans Z st g9 : Int32) = nI (qn ^ g9) from cnt_eq hfc]
  refine lv_istore_n (lv' := [(3, .int (nI (qn ^ g9))), (2, .int (-1)), (0, .ref (ad 5)), (1, .int (nI g9))]) (pc := 7) hx hb d_Mi_leastSpread_7 rfl hl (by decide) rfl (fun ls hl => ?_)
  refine lv_iconst (v := 0) (pc := 8) hx hb d_Mi_leastSpread_8 (by decide) ?_
  refine lv_istore (lv' := [(4, .int 0), (3, .int (nI (qn ^ g9))), (2, .int (-1)), (0, .ref (ad 5)), (1, .int (nI g9))]) (pc := 9) hx hb d_Mi_leastSpread_9 hl (by decide) rfl (fun ls hl => ?_)
  refine lp_least_ok hR hZ C hK qn g9 (qn ^ g9) hq6 hg9 hpn (pw0 hg1) (qn ^ g9) 0 (-1) st _ _ ls ⟨by omega, hfc, hfi⟩ hP hS (lv_sub hl [3, 4, 2, 1, 0] rfl) (fun H locs ls hP hS hl => ?_)
  refine lv_iload_n (pc := 56) hx hb d_Mi_leastSpread_56 rfl (lv_at hl 2 rfl) ?_
  have e9 : f_Mi_leastSpread Z st g9 qn = ((lp_least Z qn g9 (qn ^ g9) (qn ^ g9) 0 (-1) st).1, (lp_least Z qn g9 (qn ^ g9) (qn ^ g9) 0 (-1) st).2) := rfl
  exact rg_iret (pc := 57) hx hb hr hlocks hP hS ⟨by rw [e9], by rw [e9]⟩ d_Mi_leastSpread_57

theorem fcI_inc {x : Int32} {j : Nat} (h : x = nI x.toNatClampNeg ∧ x.toNatClampNeg ≤ j) (hj : j < 6) : (x + 1) = nI (x + 1).toNatClampNeg ∧ (x + 1).toNatClampNeg ≤ j + 1 := by
  obtain ⟨h1, h2⟩ := h
  have ee : x + 1 = nI (x.toNatClampNeg + 1) := by
    conv => lhs; rw [h1]
    exact nI_1 _
  have cc : (x + 1).toNatClampNeg = x.toNatClampNeg + 1 := by rw [ee]; exact nI_clamp (by omega)
  exact ⟨by rw [cc]; exact ee, by omega⟩

def lp_look2 (Z : Nat) (c9 : Nat) (t : Int32) : Nat → Nat → xS → xS
  | 0, _, st => st
  | n + 1, j, st =>
    lp_look2 Z c9 t n (j + 1) (xp_ot st c9 j (((((xs_ck st c9 j).toInt64) * 1000) / t.toInt64).toInt32))
set_option maxRecDepth 100000 in
set_option maxHeartbeats 4000000 in
theorem lp_look2_ok {p : Program} {l : Launch} {e : Env} {s : State} {m : MethodId} {args : Array Value} {below : List Frame} {meth : Method} {c : Code} {D : va_G} {cA : Nat → ClassId} {Z : Nat} {ad : Nat → Nat} {Q : State → Prop} (hR : rD (36 + Z) ad) (hZ : 1 ≤ Z ∧ Z ≤ 6) (C : Cx p s m args meth c b_Mi_look 5 R_Mi none) (hK : va_K D clG (tyX cA) s) (c9 : Nat) (t : Int32) (hc9 : c9 < 6) (ht : ¬ t ≤ 0) : ∀ (n : Nat) (j : Nat) (st : xS) (H : Heap) (locs : List Loc) (ls : Array Slot), j + n = 4 → va_P D clG (pw (36 + Z) ad (xgx Z ad cA (st))) H → va_S (rA (36 + Z) ad s.heap.size) s.heap H locs → lv_has ls 5 [(0, .ref (ad 5)), (1, .ref (ad 2)), (2, .int (nI c9)), (3, .int t), (4, .int (nI j))] → (∀ (H : Heap) (locs : List Loc) (ls : Array Slot), va_P D clG (pw (36 + Z) ad (xgx Z ad cA ((lp_look2 Z c9 t n j st)))) H → va_S (rA (36 + Z) ad s.heap.size) s.heap H locs → lv_has ls 5 [(0, .ref (ad 5)), (1, .ref (ad 2)), (2, .int (nI c9)), (3, .int t), (4, .int (nI 4))] → W p l e ({ frames := 1, cells := 0, slots := 0, locals := 22 } : Room) s m args below meth c H locs 0 0 Q (F0 m 72 ls [])) → W p l e ({ frames := 1, cells := 0, slots := 0, locals := 22 } : Room) s m args below meth c H locs 0 0 Q (F0 m 33 ls []) := by
  obtain ⟨⟨hx, hb, hml, hown, hts⟩, hr, hlocks, hN⟩ := id C
  have hown : s.vm.findClass R_Mi = some m.cls := hown
  have hr : meth.sig.returnType = none := hr
  intro n
  induction n with
  | zero =>
    intro j st H locs ls hn hP hS hl hk
    have hj9 : j = 4 := by omega
    refine lv_iload (pc := 33) hx hb d_Mi_look_33 (lv_at hl 4 rfl) ?_
    refine lv_iconst (v := 4) (pc := 35) hx hb d_Mi_look_35 (by decide) ?_
    refine lv_icmp_ge (tgt := 72) (pc := 36) hx hb d_Mi_look_36 (by decide) (fun c_1 => ?_) (fun c_1 => absurd (by rw [hj9]; decide) c_1)
    exact hk H locs ls hP hS (by rw [hj9] at hl; exact lv_sub hl [0, 1, 2, 3, 4] rfl)
  | succ n ih =>
    intro j st H locs ls hn hP hS hl hk
    refine lv_iload (pc := 33) hx hb d_Mi_look_33 (lv_at hl 4 rfl) ?_
    refine lv_iconst (v := 4) (pc := 35) hx hb d_Mi_look_35 (by decide) ?_
    refine lv_icmp_ge (tgt := 72) (pc := 36) hx hb d_Mi_look_36 (by decide) (fun c_1 => absurd c_1 (nI_ge (b := 4) (by omega) (by decide))) (fun c_1 => ?_)
    refine lv_aload_n (pc := 39) hx hb d_Mi_look_39 rfl (lv_at hl 0 rfl) ?_
    refine rg_get (C := R_Mi) (T := T_Mi) (N := 6) (v := .ref (ad 8)) (pc := 40) hx hb hts i_Mi hown hK hP 5 (by omega) xgx_mixer rfl 3 (by decide) (hts _ wd_87) rfl d_Mi_look_40 ?_
    refine lv_iload_n (pc := 43) hx hb d_Mi_look_43 rfl (lv_at hl 2 rfl) ?_
    refine rg_alda (pc := 44) hx hb hK hP 8 (by omega) 5 xgx_ofT rfl c9 (by omega) (by omega) rfl rfl d_Mi_look_44 ?_
    refine lv_iload (pc := 45) hx hb d_Mi_look_45 (lv_at hl 4 rfl) ?_
    refine lv_aload_n (pc := 47) hx hb d_Mi_look_47 rfl (lv_at hl 1 rfl) ?_
    refine lv_iload_n (pc := 48) hx hb d_Mi_look_48 rfl (lv_at hl 2 rfl) ?_
    refine rg_aldq (pc := 49) hx hb hK hP 2 (by omega) 2 xgx_cellsA rfl c9 (by omega) (by omega) rfl rfl d_Mi_look_49 ?_
    refine rg_get (C := R_Ce) (T := T_Ce) (N := 1) (v := .ref (ad (22 + c9))) (pc := 50) hx hb hts i_Ce hown hK hP (16 + c9) (by omega) (xgx_Cell (j := c9) (by omega)) rfl 0 (by decide) (hts _ wd_207) rfl d_Mi_look_50 ?_
    refine lv_iload (pc := 53) hx hb d_Mi_look_53 (lv_at hl 4 rfl) ?_
    refine rg_iald (pc := 55) hx hb hK hP (22 + c9) (by omega) 0 (xgx_Kg (j := c9) (by omega)) rfl j (by omega) (by omega) rfl d_Mi_look_55 ?_
    refine lv_i2l (pc := 56) hx hb d_Mi_look_56 rfl ?_
    refine lv_ldc2 (v := 1000) (pc := 57) hx hb hown (hts _ wd_486) d_Mi_look_57 ?_
    refine lv_lmul (pc := 60) hx hb d_Mi_look_60 ?_
    refine lv_iload_n (pc := 61) hx hb d_Mi_look_61 rfl (lv_at hl 3 rfl) ?_
    refine lv_i2l (pc := 62) hx hb d_Mi_look_62 rfl ?_
    refine lv_ldiv (pc := 63) hx hb d_Mi_look_63 (nz_i2l ht) ?_
    refine lv_l2i (pc := 64) hx hb d_Mi_look_64 rfl ?_
    refine rg_iast (pc := 65) hx hb hK hR hP hS (30 + c9) (by omega) 0 (xgx_Row (j := c9) (by omega)) rfl j (by omega) (by omega) rfl d_Mi_look_65 (xgx_Row_w (j := c9) (by omega) j (((((xs_ck st c9 j).toInt64) * 1000) / t.toInt64).toInt32)) (fun H locs hP hS => ?_)
    refine lv_iinc (v := nI (j + 1)) (lv' := [(4, .int (nI (j + 1))), (0, .ref (ad 5)), (1, .ref (ad 2)), (2, .int (nI c9)), (3, .int t)]) (pc := 66) hx hb d_Mi_look_66 hl (k := 4) rfl (nI_1 _) (by decide) rfl (fun ls hl => ?_)
    refine lv_goto (tgt := 33) (pc := 69) hx hb d_Mi_look_69 (by decide) ?_
    have hk9 := hk
    unfold lp_look2 at hk9
    exact ih (j + 1) (xp_ot st c9 j (((((xs_ck st c9 j).toInt64) * 1000) / t.toInt64).toInt32)) _ _ ls (by omega) hP hS (lv_sub hl [1, 2, 3, 4, 0] rfl) hk9
theorem look2_fc (Z c9 : Nat) (t : Int32) : ∀ (n j : Nat) (st : xS), xs_fc (lp_look2 Z c9 t n j st) = xs_fc st
  | 0, _, _ => rfl
  | n + 1, j, st => by unfold lp_look2; rw [look2_fc Z c9 t n]; rfl
def lp_look (Z : Nat) : Nat → Nat → xS → xS
  | 0, _, st => st
  | n + 1, j, st =>
    if (f_Ce_total Z st j) ≤ 0 then
      lp_look Z n (j + 1) st
    else
      lp_look Z n (j + 1) (xp_fc (xp_fi (lp_look2 Z j (f_Ce_total Z st j) 4 0 st) ((xs_fc (lp_look2 Z j (f_Ce_total Z st j) 4 0 st)).toNatClampNeg) (nI j)) ((xs_fc (xp_fi (lp_look2 Z j (f_Ce_total Z st j) 4 0 st) ((xs_fc (lp_look2 Z j (f_Ce_total Z st j) 4 0 st)).toNatClampNeg) (nI j))) + 1))
set_option maxRecDepth 100000 in
set_option maxHeartbeats 4000000 in
theorem lp_look_ok {p : Program} {l : Launch} {e : Env} {s : State} {m : MethodId} {args : Array Value} {below : List Frame} {meth : Method} {c : Code} {D : va_G} {cA : Nat → ClassId} {Z : Nat} {ad : Nat → Nat} {Q : State → Prop} (hR : rD (36 + Z) ad) (hZ : 1 ≤ Z ∧ Z ≤ 6) (C : Cx p s m args meth c b_Mi_look 5 R_Mi none) (hK : va_K D clG (tyX cA) s) : ∀ (n : Nat) (j : Nat) (st : xS) (H : Heap) (locs : List Loc) (ls : Array Slot), (j + n = 6 ∧ xs_fc st = nI (xs_fc st).toNatClampNeg ∧ (xs_fc st).toNatClampNeg ≤ j) → va_P D clG (pw (36 + Z) ad (xgx Z ad cA (st))) H → va_S (rA (36 + Z) ad s.heap.size) s.heap H locs → lv_has ls 5 [(0, .ref (ad 5)), (1, .ref (ad 2)), (2, .int (nI j))] → (∀ (H : Heap) (locs : List Loc) (ls : Array Slot), va_P D clG (pw (36 + Z) ad (xgx Z ad cA ((lp_look Z n j st)))) H → va_S (rA (36 + Z) ad s.heap.size) s.heap H locs → lv_has ls 5 [(0, .ref (ad 5)), (1, .ref (ad 2)), (2, .int (nI 6))] → W p l e ({ frames := 1, cells := 0, slots := 0, locals := 22 } : Room) s m args below meth c H locs 0 0 Q (F0 m 98 ls [])) → W p l e ({ frames := 1, cells := 0, slots := 0, locals := 22 } : Room) s m args below meth c H locs 0 0 Q (F0 m 7 ls []) := by
  obtain ⟨⟨hx, hb, hml, hown, hts⟩, hr, hlocks, hN⟩ := id C
  have hown : s.vm.findClass R_Mi = some m.cls := hown
  have hr : meth.sig.returnType = none := hr
  intro n
  induction n with
  | zero =>
    intro j st H locs ls hn hP hS hl hk
    obtain ⟨hn, hI⟩ := hn
    have hj9 : j = 6 := by omega
    refine lv_iload_n (pc := 7) hx hb d_Mi_look_7 rfl (lv_at hl 2 rfl) ?_
    refine lv_bipush (v := 6) (pc := 8) hx hb d_Mi_look_8 (by decide) ?_
    refine lv_icmp_ge (tgt := 98) (pc := 10) hx hb d_Mi_look_10 (by decide) (fun c_1 => ?_) (fun c_1 => absurd (by rw [hj9]; decide) c_1)
    exact hk H locs ls hP hS (by rw [hj9] at hl; exact lv_sub hl [0, 1, 2] rfl)
  | succ n ih =>
    intro j st H locs ls hn hP hS hl hk
    obtain ⟨hn, hI⟩ := hn
    refine lv_iload_n (pc := 7) hx hb d_Mi_look_7 rfl (lv_at hl 2 rfl) ?_
    refine lv_bipush (v := 6) (pc := 8) hx hb d_Mi_look_8 (by decide) ?_
    refine lv_icmp_ge (tgt := 98) (pc := 10) hx hb d_Mi_look_10 (by decide) (fun c_1 => absurd c_1 (nI_ge (b := 6) (by omega) (by decide))) (fun c_1 => ?_)
    refine lv_iload_n (pc := 13) hx hb d_Mi_look_13 rfl (lv_at hl 2 rfl) ?_
    refine lv_aload_n (pc := 14) hx hb d_Mi_look_14 rfl (lv_at hl 1 rfl) ?_
    refine rg_alen (v := nI 6) (pc := 15) hx hb hK hP 2 (by omega) 2 xgx_cellsA rfl rfl d_Mi_look_15 ?_
    refine lv_icmp_ge (tgt := 98) (pc := 16) hx hb d_Mi_look_16 (by decide) (fun c_2 => absurd c_2 (nI_ge (b := 6) (by omega) (by decide))) (fun c_2 => ?_)
    refine lv_aload_n (pc := 19) hx hb d_Mi_look_19 rfl (lv_at hl 1 rfl) ?_
    refine lv_iload_n (pc := 20) hx hb d_Mi_look_20 rfl (lv_at hl 2 rfl) ?_
    refine rg_aldq (pc := 21) hx hb hK hP 2 (by omega) 2 xgx_cellsA rfl j (by omega) (by omega) rfl rfl d_Mi_look_21 ?_
    refine rg_ci (pc := 22) (va_runV (As := []) (rest := []) ⟨hx, hb, hml, hown, hts⟩ (c_Ce_total (l := l) hR hZ st j (by omega) _) ⟨callB_of 0 hts (gd_c wd_285) rfl rfl rfl (hts _ wd_7) (hts _ wd_485) hd_Ce_total ⟨Nat.le_of_ble_eq_true rfl, Nat.le_of_ble_eq_true rfl⟩, hts _ wd_283, hts _ wd_284⟩ ⟨rPc_blind _ _ _ _ _ _ _ _, rg_rec hK hP (16 + j) (by omega) (xgx_Cell (j := j) (by omega)) rfl, rPc_at _ hP hK hN⟩ rfl rfl hl.1 rfl (lv_room (Nat.le_of_ble_eq_true rfl)) d_Mi_look_22 ⟨Nat.zero_le _, Nat.zero_le _⟩) hS (fun H locs hP hS => ?_)
    refine lv_istore_n (lv' := [(3, .int (f_Ce_total Z st j)), (0, .ref (ad 5)), (1, .ref (ad 2)), (2, .int (nI j))]) (pc := 25) hx hb d_Mi_look_25 rfl hl (by decide) rfl (fun ls hl => ?_)
    refine lv_iload_n (pc := 26) hx hb d_Mi_look_26 rfl (lv_at hl 0 rfl) ?_
    refine lv_if_le (tgt := 92) (pc := 27) hx hb d_Mi_look_27 (by decide) (fun c_3 => ?_) (fun c_3 => ?_)
    · refine lv_iinc (v := nI (j + 1)) (lv' := [(2, .int (nI (j + 1))), (3, .int (f_Ce_total Z st j)), (0, .ref (ad 5)), (1, .ref (ad 2))]) (pc := 92) hx hb d_Mi_look_92 hl (k := 3) rfl (nI_1 _) (by decide) rfl (fun ls hl => ?_)
      refine lv_goto (tgt := 7) (pc := 95) hx hb d_Mi_look_95 (by decide) ?_
      have hk9 := hk
      unfold lp_look at hk9
      rw [if_pos c_3] at hk9
      exact ih (j + 1) st _ _ ls ⟨by omega, hI.1, Nat.le_succ_of_le hI.2⟩ hP hS (lv_sub hl [2, 3, 0] rfl) hk9
    · refine lv_iconst (v := 0) (pc := 30) hx hb d_Mi_look_30 (by decide) ?_
      refine lv_istore (lv' := [(4, .int 0), (3, .int (f_Ce_total Z st j)), (0, .ref (ad 5)), (1, .ref (ad 2)), (2, .int (nI j))]) (pc := 31) hx hb d_Mi_look_31 hl (by decide) rfl (fun ls hl => ?_)
      refine lp_look2_ok hR hZ C hK j (f_Ce_total Z st j) (by omega) c_3 4 0 st _ _ ls (by omega) hP hS (lv_sub hl [2, 3, 4, 1, 0] rfl) (fun H locs ls hP hS hl => ?_)
      refine lv_aload_n (pc := 72) hx hb d_Mi_look_72 rfl (lv_at hl 0 rfl) ?_
      refine rg_get (C := R_Mi) (T := T_Mi) (N := 6) (v := .ref (ad 9)) (pc := 73) hx hb hts i_Mi hown hK hP 5 (by omega) xgx_mixer rfl 4 (by decide) (hts _ wd_88) rfl d_Mi_look_73 ?_
      refine lv_aload_n (pc := 76) hx hb d_Mi_look_76 rfl (lv_at hl 0 rfl) ?_
      refine rg_get (C := R_Mi) (T := T_Mi) (N := 6) (v := .int (xs_fc (lp_look2 Z j (f_Ce_total Z st j) 4 0 st))) (pc := 77) hx hb hts i_Mi hown hK hP 5 (by omega) xgx_mixer rfl 5 (by decide) (hts _ wd_89) rfl d_Mi_look_77 ?_
      have hf9 : (xs_fc (lp_look2 Z j (f_Ce_total Z st j) 4 0 st)).toNatClampNeg < 6 ∧ xs_fc (lp_look2 Z j (f_Ce_total Z st j) 4 0 st) = nI (xs_fc (lp_look2 Z j (f_Ce_total Z st j) 4 0 st)).toNatClampNeg := by rw [look2_fc]; exact ⟨by omega, hI.1⟩
      have hf8 := hf9.1
      refine lv_iload_n (pc := 80) hx hb d_Mi_look_80 rfl (lv_at hl 2 rfl) ?_
      refine rg_iast (pc := 81) hx hb hK hR hP hS 9 (by omega) 0 xgx_filled rfl ((xs_fc (lp_look2 Z j (f_Ce_total Z st j) 4 0 st)).toNatClampNeg) (by omega) (by omega) hf9.2 d_Mi_look_81 (xgx_filled_w ((xs_fc (lp_look2 Z j (f_Ce_total Z st j) 4 0 st)).toNatClampNeg) (nI j)) (fun H locs hP hS => ?_)
      refine lv_aload_n (pc := 82) hx hb d_Mi_look_82 rfl (lv_at hl 0 rfl) ?_
      refine lv_dup (pc := 83) hx hb d_Mi_look_83 rfl ?_
      refine rg_get (C := R_Mi) (T := T_Mi) (N := 6) (v := .int (xs_fc (xp_fi (lp_look2 Z j (f_Ce_total Z st j) 4 0 st) ((xs_fc (lp_look2 Z j (f_Ce_total Z st j) 4 0 st)).toNatClampNeg) (nI j)))) (pc := 84) hx hb hts i_Mi hown hK hP 5 (by omega) xgx_mixer rfl 5 (by decide) (hts _ wd_89) rfl d_Mi_look_84 ?_
      refine lv_iconst (v := 1) (pc := 87) hx hb d_Mi_look_87 (by decide) ?_
      refine lv_iadd (pc := 88) hx hb d_Mi_look_88 ?_
      refine rg_put (C := R_Mi) (T := T_Mi) (N := 6) (pc := 89) hx hb hts i_Mi t_Mi t_Mi_ok n_Mi hown hK hR hP hS 5 (by omega) xgx_mixer rfl 5 (by decide) (hts _ wd_89) rfl rfl rfl (Nat.le_of_ble_eq_true rfl) d_Mi_look_89 (xgx_mixer_fc ((xs_fc (xp_fi (lp_look2 Z j (f_Ce_total Z st j) 4 0 st) ((xs_fc (lp_look2 Z j (f_Ce_total Z st j) 4 0 st)).toNatClampNeg) (nI j))) + 1)) (fun H locs hP hS => ?_)
      refine lv_iinc (v := nI (j + 1)) (lv' := [(2, .int (nI (j + 1))), (0, .ref (ad 5)), (1, .ref (ad 2)), (3, .int (f_Ce_total Z st j)), (4, .int (nI 4))]) (pc := 92) hx hb d_Mi_look_92 hl (k := 2) rfl (nI_1 _) (by decide) rfl (fun ls hl => ?_)
      refine lv_goto (tgt := 7) (pc := 95) hx hb d_Mi_look_95 (by decide) ?_
      have hk9 := hk
      unfold lp_look at hk9
      rw [if_neg c_3] at hk9
      exact ih (j + 1) (xp_fc (xp_fi (lp_look2 Z j (f_Ce_total Z st j) 4 0 st) ((xs_fc (lp_look2 Z j (f_Ce_total Z st j) 4 0 st)).toNatClampNeg) (nI j)) ((xs_fc (xp_fi (lp_look2 Z j (f_Ce_total Z st j) 4 0 st) ((xs_fc (lp_look2 Z j (f_Ce_total Z st j) 4 0 st)).toNatClampNeg) (nI j))) + 1)) _ _ ls ⟨by omega, by rw [fc_fc, fc_fi, look2_fc]; exact fcI_inc hI (by omega)⟩ hP hS (lv_sub hl [1, 2, 0] rfl) hk9
def f_Mi_look (Z : Nat) (st : xS) : xS :=
  (lp_look Z 6 0 (xp_fc st 0))
set_option maxRecDepth 100000 in
set_option maxHeartbeats 4000000 in
theorem c_Mi_look {l : Launch} {D : va_G} {cA : Nat → ClassId} {Z : Nat} {ad : Nat → Nat} (hR : rD (36 + Z) ad) (hZ : 1 ≤ Z ∧ Z ≤ 6) (st : xS) : RV l y_Mi_look (mws y_Mi_look b_Mi_look 5 none) ({ frames := 1, cells := 0, slots := 0, locals := 22 } : Room) D clG (tyX cA) (36 + Z) ad (xgx Z ad cA (st)) [.ref (ad 5), .ref (ad 2)] (xgx Z ad cA (f_Mi_look Z st)) := by
  refine RV_of (cc := b_Mi_look) (maxL := 5) (ret := none) (by decide) (Nat.le_of_ble_eq_true rfl) ?_
  intro p e s m args below meth c ls C hK hP hS hl
  obtain ⟨⟨hx, hb, hml, hown, hts⟩, hr, hlocks, hN⟩ := id C
  have hown : s.vm.findClass R_Mi = some m.cls := hown
  have hr : meth.sig.returnType = none := hr
  have hl : lv_has ls 5 [(0, .ref (ad 5)), (1, .ref (ad 2))] := hl
  refine lv_aload_n (pc := 0) hx hb d_Mi_look_0 rfl (lv_at hl 0 rfl) ?_
  refine lv_iconst (v := 0) (pc := 1) hx hb d_Mi_look_1 (by decide) ?_
  refine rg_put (C := R_Mi) (T := T_Mi) (N := 6) (pc := 2) hx hb hts i_Mi t_Mi t_Mi_ok n_Mi hown hK hR hP hS 5 (by omega) xgx_mixer rfl 5 (by decide) (hts _ wd_89) rfl rfl rfl (Nat.le_of_ble_eq_true rfl) d_Mi_look_2 (xgx_mixer_fc 0) (fun H locs hP hS => ?_)
  refine lv_iconst (v := 0) (pc := 5) hx hb d_Mi_look_5 (by decide) ?_
  refine lv_istore_n (lv' := [(2, .int 0), (0, .ref (ad 5)), (1, .ref (ad 2))]) (pc := 6) hx hb d_Mi_look_6 rfl hl (by decide) rfl (fun ls hl => ?_)
  refine lp_look_ok hR hZ C hK 6 0 (xp_fc st 0) _ _ ls ⟨by omega, rfl, Nat.le_refl 0⟩ hP hS (lv_sub hl [1, 2, 0] rfl) (fun H locs ls hP hS hl => ?_)
  have e9 : f_Mi_look Z st = (lp_look Z 6 0 (xp_fc st 0)) := rfl
  exact rg_vret (pc := 98) hx hb hr hlocks hP hS (by rw [e9]) d_Mi_look_98
