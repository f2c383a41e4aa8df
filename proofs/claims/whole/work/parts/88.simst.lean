/-! the start -/
def xs0 : xS := (1000, 0, 0, fun _ => 0, fun _ => 0, fun _ => 0, fun _ _ => 0, 0, 500, 0, false, false, 0, 0, 0, 0, 0, 0, fun _ => false, fun _ => 0, fun _ => 0, fun _ => 0, fun _ => 0, fun _ => 0, fun _ => 0, 0, fun _ => 0, fun _ _ => 0, fun _ => 0, 0, 100, 0, 0, 0, 0, 0, 0, 0, fun _ => 0, fun _ => 0, fun _ => 0, fun _ => 0, fun _ => 200)
def ms0 : mS := (fun _ => 0, fun _ => 0, fun _ => 0, 1000, fun _ => 0, fun _ => 0, fun _ => 0, fun _ => 0, fun _ => 0, upd (upd (upd (upd (upd (upd (fun _ => 0) 0 200) 1 200) 2 200) 3 200) 4 200) 5 200, 100, 500, fun _ => 0, fun _ => 0, fun _ => 0, fun _ => 0, fun _ => 0, fun _ => 0, false, 0, 0, false, 0, fun _ => 0, fun _ => 0, 0, fun _ => 0)
theorem sZ_0 : ∀ n, sZ (fun _ => 0) n = 0
  | 0 => rfl
  | n + 1 => by rw [sZ, sZ_0 n, i64z]; rfl
theorem siS_0 {Z : Nat} (hZ : Z ≤ 6) : siS Z 0 xs0 ms0 := by
  refine ⟨⟨?_, ?_, ?_, ?_, ?_, ?_, ?_, ?_, ?_, ?_, ?_, ?_⟩, ?_, ?_, ?_⟩
  · exact ⟨rfl, rfl, fun i _ => ⟨rfl, rfl⟩, fun c i _ _ => rfl, 0, rfl, rfl, by decide, fun i hi => absurd hi (Nat.not_lt_zero _)⟩
  · exact fun i _ => rfl
  · refine ⟨rfl, rfl, rfl, rfl, fun i _ => ⟨rfl, rfl, rfl, rfl⟩, fun j hj => ?_⟩
    rcases (show j = 0 ∨ j = 1 ∨ j = 2 ∨ j = 3 ∨ j = 4 ∨ j = 5 by omega) with rfl | rfl | rfl | rfl | rfl | rfl <;> rfl
  · exact ⟨rfl, rfl, rfl, rfl, rfl⟩
  · exact ⟨rfl, rfl, rfl, rfl, rfl⟩
  · exact fun i _ => ⟨rfl, rfl⟩
  · exact ⟨rfl, fun j _ => rfl⟩
  · exact ⟨rfl, rfl⟩
  · exact fun j _ => ⟨rfl, rfl, rfl⟩
  · exact Int64.add_zero 0
  · exact Int64.add_zero 0
  · exact Int32.add_zero 0
  · refine ⟨by decide, fun i _ => ?_, fun c i _ _ => ?_, fun c _ => ?_⟩
    · show 0 ≤ (0 : Int32).toInt ∧ 0 ≤ (0 : Int32).toInt ∧ (0 : Int32).toInt + (0 : Int32).toInt ≤ 1000
      decide
    · show 0 ≤ (0 : Int32).toInt
      decide
    · show (0 : Int32).toInt + (0 : Int32).toInt + (0 : Int32).toInt + (0 : Int32).toInt ≤ 100000
      decide
  · refine ⟨by decide, fun j _ => ?_⟩
    show 0 ≤ (0 : Int32).toInt ∧ (0 : Int32).toInt ≤ 100000
    decide
  · refine ⟨fun i _ => ?_, fun j _ => ?_, ?_⟩
    · show 0 ≤ (0 : Int32).toInt
      decide
    · show 0 ≤ (0 : Int64).toInt
      decide
    · show sZ (fun _ => 0) Z + (0 : Int32).toInt + (0 : Int32).toInt + (0 : Int32).toInt + (0 : Int32).toInt ≤ 10000 * ((0 : Nat) : Int)
      rw [sZ_0]
      decide
theorem zN_b (a : Int32) : 1 ≤ zN a ∧ zN a ≤ 6 := by
  unfold zN
  by_cases c : f_GL_within a 1 6 = 0
  · rw [if_pos c]; decide
  · rw [if_neg c]
    have c : 1 ≤ a.toInt ∧ a.toInt ≤ 6 := Decidable.not_not.mp (fun q => c ((wi a 1 6).mpr q))
    rw [cln]
    omega
