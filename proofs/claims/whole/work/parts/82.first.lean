/-! ===== the first text: the model's letters, read, are the class's code ===== -/
def b0 (i : Nat) : Nat := ([105, 114, 111, 110, 115, 32, 57, 32, 45, 32, 104, 101, 97, 116, 32, 59, 32, 116, 97, 107, 101, 115, 32, 50, 32, 59, 32, 99, 114, 117, 109, 112, 108, 101, 115, 32, 52, 32, 59, 32] : List Nat).getD i 0
def P0 (e : Nat) : List Nat := match e with
  | 0 => [9, 10002, 10013]
  | 1 => [2]
  | _ => [4]
theorem b0_ok : rdOK 40 b0 := by decide +kernel
theorem b0_0 : rdC 40 b0 0 = P0 0 := by decide +kernel
theorem b0_1 : rdC 40 b0 1 = P0 1 := by decide +kernel
theorem b0_2 : rdC 40 b0 2 = P0 2 := by decide +kernel
theorem b0_e {e : Nat} (h : e < 3) : rdC 40 b0 e = P0 e := by
  match e, h with
  | 0, _ => exact b0_0
  | 1, _ => exact b0_1
  | 2, _ => exact b0_2
theorem b0_lt (i : Nat) : b0 i < 128 := by
  by_cases h : i < 40
  · have h9 : ∀ i, i < 40 → b0 i < 128 := by decide +kernel
    exact h9 i h
  · have e : b0 i = 0 := by
      unfold b0
      rw [List.getD_eq_getElem?_getD, List.getElem?_eq_none (show _ ≤ i by show 40 ≤ i; omega)]
      rfl
    rw [e]
    decide
