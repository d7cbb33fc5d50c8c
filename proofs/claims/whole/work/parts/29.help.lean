/-! ===== small rows of memory and numbers ===== -/
theorem mset_eq {μ : Mem} {k j : Nat} {v : Int32} : mset μ k j v k j = v := by
  unfold mset
  rw [if_pos ⟨rfl, rfl⟩]
theorem mset_nj {μ : Mem} {k j k' j' : Nat} {v : Int32} (h : j' ≠ j) : mset μ k j v k' j' = μ k' j' := by
  unfold mset
  rw [if_neg (fun q => h q.2)]
theorem mcopy_ne {μ : Mem} {a sp b dp n k : Nat} (h : k ≠ b) : mcopy μ a sp b dp n k = μ k := by
  funext j
  unfold mcopy
  rw [if_neg (fun q => h q.1)]
theorem mcopy_eq {μ : Mem} {a b n j : Nat} (h : j < n) : mcopy μ a 0 b 0 n b j = μ a j := by
  unfold mcopy
  rw [if_pos ⟨rfl, by omega, by omega⟩]
  rw [Nat.zero_add, Nat.sub_zero]
theorem mcopy_ge {μ : Mem} {a sp b dp n k j : Nat} (h : dp + n ≤ j) : mcopy μ a sp b dp n k j = μ k j := by
  unfold mcopy
  rw [if_neg (fun q => by omega)]
theorem mcopy_in {μ : Mem} {a sp b dp n j : Nat} (h1 : dp ≤ j) (h2 : j < dp + n) : mcopy μ a sp b dp n b j = μ a (sp + (j - dp)) := by
  unfold mcopy
  rw [if_pos ⟨rfl, h1, h2⟩]
theorem inc1 (i : Nat) : nI i + Int32.ofInt 1 = nI (i + 1) := (nI_succ i).symm
theorem nI_le' {a b : Nat} (ha : a < 2 ^ 31) (hb : b < 2 ^ 31) (h : nI a ≤ nI b) : a ≤ b := (nI_le_iff ha hb).mp h
theorem nI_gt' {a b : Nat} (ha : a < 2 ^ 31) (hb : b < 2 ^ 31) (h : ¬ nI a ≤ nI b) : b < a := Nat.not_le.mp (fun q => h ((nI_le_iff ha hb).mpr q))
theorem nI_lt' {a b : Nat} (ha : a < 2 ^ 31) (hb : b < 2 ^ 31) (h : nI a < nI b) : a < b := (nI_lt_iff ha hb).mp h
theorem nI_ge' {a b : Nat} (ha : a < 2 ^ 31) (hb : b < 2 ^ 31) (h : ¬ nI a < nI b) : b ≤ a := Nat.not_lt.mp (fun q => h ((nI_lt_iff ha hb).mpr q))
theorem nI_eq' {a b : Nat} (ha : a < 2 ^ 31) (hb : b < 2 ^ 31) (h : nI a = nI b) : a = b := (nI_inj ha hb).mp h
theorem nI_ne' {a b : Nat} (ha : a < 2 ^ 31) (hb : b < 2 ^ 31) (h : ¬ nI a = nI b) : a ≠ b := fun q => h (by rw [q])
theorem nI_m1 {n : Nat} (h : n < 2 ^ 31) : ¬ nI n = -1 := by
  intro q
  have := nI_pos h
  rw [q] at this
  exact this (by decide)
theorem nI_m1' {n : Nat} (h : n < 2 ^ 31) : ¬ (-1 : Int32) = nI n := fun q => nI_m1 h q.symm
