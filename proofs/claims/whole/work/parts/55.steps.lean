/-! ===== the reader: what the steps come to ===== -/
/-- the steps put v on the stack -/
def Sem (nm : Nat → Int32) (c : List Nat) (v : Int32) : Prop := ∀ S : Stk, (runF nm S c).1 = S.1 + 1 ∧ (runF nm S c).2 S.1 = v ∧ ∀ j, j < S.1 → (runF nm S c).2 j = S.2 j
theorem runF_app (nm : Nat → Int32) (S : Stk) (c d : List Nat) : runF nm S (c ++ d) = runF nm (runF nm S c) d := List.foldl_append
theorem runF_one (nm : Nat → Int32) (S : Stk) (x : Nat) : runF nm S [x] = stpF nm S x := rfl
theorem upd_eq {k : Nat} {x : Int32} {f : Nat → Int32} : upd f k x k = x := if_pos rfl
theorem upd_ne {k j : Nat} {x : Int32} {f : Nat → Int32} (h : j ≠ k) : upd f k x j = f j := if_neg h
theorem Sem_num {nm : Nat → Int32} {x : Nat} (h : x < 10000) : Sem nm [x] (nI x) := by
  intro S
  rw [runF_one]
  unfold stpF
  rw [if_pos h]
  exact ⟨rfl, upd_eq, fun j hj => upd_ne (by omega)⟩
theorem Sem_name {nm : Nat → Int32} {x : Nat} (h1 : 10000 ≤ x) (h : x < 10006) : Sem nm [x] (nm (x - 10000)) := by
  intro S
  rw [runF_one]
  unfold stpF
  rw [if_neg (by omega), if_pos h]
  exact ⟨rfl, upd_eq, fun j hj => upd_ne (by omega)⟩
theorem Sem_un {nm : Nat → Int32} {c : List Nat} {v : Int32} {u : Nat} (h : Sem nm c v) (hu : u = 10010 ∨ u = 10011) : Sem nm (c ++ [u]) (unV u v) := by
  intro S
  obtain ⟨h1, h2, h3⟩ := h S
  rw [runF_app, runF_one]
  generalize runF nm S c = S1 at h1 h2 h3
  unfold stpF
  rw [if_neg (by omega), if_neg (by omega), if_pos (by omega), if_pos (by omega)]
  refine ⟨h1, ?_, fun j hj => ?_⟩
  · show upd S1.2 (S1.1 - 1) (unV u (S1.2 (S1.1 - 1))) S.1 = unV u v
    rw [show S1.1 - 1 = S.1 by omega, upd_eq, h2]
  · show upd S1.2 (S1.1 - 1) (unV u (S1.2 (S1.1 - 1))) j = S.2 j
    rw [upd_ne (by omega)]
    exact h3 j hj
theorem Sem_bin {nm : Nat → Int32} {c d : List Nat} {v v1 : Int32} {u : Nat} (h : Sem nm c v) (g : Sem nm d v1) (h1 : 10012 ≤ u) : Sem nm (c ++ d ++ [u]) (joinV u v v1) := by
  intro S
  obtain ⟨k1, k2, k3⟩ := h S
  rw [runF_app, runF_app, runF_one]
  generalize runF nm S c = S1 at k1 k2 k3
  obtain ⟨g1, g2, g3⟩ := g S1
  generalize runF nm S1 d = S2 at g1 g2 g3
  unfold stpF
  rw [if_neg (by omega), if_neg (by omega), if_neg (by omega), if_pos (by omega)]
  refine ⟨by show S2.1 - 1 = S.1 + 1; omega, ?_, fun j hj => ?_⟩
  · show upd S2.2 (S2.1 - 1 - 1) (joinV u (S2.2 (S2.1 - 1 - 1)) (S2.2 (S2.1 - 1))) S.1 = joinV u v v1
    rw [show S2.1 - 1 - 1 = S.1 by omega, show S2.1 - 1 = S1.1 by omega, upd_eq, g2, g3 S.1 (by omega), k2]
  · show upd S2.2 (S2.1 - 1 - 1) (joinV u (S2.2 (S2.1 - 1 - 1)) (S2.2 (S2.1 - 1))) j = S.2 j
    rw [upd_ne (by omega), g3 j (by omega)]
    exact k3 j hj
theorem stpF_nm {nm nm1 : Nat → Int32} (h : ∀ j, j < 6 → nm j = nm1 j) (S : Stk) (x : Nat) : stpF nm S x = stpF nm1 S x := by
  unfold stpF
  by_cases h1 : x < 10000
  · rw [if_pos h1, if_pos h1]
  · rw [if_neg h1, if_neg h1]
    by_cases h2 : x < 10006
    · rw [if_pos h2, if_pos h2, h _ (by omega)]
    · rw [if_neg h2, if_neg h2]
theorem runF_nm {nm nm1 : Nat → Int32} (h : ∀ j, j < 6 → nm j = nm1 j) : ∀ (c : List Nat) (S : Stk), runF nm S c = runF nm1 S c
  | [], _ => rfl
  | x :: c, S => by
    show runF nm (stpF nm S x) c = runF nm1 (stpF nm1 S x) c
    rw [stpF_nm h, runF_nm h c]
/-- steps that come to one value -/
def SMc (c : List Nat) : Prop := (∀ x ∈ c, x ≤ 10018) ∧ ∀ nm, ∃ v, Sem nm c v
def SMf (g : Nat → PR) : Prop := ∀ a, (g a).1 = true → SMc (g a).2.2
/-- the value that steps come to -/
def vl (nm : Nat → Int32) (c : List Nat) : Int32 := (runF nm (0, fun _ => 0) c).2 0
theorem Sem.vl {nm : Nat → Int32} {c : List Nat} {v : Int32} (h : Sem nm c v) : vl nm c = v := (h (0, fun _ => 0)).2.1
theorem SMc.pure {c : List Nat} (h : SMc c) : Pure1 c := by
  intro nm nm1 g g1 hn
  obtain ⟨v, hv⟩ := h.2 nm1
  rw [runF_nm hn]
  exact (hv (0, g)).2.1.trans (hv (0, g1)).2.1.symm
theorem SMc.sem {c : List Nat} (h : SMc c) (nm : Nat → Int32) : Sem nm c (vl nm c) := by
  obtain ⟨v, hv⟩ := h.2 nm
  rw [hv.vl]
  exact hv
theorem SMc.num {x : Nat} (h : x < 10006) : SMc [x] := by
  refine ⟨fun y hy => by rw [List.mem_singleton.mp hy]; omega, fun nm => ?_⟩
  by_cases h1 : x < 10000
  · exact ⟨_, Sem_num h1⟩
  · exact ⟨_, Sem_name (by omega) h⟩
theorem SMc.un {c : List Nat} {u : Nat} (h : SMc c) (hu : u = 10010 ∨ u = 10011) : SMc (c ++ [u]) := by
  refine ⟨fun y hy => ?_, fun nm => ⟨_, Sem_un (h.sem nm) hu⟩⟩
  rcases List.mem_append.mp hy with h1 | h1
  · exact h.1 y h1
  · rw [List.mem_singleton.mp h1]
    omega
theorem SMc.bin {c d : List Nat} {u : Nat} (h : SMc c) (g : SMc d) (h1 : 10012 ≤ u) (h2 : u ≤ 10018) : SMc (c ++ d ++ [u]) := by
  refine ⟨fun y hy => ?_, fun nm => ⟨_, Sem_bin (h.sem nm) (g.sem nm) h1⟩⟩
  rcases List.mem_append.mp hy with h1 | h1
  · rcases List.mem_append.mp h1 with h1 | h1
    · exact h.1 y h1
    · exact g.1 y h1
  · rw [List.mem_singleton.mp h1]
    exact h2
theorem dgS_dig {b : Nat → Nat} : ∀ (k a j : Nat), a ≤ j → j < dgS b k a → isD (b j)
  | 0, a, j, h1, h2 => by
    rw [dgS] at h2
    omega
  | k + 1, a, j, h1, h2 => by
    rw [dgS] at h2
    split at h2
    · next hd =>
      rcases Nat.lt_or_ge a j with h | h
      · exact dgS_dig k (a + 1) j (by omega) h2
      · obtain rfl : j = a := by omega
        exact hd
    · omega
theorem nvS_lt {b : Nat → Nat} {p : Nat} : ∀ m, (∀ j, j < m → isD (b (p + j))) → nvS b p m < 10 ^ m
  | 0, _ => by
    rw [nvS]
    decide
  | m + 1, h => by
    have ih := nvS_lt (b := b) (p := p) m (fun j hj => h j (by omega))
    have hm := h m (by omega)
    unfold isD at hm
    rw [nvS, Nat.pow_succ]
    omega
theorem lxV_2 {b : Nat → Nat} {n a : Nat} (ht : lxT b n a = 2) : lxV b n a < 10000 ∧ lxV b n a = nvS b (lxP b n a) (dE b n (lxP b n a) - lxP b n a) := by
  unfold lxT at ht
  unfold lxV
  generalize lxP b n a = p at ht
  have hk := kyN_ne b p (wE b n p - p)
  unfold tkA at ht
  split at ht
  · omega
  · split at ht
    · split at ht <;> omega
    · split at ht
      · next h1 h2 h3 =>
        have e : vlA b n p = nvS b p (dE b n p - p) := if_neg h2
        rw [e]
        refine ⟨?_, rfl⟩
        by_cases h4 : 4 < dE b n p - p
        · rw [if_pos h4] at ht
          omega
        · have := nvS_lt (b := b) (p := p) (dE b n p - p) (fun j hj => dgS_dig (n - p) p (p + j) (by omega) (by unfold dE at hj; omega))
          have h10 : 10 ^ (dE b n p - p) ≤ 10 ^ 4 := Nat.pow_le_pow_right (by decide) (by omega)
          omega
      · split at ht
        · next h5 => unfold isS at h5; omega
        · omega
theorem lxV_3 {b : Nat → Nat} {n a : Nat} (ht : lxT b n a = 3) : 10000 ≤ lxV b n a ∧ lxV b n a < 10006 ∧ lxV b n a = 10000 + wdN b (lxP b n a) (wE b n (lxP b n a) - lxP b n a) := by
  unfold lxT at ht
  unfold lxV
  generalize lxP b n a = p at ht
  have hk := kyN_ne b p (wE b n p - p)
  have h6 := wdN_le b p (wE b n p - p)
  unfold tkA at ht
  split at ht
  · omega
  · split at ht
    · next h1 h2 =>
      have e : vlA b n p = 10000 + wdN b p (wE b n p - p) := if_pos h2
      rw [e]
      by_cases h7 : wdN b p (wE b n p - p) = 6
      · rw [if_pos h7] at ht
        omega
      · omega
    · split at ht
      · split at ht <;> omega
      · split at ht
        · next h5 => unfold isS at h5; omega
        · omega
def OPS (ops : Nat → Nat) : Prop := ∀ t, ops t = 0 ∨ (10012 ≤ ops t ∧ ops t ≤ 10018)
theorem opM_o : OPS opM := by
  intro t
  unfold opM
  split <;> omega
theorem opA_o : OPS opA := by
  intro t
  unfold opA
  split
  · omega
  · split <;> omega
theorem opN_o : OPS opN := by
  intro t
  unfold opN
  split <;> omega
theorem opO_o : OPS opO := by
  intro t
  unfold opO
  split <;> omega
theorem lpF_sm {n : Nat} {b : Nat → Nat} {ops : Nat → Nat} {g : Nat → PR} (ho : OPS ops) (hg : SMf g) : ∀ (k a : Nat) (c : List Nat), SMc c → (lpF n b ops g k a c).1 = true → SMc (lpF n b ops g k a c).2.2
  | 0, a, c, hc, _ => hc
  | k + 1, a, c, hc, hf => by
    rw [lpF] at hf ⊢
    by_cases h : ops (lxT b n a) = 0
    · rw [if_pos h]
      exact hc
    · rw [if_neg h] at hf ⊢
      by_cases h2 : (g (lxE b n a)).1 = true
      · rw [if_pos h2] at hf ⊢
        have h3 := (ho (lxT b n a)).resolve_left h
        exact lpF_sm ho hg k _ _ (hc.bin (hg _ h2) h3.1 h3.2) hf
      · rw [if_neg h2] at hf
        exact absurd hf (by simp)
theorem chF_sm {n : Nat} {b : Nat → Nat} {ops : Nat → Nat} {g : Nat → PR} (ho : OPS ops) (hg : SMf g) : SMf (chF n b ops g) := by
  intro a hf
  unfold chF at hf ⊢
  by_cases h : (g a).1 = true
  · rw [if_pos h] at hf ⊢
    exact lpF_sm ho hg _ _ _ (hg a h) hf
  · rw [if_neg h] at hf
    exact absurd hf (by simp)
theorem cmpF_sm {n : Nat} {b : Nat → Nat} {g : Nat → PR} (hg : SMf g) : SMf (cmpF n b g) := by
  intro a hf
  unfold cmpF at hf ⊢
  by_cases h : (g a).1 = true
  · rw [if_pos h] at hf ⊢
    by_cases ht : lxT b n (g a).2.1 = 60 ∨ lxT b n (g a).2.1 = 61
    · rw [if_pos ht] at hf ⊢
      by_cases h2 : (g (lxE b n (g a).2.1)).1 = true
      · rw [if_pos h2] at hf ⊢
        have ho : opC (lxT b n (g a).2.1) = 10015 ∨ opC (lxT b n (g a).2.1) = 10016 := by
          unfold opC
          split <;> omega
        exact (hg a h).bin (hg _ h2) (by omega) (by omega)
      · rw [if_neg h2] at hf
        exact absurd hf (by simp)
    · rw [if_neg ht]
      exact hg a h
  · rw [if_neg h] at hf
    exact absurd hf (by simp)
theorem negF_sm {n : Nat} {b : Nat → Nat} {dp : Bool} {n1 g : Nat → PR} (h1 : SMf n1) (hg : SMf g) : SMf (negF n b dp n1 g) := by
  intro a hf
  unfold negF at hf ⊢
  by_cases ht : lxT b n a = 261
  · rw [if_pos ht] at hf ⊢
    by_cases hd : dp = true
    · rw [if_pos hd] at hf ⊢
      by_cases h2 : (n1 (lxE b n a)).1 = true
      · rw [if_pos h2]
        exact (h1 _ h2).un (Or.inr rfl)
      · rw [if_neg h2] at hf
        exact absurd hf (by simp)
    · rw [if_neg hd] at hf
      exact absurd hf (by simp)
  · rw [if_neg ht] at hf ⊢
    exact hg a hf
theorem oneF_sm {n : Nat} {b : Nat → Nat} {dp : Bool} {o1 e1 : Nat → PR} (h1 : SMf o1) (h2 : SMf e1) : SMf (oneF n b dp o1 e1) := by
  intro a hf
  unfold oneF at hf ⊢
  by_cases ht : lxT b n a = 2 ∨ lxT b n a = 3
  · rw [if_pos ht]
    refine SMc.num ?_
    rcases ht with ht | ht
    · have := (lxV_2 ht).1
      omega
    · exact (lxV_3 ht).2.1
  · rw [if_neg ht] at hf ⊢
    by_cases h45 : dp = true ∧ lxT b n a = 45
    · rw [if_pos h45] at hf ⊢
      by_cases h3 : (o1 (lxE b n a)).1 = true
      · rw [if_pos h3]
        exact (h1 _ h3).un (Or.inl rfl)
      · rw [if_neg h3] at hf
        exact absurd hf (by simp)
    · rw [if_neg h45] at hf ⊢
      by_cases h40 : dp = true ∧ lxT b n a = 40
      · rw [if_pos h40] at hf ⊢
        by_cases h3 : (e1 (lxE b n a)).1 = true ∧ lxT b n (e1 (lxE b n a)).2.1 = 41
        · rw [if_pos h3]
          exact h2 _ h3.1
        · rw [if_neg h3] at hf
          exact absurd hf (by simp)
      · rw [if_neg h40] at hf
        exact absurd hf (by simp)
theorem bad_sm : SMf (fun a => (false, a, [])) := fun a h => absurd h (by simp)
theorem lvF_sm (n : Nat) (b : Nat → Nat) : ∀ d, SMf (lvF n b d).1 ∧ SMf (lvF n b d).2.1 ∧ SMf (lvF n b d).2.2
  | 0 => ⟨oneF_sm bad_sm bad_sm, negF_sm bad_sm (cmpF_sm (chF_sm opA_o (chF_sm opM_o (oneF_sm bad_sm bad_sm)))), chF_sm opO_o (chF_sm opN_o (negF_sm bad_sm (cmpF_sm (chF_sm opA_o (chF_sm opM_o (oneF_sm bad_sm bad_sm))))))⟩
  | d + 1 => by
    obtain ⟨h1, h2, h3⟩ := lvF_sm n b d
    exact ⟨oneF_sm h1 h3, negF_sm h2 (cmpF_sm (chF_sm opA_o (chF_sm opM_o (oneF_sm h1 h3)))), chF_sm opO_o (chF_sm opN_o (negF_sm h2 (cmpF_sm (chF_sm opA_o (chF_sm opM_o (oneF_sm h1 h3))))))⟩
