/-! ===== the reader: what is read, without a machine ===== -/
abbrev PR : Type := Bool × Nat × List Nat
def oneF (n : Nat) (b : Nat → Nat) (dp : Bool) (o1 e1 : Nat → PR) (a : Nat) : PR :=
  if lxT b n a = 2 ∨ lxT b n a = 3 then (true, lxE b n a, [lxV b n a])
  else if dp = true ∧ lxT b n a = 45 then (if (o1 (lxE b n a)).1 = true then (true, (o1 (lxE b n a)).2.1, (o1 (lxE b n a)).2.2 ++ [10010]) else (false, (o1 (lxE b n a)).2.1, []))
  else if dp = true ∧ lxT b n a = 40 then (if (e1 (lxE b n a)).1 = true ∧ lxT b n (e1 (lxE b n a)).2.1 = 41 then (true, lxE b n (e1 (lxE b n a)).2.1, (e1 (lxE b n a)).2.2) else (false, (e1 (lxE b n a)).2.1, []))
  else (false, a, [])
def lpF (n : Nat) (b : Nat → Nat) (ops : Nat → Nat) (g : Nat → PR) : Nat → Nat → List Nat → PR
  | 0, a, c => (true, a, c)
  | k + 1, a, c => if ops (lxT b n a) = 0 then (true, a, c) else if (g (lxE b n a)).1 = true then lpF n b ops g k (g (lxE b n a)).2.1 (c ++ (g (lxE b n a)).2.2 ++ [ops (lxT b n a)]) else (false, (g (lxE b n a)).2.1, [])
def chF (n : Nat) (b : Nat → Nat) (ops : Nat → Nat) (g : Nat → PR) (a : Nat) : PR :=
  if (g a).1 = true then lpF n b ops g n (g a).2.1 (g a).2.2 else (false, (g a).2.1, [])
def opM (t : Nat) : Nat := if t = 42 then 10014 else 0
def opA (t : Nat) : Nat := if t = 43 then 10012 else if t = 45 then 10013 else 0
def opN (t : Nat) : Nat := if t = 260 then 10017 else 0
def opO (t : Nat) : Nat := if t = 259 then 10018 else 0
def opC (t : Nat) : Nat := if t = 60 then 10015 else 10016
def cmpF (n : Nat) (b : Nat → Nat) (g : Nat → PR) (a : Nat) : PR :=
  if (g a).1 = true then (if lxT b n (g a).2.1 = 60 ∨ lxT b n (g a).2.1 = 61 then (if (g (lxE b n (g a).2.1)).1 = true then (true, (g (lxE b n (g a).2.1)).2.1, (g a).2.2 ++ (g (lxE b n (g a).2.1)).2.2 ++ [opC (lxT b n (g a).2.1)]) else (false, (g (lxE b n (g a).2.1)).2.1, [])) else (true, (g a).2.1, (g a).2.2)) else (false, (g a).2.1, [])
def negF (n : Nat) (b : Nat → Nat) (dp : Bool) (n1 g : Nat → PR) (a : Nat) : PR :=
  if lxT b n a = 261 then (if dp = true then (if (n1 (lxE b n a)).1 = true then (true, (n1 (lxE b n a)).2.1, (n1 (lxE b n a)).2.2 ++ [10011]) else (false, (n1 (lxE b n a)).2.1, [])) else (false, a, [])) else g a
/-- one, negation, either, with so many more that may be open -/
def lvF (n : Nat) (b : Nat → Nat) : Nat → (Nat → PR) × (Nat → PR) × (Nat → PR)
  | 0 => (oneF n b false (fun a => (false, a, [])) (fun a => (false, a, [])), negF n b false (fun a => (false, a, [])) (cmpF n b (chF n b opA (chF n b opM (oneF n b false (fun a => (false, a, [])) (fun a => (false, a, [])))))), chF n b opO (chF n b opN (negF n b false (fun a => (false, a, [])) (cmpF n b (chF n b opA (chF n b opM (oneF n b false (fun a => (false, a, [])) (fun a => (false, a, [])))))))))
  | d + 1 => (oneF n b true (lvF n b d).1 (lvF n b d).2.2, negF n b true (lvF n b d).2.1 (cmpF n b (chF n b opA (chF n b opM (oneF n b true (lvF n b d).1 (lvF n b d).2.2)))), chF n b opO (chF n b opN (negF n b true (lvF n b d).2.1 (cmpF n b (chF n b opA (chF n b opM (oneF n b true (lvF n b d).1 (lvF n b d).2.2)))))))
/-- it goes on, and as many steps at most as bytes -/
def GDf (n : Nat) (g : Nat → PR) : Prop := ∀ a, a ≤ n → a ≤ (g a).2.1 ∧ (g a).2.1 ≤ n ∧ ((g a).1 = true → a + (g a).2.2.length ≤ (g a).2.1)
theorem lxT_le (b : Nat → Nat) (n a : Nat) : lxT b n a ≤ 261 := by
  unfold lxT tkA
  have h1 := kyN_le b (lxP b n a) (wE b n (lxP b n a) - lxP b n a)
  split
  · omega
  · split
    · split <;> omega
    · split
      · split <;> omega
      · split
        · next h => unfold isS at h; omega
        · omega
theorem lpF_0 {n : Nat} {b : Nat → Nat} {ops : Nat → Nat} {g : Nat → PR} {k a : Nat} {c : List Nat} (h : ops (lxT b n a) = 0) : lpF n b ops g k a c = (true, a, c) := by
  cases k with
  | zero => rfl
  | succ k => exact if_pos h
theorem lxT_0 {n : Nat} {b : Nat → Nat} {a : Nat} (h : n ≤ a) (ha : a ≤ n) : lxT b n a = 0 := by
  have h1 := lxP_in b ha
  unfold lxT
  exact (tk_end (by omega)).2
theorem lpF_s {n : Nat} {b : Nat → Nat} {ops : Nat → Nat} {g : Nat → PR} {k a : Nat} {c : List Nat} (h : ¬ ops (lxT b n a) = 0) (hk : n ≤ a + k) (ha : a < n) : lpF n b ops g k a c = if (g (lxE b n a)).1 = true then lpF n b ops g (k - 1) (g (lxE b n a)).2.1 (c ++ (g (lxE b n a)).2.2 ++ [ops (lxT b n a)]) else (false, (g (lxE b n a)).2.1, []) := by
  cases k with
  | zero => omega
  | succ k => exact if_neg h
theorem ops_nz {ops : Nat → Nat} {b : Nat → Nat} {n a : Nat} (h0 : ops 0 = 0) (h : ¬ ops (lxT b n a) = 0) : ¬ lxT b n a = 0 := fun q => h (by rw [q, h0])
theorem lpF_gd {n : Nat} {b : Nat → Nat} {ops : Nat → Nat} {g : Nat → PR} (h0 : ops 0 = 0) (hg : GDf n g) : ∀ (k a : Nat) (c : List Nat) (a0 : Nat), a ≤ n → a0 + c.length ≤ a → a ≤ (lpF n b ops g k a c).2.1 ∧ (lpF n b ops g k a c).2.1 ≤ n ∧ ((lpF n b ops g k a c).1 = true → a0 + (lpF n b ops g k a c).2.2.length ≤ (lpF n b ops g k a c).2.1)
  | 0, a, c, a0, ha, hc => ⟨Nat.le_refl _, ha, fun _ => hc⟩
  | k + 1, a, c, a0, ha, hc => by
    rw [lpF]
    by_cases h : ops (lxT b n a) = 0
    · rw [if_pos h]
      exact ⟨Nat.le_refl _, ha, fun _ => hc⟩
    · rw [if_neg h]
      have hE := lxE_in b ha
      have hgo := lxE_go ha (ops_nz h0 h)
      obtain ⟨g1, g2, g3⟩ := hg _ hE.2
      by_cases hf : (g (lxE b n a)).1 = true
      · rw [if_pos hf]
        have g3 := g3 hf
        have ih := lpF_gd (b := b) h0 hg k (g (lxE b n a)).2.1 (c ++ (g (lxE b n a)).2.2 ++ [ops (lxT b n a)]) a0 g2 (by rw [List.length_append, List.length_append]; show a0 + (c.length + (g (lxE b n a)).2.2.length + 1) ≤ _; omega)
        exact ⟨by omega, ih.2.1, ih.2.2⟩
      · rw [if_neg hf]
        exact ⟨by show a ≤ (g (lxE b n a)).2.1; omega, g2, fun q => absurd q (by simp)⟩
theorem chF_gd {n : Nat} {b : Nat → Nat} {ops : Nat → Nat} {g : Nat → PR} (h0 : ops 0 = 0) (hg : GDf n g) : GDf n (chF n b ops g) := by
  intro a ha
  obtain ⟨g1, g2, g3⟩ := hg a ha
  unfold chF
  by_cases hf : (g a).1 = true
  · rw [if_pos hf]
    have ih := lpF_gd (b := b) h0 hg n (g a).2.1 (g a).2.2 a g2 (g3 hf)
    exact ⟨by omega, ih.2.1, ih.2.2⟩
  · rw [if_neg hf]
    exact ⟨g1, g2, fun q => absurd q (by simp)⟩
theorem cmpF_gd {n : Nat} {b : Nat → Nat} {g : Nat → PR} (hg : GDf n g) : GDf n (cmpF n b g) := by
  intro a ha
  obtain ⟨g1, g2, g3⟩ := hg a ha
  unfold cmpF
  by_cases hf : (g a).1 = true
  · rw [if_pos hf]
    have g3 := g3 hf
    by_cases ht : lxT b n (g a).2.1 = 60 ∨ lxT b n (g a).2.1 = 61
    · rw [if_pos ht]
      have hE := lxE_in b g2
      have hgo := lxE_go g2 (show ¬ lxT b n (g a).2.1 = 0 by omega)
      obtain ⟨k1, k2, k3⟩ := hg _ hE.2
      by_cases hf2 : (g (lxE b n (g a).2.1)).1 = true
      · rw [if_pos hf2]
        have k3 := k3 hf2
        refine ⟨by show a ≤ (g (lxE b n (g a).2.1)).2.1; omega, k2, fun _ => ?_⟩
        show a + ((g a).2.2 ++ (g (lxE b n (g a).2.1)).2.2 ++ [opC (lxT b n (g a).2.1)]).length ≤ (g (lxE b n (g a).2.1)).2.1
        rw [List.length_append, List.length_append]
        show a + ((g a).2.2.length + (g (lxE b n (g a).2.1)).2.2.length + 1) ≤ _
        omega
      · rw [if_neg hf2]
        exact ⟨by show a ≤ (g (lxE b n (g a).2.1)).2.1; omega, k2, fun q => absurd q (by simp)⟩
    · rw [if_neg ht]
      exact ⟨g1, g2, fun _ => g3⟩
  · rw [if_neg hf]
    exact ⟨g1, g2, fun q => absurd q (by simp)⟩
theorem negF_gd {n : Nat} {b : Nat → Nat} {dp : Bool} {n1 g : Nat → PR} (h1 : GDf n n1) (hg : GDf n g) : GDf n (negF n b dp n1 g) := by
  intro a ha
  unfold negF
  by_cases ht : lxT b n a = 261
  · rw [if_pos ht]
    by_cases hd : dp = true
    · rw [if_pos hd]
      have hE := lxE_in b ha
      have hgo := lxE_go ha (show ¬ lxT b n a = 0 by omega)
      obtain ⟨k1, k2, k3⟩ := h1 _ hE.2
      by_cases hf2 : (n1 (lxE b n a)).1 = true
      · rw [if_pos hf2]
        have k3 := k3 hf2
        refine ⟨by show a ≤ (n1 (lxE b n a)).2.1; omega, k2, fun _ => ?_⟩
        show a + ((n1 (lxE b n a)).2.2 ++ [10011]).length ≤ (n1 (lxE b n a)).2.1
        rw [List.length_append]
        show a + ((n1 (lxE b n a)).2.2.length + 1) ≤ _
        omega
      · rw [if_neg hf2]
        exact ⟨by show a ≤ (n1 (lxE b n a)).2.1; omega, k2, fun q => absurd q (by simp)⟩
    · rw [if_neg hd]
      exact ⟨Nat.le_refl _, ha, fun q => absurd q (by simp)⟩
  · rw [if_neg ht]
    exact hg a ha
theorem oneF_gd {n : Nat} {b : Nat → Nat} {dp : Bool} {o1 e1 : Nat → PR} (h1 : GDf n o1) (h2 : GDf n e1) : GDf n (oneF n b dp o1 e1) := by
  intro a ha
  have hE := lxE_in b ha
  unfold oneF
  by_cases ht : lxT b n a = 2 ∨ lxT b n a = 3
  · rw [if_pos ht]
    have hgo := lxE_go ha (show ¬ lxT b n a = 0 by omega)
    refine ⟨by show a ≤ lxE b n a; omega, hE.2, fun _ => ?_⟩
    show a + 1 ≤ lxE b n a
    omega
  · rw [if_neg ht]
    by_cases h45 : dp = true ∧ lxT b n a = 45
    · rw [if_pos h45]
      have hgo := lxE_go ha (show ¬ lxT b n a = 0 by omega)
      obtain ⟨k1, k2, k3⟩ := h1 _ hE.2
      by_cases hf2 : (o1 (lxE b n a)).1 = true
      · rw [if_pos hf2]
        have k3 := k3 hf2
        refine ⟨by show a ≤ (o1 (lxE b n a)).2.1; omega, k2, fun _ => ?_⟩
        show a + ((o1 (lxE b n a)).2.2 ++ [10010]).length ≤ (o1 (lxE b n a)).2.1
        rw [List.length_append]
        show a + ((o1 (lxE b n a)).2.2.length + 1) ≤ _
        omega
      · rw [if_neg hf2]
        exact ⟨by show a ≤ (o1 (lxE b n a)).2.1; omega, k2, fun q => absurd q (by simp)⟩
    · rw [if_neg h45]
      by_cases h40 : dp = true ∧ lxT b n a = 40
      · rw [if_pos h40]
        have hgo := lxE_go ha (show ¬ lxT b n a = 0 by omega)
        obtain ⟨k1, k2, k3⟩ := h2 _ hE.2
        by_cases hf2 : (e1 (lxE b n a)).1 = true ∧ lxT b n (e1 (lxE b n a)).2.1 = 41
        · rw [if_pos hf2]
          have k3 := k3 hf2.1
          have hE2 := lxE_in b k2
          refine ⟨by show a ≤ lxE b n (e1 (lxE b n a)).2.1; omega, hE2.2, fun _ => ?_⟩
          show a + (e1 (lxE b n a)).2.2.length ≤ lxE b n (e1 (lxE b n a)).2.1
          omega
        · rw [if_neg hf2]
          exact ⟨by show a ≤ (e1 (lxE b n a)).2.1; omega, k2, fun q => absurd q (by simp)⟩
      · rw [if_neg h40]
        exact ⟨Nat.le_refl _, ha, fun q => absurd q (by simp)⟩
theorem bad_gd (n : Nat) : GDf n (fun a => (false, a, [])) := fun a ha => ⟨Nat.le_refl _, ha, fun q => absurd q (by simp)⟩
theorem lvF_gd (n : Nat) (b : Nat → Nat) : ∀ d, GDf n (lvF n b d).1 ∧ GDf n (lvF n b d).2.1 ∧ GDf n (lvF n b d).2.2
  | 0 => ⟨oneF_gd (bad_gd n) (bad_gd n), negF_gd (bad_gd n) (cmpF_gd (chF_gd rfl (chF_gd rfl (oneF_gd (bad_gd n) (bad_gd n))))), chF_gd rfl (chF_gd rfl (negF_gd (bad_gd n) (cmpF_gd (chF_gd rfl (chF_gd rfl (oneF_gd (bad_gd n) (bad_gd n)))))))⟩
  | d + 1 => by
    obtain ⟨h1, h2, h3⟩ := lvF_gd n b d
    exact ⟨oneF_gd h1 h3, negF_gd h2 (cmpF_gd (chF_gd rfl (chF_gd rfl (oneF_gd h1 h3)))), chF_gd rfl (chF_gd rfl (negF_gd h2 (cmpF_gd (chF_gd rfl (chF_gd rfl (oneF_gd h1 h3))))))⟩
