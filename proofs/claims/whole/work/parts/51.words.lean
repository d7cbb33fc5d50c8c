/-! ===== the reader: its tokens ===== -/
abbrev isL (x : Nat) : Prop := 97 ≤ x ∧ x ≤ 122
abbrev isD (x : Nat) : Prop := 48 ≤ x ∧ x ≤ 57
abbrev isS (x : Nat) : Prop := x = 40 ∨ x = 41 ∨ x = 42 ∨ x = 43 ∨ x = 45 ∨ x = 59 ∨ x = 60 ∨ x = 61
/-- behind the blanks -/
def skS (b : Nat → Nat) : Nat → Nat → Nat
  | 0, a => a
  | k + 1, a => if b a = 32 ∨ b a = 10 then skS b k (a + 1) else a
/-- behind the letters -/
def lwS (b : Nat → Nat) : Nat → Nat → Nat
  | 0, a => a
  | k + 1, a => if isL (b a) then lwS b k (a + 1) else a
/-- behind the digits -/
def dgS (b : Nat → Nat) : Nat → Nat → Nat
  | 0, a => a
  | k + 1, a => if isD (b a) then dgS b k (a + 1) else a
def nvS (b : Nat → Nat) (a : Nat) : Nat → Nat
  | 0 => 0
  | m + 1 => nvS b a m * 10 + b (a + m) - 48
/-- the m letters from p on are word i -/
abbrev isW (b : Nat → Nat) (p m i : Nat) : Prop := m = kLen i ∧ ∀ j, j < kLen i → nI (b (p + j)) = kAt i j
def wdN (b : Nat → Nat) (p m : Nat) : Nat := if isW b p m 0 then 0 else if isW b p m 1 then 1 else if isW b p m 2 then 2 else if isW b p m 3 then 3 else if isW b p m 4 then 4 else if isW b p m 5 then 5 else 6
def kyN (b : Nat → Nat) (p m : Nat) : Nat := if isW b p m 6 then 256 else if isW b p m 7 then 257 else if isW b p m 8 then 258 else if isW b p m 9 then 259 else if isW b p m 10 then 260 else if isW b p m 11 then 261 else 1
def wdV (k : Nat) : Int32 := if k = 6 then -1 else nI k
def wE (b : Nat → Nat) (n p : Nat) : Nat := lwS b (n - p) p
def dE (b : Nat → Nat) (n p : Nat) : Nat := dgS b (n - p) p
def tkA (b : Nat → Nat) (n p : Nat) : Nat := if n ≤ p then 0 else if isL (b p) then (if wdN b p (wE b n p - p) = 6 then kyN b p (wE b n p - p) else 3) else if isD (b p) then (if 4 < dE b n p - p then 1 else 2) else if isS (b p) then b p else 1
def enA (b : Nat → Nat) (n p : Nat) : Nat := if n ≤ p then p else if isL (b p) then wE b n p else if isD (b p) then dE b n p else p + 1
def vlA (b : Nat → Nat) (n p : Nat) : Nat := if isL (b p) then 10000 + wdN b p (wE b n p - p) else nvS b p (dE b n p - p)
def lxP (b : Nat → Nat) (n a : Nat) : Nat := skS b (n - a) a
def lxT (b : Nat → Nat) (n a : Nat) : Nat := tkA b n (lxP b n a)
def lxE (b : Nat → Nat) (n a : Nat) : Nat := enA b n (lxP b n a)
def lxV (b : Nat → Nat) (n a : Nat) : Nat := vlA b n (lxP b n a)
theorem skS_in (b : Nat → Nat) : ∀ k a, a ≤ skS b k a ∧ skS b k a ≤ a + k
  | 0, a => by
    rw [skS]
    omega
  | k + 1, a => by
    have ih := skS_in b k (a + 1)
    rw [skS]
    split <;> omega
theorem lwS_in (b : Nat → Nat) : ∀ k a, a ≤ lwS b k a ∧ lwS b k a ≤ a + k
  | 0, a => by
    rw [lwS]
    omega
  | k + 1, a => by
    have ih := lwS_in b k (a + 1)
    rw [lwS]
    split <;> omega
theorem dgS_in (b : Nat → Nat) : ∀ k a, a ≤ dgS b k a ∧ dgS b k a ≤ a + k
  | 0, a => by
    rw [dgS]
    omega
  | k + 1, a => by
    have ih := dgS_in b k (a + 1)
    rw [dgS]
    split <;> omega
theorem wE_in {b : Nat → Nat} {n p : Nat} (h : p < n) (hl : isL (b p)) : p < wE b n p ∧ wE b n p ≤ n := by
  have ih := lwS_in b (n - p - 1) (p + 1)
  unfold wE
  rw [show n - p = (n - p - 1) + 1 by omega, lwS, if_pos hl]
  omega
theorem dE_in {b : Nat → Nat} {n p : Nat} (h : p < n) (hl : isD (b p)) : p < dE b n p ∧ dE b n p ≤ n := by
  have ih := dgS_in b (n - p - 1) (p + 1)
  unfold dE
  rw [show n - p = (n - p - 1) + 1 by omega, dgS, if_pos hl]
  omega
theorem lxP_in (b : Nat → Nat) {n a : Nat} (h : a ≤ n) : a ≤ lxP b n a ∧ lxP b n a ≤ n := by
  have := skS_in b (n - a) a
  unfold lxP
  omega
theorem enA_in {b : Nat → Nat} {n p : Nat} (h : p ≤ n) : p ≤ enA b n p ∧ enA b n p ≤ n ∧ (p < n → p < enA b n p) := by
  unfold enA
  split
  · omega
  · split
    · next h1 h2 =>
      have := wE_in (b := b) (n := n) (p := p) (by omega) h2
      omega
    · split
      · next h1 h2 h3 =>
        have := dE_in (b := b) (n := n) (p := p) (by omega) h3
        omega
      · omega
theorem lxE_in (b : Nat → Nat) {n a : Nat} (h : a ≤ n) : a ≤ lxE b n a ∧ lxE b n a ≤ n := by
  have h1 := lxP_in b h
  have h2 := enA_in (b := b) h1.2
  unfold lxE
  omega
/-- a token is no END: something is read -/
theorem lxE_go {b : Nat → Nat} {n a : Nat} (h : a ≤ n) (ht : ¬ lxT b n a = 0) : a < lxE b n a := by
  have h1 := lxP_in b h
  have h2 := enA_in (b := b) h1.2
  unfold lxT tkA at ht
  unfold lxE
  by_cases hn : n ≤ lxP b n a
  · rw [if_pos hn] at ht
    exact absurd rfl ht
  · omega
theorem wdN_le (b : Nat → Nat) (p m : Nat) : wdN b p m ≤ 6 := by
  unfold wdN
  repeat' split
  all_goals decide
theorem kyN_le (b : Nat → Nat) (p m : Nat) : kyN b p m ≤ 261 := by
  unfold kyN
  repeat' split
  all_goals decide
/-- the reader's cell: size, where it is, where its token begins -/
def RP (μ : Mem) (n : Nat) (b : Nat → Nat) (e p : Nat) : Prop := TP μ n b ∧ μ 33 4 = nI e ∧ μ 33 5 = nI p ∧ p ≤ e ∧ e ≤ n
theorem c_X2_isLetter (x : Nat) (hx : x ≤ 255) (μ : Mem) : CA eI yX2_isLetter cX2_isLetter 1 (some .boolean) 0 [.int (nI x)] μ (fun r μ1 => μ1 = μ ∧ ((r = nI 1 ∧ isL x) ∨ (r = nI 0 ∧ ¬ isL x))) := by
  refine CT.of false (by decide) (by decide) (L := [some (.int (nI x))]) rfl (Nat.le_of_ble_eq_true rfl) ?_
  refine g_iload_n (pc := 0) dX2_isLetter_0 rfl ?_
  refine g_bipush (pc := 1) (v := (nI 97)) dX2_isLetter_1 (by decide) ?_
  refine g_icmp_lt (pc := 3) (tgt := 16) dX2_isLetter_3 (by decide) (fun c_3 => ?_) (fun c_3 => ?_)
  · have c3 := nI_lt' (by omega) (by omega) c_3
    refine g_iconst (pc := 16) (v := (nI 0)) dX2_isLetter_16 (by decide) ?_
    refine g_ireturn (pc := 17) dX2_isLetter_17 rfl (by first | rfl | decide) rfl ⟨_, rfl, ?_⟩
    first | exact ⟨rfl, Or.inl ⟨rfl, by omega⟩⟩ | exact ⟨rfl, Or.inr ⟨rfl, by omega⟩⟩
  · have c3 := nI_ge' (by omega) (by omega) c_3
    refine g_iload_n (pc := 6) dX2_isLetter_6 rfl ?_
    refine g_bipush (pc := 7) (v := (nI 122)) dX2_isLetter_7 (by decide) ?_
    refine g_icmp_gt (pc := 9) (tgt := 16) dX2_isLetter_9 (by decide) (fun c_9 => ?_) (fun c_9 => ?_)
    · have c9 := nI_lt' (by omega) (by omega) c_9
      refine g_iconst (pc := 16) (v := (nI 0)) dX2_isLetter_16 (by decide) ?_
      refine g_ireturn (pc := 17) dX2_isLetter_17 rfl (by first | rfl | decide) rfl ⟨_, rfl, ?_⟩
      first | exact ⟨rfl, Or.inl ⟨rfl, by omega⟩⟩ | exact ⟨rfl, Or.inr ⟨rfl, by omega⟩⟩
    · have c9 := nI_ge' (by omega) (by omega) c_9
      refine g_iconst (pc := 12) (v := (nI 1)) dX2_isLetter_12 (by decide) ?_
      refine g_goto (pc := 13) (tgt := 17) dX2_isLetter_13 (by decide) ?_
      refine g_ireturn (pc := 17) dX2_isLetter_17 rfl (by first | rfl | decide) rfl ⟨_, rfl, ?_⟩
      first | exact ⟨rfl, Or.inl ⟨rfl, by omega⟩⟩ | exact ⟨rfl, Or.inr ⟨rfl, by omega⟩⟩
theorem c_X2_isDigit (x : Nat) (hx : x ≤ 255) (μ : Mem) : CA eI yX2_isDigit cX2_isDigit 1 (some .boolean) 0 [.int (nI x)] μ (fun r μ1 => μ1 = μ ∧ ((r = nI 1 ∧ isD x) ∨ (r = nI 0 ∧ ¬ isD x))) := by
  refine CT.of false (by decide) (by decide) (L := [some (.int (nI x))]) rfl (Nat.le_of_ble_eq_true rfl) ?_
  refine g_iload_n (pc := 0) dX2_isDigit_0 rfl ?_
  refine g_bipush (pc := 1) (v := (nI 48)) dX2_isDigit_1 (by decide) ?_
  refine g_icmp_lt (pc := 3) (tgt := 16) dX2_isDigit_3 (by decide) (fun c_3 => ?_) (fun c_3 => ?_)
  · have c3 := nI_lt' (by omega) (by omega) c_3
    refine g_iconst (pc := 16) (v := (nI 0)) dX2_isDigit_16 (by decide) ?_
    refine g_ireturn (pc := 17) dX2_isDigit_17 rfl (by first | rfl | decide) rfl ⟨_, rfl, ?_⟩
    first | exact ⟨rfl, Or.inl ⟨rfl, by omega⟩⟩ | exact ⟨rfl, Or.inr ⟨rfl, by omega⟩⟩
  · have c3 := nI_ge' (by omega) (by omega) c_3
    refine g_iload_n (pc := 6) dX2_isDigit_6 rfl ?_
    refine g_bipush (pc := 7) (v := (nI 57)) dX2_isDigit_7 (by decide) ?_
    refine g_icmp_gt (pc := 9) (tgt := 16) dX2_isDigit_9 (by decide) (fun c_9 => ?_) (fun c_9 => ?_)
    · have c9 := nI_lt' (by omega) (by omega) c_9
      refine g_iconst (pc := 16) (v := (nI 0)) dX2_isDigit_16 (by decide) ?_
      refine g_ireturn (pc := 17) dX2_isDigit_17 rfl (by first | rfl | decide) rfl ⟨_, rfl, ?_⟩
      first | exact ⟨rfl, Or.inl ⟨rfl, by omega⟩⟩ | exact ⟨rfl, Or.inr ⟨rfl, by omega⟩⟩
    · have c9 := nI_ge' (by omega) (by omega) c_9
      refine g_iconst (pc := 12) (v := (nI 1)) dX2_isDigit_12 (by decide) ?_
      refine g_goto (pc := 13) (tgt := 17) dX2_isDigit_13 (by decide) ?_
      refine g_ireturn (pc := 17) dX2_isDigit_17 rfl (by first | rfl | decide) rfl ⟨_, rfl, ?_⟩
      first | exact ⟨rfl, Or.inl ⟨rfl, by omega⟩⟩ | exact ⟨rfl, Or.inr ⟨rfl, by omega⟩⟩
theorem c_X2_isSign (x : Nat) (hx : x ≤ 255) (μ : Mem) : CA eI yX2_isSign cX2_isSign 1 (some .boolean) 0 [.int (nI x)] μ (fun r μ1 => μ1 = μ ∧ ((r = nI 1 ∧ isS x) ∨ (r = nI 0 ∧ ¬ isS x))) := by
  refine CT.of false (by decide) (by decide) (L := [some (.int (nI x))]) rfl (Nat.le_of_ble_eq_true rfl) ?_
  refine g_iload_n (pc := 0) dX2_isSign_0 rfl ?_
  by_cases k_1_40 : nI x = nI 40
  · refine g_tableIn (pc := 1) (off := 103) (tgt := 104) dX2_isSign_1 (by rw [k_1_40]; decide) (by rw [k_1_40]; decide) (by rw [k_1_40]; decide) (by decide) ?_
    obtain rfl := (nI_eq (by omega) (by omega)).mp k_1_40
    refine g_iconst (pc := 104) (v := (nI 1)) dX2_isSign_104 (by decide) ?_
    refine g_ireturn (pc := 105) dX2_isSign_105 rfl (by first | rfl | decide) rfl ⟨_, rfl, ?_⟩
    first | exact ⟨rfl, Or.inl ⟨rfl, by decide⟩⟩ | exact ⟨rfl, Or.inr ⟨rfl, by decide⟩⟩ | exact ⟨rfl, Or.inr ⟨rfl, by omega⟩⟩
  have n_1_40 : ¬ x = 40 := fun h => k_1_40 (by rw [h])
  by_cases k_1_41 : nI x = nI 41
  · refine g_tableIn (pc := 1) (off := 103) (tgt := 104) dX2_isSign_1 (by rw [k_1_41]; decide) (by rw [k_1_41]; decide) (by rw [k_1_41]; decide) (by decide) ?_
    obtain rfl := (nI_eq (by omega) (by omega)).mp k_1_41
    refine g_iconst (pc := 104) (v := (nI 1)) dX2_isSign_104 (by decide) ?_
    refine g_ireturn (pc := 105) dX2_isSign_105 rfl (by first | rfl | decide) rfl ⟨_, rfl, ?_⟩
    first | exact ⟨rfl, Or.inl ⟨rfl, by decide⟩⟩ | exact ⟨rfl, Or.inr ⟨rfl, by decide⟩⟩ | exact ⟨rfl, Or.inr ⟨rfl, by omega⟩⟩
  have n_1_41 : ¬ x = 41 := fun h => k_1_41 (by rw [h])
  by_cases k_1_42 : nI x = nI 42
  · refine g_tableIn (pc := 1) (off := 103) (tgt := 104) dX2_isSign_1 (by rw [k_1_42]; decide) (by rw [k_1_42]; decide) (by rw [k_1_42]; decide) (by decide) ?_
    obtain rfl := (nI_eq (by omega) (by omega)).mp k_1_42
    refine g_iconst (pc := 104) (v := (nI 1)) dX2_isSign_104 (by decide) ?_
    refine g_ireturn (pc := 105) dX2_isSign_105 rfl (by first | rfl | decide) rfl ⟨_, rfl, ?_⟩
    first | exact ⟨rfl, Or.inl ⟨rfl, by decide⟩⟩ | exact ⟨rfl, Or.inr ⟨rfl, by decide⟩⟩ | exact ⟨rfl, Or.inr ⟨rfl, by omega⟩⟩
  have n_1_42 : ¬ x = 42 := fun h => k_1_42 (by rw [h])
  by_cases k_1_43 : nI x = nI 43
  · refine g_tableIn (pc := 1) (off := 103) (tgt := 104) dX2_isSign_1 (by rw [k_1_43]; decide) (by rw [k_1_43]; decide) (by rw [k_1_43]; decide) (by decide) ?_
    obtain rfl := (nI_eq (by omega) (by omega)).mp k_1_43
    refine g_iconst (pc := 104) (v := (nI 1)) dX2_isSign_104 (by decide) ?_
    refine g_ireturn (pc := 105) dX2_isSign_105 rfl (by first | rfl | decide) rfl ⟨_, rfl, ?_⟩
    first | exact ⟨rfl, Or.inl ⟨rfl, by decide⟩⟩ | exact ⟨rfl, Or.inr ⟨rfl, by decide⟩⟩ | exact ⟨rfl, Or.inr ⟨rfl, by omega⟩⟩
  have n_1_43 : ¬ x = 43 := fun h => k_1_43 (by rw [h])
  by_cases k_1_44 : nI x = nI 44
  · refine g_tableIn (pc := 1) (off := 105) (tgt := 106) dX2_isSign_1 (by rw [k_1_44]; decide) (by rw [k_1_44]; decide) (by rw [k_1_44]; decide) (by decide) ?_
    obtain rfl := (nI_eq (by omega) (by omega)).mp k_1_44
    refine g_iconst (pc := 106) (v := (nI 0)) dX2_isSign_106 (by decide) ?_
    refine g_ireturn (pc := 107) dX2_isSign_107 rfl (by first | rfl | decide) rfl ⟨_, rfl, ?_⟩
    first | exact ⟨rfl, Or.inl ⟨rfl, by decide⟩⟩ | exact ⟨rfl, Or.inr ⟨rfl, by decide⟩⟩ | exact ⟨rfl, Or.inr ⟨rfl, by omega⟩⟩
  have n_1_44 : ¬ x = 44 := fun h => k_1_44 (by rw [h])
  by_cases k_1_45 : nI x = nI 45
  · refine g_tableIn (pc := 1) (off := 103) (tgt := 104) dX2_isSign_1 (by rw [k_1_45]; decide) (by rw [k_1_45]; decide) (by rw [k_1_45]; decide) (by decide) ?_
    obtain rfl := (nI_eq (by omega) (by omega)).mp k_1_45
    refine g_iconst (pc := 104) (v := (nI 1)) dX2_isSign_104 (by decide) ?_
    refine g_ireturn (pc := 105) dX2_isSign_105 rfl (by first | rfl | decide) rfl ⟨_, rfl, ?_⟩
    first | exact ⟨rfl, Or.inl ⟨rfl, by decide⟩⟩ | exact ⟨rfl, Or.inr ⟨rfl, by decide⟩⟩ | exact ⟨rfl, Or.inr ⟨rfl, by omega⟩⟩
  have n_1_45 : ¬ x = 45 := fun h => k_1_45 (by rw [h])
  by_cases k_1_46 : nI x = nI 46
  · refine g_tableIn (pc := 1) (off := 105) (tgt := 106) dX2_isSign_1 (by rw [k_1_46]; decide) (by rw [k_1_46]; decide) (by rw [k_1_46]; decide) (by decide) ?_
    obtain rfl := (nI_eq (by omega) (by omega)).mp k_1_46
    refine g_iconst (pc := 106) (v := (nI 0)) dX2_isSign_106 (by decide) ?_
    refine g_ireturn (pc := 107) dX2_isSign_107 rfl (by first | rfl | decide) rfl ⟨_, rfl, ?_⟩
    first | exact ⟨rfl, Or.inl ⟨rfl, by decide⟩⟩ | exact ⟨rfl, Or.inr ⟨rfl, by decide⟩⟩ | exact ⟨rfl, Or.inr ⟨rfl, by omega⟩⟩
  have n_1_46 : ¬ x = 46 := fun h => k_1_46 (by rw [h])
  by_cases k_1_47 : nI x = nI 47
  · refine g_tableIn (pc := 1) (off := 105) (tgt := 106) dX2_isSign_1 (by rw [k_1_47]; decide) (by rw [k_1_47]; decide) (by rw [k_1_47]; decide) (by decide) ?_
    obtain rfl := (nI_eq (by omega) (by omega)).mp k_1_47
    refine g_iconst (pc := 106) (v := (nI 0)) dX2_isSign_106 (by decide) ?_
    refine g_ireturn (pc := 107) dX2_isSign_107 rfl (by first | rfl | decide) rfl ⟨_, rfl, ?_⟩
    first | exact ⟨rfl, Or.inl ⟨rfl, by decide⟩⟩ | exact ⟨rfl, Or.inr ⟨rfl, by decide⟩⟩ | exact ⟨rfl, Or.inr ⟨rfl, by omega⟩⟩
  have n_1_47 : ¬ x = 47 := fun h => k_1_47 (by rw [h])
  by_cases k_1_48 : nI x = nI 48
  · refine g_tableIn (pc := 1) (off := 105) (tgt := 106) dX2_isSign_1 (by rw [k_1_48]; decide) (by rw [k_1_48]; decide) (by rw [k_1_48]; decide) (by decide) ?_
    obtain rfl := (nI_eq (by omega) (by omega)).mp k_1_48
    refine g_iconst (pc := 106) (v := (nI 0)) dX2_isSign_106 (by decide) ?_
    refine g_ireturn (pc := 107) dX2_isSign_107 rfl (by first | rfl | decide) rfl ⟨_, rfl, ?_⟩
    first | exact ⟨rfl, Or.inl ⟨rfl, by decide⟩⟩ | exact ⟨rfl, Or.inr ⟨rfl, by decide⟩⟩ | exact ⟨rfl, Or.inr ⟨rfl, by omega⟩⟩
  have n_1_48 : ¬ x = 48 := fun h => k_1_48 (by rw [h])
  by_cases k_1_49 : nI x = nI 49
  · refine g_tableIn (pc := 1) (off := 105) (tgt := 106) dX2_isSign_1 (by rw [k_1_49]; decide) (by rw [k_1_49]; decide) (by rw [k_1_49]; decide) (by decide) ?_
    obtain rfl := (nI_eq (by omega) (by omega)).mp k_1_49
    refine g_iconst (pc := 106) (v := (nI 0)) dX2_isSign_106 (by decide) ?_
    refine g_ireturn (pc := 107) dX2_isSign_107 rfl (by first | rfl | decide) rfl ⟨_, rfl, ?_⟩
    first | exact ⟨rfl, Or.inl ⟨rfl, by decide⟩⟩ | exact ⟨rfl, Or.inr ⟨rfl, by decide⟩⟩ | exact ⟨rfl, Or.inr ⟨rfl, by omega⟩⟩
  have n_1_49 : ¬ x = 49 := fun h => k_1_49 (by rw [h])
  by_cases k_1_50 : nI x = nI 50
  · refine g_tableIn (pc := 1) (off := 105) (tgt := 106) dX2_isSign_1 (by rw [k_1_50]; decide) (by rw [k_1_50]; decide) (by rw [k_1_50]; decide) (by decide) ?_
    obtain rfl := (nI_eq (by omega) (by omega)).mp k_1_50
    refine g_iconst (pc := 106) (v := (nI 0)) dX2_isSign_106 (by decide) ?_
    refine g_ireturn (pc := 107) dX2_isSign_107 rfl (by first | rfl | decide) rfl ⟨_, rfl, ?_⟩
    first | exact ⟨rfl, Or.inl ⟨rfl, by decide⟩⟩ | exact ⟨rfl, Or.inr ⟨rfl, by decide⟩⟩ | exact ⟨rfl, Or.inr ⟨rfl, by omega⟩⟩
  have n_1_50 : ¬ x = 50 := fun h => k_1_50 (by rw [h])
  by_cases k_1_51 : nI x = nI 51
  · refine g_tableIn (pc := 1) (off := 105) (tgt := 106) dX2_isSign_1 (by rw [k_1_51]; decide) (by rw [k_1_51]; decide) (by rw [k_1_51]; decide) (by decide) ?_
    obtain rfl := (nI_eq (by omega) (by omega)).mp k_1_51
    refine g_iconst (pc := 106) (v := (nI 0)) dX2_isSign_106 (by decide) ?_
    refine g_ireturn (pc := 107) dX2_isSign_107 rfl (by first | rfl | decide) rfl ⟨_, rfl, ?_⟩
    first | exact ⟨rfl, Or.inl ⟨rfl, by decide⟩⟩ | exact ⟨rfl, Or.inr ⟨rfl, by decide⟩⟩ | exact ⟨rfl, Or.inr ⟨rfl, by omega⟩⟩
  have n_1_51 : ¬ x = 51 := fun h => k_1_51 (by rw [h])
  by_cases k_1_52 : nI x = nI 52
  · refine g_tableIn (pc := 1) (off := 105) (tgt := 106) dX2_isSign_1 (by rw [k_1_52]; decide) (by rw [k_1_52]; decide) (by rw [k_1_52]; decide) (by decide) ?_
    obtain rfl := (nI_eq (by omega) (by omega)).mp k_1_52
    refine g_iconst (pc := 106) (v := (nI 0)) dX2_isSign_106 (by decide) ?_
    refine g_ireturn (pc := 107) dX2_isSign_107 rfl (by first | rfl | decide) rfl ⟨_, rfl, ?_⟩
    first | exact ⟨rfl, Or.inl ⟨rfl, by decide⟩⟩ | exact ⟨rfl, Or.inr ⟨rfl, by decide⟩⟩ | exact ⟨rfl, Or.inr ⟨rfl, by omega⟩⟩
  have n_1_52 : ¬ x = 52 := fun h => k_1_52 (by rw [h])
  by_cases k_1_53 : nI x = nI 53
  · refine g_tableIn (pc := 1) (off := 105) (tgt := 106) dX2_isSign_1 (by rw [k_1_53]; decide) (by rw [k_1_53]; decide) (by rw [k_1_53]; decide) (by decide) ?_
    obtain rfl := (nI_eq (by omega) (by omega)).mp k_1_53
    refine g_iconst (pc := 106) (v := (nI 0)) dX2_isSign_106 (by decide) ?_
    refine g_ireturn (pc := 107) dX2_isSign_107 rfl (by first | rfl | decide) rfl ⟨_, rfl, ?_⟩
    first | exact ⟨rfl, Or.inl ⟨rfl, by decide⟩⟩ | exact ⟨rfl, Or.inr ⟨rfl, by decide⟩⟩ | exact ⟨rfl, Or.inr ⟨rfl, by omega⟩⟩
  have n_1_53 : ¬ x = 53 := fun h => k_1_53 (by rw [h])
  by_cases k_1_54 : nI x = nI 54
  · refine g_tableIn (pc := 1) (off := 105) (tgt := 106) dX2_isSign_1 (by rw [k_1_54]; decide) (by rw [k_1_54]; decide) (by rw [k_1_54]; decide) (by decide) ?_
    obtain rfl := (nI_eq (by omega) (by omega)).mp k_1_54
    refine g_iconst (pc := 106) (v := (nI 0)) dX2_isSign_106 (by decide) ?_
    refine g_ireturn (pc := 107) dX2_isSign_107 rfl (by first | rfl | decide) rfl ⟨_, rfl, ?_⟩
    first | exact ⟨rfl, Or.inl ⟨rfl, by decide⟩⟩ | exact ⟨rfl, Or.inr ⟨rfl, by decide⟩⟩ | exact ⟨rfl, Or.inr ⟨rfl, by omega⟩⟩
  have n_1_54 : ¬ x = 54 := fun h => k_1_54 (by rw [h])
  by_cases k_1_55 : nI x = nI 55
  · refine g_tableIn (pc := 1) (off := 105) (tgt := 106) dX2_isSign_1 (by rw [k_1_55]; decide) (by rw [k_1_55]; decide) (by rw [k_1_55]; decide) (by decide) ?_
    obtain rfl := (nI_eq (by omega) (by omega)).mp k_1_55
    refine g_iconst (pc := 106) (v := (nI 0)) dX2_isSign_106 (by decide) ?_
    refine g_ireturn (pc := 107) dX2_isSign_107 rfl (by first | rfl | decide) rfl ⟨_, rfl, ?_⟩
    first | exact ⟨rfl, Or.inl ⟨rfl, by decide⟩⟩ | exact ⟨rfl, Or.inr ⟨rfl, by decide⟩⟩ | exact ⟨rfl, Or.inr ⟨rfl, by omega⟩⟩
  have n_1_55 : ¬ x = 55 := fun h => k_1_55 (by rw [h])
  by_cases k_1_56 : nI x = nI 56
  · refine g_tableIn (pc := 1) (off := 105) (tgt := 106) dX2_isSign_1 (by rw [k_1_56]; decide) (by rw [k_1_56]; decide) (by rw [k_1_56]; decide) (by decide) ?_
    obtain rfl := (nI_eq (by omega) (by omega)).mp k_1_56
    refine g_iconst (pc := 106) (v := (nI 0)) dX2_isSign_106 (by decide) ?_
    refine g_ireturn (pc := 107) dX2_isSign_107 rfl (by first | rfl | decide) rfl ⟨_, rfl, ?_⟩
    first | exact ⟨rfl, Or.inl ⟨rfl, by decide⟩⟩ | exact ⟨rfl, Or.inr ⟨rfl, by decide⟩⟩ | exact ⟨rfl, Or.inr ⟨rfl, by omega⟩⟩
  have n_1_56 : ¬ x = 56 := fun h => k_1_56 (by rw [h])
  by_cases k_1_57 : nI x = nI 57
  · refine g_tableIn (pc := 1) (off := 105) (tgt := 106) dX2_isSign_1 (by rw [k_1_57]; decide) (by rw [k_1_57]; decide) (by rw [k_1_57]; decide) (by decide) ?_
    obtain rfl := (nI_eq (by omega) (by omega)).mp k_1_57
    refine g_iconst (pc := 106) (v := (nI 0)) dX2_isSign_106 (by decide) ?_
    refine g_ireturn (pc := 107) dX2_isSign_107 rfl (by first | rfl | decide) rfl ⟨_, rfl, ?_⟩
    first | exact ⟨rfl, Or.inl ⟨rfl, by decide⟩⟩ | exact ⟨rfl, Or.inr ⟨rfl, by decide⟩⟩ | exact ⟨rfl, Or.inr ⟨rfl, by omega⟩⟩
  have n_1_57 : ¬ x = 57 := fun h => k_1_57 (by rw [h])
  by_cases k_1_58 : nI x = nI 58
  · refine g_tableIn (pc := 1) (off := 105) (tgt := 106) dX2_isSign_1 (by rw [k_1_58]; decide) (by rw [k_1_58]; decide) (by rw [k_1_58]; decide) (by decide) ?_
    obtain rfl := (nI_eq (by omega) (by omega)).mp k_1_58
    refine g_iconst (pc := 106) (v := (nI 0)) dX2_isSign_106 (by decide) ?_
    refine g_ireturn (pc := 107) dX2_isSign_107 rfl (by first | rfl | decide) rfl ⟨_, rfl, ?_⟩
    first | exact ⟨rfl, Or.inl ⟨rfl, by decide⟩⟩ | exact ⟨rfl, Or.inr ⟨rfl, by decide⟩⟩ | exact ⟨rfl, Or.inr ⟨rfl, by omega⟩⟩
  have n_1_58 : ¬ x = 58 := fun h => k_1_58 (by rw [h])
  by_cases k_1_59 : nI x = nI 59
  · refine g_tableIn (pc := 1) (off := 103) (tgt := 104) dX2_isSign_1 (by rw [k_1_59]; decide) (by rw [k_1_59]; decide) (by rw [k_1_59]; decide) (by decide) ?_
    obtain rfl := (nI_eq (by omega) (by omega)).mp k_1_59
    refine g_iconst (pc := 104) (v := (nI 1)) dX2_isSign_104 (by decide) ?_
    refine g_ireturn (pc := 105) dX2_isSign_105 rfl (by first | rfl | decide) rfl ⟨_, rfl, ?_⟩
    first | exact ⟨rfl, Or.inl ⟨rfl, by decide⟩⟩ | exact ⟨rfl, Or.inr ⟨rfl, by decide⟩⟩ | exact ⟨rfl, Or.inr ⟨rfl, by omega⟩⟩
  have n_1_59 : ¬ x = 59 := fun h => k_1_59 (by rw [h])
  by_cases k_1_60 : nI x = nI 60
  · refine g_tableIn (pc := 1) (off := 103) (tgt := 104) dX2_isSign_1 (by rw [k_1_60]; decide) (by rw [k_1_60]; decide) (by rw [k_1_60]; decide) (by decide) ?_
    obtain rfl := (nI_eq (by omega) (by omega)).mp k_1_60
    refine g_iconst (pc := 104) (v := (nI 1)) dX2_isSign_104 (by decide) ?_
    refine g_ireturn (pc := 105) dX2_isSign_105 rfl (by first | rfl | decide) rfl ⟨_, rfl, ?_⟩
    first | exact ⟨rfl, Or.inl ⟨rfl, by decide⟩⟩ | exact ⟨rfl, Or.inr ⟨rfl, by decide⟩⟩ | exact ⟨rfl, Or.inr ⟨rfl, by omega⟩⟩
  have n_1_60 : ¬ x = 60 := fun h => k_1_60 (by rw [h])
  by_cases k_1_61 : nI x = nI 61
  · refine g_tableIn (pc := 1) (off := 103) (tgt := 104) dX2_isSign_1 (by rw [k_1_61]; decide) (by rw [k_1_61]; decide) (by rw [k_1_61]; decide) (by decide) ?_
    obtain rfl := (nI_eq (by omega) (by omega)).mp k_1_61
    refine g_iconst (pc := 104) (v := (nI 1)) dX2_isSign_104 (by decide) ?_
    refine g_ireturn (pc := 105) dX2_isSign_105 rfl (by first | rfl | decide) rfl ⟨_, rfl, ?_⟩
    first | exact ⟨rfl, Or.inl ⟨rfl, by decide⟩⟩ | exact ⟨rfl, Or.inr ⟨rfl, by decide⟩⟩ | exact ⟨rfl, Or.inr ⟨rfl, by omega⟩⟩
  have n_1_61 : ¬ x = 61 := fun h => k_1_61 (by rw [h])
  have kd_1 : (nI x).toInt < 40 ∨ 61 < (nI x).toInt := by
    have w_40 := lv_neT (a := 40) k_1_40 (by decide)
    have w_41 := lv_neT (a := 41) k_1_41 (by decide)
    have w_42 := lv_neT (a := 42) k_1_42 (by decide)
    have w_43 := lv_neT (a := 43) k_1_43 (by decide)
    have w_44 := lv_neT (a := 44) k_1_44 (by decide)
    have w_45 := lv_neT (a := 45) k_1_45 (by decide)
    have w_46 := lv_neT (a := 46) k_1_46 (by decide)
    have w_47 := lv_neT (a := 47) k_1_47 (by decide)
    have w_48 := lv_neT (a := 48) k_1_48 (by decide)
    have w_49 := lv_neT (a := 49) k_1_49 (by decide)
    have w_50 := lv_neT (a := 50) k_1_50 (by decide)
    have w_51 := lv_neT (a := 51) k_1_51 (by decide)
    have w_52 := lv_neT (a := 52) k_1_52 (by decide)
    have w_53 := lv_neT (a := 53) k_1_53 (by decide)
    have w_54 := lv_neT (a := 54) k_1_54 (by decide)
    have w_55 := lv_neT (a := 55) k_1_55 (by decide)
    have w_56 := lv_neT (a := 56) k_1_56 (by decide)
    have w_57 := lv_neT (a := 57) k_1_57 (by decide)
    have w_58 := lv_neT (a := 58) k_1_58 (by decide)
    have w_59 := lv_neT (a := 59) k_1_59 (by decide)
    have w_60 := lv_neT (a := 60) k_1_60 (by decide)
    have w_61 := lv_neT (a := 61) k_1_61 (by decide)
    omega
  refine g_tableOut (pc := 1) (tgt := 106) dX2_isSign_1 kd_1 (by decide) ?_
  refine g_iconst (pc := 106) (v := (nI 0)) dX2_isSign_106 (by decide) ?_
  refine g_ireturn (pc := 107) dX2_isSign_107 rfl (by first | rfl | decide) rfl ⟨_, rfl, ?_⟩
  first | exact ⟨rfl, Or.inl ⟨rfl, by decide⟩⟩ | exact ⟨rfl, Or.inr ⟨rfl, by decide⟩⟩ | exact ⟨rfl, Or.inr ⟨rfl, by omega⟩⟩
theorem kLen_le : ∀ i, i < 12 → kLen i ≤ 8 ∧ 2 ≤ kLen i := by decide
theorem c_X2_isWord (i : Nat) (hi : i < 12) (μ : Mem) (n : Nat) (b : Nat → Nat) (e p : Nat) (hR : RP μ n b e p) : CA eI yX2_isWord cX2_isWord 4 (some .boolean) 4 [.ref 33, .ref (100010 + i)] μ (fun r μ1 => μ1 = μ ∧ ((r = nI 1 ∧ isW b p (e - p) i) ∨ (r = nI 0 ∧ ¬ isW b p (e - p) i))) := by
  obtain ⟨hR1, hR2, hR3, hR4, hR5⟩ := hR
  have hkl := kLen_le i hi
  have h160 := hR1.2.1
  refine CT.of false (by decide) (by decide) (L := [some (.ref 33), some (.ref (100010 + i)), none, none]) rfl (Nat.le_of_ble_eq_true rfl) ?_
  refine g_aload_n (pc := 0) dX2_isWord_0 rfl ?_
  refine v_geti (pc := 1) fl_X2_25 dX2_isWord_1 (by first | rfl | assumption) rfl hR2 ?_
  refine g_aload_n (pc := 4) dX2_isWord_4 rfl ?_
  refine v_geti (pc := 5) fl_X2_36 dX2_isWord_5 (by first | rfl | assumption) rfl hR3 ?_
  refine v_isub (pc := 8) dX2_isWord_8 (pk_sub hR4) ?_
  refine g_aload_n (pc := 9) dX2_isWord_9 rfl ?_
  refine g_callK (pc := 10) (As := []) (c_J0_length i hi μ) hi m_J0_length_8abf5 ml_X2_118 (by omega) rfl rfl rfl (Nat.le_of_ble_eq_true rfl) dX2_isWord_10 (fun x_10 μ_10 h_10 => ?_)
  obtain ⟨rfl, hm_10⟩ := h_10
  have hm_10 := hm_10.symm
  subst hm_10
  refine g_icmp_ne (pc := 13) (tgt := 20) dX2_isWord_13 (by decide) (fun c_13 => ?_) (fun c_13 => ?_)
  · have c13 : ¬ e - p = kLen i := fun h => c_13 (by rw [h])
    have hs0 : (nI 0 = nI 1 ∧ e - p = kLen i ∧ ∀ j, j < 0 → nI (b (p + j)) = kAt i j) ∨ (nI 0 = nI 0 ∧ ¬ isW b p (e - p) i) := Or.inr ⟨rfl, fun h => c13 h.1⟩
    refine g_iconst (pc := 20) (v := (nI 0)) dX2_isWord_20 (by decide) ?_
    skip
    refine a_ist2 (pc := 21) dX2_isWord_21 (by decide) rfl ?_
    refine g_iconst (pc := 22) (v := (nI 0)) dX2_isWord_22 (by decide) ?_
    refine a_ist3 (pc := 23) dX2_isWord_23 (by decide) rfl ?_
    have lp24 : ∀ (zz : Nat) (k : Nat) (hk : k ≤ kLen i) (s : Int32) (hs : (s = nI 1 ∧ e - p = kLen i ∧ ∀ j, j < k → nI (b (p + j)) = kAt i j) ∨ (s = nI 0 ∧ ¬ isW b p (e - p) i)), kLen i - k = zz → WG eI yX2_isWord.cls cX2_isWord 4 (some .boolean) false (fun _ _ => True) 4 (mpost (fun r μ1 => μ1 = μ ∧ ((r = nI 1 ∧ isW b p (e - p) i) ∨ (r = nI 0 ∧ ¬ isW b p (e - p) i)))) 0 0 24 [some (.ref 33), some (.ref (100010 + i)), some (.int s), some (.int (nI k))] [] (mk μ) := by
      intro zz
      induction zz using Nat.strongRecOn with
      | ind zz ih =>
        intro k hk s hs hzz
        refine g_iload_n (pc := 24) dX2_isWord_24 rfl ?_
        refine g_if_eq (pc := 25) (tgt := 67) dX2_isWord_25 (by decide) (fun c_25 => ?_) (fun c_25 => ?_)
        · have hno : s = nI 0 ∧ ¬ isW b p (e - p) i := by
            rcases hs with ⟨h, -⟩ | h
            · rw [h] at c_25
              exact absurd c_25 (by decide)
            · exact h
          obtain ⟨rfl, hno⟩ := hno
          refine g_iload_n (pc := 67) dX2_isWord_67 rfl ?_
          refine g_ireturn (pc := 68) dX2_isWord_68 rfl (by first | rfl | decide) rfl ⟨_, rfl, ?_⟩
          first | exact ⟨rfl, Or.inr ⟨rfl, hno⟩⟩ | exact ⟨rfl, Or.inl ⟨rfl, hyes⟩⟩
        · have hyes : s = nI 1 ∧ e - p = kLen i ∧ ∀ j, j < k → nI (b (p + j)) = kAt i j := by
            rcases hs with h | ⟨h, -⟩
            · exact h
            · rw [h] at c_25
              exact absurd rfl c_25
          obtain ⟨rfl, hy1, hy2⟩ := hyes
          refine g_iload_n (pc := 28) dX2_isWord_28 rfl ?_
          refine g_aload_n (pc := 29) dX2_isWord_29 rfl ?_
          refine g_callK (pc := 30) (As := []) (c_J0_length i hi μ) hi m_J0_length_8abf5 ml_X2_118 (by omega) rfl rfl rfl (Nat.le_of_ble_eq_true rfl) dX2_isWord_30 (fun x_30 μ_30 h_30 => ?_)
          obtain ⟨rfl, hm_30⟩ := h_30
          have hm_30 := hm_30.symm
          subst hm_30
          refine g_icmp_ge (pc := 33) (tgt := 67) dX2_isWord_33 (by decide) (fun c_33 => ?_) (fun c_33 => ?_)
          · have c33 := nI_le' (by omega) (by omega) c_33
            have hyes : isW b p (e - p) i := ⟨hy1, fun j hj => hy2 j (by omega)⟩
            refine g_iload_n (pc := 67) dX2_isWord_67 rfl ?_
            refine g_ireturn (pc := 68) dX2_isWord_68 rfl (by first | rfl | decide) rfl ⟨_, rfl, ?_⟩
            first | exact ⟨rfl, Or.inr ⟨rfl, hno⟩⟩ | exact ⟨rfl, Or.inl ⟨rfl, hyes⟩⟩
          · have c33 := nI_gt' (by omega) (by omega) c_33
            refine g_aload_n (pc := 36) dX2_isWord_36 rfl ?_
            refine a_getr (pc := 37) (q := 34) fl_X2_9 dX2_isWord_37 (by first | rfl | assumption) rfl rfl ?_
            refine g_aload_n (pc := 40) dX2_isWord_40 rfl ?_
            refine v_geti (pc := 41) fl_X2_36 dX2_isWord_41 (by first | rfl | assumption) rfl hR3 ?_
            refine g_iload_n (pc := 44) dX2_isWord_44 rfl ?_
            refine v_iadd (pc := 45) dX2_isWord_45 (nI_add p k) ?_
            refine v_iald (pc := 46) dX2_isWord_46 (by first | rfl | assumption) rfl (by omega) (hR1.2.2 (p + k) (by omega)).1 ?_
            refine g_aload_n (pc := 47) dX2_isWord_47 rfl ?_
            refine g_iload_n (pc := 48) dX2_isWord_48 rfl ?_
            refine g_callK (pc := 49) (As := [.int (nI k)]) (c_J0_charAt i k hi c33 μ) hi m_J0_charAt_5068e ml_X2_122 (by omega) rfl rfl rfl (Nat.le_of_ble_eq_true rfl) dX2_isWord_49 (fun x_49 μ_49 h_49 => ?_)
            obtain ⟨rfl, hm_49⟩ := h_49
            have hm_49 := hm_49.symm
            subst hm_49
            refine g_icmp_ne (pc := 52) (tgt := 59) dX2_isWord_52 (by decide) (fun c_52 => ?_) (fun c_52 => ?_)
            · have hs1 : (nI 0 = nI 1 ∧ e - p = kLen i ∧ ∀ j, j < k + 1 → nI (b (p + j)) = kAt i j) ∨ (nI 0 = nI 0 ∧ ¬ isW b p (e - p) i) := Or.inr ⟨rfl, fun h => c_52 (h.2 k c33)⟩
              refine g_iconst (pc := 59) (v := (nI 0)) dX2_isWord_59 (by decide) ?_
              refine a_ist2 (pc := 60) dX2_isWord_60 (by decide) rfl ?_
              refine a_iinc3 (pc := 61) dX2_isWord_61 (inc1 k) (by decide) rfl ?_
              refine g_goto (pc := 64) (tgt := 24) dX2_isWord_64 (by decide) ?_
              exact ih (kLen i - (k + 1)) (by omega) (k + 1) (by omega) _ hs1 rfl
            · have hs1 : (nI 1 = nI 1 ∧ e - p = kLen i ∧ ∀ j, j < k + 1 → nI (b (p + j)) = kAt i j) ∨ (nI 1 = nI 0 ∧ ¬ isW b p (e - p) i) := Or.inl ⟨rfl, hy1, fun j hj => by
                rcases Nat.lt_or_ge j k with h | h
                · exact hy2 j h
                · obtain rfl : j = k := by omega
                  exact c_52⟩
              refine g_iconst (pc := 55) (v := (nI 1)) dX2_isWord_55 (by decide) ?_
              refine g_goto (pc := 56) (tgt := 60) dX2_isWord_56 (by decide) ?_
              refine a_ist2 (pc := 60) dX2_isWord_60 (by decide) rfl ?_
              refine a_iinc3 (pc := 61) dX2_isWord_61 (inc1 k) (by decide) rfl ?_
              refine g_goto (pc := 64) (tgt := 24) dX2_isWord_64 (by decide) ?_
              exact ih (kLen i - (k + 1)) (by omega) (k + 1) (by omega) _ hs1 rfl
    exact lp24 _ 0 (Nat.zero_le _) _ hs0 rfl
  · have c13 : e - p = kLen i := nI_eq' (by omega) (by omega) c_13
    have hs0 : (nI 1 = nI 1 ∧ e - p = kLen i ∧ ∀ j, j < 0 → nI (b (p + j)) = kAt i j) ∨ (nI 1 = nI 0 ∧ ¬ isW b p (e - p) i) := Or.inl ⟨rfl, c13, fun j hj => absurd hj (Nat.not_lt_zero j)⟩
    refine g_iconst (pc := 16) (v := (nI 1)) dX2_isWord_16 (by decide) ?_
    refine g_goto (pc := 17) (tgt := 21) dX2_isWord_17 (by decide) ?_
    skip
    refine a_ist2 (pc := 21) dX2_isWord_21 (by decide) rfl ?_
    refine g_iconst (pc := 22) (v := (nI 0)) dX2_isWord_22 (by decide) ?_
    refine a_ist3 (pc := 23) dX2_isWord_23 (by decide) rfl ?_
    have lp24 : ∀ (zz : Nat) (k : Nat) (hk : k ≤ kLen i) (s : Int32) (hs : (s = nI 1 ∧ e - p = kLen i ∧ ∀ j, j < k → nI (b (p + j)) = kAt i j) ∨ (s = nI 0 ∧ ¬ isW b p (e - p) i)), kLen i - k = zz → WG eI yX2_isWord.cls cX2_isWord 4 (some .boolean) false (fun _ _ => True) 4 (mpost (fun r μ1 => μ1 = μ ∧ ((r = nI 1 ∧ isW b p (e - p) i) ∨ (r = nI 0 ∧ ¬ isW b p (e - p) i)))) 0 0 24 [some (.ref 33), some (.ref (100010 + i)), some (.int s), some (.int (nI k))] [] (mk μ) := by
      intro zz
      induction zz using Nat.strongRecOn with
      | ind zz ih =>
        intro k hk s hs hzz
        refine g_iload_n (pc := 24) dX2_isWord_24 rfl ?_
        refine g_if_eq (pc := 25) (tgt := 67) dX2_isWord_25 (by decide) (fun c_25 => ?_) (fun c_25 => ?_)
        · have hno : s = nI 0 ∧ ¬ isW b p (e - p) i := by
            rcases hs with ⟨h, -⟩ | h
            · rw [h] at c_25
              exact absurd c_25 (by decide)
            · exact h
          obtain ⟨rfl, hno⟩ := hno
          refine g_iload_n (pc := 67) dX2_isWord_67 rfl ?_
          refine g_ireturn (pc := 68) dX2_isWord_68 rfl (by first | rfl | decide) rfl ⟨_, rfl, ?_⟩
          first | exact ⟨rfl, Or.inr ⟨rfl, hno⟩⟩ | exact ⟨rfl, Or.inl ⟨rfl, hyes⟩⟩
        · have hyes : s = nI 1 ∧ e - p = kLen i ∧ ∀ j, j < k → nI (b (p + j)) = kAt i j := by
            rcases hs with h | ⟨h, -⟩
            · exact h
            · rw [h] at c_25
              exact absurd rfl c_25
          obtain ⟨rfl, hy1, hy2⟩ := hyes
          refine g_iload_n (pc := 28) dX2_isWord_28 rfl ?_
          refine g_aload_n (pc := 29) dX2_isWord_29 rfl ?_
          refine g_callK (pc := 30) (As := []) (c_J0_length i hi μ) hi m_J0_length_8abf5 ml_X2_118 (by omega) rfl rfl rfl (Nat.le_of_ble_eq_true rfl) dX2_isWord_30 (fun x_30 μ_30 h_30 => ?_)
          obtain ⟨rfl, hm_30⟩ := h_30
          have hm_30 := hm_30.symm
          subst hm_30
          refine g_icmp_ge (pc := 33) (tgt := 67) dX2_isWord_33 (by decide) (fun c_33 => ?_) (fun c_33 => ?_)
          · have c33 := nI_le' (by omega) (by omega) c_33
            have hyes : isW b p (e - p) i := ⟨hy1, fun j hj => hy2 j (by omega)⟩
            refine g_iload_n (pc := 67) dX2_isWord_67 rfl ?_
            refine g_ireturn (pc := 68) dX2_isWord_68 rfl (by first | rfl | decide) rfl ⟨_, rfl, ?_⟩
            first | exact ⟨rfl, Or.inr ⟨rfl, hno⟩⟩ | exact ⟨rfl, Or.inl ⟨rfl, hyes⟩⟩
          · have c33 := nI_gt' (by omega) (by omega) c_33
            refine g_aload_n (pc := 36) dX2_isWord_36 rfl ?_
            refine a_getr (pc := 37) (q := 34) fl_X2_9 dX2_isWord_37 (by first | rfl | assumption) rfl rfl ?_
            refine g_aload_n (pc := 40) dX2_isWord_40 rfl ?_
            refine v_geti (pc := 41) fl_X2_36 dX2_isWord_41 (by first | rfl | assumption) rfl hR3 ?_
            refine g_iload_n (pc := 44) dX2_isWord_44 rfl ?_
            refine v_iadd (pc := 45) dX2_isWord_45 (nI_add p k) ?_
            refine v_iald (pc := 46) dX2_isWord_46 (by first | rfl | assumption) rfl (by omega) (hR1.2.2 (p + k) (by omega)).1 ?_
            refine g_aload_n (pc := 47) dX2_isWord_47 rfl ?_
            refine g_iload_n (pc := 48) dX2_isWord_48 rfl ?_
            refine g_callK (pc := 49) (As := [.int (nI k)]) (c_J0_charAt i k hi c33 μ) hi m_J0_charAt_5068e ml_X2_122 (by omega) rfl rfl rfl (Nat.le_of_ble_eq_true rfl) dX2_isWord_49 (fun x_49 μ_49 h_49 => ?_)
            obtain ⟨rfl, hm_49⟩ := h_49
            have hm_49 := hm_49.symm
            subst hm_49
            refine g_icmp_ne (pc := 52) (tgt := 59) dX2_isWord_52 (by decide) (fun c_52 => ?_) (fun c_52 => ?_)
            · have hs1 : (nI 0 = nI 1 ∧ e - p = kLen i ∧ ∀ j, j < k + 1 → nI (b (p + j)) = kAt i j) ∨ (nI 0 = nI 0 ∧ ¬ isW b p (e - p) i) := Or.inr ⟨rfl, fun h => c_52 (h.2 k c33)⟩
              refine g_iconst (pc := 59) (v := (nI 0)) dX2_isWord_59 (by decide) ?_
              refine a_ist2 (pc := 60) dX2_isWord_60 (by decide) rfl ?_
              refine a_iinc3 (pc := 61) dX2_isWord_61 (inc1 k) (by decide) rfl ?_
              refine g_goto (pc := 64) (tgt := 24) dX2_isWord_64 (by decide) ?_
              exact ih (kLen i - (k + 1)) (by omega) (k + 1) (by omega) _ hs1 rfl
            · have hs1 : (nI 1 = nI 1 ∧ e - p = kLen i ∧ ∀ j, j < k + 1 → nI (b (p + j)) = kAt i j) ∨ (nI 1 = nI 0 ∧ ¬ isW b p (e - p) i) := Or.inl ⟨rfl, hy1, fun j hj => by
                rcases Nat.lt_or_ge j k with h | h
                · exact hy2 j h
                · obtain rfl : j = k := by omega
                  exact c_52⟩
              refine g_iconst (pc := 55) (v := (nI 1)) dX2_isWord_55 (by decide) ?_
              refine g_goto (pc := 56) (tgt := 60) dX2_isWord_56 (by decide) ?_
              refine a_ist2 (pc := 60) dX2_isWord_60 (by decide) rfl ?_
              refine a_iinc3 (pc := 61) dX2_isWord_61 (inc1 k) (by decide) rfl ?_
              refine g_goto (pc := 64) (tgt := 24) dX2_isWord_64 (by decide) ?_
              exact ih (kLen i - (k + 1)) (by omega) (k + 1) (by omega) _ hs1 rfl
    exact lp24 _ 0 (Nat.zero_le _) _ hs0 rfl
theorem c_X2_name (μ : Mem) (n : Nat) (b : Nat → Nat) (e p : Nat) (hR : RP μ n b e p) : CA eI yX2_name cX2_name 1 (some .int) 5 [.ref 33] μ (fun r μ1 => r = wdV (wdN b p (e - p)) ∧ μ1 = μ) := by
  refine CT.of false (by decide) (by decide) (L := [some (.ref 33)]) rfl (Nat.le_of_ble_eq_true rfl) ?_
  refine g_aload_n (pc := 0) dX2_name_0 rfl ?_
  refine g_ldcS (pc := 1) (i := 0) (by decide) dX2_name_1 ?_
  refine a_cv1i (pc := 3) (c_X2_isWord 0 (by decide) μ n b e p hR) m_X2_isWord ml_X2_92 (by omega) (by first | rfl | assumption) rfl rfl (Nat.le_of_ble_eq_true rfl) dX2_name_3 (fun x_3 μ_3 h_3 => ?_)
  obtain ⟨hm_3, hd_3⟩ := h_3
  have hm_3 := hm_3.symm
  subst hm_3
  refine g_if_eq (pc := 6) (tgt := 11) dX2_name_6 (by decide) (fun c_6 => ?_) (fun c_6 => ?_)
  · have w0 := (hd_3.resolve_left (fun q => absurd (q.1.symm.trans c_6) (by decide))).2
    refine g_aload_n (pc := 11) dX2_name_11 rfl ?_
    refine g_ldcS (pc := 12) (i := 1) (by decide) dX2_name_12 ?_
    refine a_cv1i (pc := 14) (c_X2_isWord 1 (by decide) μ n b e p hR) m_X2_isWord ml_X2_92 (by omega) (by first | rfl | assumption) rfl rfl (Nat.le_of_ble_eq_true rfl) dX2_name_14 (fun x_14 μ_14 h_14 => ?_)
    obtain ⟨hm_14, hd_14⟩ := h_14
    have hm_14 := hm_14.symm
    subst hm_14
    refine g_if_eq (pc := 17) (tgt := 22) dX2_name_17 (by decide) (fun c_17 => ?_) (fun c_17 => ?_)
    · have w1 := (hd_14.resolve_left (fun q => absurd (q.1.symm.trans c_17) (by decide))).2
      refine g_aload_n (pc := 22) dX2_name_22 rfl ?_
      refine g_ldcS (pc := 23) (i := 2) (by decide) dX2_name_23 ?_
      refine a_cv1i (pc := 25) (c_X2_isWord 2 (by decide) μ n b e p hR) m_X2_isWord ml_X2_92 (by omega) (by first | rfl | assumption) rfl rfl (Nat.le_of_ble_eq_true rfl) dX2_name_25 (fun x_25 μ_25 h_25 => ?_)
      obtain ⟨hm_25, hd_25⟩ := h_25
      have hm_25 := hm_25.symm
      subst hm_25
      refine g_if_eq (pc := 28) (tgt := 33) dX2_name_28 (by decide) (fun c_28 => ?_) (fun c_28 => ?_)
      · have w2 := (hd_25.resolve_left (fun q => absurd (q.1.symm.trans c_28) (by decide))).2
        refine g_aload_n (pc := 33) dX2_name_33 rfl ?_
        refine g_ldcS (pc := 34) (i := 3) (by decide) dX2_name_34 ?_
        refine a_cv1i (pc := 36) (c_X2_isWord 3 (by decide) μ n b e p hR) m_X2_isWord ml_X2_92 (by omega) (by first | rfl | assumption) rfl rfl (Nat.le_of_ble_eq_true rfl) dX2_name_36 (fun x_36 μ_36 h_36 => ?_)
        obtain ⟨hm_36, hd_36⟩ := h_36
        have hm_36 := hm_36.symm
        subst hm_36
        refine g_if_eq (pc := 39) (tgt := 44) dX2_name_39 (by decide) (fun c_39 => ?_) (fun c_39 => ?_)
        · have w3 := (hd_36.resolve_left (fun q => absurd (q.1.symm.trans c_39) (by decide))).2
          refine g_aload_n (pc := 44) dX2_name_44 rfl ?_
          refine g_ldcS (pc := 45) (i := 4) (by decide) dX2_name_45 ?_
          refine a_cv1i (pc := 47) (c_X2_isWord 4 (by decide) μ n b e p hR) m_X2_isWord ml_X2_92 (by omega) (by first | rfl | assumption) rfl rfl (Nat.le_of_ble_eq_true rfl) dX2_name_47 (fun x_47 μ_47 h_47 => ?_)
          obtain ⟨hm_47, hd_47⟩ := h_47
          have hm_47 := hm_47.symm
          subst hm_47
          refine g_if_eq (pc := 50) (tgt := 55) dX2_name_50 (by decide) (fun c_50 => ?_) (fun c_50 => ?_)
          · have w4 := (hd_47.resolve_left (fun q => absurd (q.1.symm.trans c_50) (by decide))).2
            refine g_aload_n (pc := 55) dX2_name_55 rfl ?_
            refine g_ldcS (pc := 56) (i := 5) (by decide) dX2_name_56 ?_
            refine a_cv1i (pc := 58) (c_X2_isWord 5 (by decide) μ n b e p hR) m_X2_isWord ml_X2_92 (by omega) (by first | rfl | assumption) rfl rfl (Nat.le_of_ble_eq_true rfl) dX2_name_58 (fun x_58 μ_58 h_58 => ?_)
            obtain ⟨hm_58, hd_58⟩ := h_58
            have hm_58 := hm_58.symm
            subst hm_58
            refine g_if_eq (pc := 61) (tgt := 68) dX2_name_61 (by decide) (fun c_61 => ?_) (fun c_61 => ?_)
            · have w5 := (hd_58.resolve_left (fun q => absurd (q.1.symm.trans c_61) (by decide))).2
              refine g_iconst (pc := 68) (v := (-1)) dX2_name_68 (by decide) ?_
              refine g_ireturn (pc := 69) dX2_name_69 rfl (by first | rfl | decide) rfl ⟨_, rfl, ?_⟩
              refine ⟨?_, rfl⟩
              first
                | (have hw : wdN b p (e - p) = 5 := by
                    unfold wdN
                    rw [if_neg w0, if_neg w1, if_neg w2, if_neg w3, if_neg w4, if_pos w5]
                   rw [hw]
                   rfl)
                | (have hw : wdN b p (e - p) = 6 := by
                    unfold wdN
                    rw [if_neg w0, if_neg w1, if_neg w2, if_neg w3, if_neg w4, if_neg w5]
                   rw [hw]
                   rfl)
            · have w5 := (hd_58.resolve_right (fun q => c_61 q.1)).2
              refine g_iconst (pc := 64) (v := (nI 5)) dX2_name_64 (by decide) ?_
              refine g_goto (pc := 65) (tgt := 69) dX2_name_65 (by decide) ?_
              refine g_ireturn (pc := 69) dX2_name_69 rfl (by first | rfl | decide) rfl ⟨_, rfl, ?_⟩
              refine ⟨?_, rfl⟩
              first
                | (have hw : wdN b p (e - p) = 5 := by
                    unfold wdN
                    rw [if_neg w0, if_neg w1, if_neg w2, if_neg w3, if_neg w4, if_pos w5]
                   rw [hw]
                   rfl)
                | (have hw : wdN b p (e - p) = 6 := by
                    unfold wdN
                    rw [if_neg w0, if_neg w1, if_neg w2, if_neg w3, if_neg w4, if_neg w5]
                   rw [hw]
                   rfl)
          · have w4 := (hd_47.resolve_right (fun q => c_50 q.1)).2
            refine g_iconst (pc := 53) (v := (nI 4)) dX2_name_53 (by decide) ?_
            refine g_ireturn (pc := 54) dX2_name_54 rfl (by first | rfl | decide) rfl ⟨_, rfl, ?_⟩
            refine ⟨?_, rfl⟩
            have hw : wdN b p (e - p) = 4 := by
              unfold wdN
              rw [if_neg w0, if_neg w1, if_neg w2, if_neg w3, if_pos w4]
            rw [hw]
            rfl
        · have w3 := (hd_36.resolve_right (fun q => c_39 q.1)).2
          refine g_iconst (pc := 42) (v := (nI 3)) dX2_name_42 (by decide) ?_
          refine g_ireturn (pc := 43) dX2_name_43 rfl (by first | rfl | decide) rfl ⟨_, rfl, ?_⟩
          refine ⟨?_, rfl⟩
          have hw : wdN b p (e - p) = 3 := by
            unfold wdN
            rw [if_neg w0, if_neg w1, if_neg w2, if_pos w3]
          rw [hw]
          rfl
      · have w2 := (hd_25.resolve_right (fun q => c_28 q.1)).2
        refine g_iconst (pc := 31) (v := (nI 2)) dX2_name_31 (by decide) ?_
        refine g_ireturn (pc := 32) dX2_name_32 rfl (by first | rfl | decide) rfl ⟨_, rfl, ?_⟩
        refine ⟨?_, rfl⟩
        have hw : wdN b p (e - p) = 2 := by
          unfold wdN
          rw [if_neg w0, if_neg w1, if_pos w2]
        rw [hw]
        rfl
    · have w1 := (hd_14.resolve_right (fun q => c_17 q.1)).2
      refine g_iconst (pc := 20) (v := (nI 1)) dX2_name_20 (by decide) ?_
      refine g_ireturn (pc := 21) dX2_name_21 rfl (by first | rfl | decide) rfl ⟨_, rfl, ?_⟩
      refine ⟨?_, rfl⟩
      have hw : wdN b p (e - p) = 1 := by
        unfold wdN
        rw [if_neg w0, if_pos w1]
      rw [hw]
      rfl
  · have w0 := (hd_3.resolve_right (fun q => c_6 q.1)).2
    refine g_iconst (pc := 9) (v := (nI 0)) dX2_name_9 (by decide) ?_
    refine g_ireturn (pc := 10) dX2_name_10 rfl (by first | rfl | decide) rfl ⟨_, rfl, ?_⟩
    refine ⟨?_, rfl⟩
    have hw : wdN b p (e - p) = 0 := by
      unfold wdN
      rw [if_pos w0]
    rw [hw]
    rfl
theorem c_X2_key (μ : Mem) (n : Nat) (b : Nat → Nat) (e p : Nat) (hR : RP μ n b e p) : CA eI yX2_key cX2_key 1 (some .int) 5 [.ref 33] μ (fun r μ1 => r = nI (kyN b p (e - p)) ∧ μ1 = μ) := by
  refine CT.of false (by decide) (by decide) (L := [some (.ref 33)]) rfl (Nat.le_of_ble_eq_true rfl) ?_
  refine g_aload_n (pc := 0) dX2_key_0 rfl ?_
  refine g_ldcS (pc := 1) (i := 6) (by decide) dX2_key_1 ?_
  refine a_cv1i (pc := 3) (c_X2_isWord 6 (by decide) μ n b e p hR) m_X2_isWord ml_X2_92 (by omega) (by first | rfl | assumption) rfl rfl (Nat.le_of_ble_eq_true rfl) dX2_key_3 (fun x_3 μ_3 h_3 => ?_)
  obtain ⟨hm_3, hd_3⟩ := h_3
  have hm_3 := hm_3.symm
  subst hm_3
  refine g_if_eq (pc := 6) (tgt := 13) dX2_key_6 (by decide) (fun c_6 => ?_) (fun c_6 => ?_)
  · have w6 := (hd_3.resolve_left (fun q => absurd (q.1.symm.trans c_6) (by decide))).2
    refine g_aload_n (pc := 13) dX2_key_13 rfl ?_
    refine g_ldcS (pc := 14) (i := 7) (by decide) dX2_key_14 ?_
    refine a_cv1i (pc := 16) (c_X2_isWord 7 (by decide) μ n b e p hR) m_X2_isWord ml_X2_92 (by omega) (by first | rfl | assumption) rfl rfl (Nat.le_of_ble_eq_true rfl) dX2_key_16 (fun x_16 μ_16 h_16 => ?_)
    obtain ⟨hm_16, hd_16⟩ := h_16
    have hm_16 := hm_16.symm
    subst hm_16
    refine g_if_eq (pc := 19) (tgt := 26) dX2_key_19 (by decide) (fun c_19 => ?_) (fun c_19 => ?_)
    · have w7 := (hd_16.resolve_left (fun q => absurd (q.1.symm.trans c_19) (by decide))).2
      refine g_aload_n (pc := 26) dX2_key_26 rfl ?_
      refine g_ldcS (pc := 27) (i := 8) (by decide) dX2_key_27 ?_
      refine a_cv1i (pc := 29) (c_X2_isWord 8 (by decide) μ n b e p hR) m_X2_isWord ml_X2_92 (by omega) (by first | rfl | assumption) rfl rfl (Nat.le_of_ble_eq_true rfl) dX2_key_29 (fun x_29 μ_29 h_29 => ?_)
      obtain ⟨hm_29, hd_29⟩ := h_29
      have hm_29 := hm_29.symm
      subst hm_29
      refine g_if_eq (pc := 32) (tgt := 39) dX2_key_32 (by decide) (fun c_32 => ?_) (fun c_32 => ?_)
      · have w8 := (hd_29.resolve_left (fun q => absurd (q.1.symm.trans c_32) (by decide))).2
        refine g_aload_n (pc := 39) dX2_key_39 rfl ?_
        refine g_ldcS (pc := 40) (i := 9) (by decide) dX2_key_40 ?_
        refine a_cv1i (pc := 42) (c_X2_isWord 9 (by decide) μ n b e p hR) m_X2_isWord ml_X2_92 (by omega) (by first | rfl | assumption) rfl rfl (Nat.le_of_ble_eq_true rfl) dX2_key_42 (fun x_42 μ_42 h_42 => ?_)
        obtain ⟨hm_42, hd_42⟩ := h_42
        have hm_42 := hm_42.symm
        subst hm_42
        refine g_if_eq (pc := 45) (tgt := 52) dX2_key_45 (by decide) (fun c_45 => ?_) (fun c_45 => ?_)
        · have w9 := (hd_42.resolve_left (fun q => absurd (q.1.symm.trans c_45) (by decide))).2
          refine g_aload_n (pc := 52) dX2_key_52 rfl ?_
          refine g_ldcS (pc := 53) (i := 10) (by decide) dX2_key_53 ?_
          refine a_cv1i (pc := 55) (c_X2_isWord 10 (by decide) μ n b e p hR) m_X2_isWord ml_X2_92 (by omega) (by first | rfl | assumption) rfl rfl (Nat.le_of_ble_eq_true rfl) dX2_key_55 (fun x_55 μ_55 h_55 => ?_)
          obtain ⟨hm_55, hd_55⟩ := h_55
          have hm_55 := hm_55.symm
          subst hm_55
          refine g_if_eq (pc := 58) (tgt := 65) dX2_key_58 (by decide) (fun c_58 => ?_) (fun c_58 => ?_)
          · have w10 := (hd_55.resolve_left (fun q => absurd (q.1.symm.trans c_58) (by decide))).2
            refine g_aload_n (pc := 65) dX2_key_65 rfl ?_
            refine g_ldcS (pc := 66) (i := 11) (by decide) dX2_key_66 ?_
            refine a_cv1i (pc := 68) (c_X2_isWord 11 (by decide) μ n b e p hR) m_X2_isWord ml_X2_92 (by omega) (by first | rfl | assumption) rfl rfl (Nat.le_of_ble_eq_true rfl) dX2_key_68 (fun x_68 μ_68 h_68 => ?_)
            obtain ⟨hm_68, hd_68⟩ := h_68
            have hm_68 := hm_68.symm
            subst hm_68
            refine g_if_eq (pc := 71) (tgt := 80) dX2_key_71 (by decide) (fun c_71 => ?_) (fun c_71 => ?_)
            · have w11 := (hd_68.resolve_left (fun q => absurd (q.1.symm.trans c_71) (by decide))).2
              refine g_iconst (pc := 80) (v := (nI 1)) dX2_key_80 (by decide) ?_
              refine g_ireturn (pc := 81) dX2_key_81 rfl (by first | rfl | decide) rfl ⟨_, rfl, ?_⟩
              refine ⟨?_, rfl⟩
              first
                | (have hw : kyN b p (e - p) = 261 := by
                    unfold kyN
                    rw [if_neg w6, if_neg w7, if_neg w8, if_neg w9, if_neg w10, if_pos w11]
                   rw [hw])
                | (have hw : kyN b p (e - p) = 1 := by
                    unfold kyN
                    rw [if_neg w6, if_neg w7, if_neg w8, if_neg w9, if_neg w10, if_neg w11]
                   rw [hw])
            · have w11 := (hd_68.resolve_right (fun q => c_71 q.1)).2
              refine g_sipush (pc := 74) (v := (nI 261)) dX2_key_74 (by decide) ?_
              refine g_goto (pc := 77) (tgt := 81) dX2_key_77 (by decide) ?_
              refine g_ireturn (pc := 81) dX2_key_81 rfl (by first | rfl | decide) rfl ⟨_, rfl, ?_⟩
              refine ⟨?_, rfl⟩
              first
                | (have hw : kyN b p (e - p) = 261 := by
                    unfold kyN
                    rw [if_neg w6, if_neg w7, if_neg w8, if_neg w9, if_neg w10, if_pos w11]
                   rw [hw])
                | (have hw : kyN b p (e - p) = 1 := by
                    unfold kyN
                    rw [if_neg w6, if_neg w7, if_neg w8, if_neg w9, if_neg w10, if_neg w11]
                   rw [hw])
          · have w10 := (hd_55.resolve_right (fun q => c_58 q.1)).2
            refine g_sipush (pc := 61) (v := (nI 260)) dX2_key_61 (by decide) ?_
            refine g_ireturn (pc := 64) dX2_key_64 rfl (by first | rfl | decide) rfl ⟨_, rfl, ?_⟩
            refine ⟨?_, rfl⟩
            have hw : kyN b p (e - p) = 260 := by
              unfold kyN
              rw [if_neg w6, if_neg w7, if_neg w8, if_neg w9, if_pos w10]
            rw [hw]
        · have w9 := (hd_42.resolve_right (fun q => c_45 q.1)).2
          refine g_sipush (pc := 48) (v := (nI 259)) dX2_key_48 (by decide) ?_
          refine g_ireturn (pc := 51) dX2_key_51 rfl (by first | rfl | decide) rfl ⟨_, rfl, ?_⟩
          refine ⟨?_, rfl⟩
          have hw : kyN b p (e - p) = 259 := by
            unfold kyN
            rw [if_neg w6, if_neg w7, if_neg w8, if_pos w9]
          rw [hw]
      · have w8 := (hd_29.resolve_right (fun q => c_32 q.1)).2
        refine g_sipush (pc := 35) (v := (nI 258)) dX2_key_35 (by decide) ?_
        refine g_ireturn (pc := 38) dX2_key_38 rfl (by first | rfl | decide) rfl ⟨_, rfl, ?_⟩
        refine ⟨?_, rfl⟩
        have hw : kyN b p (e - p) = 258 := by
          unfold kyN
          rw [if_neg w6, if_neg w7, if_pos w8]
        rw [hw]
    · have w7 := (hd_16.resolve_right (fun q => c_19 q.1)).2
      refine g_sipush (pc := 22) (v := (nI 257)) dX2_key_22 (by decide) ?_
      refine g_ireturn (pc := 25) dX2_key_25 rfl (by first | rfl | decide) rfl ⟨_, rfl, ?_⟩
      refine ⟨?_, rfl⟩
      have hw : kyN b p (e - p) = 257 := by
        unfold kyN
        rw [if_neg w6, if_pos w7]
      rw [hw]
  · have w6 := (hd_3.resolve_right (fun q => c_6 q.1)).2
    refine g_sipush (pc := 9) (v := (nI 256)) dX2_key_9 (by decide) ?_
    refine g_ireturn (pc := 12) dX2_key_12 rfl (by first | rfl | decide) rfl ⟨_, rfl, ?_⟩
    refine ⟨?_, rfl⟩
    have hw : kyN b p (e - p) = 256 := by
      unfold kyN
      rw [if_pos w6]
    rw [hw]
