/-! ===== the model: words and signs ===== -/
theorem tk4 {b : Nat → Nat} {n a : Nat} (h : tkM b n (lxP b n a) = 4) : lxT b n a = 1 := by
  unfold lxT
  unfold tkM at h
  unfold tkA
  generalize lxP b n a = p at h
  split at h
  · omega
  · next h1 =>
    rw [if_neg h1]
    split at h
    · omega
    · next h2 =>
      rw [if_neg h2]
      split at h
      · next h3 =>
        rw [if_pos h3]
        split at h
        · next h4 => rw [if_pos h4]
        · omega
      · next h3 =>
        rw [if_neg h3]
        split at h
        · omega
        · next h4 => rw [if_neg h4]
theorem lxT_at0 {b : Nat → Nat} {n a : Nat} : lxT b n a = 0 ↔ tkM b n (lxP b n a) = 0 := by
  unfold lxT tkM tkA
  generalize lxP b n a = p
  have hk : ∀ m, ¬ kyN b p m = 0 := fun m h => by
    unfold kyN at h
    repeat' split at h
    all_goals omega
  by_cases h1 : n ≤ p
  · rw [if_pos h1, if_pos h1]
  · rw [if_neg h1, if_neg h1]
    by_cases h2 : isL (b p)
    · rw [if_pos h2, if_pos h2]
      have := hk (wE b n p - p)
      split <;> omega
    · rw [if_neg h2, if_neg h2]
      by_cases h3 : isD (b p)
      · rw [if_pos h3, if_pos h3]
        split <;> omega
      · rw [if_neg h3, if_neg h3]
        by_cases h4 : isS (b p)
        · rw [if_pos h4, if_pos h4]
          unfold isS at h4
          omega
        · rw [if_neg h4, if_neg h4]
          omega
theorem lxT_at2 {b : Nat → Nat} {n a : Nat} : lxT b n a = 2 ↔ tkM b n (lxP b n a) = 2 := by
  unfold lxT tkM tkA
  generalize lxP b n a = p
  have hk := kyN_ne b p (wE b n p - p)
  by_cases h1 : n ≤ p
  · rw [if_pos h1, if_pos h1]
  · rw [if_neg h1, if_neg h1]
    by_cases h2 : isL (b p)
    · rw [if_pos h2, if_pos h2]
      split <;> omega
    · rw [if_neg h2, if_neg h2]
      by_cases h3 : isD (b p)
      · rw [if_pos h3, if_pos h3]
        split <;> omega
      · rw [if_neg h3, if_neg h3]
        by_cases h4 : isS (b p)
        · rw [if_pos h4, if_pos h4]
          unfold isS at h4
          omega
        · rw [if_neg h4, if_neg h4]
          omega
theorem lxT_at3 {b : Nat → Nat} {n a : Nat} : lxT b n a = 3 ↔ tkM b n (lxP b n a) = 1 ∧ ¬ wdN b (lxP b n a) (wE b n (lxP b n a) - lxP b n a) = 6 := by
  unfold lxT tkM tkA
  generalize lxP b n a = p
  have hk := kyN_ne b p (wE b n p - p)
  by_cases h1 : n ≤ p
  · rw [if_pos h1, if_pos h1]
    omega
  · rw [if_neg h1, if_neg h1]
    by_cases h2 : isL (b p)
    · rw [if_pos h2, if_pos h2]
      split <;> omega
    · rw [if_neg h2, if_neg h2]
      by_cases h3 : isD (b p)
      · rw [if_pos h3, if_pos h3]
        split <;> omega
      · rw [if_neg h3, if_neg h3]
        by_cases h4 : isS (b p)
        · rw [if_pos h4, if_pos h4]
          unfold isS at h4
          omega
        · rw [if_neg h4, if_neg h4]
          omega
theorem kyN_rng (b : Nat → Nat) (p m : Nat) : kyN b p m = 1 ∨ (256 ≤ kyN b p m ∧ kyN b p m ≤ 261) := by
  unfold kyN
  repeat' split
  all_goals omega
theorem lxT_atS {b : Nat → Nat} {n a s : Nat} (hs : isS s) : lxT b n a = s ↔ tkM b n (lxP b n a) = 3 ∧ b (lxP b n a) = s := by
  unfold lxT tkM tkA
  generalize lxP b n a = p
  have hk := kyN_rng b p (wE b n p - p)
  unfold isS at hs
  by_cases h1 : n ≤ p
  · rw [if_pos h1, if_pos h1]
    omega
  · rw [if_neg h1, if_neg h1]
    by_cases h2 : isL (b p)
    · rw [if_pos h2, if_pos h2]
      split <;> omega
    · rw [if_neg h2, if_neg h2]
      by_cases h3 : isD (b p)
      · rw [if_pos h3, if_pos h3]
        split <;> omega
      · rw [if_neg h3, if_neg h3]
        by_cases h4 : isS (b p)
        · rw [if_pos h4, if_pos h4]
          omega
        · rw [if_neg h4, if_neg h4]
          omega
theorem kw_inj : ∀ i, i < 12 → ∀ j, j < 12 → kLen i = kLen j → (∀ q, q < kLen i → kAt i q = kAt j q) → i = j := by decide +kernel
theorem isW_inj {b : Nat → Nat} {p m i j : Nat} (hi : i < 12) (hj : j < 12) (h : isW b p m i) (g : isW b p m j) : i = j :=
  kw_inj i hi j hj (h.1.symm.trans g.1) (fun q hq => (h.2 q hq).symm.trans (g.2 q (by have := h.1; have := g.1; omega)))
theorem kyN_at {b : Nat → Nat} {p m i : Nat} (h6 : 6 ≤ i) (h12 : i < 12) : kyN b p m = 250 + i ↔ isW b p m i := by
  constructor
  · intro h
    unfold kyN at h
    rcases (show i = 6 ∨ i = 7 ∨ i = 8 ∨ i = 9 ∨ i = 10 ∨ i = 11 by omega) with rfl | rfl | rfl | rfl | rfl | rfl <;> (repeat' split at h) <;> first | assumption | omega
  · intro h
    have hn : ∀ j, j < 12 → j ≠ i → ¬ isW b p m j := fun j hj hne g => hne (isW_inj hj h12 g h)
    unfold kyN
    rcases (show i = 6 ∨ i = 7 ∨ i = 8 ∨ i = 9 ∨ i = 10 ∨ i = 11 by omega) with rfl | rfl | rfl | rfl | rfl | rfl
    · rw [if_pos h]
    · rw [if_neg (hn 6 (by decide) (by decide)), if_pos h]
    · rw [if_neg (hn 6 (by decide) (by decide)), if_neg (hn 7 (by decide) (by decide)), if_pos h]
    · rw [if_neg (hn 6 (by decide) (by decide)), if_neg (hn 7 (by decide) (by decide)), if_neg (hn 8 (by decide) (by decide)), if_pos h]
    · rw [if_neg (hn 6 (by decide) (by decide)), if_neg (hn 7 (by decide) (by decide)), if_neg (hn 8 (by decide) (by decide)), if_neg (hn 9 (by decide) (by decide)), if_pos h]
    · rw [if_neg (hn 6 (by decide) (by decide)), if_neg (hn 7 (by decide) (by decide)), if_neg (hn 8 (by decide) (by decide)), if_neg (hn 9 (by decide) (by decide)), if_neg (hn 10 (by decide) (by decide)), if_pos h]
theorem wdN_key {b : Nat → Nat} {p m i : Nat} (h6 : 6 ≤ i) (h12 : i < 12) (h : isW b p m i) : wdN b p m = 6 := by
  have hn : ∀ j, j < 6 → ¬ isW b p m j := fun j hj g => by
    have := isW_inj (by omega) h12 g h
    omega
  unfold wdN
  rw [if_neg (hn 0 (by decide)), if_neg (hn 1 (by decide)), if_neg (hn 2 (by decide)), if_neg (hn 3 (by decide)), if_neg (hn 4 (by decide)), if_neg (hn 5 (by decide))]
theorem lxT_atK {b : Nat → Nat} {n a i : Nat} (h6 : 6 ≤ i) (h12 : i < 12) : lxT b n a = 250 + i ↔ tkM b n (lxP b n a) = 1 ∧ isW b (lxP b n a) (wE b n (lxP b n a) - lxP b n a) i := by
  have h0 := lxT_at0 (b := b) (n := n) (a := a)
  have hs := fun s => lxT_atS (b := b) (n := n) (a := a) (s := s)
  unfold lxT tkM tkA
  generalize lxP b n a = p
  by_cases h1 : n ≤ p
  · rw [if_pos h1, if_pos h1]
    omega
  · rw [if_neg h1, if_neg h1]
    by_cases h2 : isL (b p)
    · rw [if_pos h2, if_pos h2]
      by_cases h3 : wdN b p (wE b n p - p) = 6
      · rw [if_pos h3, kyN_at h6 h12]
        exact ⟨fun q => ⟨rfl, q⟩, fun q => q.2⟩
      · rw [if_neg h3]
        exact ⟨fun q => by omega, fun q => absurd (wdN_key h6 h12 q.2) h3⟩
    · rw [if_neg h2, if_neg h2]
      by_cases h3 : isD (b p)
      · rw [if_pos h3, if_pos h3]
        constructor
        · intro q
          split at q <;> omega
        · intro q
          have := q.1
          split at this <;> omega
      · rw [if_neg h3, if_neg h3]
        by_cases h4 : isS (b p)
        · rw [if_pos h4, if_pos h4]
          unfold isS at h4
          constructor
          · intro q
            omega
          · intro q
            have := q.1
            omega
        · rw [if_neg h4, if_neg h4]
          constructor
          · intro q
            omega
          · intro q
            have := q.1
            omega
theorem lwS_let {b : Nat → Nat} : ∀ (k a j : Nat), a ≤ j → j < lwS b k a → isL (b j)
  | 0, a, j, h1, h2 => by
    rw [lwS] at h2
    omega
  | k + 1, a, j, h1, h2 => by
    rw [lwS] at h2
    split at h2
    · next hd =>
      rcases Nat.lt_or_ge a j with h | h
      · exact lwS_let k (a + 1) j (by omega) h2
      · obtain rfl : j = a := by omega
        exact hd
    · omega
theorem kAt_0 : ∀ i, i < 12 → ∀ j, j < 8 → (kAt i j = 0 ↔ kLen i ≤ j) := by decide +kernel
/-- letter by letter: the model's way to see a word -/
theorem isW_m {b : Nat → Nat} {p m i : Nat} (hi : i < 12) (hl : ∀ j, j < m → isL (b (p + j))) : (m ≤ 8 ∧ ∀ j, j < 8 → if j < m then nI (b (p + j)) = kAt i j else kAt i j = 0) ↔ isW b p m i := by
  have h8 := kLen_le i hi
  constructor
  · intro ⟨hm, h⟩
    have e : m = kLen i := by
      rcases Nat.lt_trichotomy m (kLen i) with h1 | h1 | h1
      · have h2 := h m (by omega)
        rw [if_neg (by omega)] at h2
        have := (kAt_0 i hi m (by omega)).mp h2
        omega
      · exact h1
      · have h2 := h (kLen i) (by omega)
        rw [if_pos h1, (kAt_0 i hi _ (by omega)).mpr (Nat.le_refl _)] at h2
        have h3 := hl (kLen i) h1
        unfold isL at h3
        have h4 : b (p + kLen i) < 2 ^ 31 := by omega
        have := nI_eq' (b := 0) h4 (by decide) h2
        omega
    refine ⟨e, fun j hj => ?_⟩
    have h2 := h j (by omega)
    rw [if_pos (by omega)] at h2
    exact h2
  · intro ⟨e, h⟩
    refine ⟨by omega, fun j hj => ?_⟩
    by_cases h1 : j < m
    · rw [if_pos h1]
      exact h j (by omega)
    · rw [if_neg h1]
      exact (kAt_0 i hi j hj).mpr (by omega)
/-- the token at hand, as the model keeps it -/
def MK (μ : Mem) (n : Nat) (b : Nat → Nat) (a : Nat) : Prop := (¬ tkM b n (lxP b n a) = 4 → μ 57 20 = nI (lxE b n a)) ∧ μ 57 22 = nI (lxP b n a) ∧ μ 57 21 = nI (tkM b n (lxP b n a)) ∧ (tkM b n (lxP b n a) = 2 → μ 57 23 = nI (vlA b n (lxP b n a))) ∧ (tkM b n (lxP b n a) = 3 → μ 57 23 = nI (b (lxP b n a)))
/-- the model reads on: names nm, op open -/
def MSg (μ : Mem) (f n : Nat) (b : Nat → Nat) (nm : Nat → Int32) (op a : Nat) : Prop := TXm μ f n b ∧ a ≤ n ∧ MK μ n b a ∧ μ 57 24 = nI op ∧ μ 57 25 = nI 0 ∧ ∀ j, j < 6 → μ 57 (12 + j) = nm j
/-- it has failed -/
def MB (μ : Mem) (n : Nat) (b : Nat → Nat) (a : Nat) : Prop := μ 57 25 = nI 1 ∧ μ 57 26 = nI (lxP b n a)
def MF (μ μ1 : Mem) : Prop := (∀ k, k ≠ 57 → μ1 k = μ k) ∧ ∀ j, j < 20 ∨ 26 < j → μ1 57 j = μ 57 j
theorem MF.refl (μ : Mem) : MF μ μ := ⟨fun _ _ => rfl, fun _ _ => rfl⟩
theorem MF.trans {μ μ1 μ2 : Mem} (h : MF μ μ1) (g : MF μ1 μ2) : MF μ μ2 := ⟨fun k hk => (g.1 k hk).trans (h.1 k hk), fun j hj => (g.2 j hj).trans (h.2 j hj)⟩
theorem TXm.mf {μ μ1 : Mem} {f n : Nat} {b : Nat → Nat} (h : TXm μ f n b) (g : MF μ μ1) : TXm μ1 f n b := h.moved (g.2 18 (by omega)) (g.2 19 (by omega)) (g.1 58 (by omega))
theorem MSg.nx {μ μ1 : Mem} {f n : Nat} {b : Nat → Nat} {nm : Nat → Int32} {op a a1 : Nat} (h : MSg μ f n b nm op a) (h1 : a1 ≤ n) (g : NX μ μ1 n b a1) : MSg μ1 f n b nm op a1 ∧ MF μ μ1 := by
  obtain ⟨t1, t2, t3, t4, t5, t6⟩ := h
  obtain ⟨g1, g2, g3, g4, g5, g6, g7⟩ := g
  exact ⟨⟨t1.moved (g2 18 (by omega)) (g2 19 (by omega)) (g1 58 (by omega)), h1, ⟨g3, g4, g5, g6, g7⟩, (g2 24 (by omega)).trans t4, (g2 25 (by omega)).trans t5, fun j hj => (g2 (12 + j) (by omega)).trans (t6 j hj)⟩, g1, fun j hj => g2 j (by omega)⟩
theorem MSg.op {μ : Mem} {f n : Nat} {b : Nat → Nat} {nm : Nat → Int32} {op a : Nat} (h : MSg μ f n b nm op a) (op1 : Nat) : MSg (mset μ 57 24 (nI op1)) f n b nm op1 a ∧ MF μ (mset μ 57 24 (nI op1)) := by
  obtain ⟨t1, t2, ⟨k1, k2, k3, k4, k5⟩, t4, t5, t6⟩ := h
  exact ⟨⟨t1.moved (mset_nj (by omega)) (mset_nj (by omega)) (mset_ne (by omega)), t2, ⟨fun q => (mset_nj (by omega)).trans (k1 q), (mset_nj (by omega)).trans k2, (mset_nj (by omega)).trans k3, fun q => (mset_nj (by omega)).trans (k4 q), fun q => (mset_nj (by omega)).trans (k5 q)⟩, mset_eq, (mset_nj (by omega)).trans t5, fun j hj => (mset_nj (by omega)).trans (t6 j hj)⟩, fun k hk => mset_ne hk, fun j hj => mset_nj (by omega)⟩
theorem MB.op {μ : Mem} {n : Nat} {b : Nat → Nat} {a : Nat} (h : MB μ n b a) (x : Int32) : MB (mset μ 57 24 x) n b a ∧ MF μ (mset μ 57 24 x) := ⟨⟨(mset_nj (by omega)).trans h.1, (mset_nj (by omega)).trans h.2⟩, fun k hk => mset_ne hk, fun j hj => mset_nj (by omega)⟩
theorem c_X8_isLetter (μ : Mem) (f n : Nat) (b : Nat → Nat) (hT : TXm μ f n b) (p e : Nat) (h22 : μ 57 22 = nI p) (h20 : μ 57 20 = nI e) (hen : e ≤ n) (j : Nat) (hj : j < 8) (hpn : p ≤ n) (x : Int32) : CA eI yX8_isLetter cX8_isLetter 3 (some .boolean) 1 [.ref 57, .int (nI j), .int x] μ (fun r μ1 => μ1 = μ ∧ ((r = nI 1 ∧ (if p + j < e then nI (b (p + j)) = x else x = 0)) ∨ (r = nI 0 ∧ ¬ (if p + j < e then nI (b (p + j)) = x else x = 0)))) := by
  have h160 := hT.2.2.2.1
  refine CT.of false (by decide) (by decide) (L := [some (.ref 57), some (.int (nI j)), some (.int x)]) rfl (Nat.le_of_ble_eq_true rfl) ?_
  refine g_aload_n (pc := 0) dX8_isLetter_0 rfl ?_
  refine v_geti (pc := 1) fl_X8_137 dX8_isLetter_1 (by first | rfl | assumption) rfl h22 ?_
  refine g_iload_n (pc := 4) dX8_isLetter_4 rfl ?_
  refine v_iadd (pc := 5) dX8_isLetter_5 (nI_add p j) ?_
  refine g_aload_n (pc := 6) dX8_isLetter_6 rfl ?_
  refine v_geti (pc := 7) fl_X8_131 dX8_isLetter_7 (by first | rfl | assumption) rfl h20 ?_
  refine g_icmp_ge (pc := 10) (tgt := 35) dX8_isLetter_10 (by decide) (fun c_10 => ?_) (fun c_10 => ?_)
  · have c10 : ¬ p + j < e := Nat.not_lt.mpr (nI_le' (by omega) (by omega) c_10)
    refine g_iload_n (pc := 35) dX8_isLetter_35 rfl ?_
    refine g_if_ne (pc := 36) (tgt := 43) dX8_isLetter_36 (by decide) (fun c_36 => ?_) (fun c_36 => ?_)
    · refine g_iconst (pc := 43) (v := (nI 0)) dX8_isLetter_43 (by decide) ?_
      refine g_ireturn (pc := 44) dX8_isLetter_44 rfl (by first | rfl | decide) rfl ⟨_, rfl, ?_⟩
      first
        | exact ⟨rfl, Or.inl ⟨rfl, by rw [if_pos c10]; exact c_24⟩⟩
        | exact ⟨rfl, Or.inr ⟨rfl, by rw [if_pos c10]; exact c_24⟩⟩
        | exact ⟨rfl, Or.inl ⟨rfl, by rw [if_neg c10]; exact c_36⟩⟩
        | exact ⟨rfl, Or.inr ⟨rfl, by rw [if_neg c10]; exact c_36⟩⟩
    · refine g_iconst (pc := 39) (v := (nI 1)) dX8_isLetter_39 (by decide) ?_
      refine g_goto (pc := 40) (tgt := 44) dX8_isLetter_40 (by decide) ?_
      refine g_ireturn (pc := 44) dX8_isLetter_44 rfl (by first | rfl | decide) rfl ⟨_, rfl, ?_⟩
      first
        | exact ⟨rfl, Or.inl ⟨rfl, by rw [if_pos c10]; exact c_24⟩⟩
        | exact ⟨rfl, Or.inr ⟨rfl, by rw [if_pos c10]; exact c_24⟩⟩
        | exact ⟨rfl, Or.inl ⟨rfl, by rw [if_neg c10]; exact c_36⟩⟩
        | exact ⟨rfl, Or.inr ⟨rfl, by rw [if_neg c10]; exact c_36⟩⟩
  · have c10 := nI_gt' (by omega) (by omega) c_10
    have hbp := hT.by (p + j) (by omega)
    refine g_aload_n (pc := 13) dX8_isLetter_13 rfl ?_
    refine g_aload_n (pc := 14) dX8_isLetter_14 rfl ?_
    refine v_geti (pc := 15) fl_X8_137 dX8_isLetter_15 (by first | rfl | assumption) rfl h22 ?_
    refine g_iload_n (pc := 18) dX8_isLetter_18 rfl ?_
    refine v_iadd (pc := 19) dX8_isLetter_19 (nI_add p j) ?_
    refine a_cv1i (pc := 20) (c_X8_byteAt μ f n b hT (p + j) (by omega)) m_X8_byteAt ml_X8_134 (by omega) (by first | rfl | assumption) rfl rfl (Nat.le_of_ble_eq_true rfl) dX8_isLetter_20 (fun x_20 μ_20 h_20 => ?_)
    obtain ⟨rfl, hm_20⟩ := h_20
    have hm_20 := hm_20.symm
    subst hm_20
    rw [show bA b n (p + j) = nI (b (p + j)) from if_pos (by omega)]
    refine g_iload_n (pc := 23) dX8_isLetter_23 rfl ?_
    refine g_icmp_ne (pc := 24) (tgt := 31) dX8_isLetter_24 (by decide) (fun c_24 => ?_) (fun c_24 => ?_)
    · refine g_iconst (pc := 31) (v := (nI 0)) dX8_isLetter_31 (by decide) ?_
      refine g_goto (pc := 32) (tgt := 44) dX8_isLetter_32 (by decide) ?_
      refine g_ireturn (pc := 44) dX8_isLetter_44 rfl (by first | rfl | decide) rfl ⟨_, rfl, ?_⟩
      first
        | exact ⟨rfl, Or.inl ⟨rfl, by rw [if_pos c10]; exact c_24⟩⟩
        | exact ⟨rfl, Or.inr ⟨rfl, by rw [if_pos c10]; exact c_24⟩⟩
        | exact ⟨rfl, Or.inl ⟨rfl, by rw [if_neg c10]; exact c_36⟩⟩
        | exact ⟨rfl, Or.inr ⟨rfl, by rw [if_neg c10]; exact c_36⟩⟩
    · refine g_iconst (pc := 27) (v := (nI 1)) dX8_isLetter_27 (by decide) ?_
      refine g_goto (pc := 28) (tgt := 44) dX8_isLetter_28 (by decide) ?_
      refine g_ireturn (pc := 44) dX8_isLetter_44 rfl (by first | rfl | decide) rfl ⟨_, rfl, ?_⟩
      first
        | exact ⟨rfl, Or.inl ⟨rfl, by rw [if_pos c10]; exact c_24⟩⟩
        | exact ⟨rfl, Or.inr ⟨rfl, by rw [if_pos c10]; exact c_24⟩⟩
        | exact ⟨rfl, Or.inl ⟨rfl, by rw [if_neg c10]; exact c_36⟩⟩
        | exact ⟨rfl, Or.inr ⟨rfl, by rw [if_neg c10]; exact c_36⟩⟩
theorem tkM_le (b : Nat → Nat) (n p : Nat) : tkM b n p ≤ 4 := by
  unfold tkM
  repeat' split
  all_goals omega
theorem c_X8_isWord (μ : Mem) (f n : Nat) (b : Nat → Nat) (nm : Nat → Int32) (op a : Nat) (hM : MSg μ f n b nm op a) (i : Nat) (hi : i < 12) : CA eI yX8_isWord cX8_isWord 9 (some .boolean) 2 [.ref 57, .int (kAt i 0), .int (kAt i 1), .int (kAt i 2), .int (kAt i 3), .int (kAt i 4), .int (kAt i 5), .int (kAt i 6), .int (kAt i 7)] μ (fun r μ1 => μ1 = μ ∧ ((r = nI 1 ∧ (tkM b n (lxP b n a) = 1 ∧ isW b (lxP b n a) (wE b n (lxP b n a) - lxP b n a) i)) ∨ (r = nI 0 ∧ ¬ (tkM b n (lxP b n a) = 1 ∧ isW b (lxP b n a) (wE b n (lxP b n a) - lxP b n a) i)))) := by
  obtain ⟨hT, han, ⟨k1, k2, k3, k4, k5⟩, k24, k25, knm⟩ := id hM
  have h160 := hT.2.2.2.1
  have hP := lxP_in b han
  have hE := lxE_in b han
  refine CT.of false (by decide) (by decide) (L := [some (.ref 57), some (.int (kAt i 0)), some (.int (kAt i 1)), some (.int (kAt i 2)), some (.int (kAt i 3)), some (.int (kAt i 4)), some (.int (kAt i 5)), some (.int (kAt i 6)), some (.int (kAt i 7))]) rfl (Nat.le_of_ble_eq_true rfl) ?_
  refine g_aload_n (pc := 0) dX8_isWord_0 rfl ?_
  refine v_getz (pc := 1) fl_X8_157 dX8_isWord_1 (by first | rfl | assumption) rfl k25 ?_
  refine g_if_ne (pc := 4) (tgt := 112) dX8_isWord_4 (by decide) (fun c_4 => ?_) (fun c_4 => ?_)
  · exact absurd rfl c_4
  · refine g_aload_n (pc := 7) dX8_isWord_7 rfl ?_
    refine v_geti (pc := 8) fl_X8_140 dX8_isWord_8 (by first | rfl | assumption) rfl k3 ?_
    refine g_iconst (pc := 11) (v := (nI 1)) dX8_isWord_11 (by decide) ?_
    refine g_icmp_ne (pc := 12) (tgt := 112) dX8_isWord_12 (by decide) (fun c_12 => ?_) (fun c_12 => ?_)
    · have hno : ¬ (tkM b n (lxP b n a) = 1 ∧ isW b (lxP b n a) (wE b n (lxP b n a) - lxP b n a) i) := fun h => c_12 (by rw [h.1])
      refine g_iconst (pc := 112) (v := (nI 0)) dX8_isWord_112 (by decide) ?_
      refine g_ireturn (pc := 113) dX8_isWord_113 rfl (by first | rfl | decide) rfl ⟨_, rfl, ?_⟩
      first
        | exact ⟨rfl, Or.inr ⟨rfl, hno⟩⟩
        | (refine ⟨rfl, Or.inl ⟨rfl, c12, hiff.mp ⟨by omega, fun j hj => ?_⟩⟩⟩
           have hj8 : j = 0 ∨ j = 1 ∨ j = 2 ∨ j = 3 ∨ j = 4 ∨ j = 5 ∨ j = 6 ∨ j = 7 := by omega
           have key : if p + j < e then nI (b (p + j)) = kAt i j else kAt i j = 0 := by
             rcases hj8 with rfl | rfl | rfl | rfl | rfl | rfl | rfl | rfl <;> assumption
           by_cases h3 : p + j < e
           · rw [if_pos h3] at key
             rw [if_pos (by omega)]
             exact key
           · rw [if_neg h3] at key
             rw [if_neg (by omega)]
             exact key)
    · have c12 : tkM b n (lxP b n a) = 1 := nI_eq' (by have := tkM_le b n (lxP b n a); omega) (by omega) c_12
      have hlt : lxP b n a < n := by
        rcases Nat.lt_or_ge (lxP b n a) n with h | h
        · exact h
        · rw [show tkM b n (lxP b n a) = 0 from if_pos h] at c12
          omega
      have hle : isL (b (lxP b n a)) := by
        by_cases h : isL (b (lxP b n a))
        · exact h
        · unfold tkM at c12
          rw [if_neg (by omega), if_neg h] at c12
          split at c12
          · split at c12 <;> omega
          · split at c12 <;> omega
      have hWi := wE_in hlt hle
      have h20 : μ 57 20 = nI (wE b n (lxP b n a)) := (k1 (by omega)).trans (congrArg nI (tk_word hlt hle).1)
      generalize hpe : lxP b n a = p at *
      generalize hee : wE b n p = e at *
      have hlet : ∀ j, j < e - p → isL (b (p + j)) := fun j hj => lwS_let (n - p) p (p + j) (by omega) (by unfold wE at hee; omega)
      have hiff := isW_m (b := b) (p := p) (m := e - p) hi hlet
      refine g_aload_n (pc := 15) dX8_isWord_15 rfl ?_
      refine v_geti (pc := 16) fl_X8_131 dX8_isWord_16 (by first | rfl | assumption) rfl h20 ?_
      refine g_aload_n (pc := 19) dX8_isWord_19 rfl ?_
      refine v_geti (pc := 20) fl_X8_137 dX8_isWord_20 (by first | rfl | assumption) rfl k2 ?_
      refine g_bipush (pc := 23) (v := (nI 8)) dX8_isWord_23 (by decide) ?_
      refine v_iadd (pc := 25) dX8_isWord_25 (nI_add _ 8) ?_
      refine g_icmp_gt (pc := 26) (tgt := 112) dX8_isWord_26 (by decide) (fun c_26 => ?_) (fun c_26 => ?_)
      · have c26 := nI_lt' (by omega) (by omega) c_26
        have hno : ¬ (tkM b n p = 1 ∧ isW b p (e - p) i) := fun h => by
          have := (hiff.mpr h.2).1
          omega
        refine g_iconst (pc := 112) (v := (nI 0)) dX8_isWord_112 (by decide) ?_
        refine g_ireturn (pc := 113) dX8_isWord_113 rfl (by first | rfl | decide) rfl ⟨_, rfl, ?_⟩
        first
          | exact ⟨rfl, Or.inr ⟨rfl, hno⟩⟩
          | (refine ⟨rfl, Or.inl ⟨rfl, c12, hiff.mp ⟨by omega, fun j hj => ?_⟩⟩⟩
             have hj8 : j = 0 ∨ j = 1 ∨ j = 2 ∨ j = 3 ∨ j = 4 ∨ j = 5 ∨ j = 6 ∨ j = 7 := by omega
             have key : if p + j < e then nI (b (p + j)) = kAt i j else kAt i j = 0 := by
               rcases hj8 with rfl | rfl | rfl | rfl | rfl | rfl | rfl | rfl <;> assumption
             by_cases h3 : p + j < e
             · rw [if_pos h3] at key
               rw [if_pos (by omega)]
               exact key
             · rw [if_neg h3] at key
               rw [if_neg (by omega)]
               exact key)
      · have c26 := nI_ge' (by omega) (by omega) c_26
        refine g_aload_n (pc := 29) dX8_isWord_29 rfl ?_
        refine g_iconst (pc := 30) (v := (nI 0)) dX8_isWord_30 (by decide) ?_
        refine g_iload_n (pc := 31) dX8_isWord_31 rfl ?_
        refine a_cv2i (pc := 32) (c_X8_isLetter μ f n b hT p e k2 h20 hWi.2 0 (by decide) (by omega) (kAt i 0)) m_X8_isLetter ml_X8_164 (by omega) (by first | rfl | assumption) rfl rfl (Nat.le_of_ble_eq_true rfl) dX8_isWord_32 (fun x_32 μ_32 h_32 => ?_)
        obtain ⟨hm_32, hd_32⟩ := h_32
        have hm_32 := hm_32.symm
        subst hm_32
        refine g_if_eq (pc := 35) (tgt := 112) dX8_isWord_35 (by decide) (fun c_35 => ?_) (fun c_35 => ?_)
        · have l0 := (hd_32.resolve_left (fun q => absurd (q.1.symm.trans c_35) (by decide))).2
          have hno : ¬ (tkM b n p = 1 ∧ isW b p (e - p) i) := fun h => by
            have h2 := (hiff.mpr h.2).2 0 (by decide)
            apply l0
            by_cases h3 : p + 0 < e
            · rw [if_pos h3]
              rw [if_pos (by omega)] at h2
              exact h2
            · rw [if_neg h3]
              rw [if_neg (by omega)] at h2
              exact h2
          refine g_iconst (pc := 112) (v := (nI 0)) dX8_isWord_112 (by decide) ?_
          refine g_ireturn (pc := 113) dX8_isWord_113 rfl (by first | rfl | decide) rfl ⟨_, rfl, ?_⟩
          first
            | exact ⟨rfl, Or.inr ⟨rfl, hno⟩⟩
            | (refine ⟨rfl, Or.inl ⟨rfl, c12, hiff.mp ⟨by omega, fun j hj => ?_⟩⟩⟩
               have hj8 : j = 0 ∨ j = 1 ∨ j = 2 ∨ j = 3 ∨ j = 4 ∨ j = 5 ∨ j = 6 ∨ j = 7 := by omega
               have key : if p + j < e then nI (b (p + j)) = kAt i j else kAt i j = 0 := by
                 rcases hj8 with rfl | rfl | rfl | rfl | rfl | rfl | rfl | rfl <;> assumption
               by_cases h3 : p + j < e
               · rw [if_pos h3] at key
                 rw [if_pos (by omega)]
                 exact key
               · rw [if_neg h3] at key
                 rw [if_neg (by omega)]
                 exact key)
        · have l0 := (hd_32.resolve_right (fun q => c_35 q.1)).2
          refine g_aload_n (pc := 38) dX8_isWord_38 rfl ?_
          refine g_iconst (pc := 39) (v := (nI 1)) dX8_isWord_39 (by decide) ?_
          refine g_iload_n (pc := 40) dX8_isWord_40 rfl ?_
          refine a_cv2i (pc := 41) (c_X8_isLetter μ f n b hT p e k2 h20 hWi.2 1 (by decide) (by omega) (kAt i 1)) m_X8_isLetter ml_X8_164 (by omega) (by first | rfl | assumption) rfl rfl (Nat.le_of_ble_eq_true rfl) dX8_isWord_41 (fun x_41 μ_41 h_41 => ?_)
          obtain ⟨hm_41, hd_41⟩ := h_41
          have hm_41 := hm_41.symm
          subst hm_41
          refine g_if_eq (pc := 44) (tgt := 112) dX8_isWord_44 (by decide) (fun c_44 => ?_) (fun c_44 => ?_)
          · have l1 := (hd_41.resolve_left (fun q => absurd (q.1.symm.trans c_44) (by decide))).2
            have hno : ¬ (tkM b n p = 1 ∧ isW b p (e - p) i) := fun h => by
              have h2 := (hiff.mpr h.2).2 1 (by decide)
              apply l1
              by_cases h3 : p + 1 < e
              · rw [if_pos h3]
                rw [if_pos (by omega)] at h2
                exact h2
              · rw [if_neg h3]
                rw [if_neg (by omega)] at h2
                exact h2
            refine g_iconst (pc := 112) (v := (nI 0)) dX8_isWord_112 (by decide) ?_
            refine g_ireturn (pc := 113) dX8_isWord_113 rfl (by first | rfl | decide) rfl ⟨_, rfl, ?_⟩
            first
              | exact ⟨rfl, Or.inr ⟨rfl, hno⟩⟩
              | (refine ⟨rfl, Or.inl ⟨rfl, c12, hiff.mp ⟨by omega, fun j hj => ?_⟩⟩⟩
                 have hj8 : j = 0 ∨ j = 1 ∨ j = 2 ∨ j = 3 ∨ j = 4 ∨ j = 5 ∨ j = 6 ∨ j = 7 := by omega
                 have key : if p + j < e then nI (b (p + j)) = kAt i j else kAt i j = 0 := by
                   rcases hj8 with rfl | rfl | rfl | rfl | rfl | rfl | rfl | rfl <;> assumption
                 by_cases h3 : p + j < e
                 · rw [if_pos h3] at key
                   rw [if_pos (by omega)]
                   exact key
                 · rw [if_neg h3] at key
                   rw [if_neg (by omega)]
                   exact key)
          · have l1 := (hd_41.resolve_right (fun q => c_44 q.1)).2
            refine g_aload_n (pc := 47) dX8_isWord_47 rfl ?_
            refine g_iconst (pc := 48) (v := (nI 2)) dX8_isWord_48 (by decide) ?_
            refine g_iload_n (pc := 49) dX8_isWord_49 rfl ?_
            refine a_cv2i (pc := 50) (c_X8_isLetter μ f n b hT p e k2 h20 hWi.2 2 (by decide) (by omega) (kAt i 2)) m_X8_isLetter ml_X8_164 (by omega) (by first | rfl | assumption) rfl rfl (Nat.le_of_ble_eq_true rfl) dX8_isWord_50 (fun x_50 μ_50 h_50 => ?_)
            obtain ⟨hm_50, hd_50⟩ := h_50
            have hm_50 := hm_50.symm
            subst hm_50
            refine g_if_eq (pc := 53) (tgt := 112) dX8_isWord_53 (by decide) (fun c_53 => ?_) (fun c_53 => ?_)
            · have l2 := (hd_50.resolve_left (fun q => absurd (q.1.symm.trans c_53) (by decide))).2
              have hno : ¬ (tkM b n p = 1 ∧ isW b p (e - p) i) := fun h => by
                have h2 := (hiff.mpr h.2).2 2 (by decide)
                apply l2
                by_cases h3 : p + 2 < e
                · rw [if_pos h3]
                  rw [if_pos (by omega)] at h2
                  exact h2
                · rw [if_neg h3]
                  rw [if_neg (by omega)] at h2
                  exact h2
              refine g_iconst (pc := 112) (v := (nI 0)) dX8_isWord_112 (by decide) ?_
              refine g_ireturn (pc := 113) dX8_isWord_113 rfl (by first | rfl | decide) rfl ⟨_, rfl, ?_⟩
              first
                | exact ⟨rfl, Or.inr ⟨rfl, hno⟩⟩
                | (refine ⟨rfl, Or.inl ⟨rfl, c12, hiff.mp ⟨by omega, fun j hj => ?_⟩⟩⟩
                   have hj8 : j = 0 ∨ j = 1 ∨ j = 2 ∨ j = 3 ∨ j = 4 ∨ j = 5 ∨ j = 6 ∨ j = 7 := by omega
                   have key : if p + j < e then nI (b (p + j)) = kAt i j else kAt i j = 0 := by
                     rcases hj8 with rfl | rfl | rfl | rfl | rfl | rfl | rfl | rfl <;> assumption
                   by_cases h3 : p + j < e
                   · rw [if_pos h3] at key
                     rw [if_pos (by omega)]
                     exact key
                   · rw [if_neg h3] at key
                     rw [if_neg (by omega)]
                     exact key)
            · have l2 := (hd_50.resolve_right (fun q => c_53 q.1)).2
              refine g_aload_n (pc := 56) dX8_isWord_56 rfl ?_
              refine g_iconst (pc := 57) (v := (nI 3)) dX8_isWord_57 (by decide) ?_
              refine g_iload (pc := 58) dX8_isWord_58 rfl ?_
              refine a_cv2i (pc := 60) (c_X8_isLetter μ f n b hT p e k2 h20 hWi.2 3 (by decide) (by omega) (kAt i 3)) m_X8_isLetter ml_X8_164 (by omega) (by first | rfl | assumption) rfl rfl (Nat.le_of_ble_eq_true rfl) dX8_isWord_60 (fun x_60 μ_60 h_60 => ?_)
              obtain ⟨hm_60, hd_60⟩ := h_60
              have hm_60 := hm_60.symm
              subst hm_60
              refine g_if_eq (pc := 63) (tgt := 112) dX8_isWord_63 (by decide) (fun c_63 => ?_) (fun c_63 => ?_)
              · have l3 := (hd_60.resolve_left (fun q => absurd (q.1.symm.trans c_63) (by decide))).2
                have hno : ¬ (tkM b n p = 1 ∧ isW b p (e - p) i) := fun h => by
                  have h2 := (hiff.mpr h.2).2 3 (by decide)
                  apply l3
                  by_cases h3 : p + 3 < e
                  · rw [if_pos h3]
                    rw [if_pos (by omega)] at h2
                    exact h2
                  · rw [if_neg h3]
                    rw [if_neg (by omega)] at h2
                    exact h2
                refine g_iconst (pc := 112) (v := (nI 0)) dX8_isWord_112 (by decide) ?_
                refine g_ireturn (pc := 113) dX8_isWord_113 rfl (by first | rfl | decide) rfl ⟨_, rfl, ?_⟩
                first
                  | exact ⟨rfl, Or.inr ⟨rfl, hno⟩⟩
                  | (refine ⟨rfl, Or.inl ⟨rfl, c12, hiff.mp ⟨by omega, fun j hj => ?_⟩⟩⟩
                     have hj8 : j = 0 ∨ j = 1 ∨ j = 2 ∨ j = 3 ∨ j = 4 ∨ j = 5 ∨ j = 6 ∨ j = 7 := by omega
                     have key : if p + j < e then nI (b (p + j)) = kAt i j else kAt i j = 0 := by
                       rcases hj8 with rfl | rfl | rfl | rfl | rfl | rfl | rfl | rfl <;> assumption
                     by_cases h3 : p + j < e
                     · rw [if_pos h3] at key
                       rw [if_pos (by omega)]
                       exact key
                     · rw [if_neg h3] at key
                       rw [if_neg (by omega)]
                       exact key)
              · have l3 := (hd_60.resolve_right (fun q => c_63 q.1)).2
                refine g_aload_n (pc := 66) dX8_isWord_66 rfl ?_
                refine g_iconst (pc := 67) (v := (nI 4)) dX8_isWord_67 (by decide) ?_
                refine g_iload (pc := 68) dX8_isWord_68 rfl ?_
                refine a_cv2i (pc := 70) (c_X8_isLetter μ f n b hT p e k2 h20 hWi.2 4 (by decide) (by omega) (kAt i 4)) m_X8_isLetter ml_X8_164 (by omega) (by first | rfl | assumption) rfl rfl (Nat.le_of_ble_eq_true rfl) dX8_isWord_70 (fun x_70 μ_70 h_70 => ?_)
                obtain ⟨hm_70, hd_70⟩ := h_70
                have hm_70 := hm_70.symm
                subst hm_70
                refine g_if_eq (pc := 73) (tgt := 112) dX8_isWord_73 (by decide) (fun c_73 => ?_) (fun c_73 => ?_)
                · have l4 := (hd_70.resolve_left (fun q => absurd (q.1.symm.trans c_73) (by decide))).2
                  have hno : ¬ (tkM b n p = 1 ∧ isW b p (e - p) i) := fun h => by
                    have h2 := (hiff.mpr h.2).2 4 (by decide)
                    apply l4
                    by_cases h3 : p + 4 < e
                    · rw [if_pos h3]
                      rw [if_pos (by omega)] at h2
                      exact h2
                    · rw [if_neg h3]
                      rw [if_neg (by omega)] at h2
                      exact h2
                  refine g_iconst (pc := 112) (v := (nI 0)) dX8_isWord_112 (by decide) ?_
                  refine g_ireturn (pc := 113) dX8_isWord_113 rfl (by first | rfl | decide) rfl ⟨_, rfl, ?_⟩
                  first
                    | exact ⟨rfl, Or.inr ⟨rfl, hno⟩⟩
                    | (refine ⟨rfl, Or.inl ⟨rfl, c12, hiff.mp ⟨by omega, fun j hj => ?_⟩⟩⟩
                       have hj8 : j = 0 ∨ j = 1 ∨ j = 2 ∨ j = 3 ∨ j = 4 ∨ j = 5 ∨ j = 6 ∨ j = 7 := by omega
                       have key : if p + j < e then nI (b (p + j)) = kAt i j else kAt i j = 0 := by
                         rcases hj8 with rfl | rfl | rfl | rfl | rfl | rfl | rfl | rfl <;> assumption
                       by_cases h3 : p + j < e
                       · rw [if_pos h3] at key
                         rw [if_pos (by omega)]
                         exact key
                       · rw [if_neg h3] at key
                         rw [if_neg (by omega)]
                         exact key)
                · have l4 := (hd_70.resolve_right (fun q => c_73 q.1)).2
                  refine g_aload_n (pc := 76) dX8_isWord_76 rfl ?_
                  refine g_iconst (pc := 77) (v := (nI 5)) dX8_isWord_77 (by decide) ?_
                  refine g_iload (pc := 78) dX8_isWord_78 rfl ?_
                  refine a_cv2i (pc := 80) (c_X8_isLetter μ f n b hT p e k2 h20 hWi.2 5 (by decide) (by omega) (kAt i 5)) m_X8_isLetter ml_X8_164 (by omega) (by first | rfl | assumption) rfl rfl (Nat.le_of_ble_eq_true rfl) dX8_isWord_80 (fun x_80 μ_80 h_80 => ?_)
                  obtain ⟨hm_80, hd_80⟩ := h_80
                  have hm_80 := hm_80.symm
                  subst hm_80
                  refine g_if_eq (pc := 83) (tgt := 112) dX8_isWord_83 (by decide) (fun c_83 => ?_) (fun c_83 => ?_)
                  · have l5 := (hd_80.resolve_left (fun q => absurd (q.1.symm.trans c_83) (by decide))).2
                    have hno : ¬ (tkM b n p = 1 ∧ isW b p (e - p) i) := fun h => by
                      have h2 := (hiff.mpr h.2).2 5 (by decide)
                      apply l5
                      by_cases h3 : p + 5 < e
                      · rw [if_pos h3]
                        rw [if_pos (by omega)] at h2
                        exact h2
                      · rw [if_neg h3]
                        rw [if_neg (by omega)] at h2
                        exact h2
                    refine g_iconst (pc := 112) (v := (nI 0)) dX8_isWord_112 (by decide) ?_
                    refine g_ireturn (pc := 113) dX8_isWord_113 rfl (by first | rfl | decide) rfl ⟨_, rfl, ?_⟩
                    first
                      | exact ⟨rfl, Or.inr ⟨rfl, hno⟩⟩
                      | (refine ⟨rfl, Or.inl ⟨rfl, c12, hiff.mp ⟨by omega, fun j hj => ?_⟩⟩⟩
                         have hj8 : j = 0 ∨ j = 1 ∨ j = 2 ∨ j = 3 ∨ j = 4 ∨ j = 5 ∨ j = 6 ∨ j = 7 := by omega
                         have key : if p + j < e then nI (b (p + j)) = kAt i j else kAt i j = 0 := by
                           rcases hj8 with rfl | rfl | rfl | rfl | rfl | rfl | rfl | rfl <;> assumption
                         by_cases h3 : p + j < e
                         · rw [if_pos h3] at key
                           rw [if_pos (by omega)]
                           exact key
                         · rw [if_neg h3] at key
                           rw [if_neg (by omega)]
                           exact key)
                  · have l5 := (hd_80.resolve_right (fun q => c_83 q.1)).2
                    refine g_aload_n (pc := 86) dX8_isWord_86 rfl ?_
                    refine g_bipush (pc := 87) (v := (nI 6)) dX8_isWord_87 (by decide) ?_
                    refine g_iload (pc := 89) dX8_isWord_89 rfl ?_
                    refine a_cv2i (pc := 91) (c_X8_isLetter μ f n b hT p e k2 h20 hWi.2 6 (by decide) (by omega) (kAt i 6)) m_X8_isLetter ml_X8_164 (by omega) (by first | rfl | assumption) rfl rfl (Nat.le_of_ble_eq_true rfl) dX8_isWord_91 (fun x_91 μ_91 h_91 => ?_)
                    obtain ⟨hm_91, hd_91⟩ := h_91
                    have hm_91 := hm_91.symm
                    subst hm_91
                    refine g_if_eq (pc := 94) (tgt := 112) dX8_isWord_94 (by decide) (fun c_94 => ?_) (fun c_94 => ?_)
                    · have l6 := (hd_91.resolve_left (fun q => absurd (q.1.symm.trans c_94) (by decide))).2
                      have hno : ¬ (tkM b n p = 1 ∧ isW b p (e - p) i) := fun h => by
                        have h2 := (hiff.mpr h.2).2 6 (by decide)
                        apply l6
                        by_cases h3 : p + 6 < e
                        · rw [if_pos h3]
                          rw [if_pos (by omega)] at h2
                          exact h2
                        · rw [if_neg h3]
                          rw [if_neg (by omega)] at h2
                          exact h2
                      refine g_iconst (pc := 112) (v := (nI 0)) dX8_isWord_112 (by decide) ?_
                      refine g_ireturn (pc := 113) dX8_isWord_113 rfl (by first | rfl | decide) rfl ⟨_, rfl, ?_⟩
                      first
                        | exact ⟨rfl, Or.inr ⟨rfl, hno⟩⟩
                        | (refine ⟨rfl, Or.inl ⟨rfl, c12, hiff.mp ⟨by omega, fun j hj => ?_⟩⟩⟩
                           have hj8 : j = 0 ∨ j = 1 ∨ j = 2 ∨ j = 3 ∨ j = 4 ∨ j = 5 ∨ j = 6 ∨ j = 7 := by omega
                           have key : if p + j < e then nI (b (p + j)) = kAt i j else kAt i j = 0 := by
                             rcases hj8 with rfl | rfl | rfl | rfl | rfl | rfl | rfl | rfl <;> assumption
                           by_cases h3 : p + j < e
                           · rw [if_pos h3] at key
                             rw [if_pos (by omega)]
                             exact key
                           · rw [if_neg h3] at key
                             rw [if_neg (by omega)]
                             exact key)
                    · have l6 := (hd_91.resolve_right (fun q => c_94 q.1)).2
                      refine g_aload_n (pc := 97) dX8_isWord_97 rfl ?_
                      refine g_bipush (pc := 98) (v := (nI 7)) dX8_isWord_98 (by decide) ?_
                      refine g_iload (pc := 100) dX8_isWord_100 rfl ?_
                      refine a_cv2i (pc := 102) (c_X8_isLetter μ f n b hT p e k2 h20 hWi.2 7 (by decide) (by omega) (kAt i 7)) m_X8_isLetter ml_X8_164 (by omega) (by first | rfl | assumption) rfl rfl (Nat.le_of_ble_eq_true rfl) dX8_isWord_102 (fun x_102 μ_102 h_102 => ?_)
                      obtain ⟨hm_102, hd_102⟩ := h_102
                      have hm_102 := hm_102.symm
                      subst hm_102
                      refine g_if_eq (pc := 105) (tgt := 112) dX8_isWord_105 (by decide) (fun c_105 => ?_) (fun c_105 => ?_)
                      · have l7 := (hd_102.resolve_left (fun q => absurd (q.1.symm.trans c_105) (by decide))).2
                        have hno : ¬ (tkM b n p = 1 ∧ isW b p (e - p) i) := fun h => by
                          have h2 := (hiff.mpr h.2).2 7 (by decide)
                          apply l7
                          by_cases h3 : p + 7 < e
                          · rw [if_pos h3]
                            rw [if_pos (by omega)] at h2
                            exact h2
                          · rw [if_neg h3]
                            rw [if_neg (by omega)] at h2
                            exact h2
                        refine g_iconst (pc := 112) (v := (nI 0)) dX8_isWord_112 (by decide) ?_
                        refine g_ireturn (pc := 113) dX8_isWord_113 rfl (by first | rfl | decide) rfl ⟨_, rfl, ?_⟩
                        first
                          | exact ⟨rfl, Or.inr ⟨rfl, hno⟩⟩
                          | (refine ⟨rfl, Or.inl ⟨rfl, c12, hiff.mp ⟨by omega, fun j hj => ?_⟩⟩⟩
                             have hj8 : j = 0 ∨ j = 1 ∨ j = 2 ∨ j = 3 ∨ j = 4 ∨ j = 5 ∨ j = 6 ∨ j = 7 := by omega
                             have key : if p + j < e then nI (b (p + j)) = kAt i j else kAt i j = 0 := by
                               rcases hj8 with rfl | rfl | rfl | rfl | rfl | rfl | rfl | rfl <;> assumption
                             by_cases h3 : p + j < e
                             · rw [if_pos h3] at key
                               rw [if_pos (by omega)]
                               exact key
                             · rw [if_neg h3] at key
                               rw [if_neg (by omega)]
                               exact key)
                      · have l7 := (hd_102.resolve_right (fun q => c_105 q.1)).2
                        refine g_iconst (pc := 108) (v := (nI 1)) dX8_isWord_108 (by decide) ?_
                        refine g_goto (pc := 109) (tgt := 113) dX8_isWord_109 (by decide) ?_
                        refine g_ireturn (pc := 113) dX8_isWord_113 rfl (by first | rfl | decide) rfl ⟨_, rfl, ?_⟩
                        first
                          | exact ⟨rfl, Or.inr ⟨rfl, hno⟩⟩
                          | (refine ⟨rfl, Or.inl ⟨rfl, c12, hiff.mp ⟨by omega, fun j hj => ?_⟩⟩⟩
                             have hj8 : j = 0 ∨ j = 1 ∨ j = 2 ∨ j = 3 ∨ j = 4 ∨ j = 5 ∨ j = 6 ∨ j = 7 := by omega
                             have key : if p + j < e then nI (b (p + j)) = kAt i j else kAt i j = 0 := by
                               rcases hj8 with rfl | rfl | rfl | rfl | rfl | rfl | rfl | rfl <;> assumption
                             by_cases h3 : p + j < e
                             · rw [if_pos h3] at key
                               rw [if_pos (by omega)]
                               exact key
                             · rw [if_neg h3] at key
                               rw [if_neg (by omega)]
                               exact key)
theorem c_X8_isWordB (μ : Mem) (hb : μ 57 25 = nI 1) (x0 x1 x2 x3 x4 x5 x6 x7 : Int32) : CA eI yX8_isWord cX8_isWord 9 (some .boolean) 0 [.ref 57, .int x0, .int x1, .int x2, .int x3, .int x4, .int x5, .int x6, .int x7] μ (fun r μ1 => r = nI 0 ∧ μ1 = μ) := by
  refine CT.of false (by decide) (by decide) (L := [some (.ref 57), some (.int x0), some (.int x1), some (.int x2), some (.int x3), some (.int x4), some (.int x5), some (.int x6), some (.int x7)]) rfl (Nat.le_of_ble_eq_true rfl) ?_
  refine g_aload_n (pc := 0) dX8_isWord_0 rfl ?_
  refine v_getz (pc := 1) fl_X8_157 dX8_isWord_1 (by first | rfl | assumption) rfl hb ?_
  refine g_if_ne (pc := 4) (tgt := 112) dX8_isWord_4 (by decide) (fun c_4 => ?_) (fun c_4 => absurd c_4 (by decide))
  refine g_iconst (pc := 112) (v := (nI 0)) dX8_isWord_112 (by decide) ?_
  refine g_ireturn (pc := 113) dX8_isWord_113 rfl (by first | rfl | decide) rfl ⟨_, rfl, ?_⟩
  exact ⟨rfl, rfl⟩
theorem c_X8_isSign (μ : Mem) (f n : Nat) (b : Nat → Nat) (nm : Nat → Int32) (op a : Nat) (hM : MSg μ f n b nm op a) (s : Nat) (hs : isS s) : CA eI yX8_isSign cX8_isSign 2 (some .boolean) 0 [.ref 57, .int (nI s)] μ (fun r μ1 => μ1 = μ ∧ ((r = nI 1 ∧ lxT b n a = s) ∨ (r = nI 0 ∧ ¬ lxT b n a = s))) := by
  obtain ⟨hT, han, ⟨k1, k2, k3, k4, k5⟩, k24, k25, knm⟩ := id hM
  have h160 := hT.2.2.2.1
  have hP := lxP_in b han
  have hE := lxE_in b han
  rw [lxT_atS hs]
  have hs61 : s ≤ 61 := by
    unfold isS at hs
    omega
  refine CT.of false (by decide) (by decide) (L := [some (.ref 57), some (.int (nI s))]) rfl (Nat.le_of_ble_eq_true rfl) ?_
  refine g_aload_n (pc := 0) dX8_isSign_0 rfl ?_
  refine v_getz (pc := 1) fl_X8_157 dX8_isSign_1 (by first | rfl | assumption) rfl k25 ?_
  refine g_if_ne (pc := 4) (tgt := 29) dX8_isSign_4 (by decide) (fun c_4 => ?_) (fun c_4 => ?_)
  · exact absurd rfl c_4
  · refine g_aload_n (pc := 7) dX8_isSign_7 rfl ?_
    refine v_geti (pc := 8) fl_X8_140 dX8_isSign_8 (by first | rfl | assumption) rfl k3 ?_
    refine g_iconst (pc := 11) (v := (nI 3)) dX8_isSign_11 (by decide) ?_
    refine g_icmp_ne (pc := 12) (tgt := 29) dX8_isSign_12 (by decide) (fun c_12 => ?_) (fun c_12 => ?_)
    · have c12 : ¬ tkM b n (lxP b n a) = 3 := fun h => c_12 (by rw [h])
      have hno : ¬ (tkM b n (lxP b n a) = 3 ∧ b (lxP b n a) = s) := fun h => c12 h.1
      refine g_iconst (pc := 29) (v := (nI 0)) dX8_isSign_29 (by decide) ?_
      refine g_ireturn (pc := 30) dX8_isSign_30 rfl (by first | rfl | decide) rfl ⟨_, rfl, ?_⟩
      first | exact ⟨rfl, Or.inr ⟨rfl, hno⟩⟩ | exact ⟨rfl, Or.inl ⟨rfl, hyes⟩⟩
    · have c12 : tkM b n (lxP b n a) = 3 := nI_eq' (by have := tkM_le b n (lxP b n a); omega) (by omega) c_12
      have hlt : lxP b n a < n := by
        rcases Nat.lt_or_ge (lxP b n a) n with h | h
        · exact h
        · rw [show tkM b n (lxP b n a) = 0 from if_pos h] at c12
          omega
      have hbp := hT.by _ hlt
      refine g_aload_n (pc := 15) dX8_isSign_15 rfl ?_
      refine a_getl (pc := 16) fl_X8_151 dX8_isSign_16 (by first | rfl | assumption) rfl ?_
      rw [k5 c12, nI_l (n := b (lxP b n a)) (by omega)]
      refine g_iload_n (pc := 19) dX8_isSign_19 rfl ?_
      refine g_i2l (pc := 20) dX8_isSign_20 (nI_l (by omega)) ?_
      refine g_lcmp (pc := 21) dX8_isSign_21 ?_
      refine g_if_ne (pc := 22) (tgt := 29) dX8_isSign_22 (by decide) (fun c_22 => ?_) (fun c_22 => ?_)
      · have hno : ¬ (tkM b n (lxP b n a) = 3 ∧ b (lxP b n a) = s) := fun h => c_22 ((lg_cmp_eq _ _).mpr (by rw [h.2]))
        refine g_iconst (pc := 29) (v := (nI 0)) dX8_isSign_29 (by decide) ?_
        refine g_ireturn (pc := 30) dX8_isSign_30 rfl (by first | rfl | decide) rfl ⟨_, rfl, ?_⟩
        first | exact ⟨rfl, Or.inr ⟨rfl, hno⟩⟩ | exact ⟨rfl, Or.inl ⟨rfl, hyes⟩⟩
      · have hyes : tkM b n (lxP b n a) = 3 ∧ b (lxP b n a) = s := ⟨c12, (lN_eq (by omega) (by omega)).mp ((lg_cmp_eq _ _).mp c_22)⟩
        refine g_iconst (pc := 25) (v := (nI 1)) dX8_isSign_25 (by decide) ?_
        refine g_goto (pc := 26) (tgt := 30) dX8_isSign_26 (by decide) ?_
        refine g_ireturn (pc := 30) dX8_isSign_30 rfl (by first | rfl | decide) rfl ⟨_, rfl, ?_⟩
        first | exact ⟨rfl, Or.inr ⟨rfl, hno⟩⟩ | exact ⟨rfl, Or.inl ⟨rfl, hyes⟩⟩
theorem c_X8_isSignB (μ : Mem) (hb : μ 57 25 = nI 1) (x : Int32) : CA eI yX8_isSign cX8_isSign 2 (some .boolean) 0 [.ref 57, .int x] μ (fun r μ1 => r = nI 0 ∧ μ1 = μ) := by
  refine CT.of false (by decide) (by decide) (L := [some (.ref 57), some (.int x)]) rfl (Nat.le_of_ble_eq_true rfl) ?_
  refine g_aload_n (pc := 0) dX8_isSign_0 rfl ?_
  refine v_getz (pc := 1) fl_X8_157 dX8_isSign_1 (by first | rfl | assumption) rfl hb ?_
  refine g_if_ne (pc := 4) (tgt := 29) dX8_isSign_4 (by decide) (fun c_4 => ?_) (fun c_4 => absurd c_4 (by decide))
  refine g_iconst (pc := 29) (v := (nI 0)) dX8_isSign_29 (by decide) ?_
  refine g_ireturn (pc := 30) dX8_isSign_30 rfl (by first | rfl | decide) rfl ⟨_, rfl, ?_⟩
  exact ⟨rfl, rfl⟩
theorem c_X8_failB (μ : Mem) (hb : μ 57 25 = nI 1) : CA eV yX8_fail cX8_fail 1 none 0 [.ref 57] μ (fun _ μ1 => μ1 = μ) := by
  refine CT.of false (by decide) (by decide) (L := [some (.ref 57)]) rfl (Nat.le_of_ble_eq_true rfl) ?_
  refine g_aload_n (pc := 0) dX8_fail_0 rfl ?_
  refine v_getz (pc := 1) fl_X8_157 dX8_fail_1 (by first | rfl | assumption) rfl hb ?_
  refine g_if_ne (pc := 4) (tgt := 20) dX8_fail_4 (by decide) (fun c_4 => ?_) (fun c_4 => absurd c_4 (by decide))
  refine g_return (pc := 20) (x := ()) dX8_fail_20 rfl rfl ⟨_, rfl, ?_⟩
  rfl
theorem c_X8_fail (μ : Mem) (f n : Nat) (b : Nat → Nat) (nm : Nat → Int32) (op a : Nat) (hM : MSg μ f n b nm op a) : CA eV yX8_fail cX8_fail 1 none 0 [.ref 57] μ (fun _ μ1 => MB μ1 n b a ∧ MF μ μ1) := by
  obtain ⟨hT, han, ⟨k1, k2, k3, k4, k5⟩, k24, k25, knm⟩ := id hM
  have h160 := hT.2.2.2.1
  have hP := lxP_in b han
  have hE := lxE_in b han
  refine CT.of false (by decide) (by decide) (L := [some (.ref 57)]) rfl (Nat.le_of_ble_eq_true rfl) ?_
  refine g_aload_n (pc := 0) dX8_fail_0 rfl ?_
  refine v_getz (pc := 1) fl_X8_157 dX8_fail_1 (by first | rfl | assumption) rfl k25 ?_
  refine g_if_ne (pc := 4) (tgt := 20) dX8_fail_4 (by decide) (fun c_4 => ?_) (fun c_4 => ?_)
  · exact absurd rfl c_4
  · refine g_aload_n (pc := 7) dX8_fail_7 rfl ?_
    refine g_iconst (pc := 8) (v := (nI 1)) dX8_fail_8 (by decide) ?_
    refine a_putz (pc := 9) fw_X8_157 dX8_fail_9 (by first | rfl | assumption) rfl (by decide) ?_
    refine g_aload_n (pc := 12) dX8_fail_12 rfl ?_
    refine g_aload_n (pc := 13) dX8_fail_13 rfl ?_
    refine v_geti (pc := 14) fl_X8_137 dX8_fail_14 (by first | rfl | assumption) rfl ((mset_nj (by omega)).trans k2) ?_
    refine a_puti (pc := 17) fw_X8_161 dX8_fail_17 (by first | rfl | assumption) rfl ?_
    refine g_return (pc := 20) (x := ()) dX8_fail_20 rfl rfl ⟨_, rfl, ?_⟩
    exact ⟨⟨(mset_nj (by omega)).trans mset_eq, mset_eq⟩, fun k hk => by rw [mset_ne hk, mset_ne hk], fun j hj => by rw [mset_nj (by omega), mset_nj (by omega)]⟩
theorem c_X8_opens (μ : Mem) (f n : Nat) (b : Nat → Nat) (nm : Nat → Int32) (op a : Nat) (hM : MSg μ f n b nm op a) (hop : op ≤ 5) (h4 : ¬ tkM b n (lxP b n a) = 4) : CA eI yX8_opens cX8_opens 1 (some .boolean) 2 [.ref 57] μ (fun r μ1 => MF μ μ1 ∧ ((r = nI 0 ∧ ¬ op < 5 ∧ MB μ1 n b a) ∨ (r = nI 1 ∧ op < 5 ∧ MSg μ1 f n b nm (op + 1) (lxE b n a)))) := by
  obtain ⟨hT, han, ⟨k1, k2, k3, k4, k5⟩, k24, k25, knm⟩ := id hM
  have h160 := hT.2.2.2.1
  have hP := lxP_in b han
  have hE := lxE_in b han
  refine CT.of false (by decide) (by decide) (L := [some (.ref 57)]) rfl (Nat.le_of_ble_eq_true rfl) ?_
  refine g_aload_n (pc := 0) dX8_opens_0 rfl ?_
  refine v_geti (pc := 1) fl_X8_168 dX8_opens_1 (by first | rfl | assumption) rfl k24 ?_
  refine g_iconst (pc := 4) (v := (nI 5)) dX8_opens_4 (by decide) ?_
  refine g_icmp_ne (pc := 5) (tgt := 14) dX8_opens_5 (by decide) (fun c_5 => ?_) (fun c_5 => ?_)
  · have c5 : op < 5 := by
      have : ¬ op = 5 := fun h => c_5 (by rw [h])
      omega
    refine g_aload_n (pc := 14) dX8_opens_14 rfl ?_
    refine g_dup (pc := 15) dX8_opens_15 rfl ?_
    refine v_geti (pc := 16) fl_X8_168 dX8_opens_16 (by first | rfl | assumption) rfl k24 ?_
    refine g_iconst (pc := 19) (v := (nI 1)) dX8_opens_19 (by decide) ?_
    refine v_iadd (pc := 20) dX8_opens_20 (nI_succ op).symm ?_
    refine a_puti (pc := 21) fw_X8_168 dX8_opens_21 (by first | rfl | assumption) rfl ?_
    refine g_aload_n (pc := 24) dX8_opens_24 rfl ?_
    obtain ⟨m25, f25⟩ := hM.op (op + 1)
    refine a_cv0v (pc := 25) (c_X8_next _ f n b m25.1 (lxE b n a) hE.2 (m25.2.2.1.1 h4)) m_X8_next ml_X8_174 (by omega) (by first | rfl | assumption) rfl rfl (Nat.le_of_ble_eq_true rfl) dX8_opens_25 (fun x_25 μ_25 h_25 => ?_)
    obtain ⟨m26, f26⟩ := m25.nx hE.2 h_25
    refine g_iconst (pc := 28) (v := (nI 1)) dX8_opens_28 (by decide) ?_
    refine g_ireturn (pc := 29) dX8_opens_29 rfl (by first | rfl | decide) rfl ⟨_, rfl, ?_⟩
    exact ⟨f25.trans f26, Or.inr ⟨rfl, c5, m26⟩⟩
  · have c5 : op = 5 := nI_eq' (by omega) (by omega) c_5
    refine g_aload_n (pc := 8) dX8_opens_8 rfl ?_
    refine a_cv0v (pc := 9) (c_X8_fail μ f n b nm op a hM) m_X8_fail ml_X8_171 (by omega) (by first | rfl | assumption) rfl rfl (Nat.le_of_ble_eq_true rfl) dX8_opens_9 (fun x_9 μ_9 h_9 => ?_)
    obtain ⟨b9, f9⟩ := h_9
    refine g_iconst (pc := 12) (v := (nI 0)) dX8_opens_12 (by decide) ?_
    refine g_ireturn (pc := 13) dX8_opens_13 rfl (by first | rfl | decide) rfl ⟨_, rfl, ?_⟩
    exact ⟨f9, Or.inl ⟨rfl, by omega, b9⟩⟩
theorem c_X8_name (μ : Mem) (f n : Nat) (b : Nat → Nat) (nm : Nat → Int32) (op a : Nat) (hM : MSg μ f n b nm op a) (h1 : tkM b n (lxP b n a) = 1) : CA eI yX8_name cX8_name 1 (some .int) 3 [.ref 57] μ (fun r μ1 => MF μ μ1 ∧ ((¬ (wdN b (lxP b n a) (wE b n (lxP b n a) - lxP b n a)) = 6 ∧ r = nm (wdN b (lxP b n a) (wE b n (lxP b n a) - lxP b n a)) ∧ MSg μ1 f n b nm op a) ∨ ((wdN b (lxP b n a) (wE b n (lxP b n a) - lxP b n a)) = 6 ∧ MB μ1 n b a))) := by
  obtain ⟨hT, han, ⟨k1, k2, k3, k4, k5⟩, k24, k25, knm⟩ := id hM
  have h160 := hT.2.2.2.1
  have hP := lxP_in b han
  have hE := lxE_in b han
  refine CT.of false (by decide) (by decide) (L := [some (.ref 57)]) rfl (Nat.le_of_ble_eq_true rfl) ?_
  refine g_aload_n (pc := 0) dX8_name_0 rfl ?_
  refine g_bipush (pc := 1) (v := (nI 109)) dX8_name_1 (by decide) ?_
  refine g_bipush (pc := 3) (v := (nI 105)) dX8_name_3 (by decide) ?_
  refine g_bipush (pc := 5) (v := (nI 110)) dX8_name_5 (by decide) ?_
  refine g_bipush (pc := 7) (v := (nI 117)) dX8_name_7 (by decide) ?_
  refine g_bipush (pc := 9) (v := (nI 116)) dX8_name_9 (by decide) ?_
  refine g_bipush (pc := 11) (v := (nI 101)) dX8_name_11 (by decide) ?_
  refine g_iconst (pc := 13) (v := (nI 0)) dX8_name_13 (by decide) ?_
  refine g_iconst (pc := 14) (v := (nI 0)) dX8_name_14 (by decide) ?_
  refine a_cv8i (pc := 15) (c_X8_isWord μ f n b nm op a hM 0 (by decide)) m_X8_isWord ml_X8_177 (by omega) (by first | rfl | assumption) rfl rfl (Nat.le_of_ble_eq_true rfl) dX8_name_15 (fun x_15 μ_15 h_15 => ?_)
  obtain ⟨hm_15, hd_15⟩ := h_15
  have hm_15 := hm_15.symm
  subst hm_15
  refine g_if_eq (pc := 18) (tgt := 26) dX8_name_18 (by decide) (fun c_18 => ?_) (fun c_18 => ?_)
  · have w0 := (hd_15.resolve_left (fun q => absurd (q.1.symm.trans c_18) (by decide))).2
    have w0 : ¬ isW b (lxP b n a) (wE b n (lxP b n a) - lxP b n a) 0 := fun h => w0 ⟨h1, h⟩
    refine g_aload_n (pc := 26) dX8_name_26 rfl ?_
    refine g_bipush (pc := 27) (v := (nI 100)) dX8_name_27 (by decide) ?_
    refine g_bipush (pc := 29) (v := (nI 97)) dX8_name_29 (by decide) ?_
    refine g_bipush (pc := 31) (v := (nI 109)) dX8_name_31 (by decide) ?_
    refine g_bipush (pc := 33) (v := (nI 112)) dX8_name_33 (by decide) ?_
    refine g_iconst (pc := 35) (v := (nI 0)) dX8_name_35 (by decide) ?_
    refine g_iconst (pc := 36) (v := (nI 0)) dX8_name_36 (by decide) ?_
    refine g_iconst (pc := 37) (v := (nI 0)) dX8_name_37 (by decide) ?_
    refine g_iconst (pc := 38) (v := (nI 0)) dX8_name_38 (by decide) ?_
    refine a_cv8i (pc := 39) (c_X8_isWord μ f n b nm op a hM 1 (by decide)) m_X8_isWord ml_X8_177 (by omega) (by first | rfl | assumption) rfl rfl (Nat.le_of_ble_eq_true rfl) dX8_name_39 (fun x_39 μ_39 h_39 => ?_)
    obtain ⟨hm_39, hd_39⟩ := h_39
    have hm_39 := hm_39.symm
    subst hm_39
    refine g_if_eq (pc := 42) (tgt := 50) dX8_name_42 (by decide) (fun c_42 => ?_) (fun c_42 => ?_)
    · have w1 := (hd_39.resolve_left (fun q => absurd (q.1.symm.trans c_42) (by decide))).2
      have w1 : ¬ isW b (lxP b n a) (wE b n (lxP b n a) - lxP b n a) 1 := fun h => w1 ⟨h1, h⟩
      refine g_aload_n (pc := 50) dX8_name_50 rfl ?_
      refine g_bipush (pc := 51) (v := (nI 104)) dX8_name_51 (by decide) ?_
      refine g_bipush (pc := 53) (v := (nI 101)) dX8_name_53 (by decide) ?_
      refine g_bipush (pc := 55) (v := (nI 97)) dX8_name_55 (by decide) ?_
      refine g_bipush (pc := 57) (v := (nI 116)) dX8_name_57 (by decide) ?_
      refine g_iconst (pc := 59) (v := (nI 0)) dX8_name_59 (by decide) ?_
      refine g_iconst (pc := 60) (v := (nI 0)) dX8_name_60 (by decide) ?_
      refine g_iconst (pc := 61) (v := (nI 0)) dX8_name_61 (by decide) ?_
      refine g_iconst (pc := 62) (v := (nI 0)) dX8_name_62 (by decide) ?_
      refine a_cv8i (pc := 63) (c_X8_isWord μ f n b nm op a hM 2 (by decide)) m_X8_isWord ml_X8_177 (by omega) (by first | rfl | assumption) rfl rfl (Nat.le_of_ble_eq_true rfl) dX8_name_63 (fun x_63 μ_63 h_63 => ?_)
      obtain ⟨hm_63, hd_63⟩ := h_63
      have hm_63 := hm_63.symm
      subst hm_63
      refine g_if_eq (pc := 66) (tgt := 74) dX8_name_66 (by decide) (fun c_66 => ?_) (fun c_66 => ?_)
      · have w2 := (hd_63.resolve_left (fun q => absurd (q.1.symm.trans c_66) (by decide))).2
        have w2 : ¬ isW b (lxP b n a) (wE b n (lxP b n a) - lxP b n a) 2 := fun h => w2 ⟨h1, h⟩
        refine g_aload_n (pc := 74) dX8_name_74 rfl ?_
        refine g_bipush (pc := 75) (v := (nI 110)) dX8_name_75 (by decide) ?_
        refine g_bipush (pc := 77) (v := (nI 117)) dX8_name_77 (by decide) ?_
        refine g_bipush (pc := 79) (v := (nI 109)) dX8_name_79 (by decide) ?_
        refine g_bipush (pc := 81) (v := (nI 98)) dX8_name_81 (by decide) ?_
        refine g_bipush (pc := 83) (v := (nI 101)) dX8_name_83 (by decide) ?_
        refine g_bipush (pc := 85) (v := (nI 114)) dX8_name_85 (by decide) ?_
        refine g_iconst (pc := 87) (v := (nI 0)) dX8_name_87 (by decide) ?_
        refine g_iconst (pc := 88) (v := (nI 0)) dX8_name_88 (by decide) ?_
        refine a_cv8i (pc := 89) (c_X8_isWord μ f n b nm op a hM 3 (by decide)) m_X8_isWord ml_X8_177 (by omega) (by first | rfl | assumption) rfl rfl (Nat.le_of_ble_eq_true rfl) dX8_name_89 (fun x_89 μ_89 h_89 => ?_)
        obtain ⟨hm_89, hd_89⟩ := h_89
        have hm_89 := hm_89.symm
        subst hm_89
        refine g_if_eq (pc := 92) (tgt := 100) dX8_name_92 (by decide) (fun c_92 => ?_) (fun c_92 => ?_)
        · have w3 := (hd_89.resolve_left (fun q => absurd (q.1.symm.trans c_92) (by decide))).2
          have w3 : ¬ isW b (lxP b n a) (wE b n (lxP b n a) - lxP b n a) 3 := fun h => w3 ⟨h1, h⟩
          refine g_aload_n (pc := 100) dX8_name_100 rfl ?_
          refine g_bipush (pc := 101) (v := (nI 99)) dX8_name_101 (by decide) ?_
          refine g_bipush (pc := 103) (v := (nI 114)) dX8_name_103 (by decide) ?_
          refine g_bipush (pc := 105) (v := (nI 101)) dX8_name_105 (by decide) ?_
          refine g_bipush (pc := 107) (v := (nI 97)) dX8_name_107 (by decide) ?_
          refine g_bipush (pc := 109) (v := (nI 115)) dX8_name_109 (by decide) ?_
          refine g_bipush (pc := 111) (v := (nI 101)) dX8_name_111 (by decide) ?_
          refine g_iconst (pc := 113) (v := (nI 0)) dX8_name_113 (by decide) ?_
          refine g_iconst (pc := 114) (v := (nI 0)) dX8_name_114 (by decide) ?_
          refine a_cv8i (pc := 115) (c_X8_isWord μ f n b nm op a hM 4 (by decide)) m_X8_isWord ml_X8_177 (by omega) (by first | rfl | assumption) rfl rfl (Nat.le_of_ble_eq_true rfl) dX8_name_115 (fun x_115 μ_115 h_115 => ?_)
          obtain ⟨hm_115, hd_115⟩ := h_115
          have hm_115 := hm_115.symm
          subst hm_115
          refine g_if_eq (pc := 118) (tgt := 126) dX8_name_118 (by decide) (fun c_118 => ?_) (fun c_118 => ?_)
          · have w4 := (hd_115.resolve_left (fun q => absurd (q.1.symm.trans c_118) (by decide))).2
            have w4 : ¬ isW b (lxP b n a) (wE b n (lxP b n a) - lxP b n a) 4 := fun h => w4 ⟨h1, h⟩
            refine g_aload_n (pc := 126) dX8_name_126 rfl ?_
            refine g_bipush (pc := 127) (v := (nI 112)) dX8_name_127 (by decide) ?_
            refine g_bipush (pc := 129) (v := (nI 97)) dX8_name_129 (by decide) ?_
            refine g_bipush (pc := 131) (v := (nI 114)) dX8_name_131 (by decide) ?_
            refine g_bipush (pc := 133) (v := (nI 116)) dX8_name_133 (by decide) ?_
            refine g_iconst (pc := 135) (v := (nI 0)) dX8_name_135 (by decide) ?_
            refine g_iconst (pc := 136) (v := (nI 0)) dX8_name_136 (by decide) ?_
            refine g_iconst (pc := 137) (v := (nI 0)) dX8_name_137 (by decide) ?_
            refine g_iconst (pc := 138) (v := (nI 0)) dX8_name_138 (by decide) ?_
            refine a_cv8i (pc := 139) (c_X8_isWord μ f n b nm op a hM 5 (by decide)) m_X8_isWord ml_X8_177 (by omega) (by first | rfl | assumption) rfl rfl (Nat.le_of_ble_eq_true rfl) dX8_name_139 (fun x_139 μ_139 h_139 => ?_)
            obtain ⟨hm_139, hd_139⟩ := h_139
            have hm_139 := hm_139.symm
            subst hm_139
            refine g_if_eq (pc := 142) (tgt := 150) dX8_name_142 (by decide) (fun c_142 => ?_) (fun c_142 => ?_)
            · have w5 := (hd_139.resolve_left (fun q => absurd (q.1.symm.trans c_142) (by decide))).2
              have w5 : ¬ isW b (lxP b n a) (wE b n (lxP b n a) - lxP b n a) 5 := fun h => w5 ⟨h1, h⟩
              refine g_aload_n (pc := 150) dX8_name_150 rfl ?_
              refine a_cv0v (pc := 151) (c_X8_fail μ f n b nm op a hM) m_X8_fail ml_X8_171 (by omega) (by first | rfl | assumption) rfl rfl (Nat.le_of_ble_eq_true rfl) dX8_name_151 (fun x_151 μ_151 h_151 => ?_)
              obtain ⟨b9, f9⟩ := h_151
              have hw : (wdN b (lxP b n a) (wE b n (lxP b n a) - lxP b n a)) = 6 := by
                unfold wdN
                rw [if_neg w0, if_neg w1, if_neg w2, if_neg w3, if_neg w4, if_neg w5]
              refine g_iconst (pc := 154) (v := (nI 0)) dX8_name_154 (by decide) ?_
              refine g_ireturn (pc := 155) dX8_name_155 rfl (by first | rfl | decide) rfl ⟨_, rfl, ?_⟩
              exact ⟨f9, Or.inr ⟨hw, b9⟩⟩
            · have w5 := (hd_139.resolve_right (fun q => c_142 q.1)).2
              have hw : (wdN b (lxP b n a) (wE b n (lxP b n a) - lxP b n a)) = 5 := by
                unfold wdN
                rw [if_neg w0, if_neg w1, if_neg w2, if_neg w3, if_neg w4, if_pos w5.2]
              refine g_aload_n (pc := 145) dX8_name_145 rfl ?_
              refine v_geti (pc := 146) fl_X8_196 dX8_name_146 (by first | rfl | assumption) rfl (knm 5 (by decide)) ?_
              refine g_ireturn (pc := 149) dX8_name_149 rfl (by first | rfl | decide) rfl ⟨_, rfl, ?_⟩
              exact ⟨MF.refl _, Or.inl ⟨by rw [hw]; decide, by rw [hw], hM⟩⟩
          · have w4 := (hd_115.resolve_right (fun q => c_118 q.1)).2
            have hw : (wdN b (lxP b n a) (wE b n (lxP b n a) - lxP b n a)) = 4 := by
              unfold wdN
              rw [if_neg w0, if_neg w1, if_neg w2, if_neg w3, if_pos w4.2]
            refine g_aload_n (pc := 121) dX8_name_121 rfl ?_
            refine v_geti (pc := 122) fl_X8_193 dX8_name_122 (by first | rfl | assumption) rfl (knm 4 (by decide)) ?_
            refine g_ireturn (pc := 125) dX8_name_125 rfl (by first | rfl | decide) rfl ⟨_, rfl, ?_⟩
            exact ⟨MF.refl _, Or.inl ⟨by rw [hw]; decide, by rw [hw], hM⟩⟩
        · have w3 := (hd_89.resolve_right (fun q => c_92 q.1)).2
          have hw : (wdN b (lxP b n a) (wE b n (lxP b n a) - lxP b n a)) = 3 := by
            unfold wdN
            rw [if_neg w0, if_neg w1, if_neg w2, if_pos w3.2]
          refine g_aload_n (pc := 95) dX8_name_95 rfl ?_
          refine v_geti (pc := 96) fl_X8_190 dX8_name_96 (by first | rfl | assumption) rfl (knm 3 (by decide)) ?_
          refine g_ireturn (pc := 99) dX8_name_99 rfl (by first | rfl | decide) rfl ⟨_, rfl, ?_⟩
          exact ⟨MF.refl _, Or.inl ⟨by rw [hw]; decide, by rw [hw], hM⟩⟩
      · have w2 := (hd_63.resolve_right (fun q => c_66 q.1)).2
        have hw : (wdN b (lxP b n a) (wE b n (lxP b n a) - lxP b n a)) = 2 := by
          unfold wdN
          rw [if_neg w0, if_neg w1, if_pos w2.2]
        refine g_aload_n (pc := 69) dX8_name_69 rfl ?_
        refine v_geti (pc := 70) fl_X8_187 dX8_name_70 (by first | rfl | assumption) rfl (knm 2 (by decide)) ?_
        refine g_ireturn (pc := 73) dX8_name_73 rfl (by first | rfl | decide) rfl ⟨_, rfl, ?_⟩
        exact ⟨MF.refl _, Or.inl ⟨by rw [hw]; decide, by rw [hw], hM⟩⟩
    · have w1 := (hd_39.resolve_right (fun q => c_42 q.1)).2
      have hw : (wdN b (lxP b n a) (wE b n (lxP b n a) - lxP b n a)) = 1 := by
        unfold wdN
        rw [if_neg w0, if_pos w1.2]
      refine g_aload_n (pc := 45) dX8_name_45 rfl ?_
      refine v_geti (pc := 46) fl_X8_184 dX8_name_46 (by first | rfl | assumption) rfl (knm 1 (by decide)) ?_
      refine g_ireturn (pc := 49) dX8_name_49 rfl (by first | rfl | decide) rfl ⟨_, rfl, ?_⟩
      exact ⟨MF.refl _, Or.inl ⟨by rw [hw]; decide, by rw [hw], hM⟩⟩
  · have w0 := (hd_15.resolve_right (fun q => c_18 q.1)).2
    have hw : (wdN b (lxP b n a) (wE b n (lxP b n a) - lxP b n a)) = 0 := by
      unfold wdN
      rw [if_pos w0.2]
    refine g_aload_n (pc := 21) dX8_name_21 rfl ?_
    refine v_geti (pc := 22) fl_X8_181 dX8_name_22 (by first | rfl | assumption) rfl (knm 0 (by decide)) ?_
    refine g_ireturn (pc := 25) dX8_name_25 rfl (by first | rfl | decide) rfl ⟨_, rfl, ?_⟩
    exact ⟨MF.refl _, Or.inl ⟨by rw [hw]; decide, by rw [hw], hM⟩⟩
