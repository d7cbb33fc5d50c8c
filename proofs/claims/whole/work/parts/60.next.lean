/-! ===== the model: numbers, bytes, tokens ===== -/
theorem in_c {x : Int32} {y z : Int64} (a c : Nat) (hy : y = lN a) (hz : z = lN c) (hc : c < 1000000) (ha : a < 1000000) : (y ≤ x.toInt64 ∧ x.toInt64 ≤ z) ↔ (a ≤ nx x ∧ nx x ≤ c) := by
  rw [hy, hz, Int64.le_iff_toInt_le, Int64.le_iff_toInt_le, Int32.toInt_toInt64, lN_toInt (by omega), lN_toInt (by omega)]
  by_cases h : x < 0
  · rw [nx_neg h]
    rw [Int32.lt_iff_toInt_lt] at h
    have e0 : (0 : Int32).toInt = 0 := by decide
    rw [e0] at h
    omega
  · obtain ⟨h1, h2⟩ := nx_of h
    have h3 : x.toInt = (nx x : Int) := by
      have := nI_toInt h2
      rw [← h1] at this
      exact this
    omega
theorem in_p {x : Int32} {y : Int64} {n : Nat} (hy : y = lN 0) (hn : n ≤ 1000) : (y ≤ x.toInt64 ∧ x.toInt64 ≤ (nI n - nI 1).toInt64) ↔ nx x < n := by
  have e1 : (nI n - nI 1).toInt = (n : Int) - 1 := pk_sub_toInt (by omega) (by decide)
  rw [hy, Int64.le_iff_toInt_le, Int64.le_iff_toInt_le, Int32.toInt_toInt64, Int32.toInt_toInt64, lN_toInt (by decide), e1]
  by_cases h : x < 0
  · rw [nx_neg h]
    rw [Int32.lt_iff_toInt_lt] at h
    have e0 : (0 : Int32).toInt = 0 := by decide
    rw [e0] at h
    omega
  · obtain ⟨h1, h2⟩ := nx_of h
    have h3 : x.toInt = (nx x : Int) := by
      have := nI_toInt h2
      rw [← h1] at this
      exact this
    omega
theorem c_X8_in (x y z : Int64) (μ : Mem) : CA eI yX8_in cX8_in 6 (some .boolean) 0 [.long x, .long y, .long z] μ (fun r μ1 => μ1 = μ ∧ ((r = nI 1 ∧ (y ≤ x ∧ x ≤ z)) ∨ (r = nI 0 ∧ ¬ (y ≤ x ∧ x ≤ z)))) := by
  refine CT.of false (by decide) (by decide) (L := [some (.long x), none, some (.long y), none, some (.long z), none]) rfl (Nat.le_of_ble_eq_true rfl) ?_
  refine g_lload_n (pc := 0) dX8_in_0 rfl ?_
  refine g_lload_n (pc := 1) dX8_in_1 rfl ?_
  refine g_lcmp (pc := 2) dX8_in_2 ?_
  refine g_if_lt (pc := 3) (tgt := 17) dX8_in_3 (by decide) (fun c_3 => ?_) (fun c_3 => ?_)
  · have c3 := Int64.not_le.mpr ((lg_cmp_lt _ _).mp c_3)
    have hno : ¬ (y ≤ x ∧ x ≤ z) := fun h => c3 h.1
    refine g_iconst (pc := 17) (v := (nI 0)) dX8_in_17 (by decide) ?_
    refine g_ireturn (pc := 18) dX8_in_18 rfl (by first | rfl | decide) rfl ⟨_, rfl, ?_⟩
    first | exact ⟨rfl, Or.inr ⟨rfl, hno⟩⟩ | exact ⟨rfl, Or.inl ⟨rfl, c3, c10⟩⟩
  · have c3 := Int64.not_lt.mp (fun h => c_3 ((lg_cmp_lt _ _).mpr h))
    refine g_lload_n (pc := 6) dX8_in_6 rfl ?_
    refine g_lload (pc := 7) dX8_in_7 rfl ?_
    refine g_lcmp (pc := 9) dX8_in_9 ?_
    refine g_if_gt (pc := 10) (tgt := 17) dX8_in_10 (by decide) (fun c_10 => ?_) (fun c_10 => ?_)
    · have c10 := Int64.not_le.mpr ((lg_cmp_gt _ _).mp c_10)
      have hno : ¬ (y ≤ x ∧ x ≤ z) := fun h => c10 h.2
      refine g_iconst (pc := 17) (v := (nI 0)) dX8_in_17 (by decide) ?_
      refine g_ireturn (pc := 18) dX8_in_18 rfl (by first | rfl | decide) rfl ⟨_, rfl, ?_⟩
      first | exact ⟨rfl, Or.inr ⟨rfl, hno⟩⟩ | exact ⟨rfl, Or.inl ⟨rfl, c3, c10⟩⟩
    · have c10 := Int64.not_lt.mp (fun h => c_10 ((lg_cmp_gt _ _).mpr h))
      refine g_iconst (pc := 13) (v := (nI 1)) dX8_in_13 (by decide) ?_
      refine g_goto (pc := 14) (tgt := 18) dX8_in_14 (by decide) ?_
      refine g_ireturn (pc := 18) dX8_in_18 rfl (by first | rfl | decide) rfl ⟨_, rfl, ?_⟩
      first | exact ⟨rfl, Or.inr ⟨rfl, hno⟩⟩ | exact ⟨rfl, Or.inl ⟨rfl, c3, c10⟩⟩
def wiN (x : Int32) (a c : Nat) : Int32 := if x < nI a then nI a else if nI c < x then nI c else x
theorem c_X8_within (x : Int32) (a c : Nat) (μ : Mem) : CA eI yX8_within cX8_within 3 (some .int) 0 [.int x, .int (nI a), .int (nI c)] μ (fun r μ1 => r = wiN x a c ∧ μ1 = μ) := by
  refine CT.of false (by decide) (by decide) (L := [some (.int x), some (.int (nI a)), some (.int (nI c))]) rfl (Nat.le_of_ble_eq_true rfl) ?_
  refine g_iload_n (pc := 0) dX8_within_0 rfl ?_
  refine g_iload_n (pc := 1) dX8_within_1 rfl ?_
  refine g_icmp_ge (pc := 2) (tgt := 9) dX8_within_2 (by decide) (fun c_2 => ?_) (fun c_2 => ?_)
  · have c2 : ¬ x < nI a := Int32.not_lt.mpr c_2
    refine g_iload_n (pc := 9) dX8_within_9 rfl ?_
    refine g_iload_n (pc := 10) dX8_within_10 rfl ?_
    refine g_icmp_le (pc := 11) (tgt := 18) dX8_within_11 (by decide) (fun c_11 => ?_) (fun c_11 => ?_)
    · have c11 : ¬ nI c < x := Int32.not_lt.mpr c_11
      refine g_iload_n (pc := 18) dX8_within_18 rfl ?_
      refine g_ireturn (pc := 19) dX8_within_19 rfl (by first | rfl | decide) rfl ⟨_, rfl, ?_⟩
      first | exact ⟨(if_pos c2).symm, rfl⟩ | exact ⟨((if_neg c2).trans (if_pos c11)).symm, rfl⟩ | exact ⟨((if_neg c2).trans (if_neg c11)).symm, rfl⟩
    · have c11 : nI c < x := Int32.not_le.mp c_11
      refine g_iload_n (pc := 14) dX8_within_14 rfl ?_
      refine g_goto (pc := 15) (tgt := 19) dX8_within_15 (by decide) ?_
      refine g_ireturn (pc := 19) dX8_within_19 rfl (by first | rfl | decide) rfl ⟨_, rfl, ?_⟩
      first | exact ⟨(if_pos c2).symm, rfl⟩ | exact ⟨((if_neg c2).trans (if_pos c11)).symm, rfl⟩ | exact ⟨((if_neg c2).trans (if_neg c11)).symm, rfl⟩
  · have c2 : x < nI a := Int32.not_le.mp c_2
    refine g_iload_n (pc := 5) dX8_within_5 rfl ?_
    refine g_goto (pc := 6) (tgt := 19) dX8_within_6 (by decide) ?_
    refine g_ireturn (pc := 19) dX8_within_19 rfl (by first | rfl | decide) rfl ⟨_, rfl, ?_⟩
    first | exact ⟨(if_pos c2).symm, rfl⟩ | exact ⟨((if_neg c2).trans (if_pos c11)).symm, rfl⟩ | exact ⟨((if_neg c2).trans (if_neg c11)).symm, rfl⟩
theorem c_X8_isPart (x : Int32) (n : Nat) (hn : n ≤ 1000) (μ : Mem) (h11 : μ 57 11 = nI n) : CA eI yX8_isPart cX8_isPart 2 (some .boolean) 1 [.ref 57, .int x] μ (fun r μ1 => μ1 = μ ∧ ((r = nI 1 ∧ nx x < n) ∨ (r = nI 0 ∧ ¬ nx x < n))) := by
  refine CT.of false (by decide) (by decide) (L := [some (.ref 57), some (.int x)]) rfl (Nat.le_of_ble_eq_true rfl) ?_
  refine g_iload_n (pc := 0) dX8_isPart_0 rfl ?_
  refine g_i2l (pc := 1) dX8_isPart_1 rfl ?_
  refine g_lconst (pc := 2) (v := 0) dX8_isPart_2 (by decide) ?_
  refine g_aload_n (pc := 3) dX8_isPart_3 rfl ?_
  refine v_geti (pc := 4) fl_X8_73 dX8_isPart_4 (by first | rfl | assumption) rfl h11 ?_
  refine g_iconst (pc := 7) (v := (nI 1)) dX8_isPart_7 (by decide) ?_
  refine v_isub (pc := 8) dX8_isPart_8 rfl ?_
  refine g_i2l (pc := 9) dX8_isPart_9 rfl ?_
  refine a_cs3i (pc := 10) (c_X8_in x.toInt64 0 (nI n - nI 1).toInt64 μ) m_X8_in ml_X8_76 (by omega) (Nat.le_of_ble_eq_true rfl) dX8_isPart_10 (fun x_10 μ_10 h_10 => ?_)
  obtain ⟨hm_10, hd_10⟩ := h_10
  have hm_10 := hm_10.symm
  subst hm_10
  rw [in_p (x := x) (y := 0) rfl hn] at hd_10
  refine g_ireturn (pc := 13) dX8_isPart_13 rfl (by rcases hd_10 with ⟨h, -⟩ | ⟨h, -⟩ <;> (rw [h]; first | rfl | decide)) rfl ⟨_, rfl, ?_⟩
  exact ⟨rfl, hd_10⟩
/-- the bytes that are read: n from f on -/
def TXm (μ : Mem) (f n : Nat) (b : Nat → Nat) : Prop := μ 57 18 = nI f ∧ f + 160 ≤ 960 ∧ μ 57 19 = nI n ∧ n ≤ 160 ∧ ∀ j, j < n → μ 58 (f + j) = nI (b j) ∧ b j ≤ 255
def bA (b : Nat → Nat) (n i : Nat) : Int32 := if i < n then nI (b i) else -1
theorem bA_eq {b : Nat → Nat} {n i k : Nat} (hb : i < n → b i ≤ 255) (hk : k < 2 ^ 31) : bA b n i = nI k ↔ i < n ∧ b i = k := by
  unfold bA
  by_cases h : i < n
  · have := hb h
    rw [if_pos h]
    exact ⟨fun q => ⟨h, nI_eq' (by omega) hk q⟩, fun q => by rw [q.2]⟩
  · rw [if_neg h]
    exact ⟨fun q => absurd q (nI_m1' hk), fun q => absurd q.1 h⟩
theorem bA_in {b : Nat → Nat} {n i a c : Nat} (hb : i < n → b i ≤ 255) (hc : c < 1000000) : (a ≤ nx (bA b n i) ∧ nx (bA b n i) ≤ c) ↔ (i < n ∧ a ≤ b i ∧ b i ≤ c) := by
  unfold bA
  by_cases h : i < n
  · have := hb h
    rw [if_pos h, nx_nI (by omega)]
    exact ⟨fun q => ⟨h, q⟩, fun q => q.2⟩
  · rw [if_neg h, nx_m1]
    exact ⟨fun q => by omega, fun q => absurd q.1 h⟩
theorem TXm.by {μ : Mem} {f n : Nat} {b : Nat → Nat} (h : TXm μ f n b) (i : Nat) : i < n → b i ≤ 255 := fun hi => (h.2.2.2.2 i hi).2
theorem TXm.moved {μ μ1 : Mem} {f n : Nat} {b : Nat → Nat} (h : TXm μ f n b) (h1 : μ1 57 18 = μ 57 18) (h2 : μ1 57 19 = μ 57 19) (h3 : μ1 58 = μ 58) : TXm μ1 f n b := ⟨h1.trans h.1, h.2.1, h2.trans h.2.2.1, h.2.2.2.1, fun j hj => by rw [h3]; exact h.2.2.2.2 j hj⟩
theorem c_X8_byteAt (μ : Mem) (f n : Nat) (b : Nat → Nat) (hT : TXm μ f n b) (i : Nat) (hi : i < 2 ^ 30) : CA eI yX8_byteAt cX8_byteAt 2 (some .int) 0 [.ref 57, .int (nI i)] μ (fun r μ1 => r = bA b n i ∧ μ1 = μ) := by
  obtain ⟨t1, t2, t3, t4, t5⟩ := hT
  refine CT.of false (by decide) (by decide) (L := [some (.ref 57), some (.int (nI i))]) rfl (Nat.le_of_ble_eq_true rfl) ?_
  refine g_iload_n (pc := 0) dX8_byteAt_0 rfl ?_
  refine g_aload_n (pc := 1) dX8_byteAt_1 rfl ?_
  refine v_geti (pc := 2) fl_X8_125 dX8_byteAt_2 (by first | rfl | assumption) rfl t3 ?_
  refine g_icmp_ge (pc := 5) (tgt := 22) dX8_byteAt_5 (by decide) (fun c_5 => ?_) (fun c_5 => ?_)
  · have c5 : ¬ i < n := Nat.not_lt.mpr (nI_le' (by omega) (by omega) c_5)
    refine g_iconst (pc := 22) (v := (-1)) dX8_byteAt_22 (by decide) ?_
    refine g_ireturn (pc := 23) dX8_byteAt_23 rfl (by first | rfl | decide) rfl ⟨_, rfl, ?_⟩
    first | exact ⟨(if_pos c5).symm, rfl⟩ | exact ⟨(if_neg c5).symm, rfl⟩
  · have c5 := nI_gt' (by omega) (by omega) c_5
    refine g_aload_n (pc := 8) dX8_byteAt_8 rfl ?_
    refine a_getr (pc := 9) (q := 58) fl_X8_13 dX8_byteAt_9 (by first | rfl | assumption) rfl rfl ?_
    refine g_aload_n (pc := 12) dX8_byteAt_12 rfl ?_
    refine v_geti (pc := 13) fl_X8_128 dX8_byteAt_13 (by first | rfl | assumption) rfl t1 ?_
    refine g_iload_n (pc := 16) dX8_byteAt_16 rfl ?_
    refine v_iadd (pc := 17) dX8_byteAt_17 (nI_add f i) ?_
    refine v_iald (pc := 18) dX8_byteAt_18 (by first | rfl | assumption) rfl (by omega) (t5 i c5).1 ?_
    refine g_goto (pc := 19) (tgt := 23) dX8_byteAt_19 (by decide) ?_
    refine g_ireturn (pc := 23) dX8_byteAt_23 rfl (by first | rfl | decide) rfl ⟨_, rfl, ?_⟩
    first | exact ⟨(if_pos c5).symm, rfl⟩ | exact ⟨(if_neg c5).symm, rfl⟩
/-- which sort of token begins at p -/
def tkM (b : Nat → Nat) (n p : Nat) : Nat := if n ≤ p then 0 else if isL (b p) then 1 else if isD (b p) then (if 4 < dE b n p - p then 4 else 2) else if isS (b p) then 3 else 4
/-- what the model's next has done -/
def NX (μ μ1 : Mem) (n : Nat) (b : Nat → Nat) (a : Nat) : Prop := (∀ k, k ≠ 57 → μ1 k = μ k) ∧ (∀ j, j < 20 ∨ 23 < j → μ1 57 j = μ 57 j) ∧ (¬ tkM b n (lxP b n a) = 4 → μ1 57 20 = nI (lxE b n a)) ∧ μ1 57 22 = nI (lxP b n a) ∧ μ1 57 21 = nI (tkM b n (lxP b n a)) ∧ (tkM b n (lxP b n a) = 2 → μ1 57 23 = nI (vlA b n (lxP b n a))) ∧ (tkM b n (lxP b n a) = 3 → μ1 57 23 = nI (b (lxP b n a)))
theorem NX.of {μ μ1 : Mem} {n : Nat} {b : Nat → Nat} {a p e t : Nat} (hp : lxP b n a = p) (he : enA b n p = e) (ht : tkM b n p = t) (h1 : ∀ k, k ≠ 57 → μ1 k = μ k) (h2 : ∀ j, j < 20 ∨ 23 < j → μ1 57 j = μ 57 j) (h3 : ¬ t = 4 → μ1 57 20 = nI e) (h4 : μ1 57 22 = nI p) (h5 : μ1 57 21 = nI t) (h6 : t = 2 → μ1 57 23 = nI (vlA b n p)) (h7 : t = 3 → μ1 57 23 = nI (b p)) : NX μ μ1 n b a := by
  subst hp ht
  exact ⟨h1, h2, fun q => by unfold lxE; rw [he]; exact h3 q, h4, h5, h6, h7⟩
theorem nvS_4 {b : Nat → Nat} {n p m : Nat} (hm : m ≤ dE b n p - p) (h4 : m ≤ 4) : nvS b p m < 10000 := by
  have := nvS_lt (b := b) (p := p) m (fun j hj => dgS_dig (n - p) p (p + j) (by omega) (by unfold dE at hm; omega))
  have h10 : 10 ^ m ≤ 10 ^ 4 := Nat.pow_le_pow_right (by decide) h4
  omega
theorem dE_at {b : Nat → Nat} {n p a : Nat} (ha : a ≤ n) (hp : p ≤ a) (h : dgS b (n - a) a = dE b n p) : a ≤ dE b n p := by
  have := (dgS_in b (n - a) a).1
  omega
theorem c_X8_next (μ : Mem) (f n : Nat) (b : Nat → Nat) (hT : TXm μ f n b) (a0 : Nat) (hn : a0 ≤ n) (h20 : μ 57 20 = nI a0) : CA eV yX8_next cX8_next 3 none 1 [.ref 57] μ (fun _ μ1 => NX μ μ1 n b a0) := by
  refine CT.of false (by decide) (by decide) (L := [some (.ref 57), none, none]) rfl (Nat.le_of_ble_eq_true rfl) ?_
  have lp0 : ∀ (zz : Nat) (a : Nat) (ha : a0 ≤ a) (han : a ≤ n) (hw : skS b (n - a) a = lxP b n a0) (ν : Mem) (hν : (∀ k, k ≠ 57 → ν k = μ k) ∧ (∀ j, j ≠ 20 → ν 57 j = μ 57 j) ∧ ν 57 20 = nI a), n - a = zz → WG eV yX8_next.cls cX8_next 3 none false (fun _ _ => True) 1 (mpost (fun _ μ1 => NX μ μ1 n b a0)) 0 0 0 [some (.ref 57), none, none] [] (mk ν) := by
    intro zz
    induction zz using Nat.strongRecOn with
    | ind zz ih =>
      intro a ha han hw ν hν hzz
      obtain ⟨f1, f2, q3⟩ := hν
      have hTb := hT.moved (f2 18 (by omega)) (f2 19 (by omega)) (f1 58 (by omega))
      have h160 := hT.2.2.2.1
      refine g_aload_n (pc := 0) dX8_next_0 rfl ?_
      refine g_aload_n (pc := 1) dX8_next_1 rfl ?_
      refine v_geti (pc := 2) fl_X8_131 dX8_next_2 (by first | rfl | assumption) rfl q3 ?_
      refine a_cv1i (pc := 5) (c_X8_byteAt ν f n b hTb a (by omega)) m_X8_byteAt ml_X8_134 (by omega) (by first | rfl | assumption) rfl rfl (Nat.le_of_ble_eq_true rfl) dX8_next_5 (fun x_5 μ_5 h_5 => ?_)
      obtain ⟨rfl, hm_5⟩ := h_5
      have hm_5 := hm_5.symm
      subst hm_5
      refine g_bipush (pc := 8) (v := (nI 32)) dX8_next_8 (by decide) ?_
      refine g_icmp_eq (pc := 10) (tgt := 26) dX8_next_10 (by decide) (fun c_10 => ?_) (fun c_10 => ?_)
      · have c10 := (bA_eq (hTb.by a) (by decide)).mp c_10
        have hlt := c10.1
        have hb : b a = 32 ∨ b a = 10 := Or.inl c10.2
        have hw2 : skS b (n - (a + 1)) (a + 1) = lxP b n a0 := by
          rw [← hw, show n - a = (n - (a + 1)) + 1 by omega, skS, if_pos hb]
        refine g_aload_n (pc := 26) dX8_next_26 rfl ?_
        refine g_dup (pc := 27) dX8_next_27 rfl ?_
        refine v_geti (pc := 28) fl_X8_131 dX8_next_28 (by first | rfl | assumption) rfl q3 ?_
        refine g_iconst (pc := 31) (v := (nI 1)) dX8_next_31 (by decide) ?_
        refine v_iadd (pc := 32) dX8_next_32 (nI_succ a).symm ?_
        refine a_puti (pc := 33) fw_X8_131 dX8_next_33 (by first | rfl | assumption) rfl ?_
        refine g_goto (pc := 36) (tgt := 0) dX8_next_36 (by decide) ?_
        exact ih (n - (a + 1)) (by omega) (a + 1) (by omega) (by omega) hw2 _ ⟨fun k hk => (mset_ne hk).trans (f1 k hk), fun j hj => (mset_nj hj).trans (f2 j hj), mset_eq⟩ rfl
      · have c10 : ¬ (a < n ∧ b a = 32) := fun h => c_10 ((bA_eq (hTb.by a) (by decide)).mpr h)
        refine g_aload_n (pc := 13) dX8_next_13 rfl ?_
        refine g_aload_n (pc := 14) dX8_next_14 rfl ?_
        refine v_geti (pc := 15) fl_X8_131 dX8_next_15 (by first | rfl | assumption) rfl q3 ?_
        refine a_cv1i (pc := 18) (c_X8_byteAt ν f n b hTb a (by omega)) m_X8_byteAt ml_X8_134 (by omega) (by first | rfl | assumption) rfl rfl (Nat.le_of_ble_eq_true rfl) dX8_next_18 (fun x_18 μ_18 h_18 => ?_)
        obtain ⟨rfl, hm_18⟩ := h_18
        have hm_18 := hm_18.symm
        subst hm_18
        refine g_bipush (pc := 21) (v := (nI 10)) dX8_next_21 (by decide) ?_
        refine g_icmp_ne (pc := 23) (tgt := 39) dX8_next_23 (by decide) (fun c_23 => ?_) (fun c_23 => ?_)
        · have c23 : ¬ (a < n ∧ b a = 10) := fun h => c_23 ((bA_eq (hTb.by a) (by decide)).mpr h)
          have hE : lxP b n a0 = a := by
            rw [← hw]
            rcases Nat.lt_or_ge a n with h | h
            · rw [show n - a = (n - a - 1) + 1 by omega, skS, if_neg (by omega)]
            · rw [show n - a = 0 by omega]
              rfl
          clear hw
          refine g_aload_n (pc := 39) dX8_next_39 rfl ?_
          refine g_aload_n (pc := 40) dX8_next_40 rfl ?_
          refine v_geti (pc := 41) fl_X8_131 dX8_next_41 (by first | rfl | assumption) rfl q3 ?_
          refine a_puti (pc := 44) fw_X8_137 dX8_next_44 (by first | rfl | assumption) rfl ?_
          refine g_aload_n (pc := 47) dX8_next_47 rfl ?_
          refine g_aload_n (pc := 48) dX8_next_48 rfl ?_
          refine v_geti (pc := 49) fl_X8_131 dX8_next_49 (by first | rfl | assumption) rfl ((mset_nj (by omega)).trans q3) ?_
          have hTc : TXm (mset ν 57 22 (nI a)) f n b := hTb.moved (mset_nj (by omega)) (mset_nj (by omega)) (mset_ne (by omega))
          refine a_cv1i (pc := 52) (c_X8_byteAt _ f n b hTc a (by omega)) m_X8_byteAt ml_X8_134 (by omega) (by first | rfl | assumption) rfl rfl (Nat.le_of_ble_eq_true rfl) dX8_next_52 (fun x_52 μ_52 h_52 => ?_)
          obtain ⟨rfl, hm_52⟩ := h_52
          have hm_52 := hm_52.symm
          subst hm_52
          refine a_ist1 (pc := 55) dX8_next_55 (by decide) rfl ?_
          refine g_aload_n (pc := 56) dX8_next_56 rfl ?_
          refine g_iconst (pc := 57) (v := (nI 4)) dX8_next_57 (by decide) ?_
          refine a_puti (pc := 58) fw_X8_140 dX8_next_58 (by first | rfl | assumption) rfl ?_
          refine g_iload_n (pc := 61) dX8_next_61 rfl ?_
          refine g_if_ge (pc := 62) (tgt := 81) dX8_next_62 (by decide) (fun c_62 => ?_) (fun c_62 => ?_)
          · have hlt : a < n := by
              rcases Nat.lt_or_ge a n with h | h
              · exact h
              · rw [show bA b n a = -1 from if_neg (by omega)] at c_62
                exact absurd c_62 (by decide)
            have hb1 : bA b n a = nI (b a) := if_pos hlt
            have hba := hTb.by a hlt
            rw [hb1]
            have hnx : nx (nI (b a)) = b a := nx_nI (by omega)
            have hTd : TXm (mset (mset ν 57 22 (nI a)) 57 21 (nI 4)) f n b := hTc.moved (mset_nj (by omega)) (mset_nj (by omega)) (mset_ne (by omega))
            refine g_iload_n (pc := 81) dX8_next_81 rfl ?_
            refine g_i2l (pc := 82) dX8_next_82 rfl ?_
            refine g_ldc2 (pc := 83) dX8_next_83 kc_X8_143 ?_
            refine g_ldc2 (pc := 86) dX8_next_86 kc_X8_145 ?_
            refine a_cs3i (pc := 89) (c_X8_in (nI (b a)).toInt64 97 122 (mset (mset ν 57 22 (nI a)) 57 21 (nI 4))) m_X8_in ml_X8_76 (by omega) (Nat.le_of_ble_eq_true rfl) dX8_next_89 (fun x_89 μ_89 h_89 => ?_)
            obtain ⟨hm_89, hd_89⟩ := h_89
            have hm_89 := hm_89.symm
            subst hm_89
            rw [in_c (x := (nI (b a))) (y := 97) (z := 122) 97 122 rfl rfl (by decide) (by decide)] at hd_89
            rw [hnx] at hd_89
            refine g_if_eq (pc := 92) (tgt := 134) dX8_next_92 (by decide) (fun c_92 => ?_) (fun c_92 => ?_)
            · have c92 := (hd_89.resolve_left (fun q => absurd (q.1.symm.trans c_92) (by decide))).2
              refine g_iload_n (pc := 134) dX8_next_134 rfl ?_
              refine g_i2l (pc := 135) dX8_next_135 rfl ?_
              refine g_ldc2 (pc := 136) dX8_next_136 kc_X8_147 ?_
              refine g_ldc2 (pc := 139) dX8_next_139 kc_X8_149 ?_
              refine a_cs3i (pc := 142) (c_X8_in (nI (b a)).toInt64 48 57 (mset (mset ν 57 22 (nI a)) 57 21 (nI 4))) m_X8_in ml_X8_76 (by omega) (Nat.le_of_ble_eq_true rfl) dX8_next_142 (fun x_142 μ_142 h_142 => ?_)
              obtain ⟨hm_142, hd_142⟩ := h_142
              have hm_142 := hm_142.symm
              subst hm_142
              rw [in_c (x := (nI (b a))) (y := 48) (z := 57) 48 57 rfl rfl (by decide) (by decide)] at hd_142
              rw [hnx] at hd_142
              refine g_if_eq (pc := 145) (tgt := 252) dX8_next_145 (by decide) (fun c_145 => ?_) (fun c_145 => ?_)
              · have c145 := (hd_142.resolve_left (fun q => absurd (q.1.symm.trans c_145) (by decide))).2
                have k300 : ∀ (hs : isS (b a)), WG eV yX8_next.cls cX8_next 3 none false (fun _ _ => True) 1 (mpost (fun _ μ1 => NX μ μ1 n b a0)) 0 0 300 [some (.ref 57), some (.int (nI (b a))), none] [] (mk (mset (mset ν 57 22 (nI a)) 57 21 (nI 4))) := by
                  intro hs
                  refine g_aload_n (pc := 300) dX8_next_300 rfl ?_
                  refine g_iconst (pc := 301) (v := (nI 3)) dX8_next_301 (by decide) ?_
                  refine a_puti (pc := 302) fw_X8_140 dX8_next_302 (by first | rfl | assumption) rfl ?_
                  refine g_aload_n (pc := 305) dX8_next_305 rfl ?_
                  refine g_iload_n (pc := 306) dX8_next_306 rfl ?_
                  refine g_i2l (pc := 307) dX8_next_307 rfl ?_
                  refine a_putl (pc := 308) (u := (nI (b a))) fw_X8_151 dX8_next_308 (by first | rfl | assumption) rfl rfl ?_
                  refine g_aload_n (pc := 311) dX8_next_311 rfl ?_
                  refine g_dup (pc := 312) dX8_next_312 rfl ?_
                  refine v_geti (pc := 313) fl_X8_131 dX8_next_313 (by first | rfl | assumption) rfl ((mset_nj (by omega)).trans ((mset_nj (by omega)).trans ((mset_nj (by omega)).trans ((mset_nj (by omega)).trans q3)))) ?_
                  refine g_iconst (pc := 316) (v := (nI 1)) dX8_next_316 (by decide) ?_
                  refine v_iadd (pc := 317) dX8_next_317 (nI_succ a).symm ?_
                  refine a_puti (pc := 318) fw_X8_131 dX8_next_318 (by first | rfl | assumption) rfl ?_
                  refine g_return (pc := 321) (x := ()) dX8_next_321 rfl rfl ⟨_, rfl, ?_⟩
                  first
                    | exact hfin
                    | exact NX.of (t := 0) hE (tk_end (Nat.le_refl _)).1 (if_pos (Nat.le_refl _)) (fun k hk => by rw [mset_ne hk, mset_ne hk, mset_ne hk, mset_ne hk]; exact f1 k hk) (fun j hj => by rw [mset_nj (by omega), mset_nj (by omega), mset_nj (by omega), mset_nj (by omega)]; exact f2 j (by omega)) (fun _ => by rw [mset_nj (by omega), mset_nj (by omega), mset_nj (by omega), mset_nj (by omega)]; exact q3) mset_eq ((mset_nj (by omega)).trans mset_eq) (fun q => absurd q (by decide)) (fun q => absurd q (by decide))
                    | exact NX.of (t := 3) hE (tk_sign hlt c92 c145).1 (by unfold tkM; rw [if_neg (by omega), if_neg c92, if_neg c145, if_pos hs]) (fun k hk => by rw [mset_ne hk, mset_ne hk, mset_ne hk, mset_ne hk, mset_ne hk]; exact f1 k hk) (fun j hj => by rw [mset_nj (by omega), mset_nj (by omega), mset_nj (by omega), mset_nj (by omega), mset_nj (by omega)]; exact f2 j (by omega)) (fun _ => mset_eq) (by rw [mset_nj (by omega), mset_nj (by omega), mset_nj (by omega), mset_nj (by omega), mset_eq]) (by rw [mset_nj (by omega), mset_nj (by omega), mset_eq]) (fun q => absurd q (by decide)) (fun _ => (mset_nj (by omega)).trans mset_eq)
                refine g_iload_n (pc := 252) dX8_next_252 rfl ?_
                refine g_bipush (pc := 253) (v := (nI 40)) dX8_next_253 (by decide) ?_
                refine g_icmp_eq (pc := 255) (tgt := 300) dX8_next_255 (by decide) (fun c_255 => ?_) (fun c_255 => ?_)
                · have c255 : b a = 40 := nI_eq' (by omega) (by omega) c_255
                  exact k300 (by unfold isS; omega)
                · have c255 : ¬ b a = 40 := fun h => c_255 (by rw [h])
                  refine g_iload_n (pc := 258) dX8_next_258 rfl ?_
                  refine g_bipush (pc := 259) (v := (nI 41)) dX8_next_259 (by decide) ?_
                  refine g_icmp_eq (pc := 261) (tgt := 300) dX8_next_261 (by decide) (fun c_261 => ?_) (fun c_261 => ?_)
                  · have c261 : b a = 41 := nI_eq' (by omega) (by omega) c_261
                    exact k300 (by unfold isS; omega)
                  · have c261 : ¬ b a = 41 := fun h => c_261 (by rw [h])
                    refine g_iload_n (pc := 264) dX8_next_264 rfl ?_
                    refine g_bipush (pc := 265) (v := (nI 59)) dX8_next_265 (by decide) ?_
                    refine g_icmp_eq (pc := 267) (tgt := 300) dX8_next_267 (by decide) (fun c_267 => ?_) (fun c_267 => ?_)
                    · have c267 : b a = 59 := nI_eq' (by omega) (by omega) c_267
                      exact k300 (by unfold isS; omega)
                    · have c267 : ¬ b a = 59 := fun h => c_267 (by rw [h])
                      refine g_iload_n (pc := 270) dX8_next_270 rfl ?_
                      refine g_bipush (pc := 271) (v := (nI 43)) dX8_next_271 (by decide) ?_
                      refine g_icmp_eq (pc := 273) (tgt := 300) dX8_next_273 (by decide) (fun c_273 => ?_) (fun c_273 => ?_)
                      · have c273 : b a = 43 := nI_eq' (by omega) (by omega) c_273
                        exact k300 (by unfold isS; omega)
                      · have c273 : ¬ b a = 43 := fun h => c_273 (by rw [h])
                        refine g_iload_n (pc := 276) dX8_next_276 rfl ?_
                        refine g_bipush (pc := 277) (v := (nI 45)) dX8_next_277 (by decide) ?_
                        refine g_icmp_eq (pc := 279) (tgt := 300) dX8_next_279 (by decide) (fun c_279 => ?_) (fun c_279 => ?_)
                        · have c279 : b a = 45 := nI_eq' (by omega) (by omega) c_279
                          exact k300 (by unfold isS; omega)
                        · have c279 : ¬ b a = 45 := fun h => c_279 (by rw [h])
                          refine g_iload_n (pc := 282) dX8_next_282 rfl ?_
                          refine g_bipush (pc := 283) (v := (nI 42)) dX8_next_283 (by decide) ?_
                          refine g_icmp_eq (pc := 285) (tgt := 300) dX8_next_285 (by decide) (fun c_285 => ?_) (fun c_285 => ?_)
                          · have c285 : b a = 42 := nI_eq' (by omega) (by omega) c_285
                            exact k300 (by unfold isS; omega)
                          · have c285 : ¬ b a = 42 := fun h => c_285 (by rw [h])
                            refine g_iload_n (pc := 288) dX8_next_288 rfl ?_
                            refine g_bipush (pc := 289) (v := (nI 60)) dX8_next_289 (by decide) ?_
                            refine g_icmp_eq (pc := 291) (tgt := 300) dX8_next_291 (by decide) (fun c_291 => ?_) (fun c_291 => ?_)
                            · have c291 : b a = 60 := nI_eq' (by omega) (by omega) c_291
                              exact k300 (by unfold isS; omega)
                            · have c291 : ¬ b a = 60 := fun h => c_291 (by rw [h])
                              refine g_iload_n (pc := 294) dX8_next_294 rfl ?_
                              refine g_bipush (pc := 295) (v := (nI 61)) dX8_next_295 (by decide) ?_
                              refine g_icmp_ne (pc := 297) (tgt := 321) dX8_next_297 (by decide) (fun c_297 => ?_) (fun c_297 => ?_)
                              · have c297 : ¬ b a = 61 := fun h => c_297 (by rw [h])
                                have hns : ¬ isS (b a) := by
                                  unfold isS
                                  omega
                                have hfin : NX μ (mset (mset ν 57 22 (nI a)) 57 21 (nI 4)) n b a0 := NX.of (t := 4) hE ((tk_sign hlt c92 c145).1) (by unfold tkM; rw [if_neg (by omega), if_neg c92, if_neg c145, if_neg hns]) (fun k hk => by rw [mset_ne hk, mset_ne hk]; exact f1 k hk) (fun j hj => by rw [mset_nj (by omega), mset_nj (by omega)]; exact f2 j (by omega)) (fun q => absurd rfl q) (by rw [mset_nj (by omega), mset_eq]) mset_eq (fun q => absurd q (by decide)) (fun q => absurd q (by decide))
                                refine g_return (pc := 321) (x := ()) dX8_next_321 rfl rfl ⟨_, rfl, ?_⟩
                                first
                                  | exact hfin
                                  | exact NX.of (t := 0) hE (tk_end (Nat.le_refl _)).1 (if_pos (Nat.le_refl _)) (fun k hk => by rw [mset_ne hk, mset_ne hk, mset_ne hk, mset_ne hk]; exact f1 k hk) (fun j hj => by rw [mset_nj (by omega), mset_nj (by omega), mset_nj (by omega), mset_nj (by omega)]; exact f2 j (by omega)) (fun _ => by rw [mset_nj (by omega), mset_nj (by omega), mset_nj (by omega), mset_nj (by omega)]; exact q3) mset_eq ((mset_nj (by omega)).trans mset_eq) (fun q => absurd q (by decide)) (fun q => absurd q (by decide))
                                  | exact NX.of (t := 3) hE (tk_sign hlt c92 c145).1 (by unfold tkM; rw [if_neg (by omega), if_neg c92, if_neg c145, if_pos hs]) (fun k hk => by rw [mset_ne hk, mset_ne hk, mset_ne hk, mset_ne hk, mset_ne hk]; exact f1 k hk) (fun j hj => by rw [mset_nj (by omega), mset_nj (by omega), mset_nj (by omega), mset_nj (by omega), mset_nj (by omega)]; exact f2 j (by omega)) (fun _ => mset_eq) (by rw [mset_nj (by omega), mset_nj (by omega), mset_nj (by omega), mset_nj (by omega), mset_eq]) (by rw [mset_nj (by omega), mset_nj (by omega), mset_eq]) (fun q => absurd q (by decide)) (fun _ => (mset_nj (by omega)).trans mset_eq)
                              · have c297 : b a = 61 := nI_eq' (by omega) (by omega) c_297
                                exact k300 (by unfold isS; omega)
              · have c145 := (hd_142.resolve_right (fun q => c_145 q.1)).2
                refine g_aload_n (pc := 148) dX8_next_148 rfl ?_
                refine g_iconst (pc := 149) (v := (nI 2)) dX8_next_149 (by decide) ?_
                refine a_puti (pc := 150) fw_X8_140 dX8_next_150 (by first | rfl | assumption) rfl ?_
                refine g_aload_n (pc := 153) dX8_next_153 rfl ?_
                refine g_lconst (pc := 154) (v := 0) dX8_next_154 (by decide) ?_
                refine a_putl (pc := 155) (u := (nI 0)) fw_X8_151 dX8_next_155 (by first | rfl | assumption) rfl (by decide) ?_
                refine g_iconst (pc := 158) (v := (nI 0)) dX8_next_158 (by decide) ?_
                refine a_ist2 (pc := 159) dX8_next_159 (by decide) rfl ?_
                rw [show nI 0 = nI (a - a) by rw [Nat.sub_self]]
                have lp160 : ∀ (zz : Nat) (i : Nat) (hi : a ≤ i) (hin : i ≤ n) (hw : dgS b (n - i) i = dE b n a) (κ : Mem) (hκ : (∀ k, k ≠ 57 → κ k = μ k) ∧ (∀ j, j < 20 ∨ 23 < j → κ 57 j = μ 57 j) ∧ κ 57 20 = nI i ∧ κ 57 22 = nI a ∧ κ 57 21 = nI 2 ∧ κ 57 23 = nI (nvS b a (min (i - a) 4))), n - i = zz → WG eV yX8_next.cls cX8_next 3 none false (fun _ _ => True) 1 (mpost (fun _ μ1 => NX μ μ1 n b a0)) 0 0 160 [some (.ref 57), some (.int (nI (b a))), some (.int (nI (i - a)))] [] (mk κ) := by
                  intro zz
                  induction zz using Nat.strongRecOn with
                  | ind zz ih2 =>
                    intro i hi hin hw κ hκ hzz
                    obtain ⟨g1, g2, p3, p4, p5, p6⟩ := hκ
                    have hTb := hT.moved (g2 18 (by omega)) (g2 19 (by omega)) (g1 58 (by omega))
                    have hdi := dE_at hin hi hw
                    have hn4 : nvS b a (min (i - a) 4) < 10000 := nvS_4 (n := n) (by omega) (by omega)
                    refine g_aload_n (pc := 160) dX8_next_160 rfl ?_
                    refine g_aload_n (pc := 161) dX8_next_161 rfl ?_
                    refine v_geti (pc := 162) fl_X8_131 dX8_next_162 (by first | rfl | assumption) rfl p3 ?_
                    refine a_cv1i (pc := 165) (c_X8_byteAt κ f n b hTb i (by omega)) m_X8_byteAt ml_X8_134 (by omega) (by first | rfl | assumption) rfl rfl (Nat.le_of_ble_eq_true rfl) dX8_next_165 (fun x_165 μ_165 h_165 => ?_)
                    obtain ⟨rfl, hm_165⟩ := h_165
                    have hm_165 := hm_165.symm
                    subst hm_165
                    refine g_i2l (pc := 168) dX8_next_168 rfl ?_
                    refine g_ldc2 (pc := 169) dX8_next_169 kc_X8_147 ?_
                    refine g_ldc2 (pc := 172) dX8_next_172 kc_X8_149 ?_
                    refine a_cs3i (pc := 175) (c_X8_in (bA b n i).toInt64 48 57 κ) m_X8_in ml_X8_76 (by omega) (Nat.le_of_ble_eq_true rfl) dX8_next_175 (fun x_175 μ_175 h_175 => ?_)
                    obtain ⟨hm_175, hd_175⟩ := h_175
                    have hm_175 := hm_175.symm
                    subst hm_175
                    rw [in_c (x := (bA b n i)) (y := 48) (z := 57) 48 57 rfl rfl (by decide) (by decide)] at hd_175
                    rw [bA_in (hTb.by i) (by decide)] at hd_175
                    refine g_if_eq (pc := 178) (tgt := 235) dX8_next_178 (by decide) (fun c_178 => ?_) (fun c_178 => ?_)
                    · have c178 := (hd_175.resolve_left (fun q => absurd (q.1.symm.trans c_178) (by decide))).2
                      have hW : dE b n a = i := by
                        rw [← hw]
                        rcases Nat.lt_or_ge i n with h | h
                        · rw [show n - i = (n - i - 1) + 1 by omega, dgS, if_neg (fun q => c178 ⟨h, q⟩)]
                        · rw [show n - i = 0 by omega]
                          rfl
                      refine g_aload_n (pc := 235) dX8_next_235 rfl ?_
                      refine g_iload_n (pc := 236) dX8_next_236 rfl ?_
                      refine g_iconst (pc := 237) (v := (nI 4)) dX8_next_237 (by decide) ?_
                      refine g_icmp_le (pc := 238) (tgt := 245) dX8_next_238 (by decide) (fun c_238 => ?_) (fun c_238 => ?_)
                      · have c238 : ¬ 4 < i - a := Nat.not_lt.mpr (nI_le' (by omega) (by omega) c_238)
                        have hfin : NX μ (mset κ 57 21 (nI 2)) n b a0 := NX.of (t := 2) hE ((tk_num hlt c92 c145).1.trans hW) (by unfold tkM; rw [if_neg (by omega), if_neg c92, if_pos c145, hW, if_neg c238]) (fun k hk => (mset_ne hk).trans (g1 k hk)) (fun j hj => (mset_nj (by omega)).trans (g2 j hj)) (fun _ => (mset_nj (by omega)).trans p3) ((mset_nj (by omega)).trans p4) mset_eq (fun _ => by rw [mset_nj (by omega), (tk_num hlt c92 c145).2.2, hW, p6, show min (i - a) 4 = i - a by omega]) (fun q => absurd q (by decide))
                        refine g_iconst (pc := 245) (v := (nI 2)) dX8_next_245 (by decide) ?_
                        refine a_puti (pc := 246) fw_X8_140 dX8_next_246 (by first | rfl | assumption) rfl ?_
                        refine g_goto (pc := 249) (tgt := 321) dX8_next_249 (by decide) ?_
                        refine g_return (pc := 321) (x := ()) dX8_next_321 rfl rfl ⟨_, rfl, ?_⟩
                        first
                          | exact hfin
                          | exact NX.of (t := 0) hE (tk_end (Nat.le_refl _)).1 (if_pos (Nat.le_refl _)) (fun k hk => by rw [mset_ne hk, mset_ne hk, mset_ne hk, mset_ne hk]; exact f1 k hk) (fun j hj => by rw [mset_nj (by omega), mset_nj (by omega), mset_nj (by omega), mset_nj (by omega)]; exact f2 j (by omega)) (fun _ => by rw [mset_nj (by omega), mset_nj (by omega), mset_nj (by omega), mset_nj (by omega)]; exact q3) mset_eq ((mset_nj (by omega)).trans mset_eq) (fun q => absurd q (by decide)) (fun q => absurd q (by decide))
                          | exact NX.of (t := 3) hE (tk_sign hlt c92 c145).1 (by unfold tkM; rw [if_neg (by omega), if_neg c92, if_neg c145, if_pos hs]) (fun k hk => by rw [mset_ne hk, mset_ne hk, mset_ne hk, mset_ne hk, mset_ne hk]; exact f1 k hk) (fun j hj => by rw [mset_nj (by omega), mset_nj (by omega), mset_nj (by omega), mset_nj (by omega), mset_nj (by omega)]; exact f2 j (by omega)) (fun _ => mset_eq) (by rw [mset_nj (by omega), mset_nj (by omega), mset_nj (by omega), mset_nj (by omega), mset_eq]) (by rw [mset_nj (by omega), mset_nj (by omega), mset_eq]) (fun q => absurd q (by decide)) (fun _ => (mset_nj (by omega)).trans mset_eq)
                      · have c238 : 4 < i - a := nI_gt' (by omega) (by omega) c_238
                        have hfin : NX μ (mset κ 57 21 (nI 4)) n b a0 := NX.of (t := 4) hE ((tk_num hlt c92 c145).1.trans hW) (by unfold tkM; rw [if_neg (by omega), if_neg c92, if_pos c145, hW, if_pos c238]) (fun k hk => (mset_ne hk).trans (g1 k hk)) (fun j hj => (mset_nj (by omega)).trans (g2 j hj)) (fun _ => (mset_nj (by omega)).trans p3) ((mset_nj (by omega)).trans p4) mset_eq (fun q => absurd q (by decide)) (fun q => absurd q (by decide))
                        refine g_iconst (pc := 241) (v := (nI 4)) dX8_next_241 (by decide) ?_
                        refine g_goto (pc := 242) (tgt := 246) dX8_next_242 (by decide) ?_
                        refine a_puti (pc := 246) fw_X8_140 dX8_next_246 (by first | rfl | assumption) rfl ?_
                        refine g_goto (pc := 249) (tgt := 321) dX8_next_249 (by decide) ?_
                        refine g_return (pc := 321) (x := ()) dX8_next_321 rfl rfl ⟨_, rfl, ?_⟩
                        first
                          | exact hfin
                          | exact NX.of (t := 0) hE (tk_end (Nat.le_refl _)).1 (if_pos (Nat.le_refl _)) (fun k hk => by rw [mset_ne hk, mset_ne hk, mset_ne hk, mset_ne hk]; exact f1 k hk) (fun j hj => by rw [mset_nj (by omega), mset_nj (by omega), mset_nj (by omega), mset_nj (by omega)]; exact f2 j (by omega)) (fun _ => by rw [mset_nj (by omega), mset_nj (by omega), mset_nj (by omega), mset_nj (by omega)]; exact q3) mset_eq ((mset_nj (by omega)).trans mset_eq) (fun q => absurd q (by decide)) (fun q => absurd q (by decide))
                          | exact NX.of (t := 3) hE (tk_sign hlt c92 c145).1 (by unfold tkM; rw [if_neg (by omega), if_neg c92, if_neg c145, if_pos hs]) (fun k hk => by rw [mset_ne hk, mset_ne hk, mset_ne hk, mset_ne hk, mset_ne hk]; exact f1 k hk) (fun j hj => by rw [mset_nj (by omega), mset_nj (by omega), mset_nj (by omega), mset_nj (by omega), mset_nj (by omega)]; exact f2 j (by omega)) (fun _ => mset_eq) (by rw [mset_nj (by omega), mset_nj (by omega), mset_nj (by omega), mset_nj (by omega), mset_eq]) (by rw [mset_nj (by omega), mset_nj (by omega), mset_eq]) (fun q => absurd q (by decide)) (fun _ => (mset_nj (by omega)).trans mset_eq)
                    · have c178 := (hd_175.resolve_right (fun q => c_178 q.1)).2
                      have hin2 := c178.1
                      have hb1 : bA b n i = nI (b i) := if_pos hin2
                      have hbi := hTb.by i hin2
                      have hbd := c178.2
                      have hw2 : dgS b (n - (i + 1)) (i + 1) = dE b n a := by
                        rw [← hw, show n - i = (n - (i + 1)) + 1 by omega, dgS, if_pos c178.2]
                      refine g_aload_n (pc := 181) dX8_next_181 rfl ?_
                      refine g_iload_n (pc := 182) dX8_next_182 rfl ?_
                      refine g_iconst (pc := 183) (v := (nI 4)) dX8_next_183 (by decide) ?_
                      refine g_icmp_ge (pc := 184) (tgt := 212) dX8_next_184 (by decide) (fun c_184 => ?_) (fun c_184 => ?_)
                      · have c184 : ¬ i - a < 4 := Nat.not_lt.mpr (nI_le' (by omega) (by omega) c_184)
                        have hval : nvS b a (min (i - a) 4) = nvS b a (min (i + 1 - a) 4) := by rw [show min (i + 1 - a) 4 = min (i - a) 4 by omega]
                        refine g_aload_n (pc := 212) dX8_next_212 rfl ?_
                        refine a_getl (pc := 213) fl_X8_151 dX8_next_213 (by first | rfl | assumption) rfl ?_
                        refine a_putl (pc := 216) (u := (nI (nvS b a (min (i - a) 4)))) fw_X8_151 dX8_next_216 (by first | rfl | assumption) rfl (by rw [p6]) ?_
                        refine a_iinc2 (pc := 219) dX8_next_219 (show nI (i - a) + Int32.ofInt 1 = nI (i + 1 - a) by rw [show i + 1 - a = (i - a) + 1 by omega]; exact inc1 _) (by decide) rfl ?_
                        refine g_aload_n (pc := 222) dX8_next_222 rfl ?_
                        refine g_dup (pc := 223) dX8_next_223 rfl ?_
                        refine v_geti (pc := 224) fl_X8_131 dX8_next_224 (by first | rfl | assumption) rfl ((mset_nj (by omega)).trans p3) ?_
                        refine g_iconst (pc := 227) (v := (nI 1)) dX8_next_227 (by decide) ?_
                        refine v_iadd (pc := 228) dX8_next_228 (nI_succ i).symm ?_
                        refine a_puti (pc := 229) fw_X8_131 dX8_next_229 (by first | rfl | assumption) rfl ?_
                        refine g_goto (pc := 232) (tgt := 160) dX8_next_232 (by decide) ?_
                        exact ih2 (n - (i + 1)) (by omega) (i + 1) (by omega) (by omega) hw2 _ ⟨fun k hk => by rw [mset_ne hk, mset_ne hk]; exact g1 k hk, fun j hj => by rw [mset_nj (by omega), mset_nj (by omega)]; exact g2 j hj, mset_eq, by rw [mset_nj (by omega), mset_nj (by omega)]; exact p4, by rw [mset_nj (by omega), mset_nj (by omega)]; exact p5, by rw [mset_nj (by omega), mset_eq, hval]⟩ rfl
                      · have c184 : i - a < 4 := nI_gt' (by omega) (by omega) c_184
                        have hval : nvS b a (min (i - a) 4) * 10 + b i - 48 = nvS b a (min (i + 1 - a) 4) := by
                          rw [show min (i + 1 - a) 4 = min (i - a) 4 + 1 by omega, nvS, show a + min (i - a) 4 = i by omega]
                        refine g_ldc2 (pc := 187) dX8_next_187 kc_X8_155 ?_
                        refine g_aload_n (pc := 190) dX8_next_190 rfl ?_
                        refine a_getl (pc := 191) fl_X8_151 dX8_next_191 (by first | rfl | assumption) rfl ?_
                        refine v_lmul (pc := 194) dX8_next_194 (show (10 : Int64) * (κ 57 23).toInt64 = lN (10 * nvS b a (min (i - a) 4)) by rw [p6, nI_l (by omega)]; exact lN_mul 10 _) ?_
                        refine g_aload_n (pc := 195) dX8_next_195 rfl ?_
                        refine g_aload_n (pc := 196) dX8_next_196 rfl ?_
                        refine v_geti (pc := 197) fl_X8_131 dX8_next_197 (by first | rfl | assumption) rfl p3 ?_
                        refine a_cv1i (pc := 200) (c_X8_byteAt κ f n b hTb i (by omega)) m_X8_byteAt ml_X8_134 (by omega) (by first | rfl | assumption) rfl rfl (Nat.le_of_ble_eq_true rfl) dX8_next_200 (fun x_200 μ_200 h_200 => ?_)
                        obtain ⟨rfl, hm_200⟩ := h_200
                        have hm_200 := hm_200.symm
                        subst hm_200
                        rw [hb1]
                        refine g_i2l (pc := 203) dX8_next_203 (nI_l (by omega)) ?_
                        refine v_ladd (pc := 204) dX8_next_204 (lN_add _ _) ?_
                        refine g_ldc2 (pc := 205) dX8_next_205 kc_X8_147 ?_
                        refine v_lsub (pc := 208) dX8_next_208 (lN_sub (b := 48) (by omega)) ?_
                        refine g_goto (pc := 209) (tgt := 216) dX8_next_209 (by decide) ?_
                        refine a_putl (pc := 216) (u := (nI (nvS b a (min (i - a) 4) * 10 + b i - 48))) fw_X8_151 dX8_next_216 (by first | rfl | assumption) rfl (by rw [nI_l (by omega), Nat.mul_comm]) ?_
                        refine a_iinc2 (pc := 219) dX8_next_219 (show nI (i - a) + Int32.ofInt 1 = nI (i + 1 - a) by rw [show i + 1 - a = (i - a) + 1 by omega]; exact inc1 _) (by decide) rfl ?_
                        refine g_aload_n (pc := 222) dX8_next_222 rfl ?_
                        refine g_dup (pc := 223) dX8_next_223 rfl ?_
                        refine v_geti (pc := 224) fl_X8_131 dX8_next_224 (by first | rfl | assumption) rfl ((mset_nj (by omega)).trans p3) ?_
                        refine g_iconst (pc := 227) (v := (nI 1)) dX8_next_227 (by decide) ?_
                        refine v_iadd (pc := 228) dX8_next_228 (nI_succ i).symm ?_
                        refine a_puti (pc := 229) fw_X8_131 dX8_next_229 (by first | rfl | assumption) rfl ?_
                        refine g_goto (pc := 232) (tgt := 160) dX8_next_232 (by decide) ?_
                        exact ih2 (n - (i + 1)) (by omega) (i + 1) (by omega) (by omega) hw2 _ ⟨fun k hk => by rw [mset_ne hk, mset_ne hk]; exact g1 k hk, fun j hj => by rw [mset_nj (by omega), mset_nj (by omega)]; exact g2 j hj, mset_eq, by rw [mset_nj (by omega), mset_nj (by omega)]; exact p4, by rw [mset_nj (by omega), mset_nj (by omega)]; exact p5, by rw [mset_nj (by omega), mset_eq, hval]⟩ rfl
                exact lp160 _ a (Nat.le_refl _) han rfl _ ⟨fun k hk => by rw [mset_ne hk, mset_ne hk, mset_ne hk, mset_ne hk]; exact f1 k hk, fun j hj => by rw [mset_nj (by omega), mset_nj (by omega), mset_nj (by omega), mset_nj (by omega)]; exact f2 j (by omega), by rw [mset_nj (by omega), mset_nj (by omega), mset_nj (by omega), mset_nj (by omega)]; exact q3, by rw [mset_nj (by omega), mset_nj (by omega), mset_nj (by omega), mset_eq], (mset_nj (by omega)).trans mset_eq, by rw [mset_eq, Nat.sub_self]; rfl⟩ rfl
            · have c92 := (hd_89.resolve_right (fun q => c_92 q.1)).2
              refine g_aload_n (pc := 95) dX8_next_95 rfl ?_
              refine g_iconst (pc := 96) (v := (nI 1)) dX8_next_96 (by decide) ?_
              refine a_puti (pc := 97) fw_X8_140 dX8_next_97 (by first | rfl | assumption) rfl ?_
              have lp100 : ∀ (zz : Nat) (i : Nat) (hi : a ≤ i) (hin : i ≤ n) (hw : lwS b (n - i) i = wE b n a) (κ : Mem) (hκ : (∀ k, k ≠ 57 → κ k = μ k) ∧ (∀ j, j < 20 ∨ 23 < j → κ 57 j = μ 57 j) ∧ κ 57 20 = nI i ∧ κ 57 22 = nI a ∧ κ 57 21 = nI 1), n - i = zz → WG eV yX8_next.cls cX8_next 3 none false (fun _ _ => True) 1 (mpost (fun _ μ1 => NX μ μ1 n b a0)) 0 0 100 [some (.ref 57), some (.int (nI (b a))), none] [] (mk κ) := by
                intro zz
                induction zz using Nat.strongRecOn with
                | ind zz ih2 =>
                  intro i hi hin hw κ hκ hzz
                  obtain ⟨g1, g2, p3, p4, p5⟩ := hκ
                  have hTb := hT.moved (g2 18 (by omega)) (g2 19 (by omega)) (g1 58 (by omega))
                  refine g_aload_n (pc := 100) dX8_next_100 rfl ?_
                  refine g_aload_n (pc := 101) dX8_next_101 rfl ?_
                  refine v_geti (pc := 102) fl_X8_131 dX8_next_102 (by first | rfl | assumption) rfl p3 ?_
                  refine a_cv1i (pc := 105) (c_X8_byteAt κ f n b hTb i (by omega)) m_X8_byteAt ml_X8_134 (by omega) (by first | rfl | assumption) rfl rfl (Nat.le_of_ble_eq_true rfl) dX8_next_105 (fun x_105 μ_105 h_105 => ?_)
                  obtain ⟨rfl, hm_105⟩ := h_105
                  have hm_105 := hm_105.symm
                  subst hm_105
                  refine g_i2l (pc := 108) dX8_next_108 rfl ?_
                  refine g_ldc2 (pc := 109) dX8_next_109 kc_X8_143 ?_
                  refine g_ldc2 (pc := 112) dX8_next_112 kc_X8_145 ?_
                  refine a_cs3i (pc := 115) (c_X8_in (bA b n i).toInt64 97 122 κ) m_X8_in ml_X8_76 (by omega) (Nat.le_of_ble_eq_true rfl) dX8_next_115 (fun x_115 μ_115 h_115 => ?_)
                  obtain ⟨hm_115, hd_115⟩ := h_115
                  have hm_115 := hm_115.symm
                  subst hm_115
                  rw [in_c (x := (bA b n i)) (y := 97) (z := 122) 97 122 rfl rfl (by decide) (by decide)] at hd_115
                  rw [bA_in (hTb.by i) (by decide)] at hd_115
                  refine g_if_eq (pc := 118) (tgt := 321) dX8_next_118 (by decide) (fun c_118 => ?_) (fun c_118 => ?_)
                  · have c118 := (hd_115.resolve_left (fun q => absurd (q.1.symm.trans c_118) (by decide))).2
                    have hW : wE b n a = i := by
                      rw [← hw]
                      rcases Nat.lt_or_ge i n with h | h
                      · rw [show n - i = (n - i - 1) + 1 by omega, lwS, if_neg (fun q => c118 ⟨h, q⟩)]
                      · rw [show n - i = 0 by omega]
                        rfl
                    have hfin : NX μ κ n b a0 := NX.of hE ((tk_word hlt c92).1.trans hW) ((if_neg (by omega)).trans (if_pos c92)) g1 g2 (fun _ => p3) p4 p5 (fun q => absurd q (by decide)) (fun q => absurd q (by decide))
                    refine g_return (pc := 321) (x := ()) dX8_next_321 rfl rfl ⟨_, rfl, ?_⟩
                    first
                      | exact hfin
                      | exact NX.of (t := 0) hE (tk_end (Nat.le_refl _)).1 (if_pos (Nat.le_refl _)) (fun k hk => by rw [mset_ne hk, mset_ne hk, mset_ne hk, mset_ne hk]; exact f1 k hk) (fun j hj => by rw [mset_nj (by omega), mset_nj (by omega), mset_nj (by omega), mset_nj (by omega)]; exact f2 j (by omega)) (fun _ => by rw [mset_nj (by omega), mset_nj (by omega), mset_nj (by omega), mset_nj (by omega)]; exact q3) mset_eq ((mset_nj (by omega)).trans mset_eq) (fun q => absurd q (by decide)) (fun q => absurd q (by decide))
                      | exact NX.of (t := 3) hE (tk_sign hlt c92 c145).1 (by unfold tkM; rw [if_neg (by omega), if_neg c92, if_neg c145, if_pos hs]) (fun k hk => by rw [mset_ne hk, mset_ne hk, mset_ne hk, mset_ne hk, mset_ne hk]; exact f1 k hk) (fun j hj => by rw [mset_nj (by omega), mset_nj (by omega), mset_nj (by omega), mset_nj (by omega), mset_nj (by omega)]; exact f2 j (by omega)) (fun _ => mset_eq) (by rw [mset_nj (by omega), mset_nj (by omega), mset_nj (by omega), mset_nj (by omega), mset_eq]) (by rw [mset_nj (by omega), mset_nj (by omega), mset_eq]) (fun q => absurd q (by decide)) (fun _ => (mset_nj (by omega)).trans mset_eq)
                  · have c118 := (hd_115.resolve_right (fun q => c_118 q.1)).2
                    have hin2 := c118.1
                    have hw2 : lwS b (n - (i + 1)) (i + 1) = wE b n a := by
                      rw [← hw, show n - i = (n - (i + 1)) + 1 by omega, lwS, if_pos c118.2]
                    refine g_aload_n (pc := 121) dX8_next_121 rfl ?_
                    refine g_dup (pc := 122) dX8_next_122 rfl ?_
                    refine v_geti (pc := 123) fl_X8_131 dX8_next_123 (by first | rfl | assumption) rfl p3 ?_
                    refine g_iconst (pc := 126) (v := (nI 1)) dX8_next_126 (by decide) ?_
                    refine v_iadd (pc := 127) dX8_next_127 (nI_succ i).symm ?_
                    refine a_puti (pc := 128) fw_X8_131 dX8_next_128 (by first | rfl | assumption) rfl ?_
                    refine g_goto (pc := 131) (tgt := 100) dX8_next_131 (by decide) ?_
                    exact ih2 (n - (i + 1)) (by omega) (i + 1) (by omega) (by omega) hw2 _ ⟨fun k hk => (mset_ne hk).trans (g1 k hk), fun j hj => (mset_nj (by omega)).trans (g2 j hj), mset_eq, (mset_nj (by omega)).trans p4, (mset_nj (by omega)).trans p5⟩ rfl
              exact lp100 _ a (Nat.le_refl _) han rfl _ ⟨fun k hk => by rw [mset_ne hk, mset_ne hk, mset_ne hk]; exact f1 k hk, fun j hj => by rw [mset_nj (by omega), mset_nj (by omega), mset_nj (by omega)]; exact f2 j (by omega), by rw [mset_nj (by omega), mset_nj (by omega), mset_nj (by omega)]; exact q3, by rw [mset_nj (by omega), mset_nj (by omega), mset_eq], mset_eq⟩ rfl
          · have hge : n ≤ a := by
              rcases Nat.lt_or_ge a n with h | h
              · rw [show bA b n a = nI (b a) from if_pos h] at c_62
                exact absurd (Int32.not_le.mp c_62) (nI_pos (by have := hTb.by a h; omega))
              · exact h
            obtain rfl : a = n := by omega
            refine g_aload_n (pc := 65) dX8_next_65 rfl ?_
            refine g_iconst (pc := 66) (v := (nI 0)) dX8_next_66 (by decide) ?_
            refine a_puti (pc := 67) fw_X8_140 dX8_next_67 (by first | rfl | assumption) rfl ?_
            refine g_aload_n (pc := 70) dX8_next_70 rfl ?_
            refine g_aload_n (pc := 71) dX8_next_71 rfl ?_
            refine v_geti (pc := 72) fl_X8_125 dX8_next_72 (by first | rfl | assumption) rfl ((mset_nj (by omega)).trans ((mset_nj (by omega)).trans ((mset_nj (by omega)).trans hTb.2.2.1))) ?_
            refine a_puti (pc := 75) fw_X8_137 dX8_next_75 (by first | rfl | assumption) rfl ?_
            refine g_goto (pc := 78) (tgt := 321) dX8_next_78 (by decide) ?_
            refine g_return (pc := 321) (x := ()) dX8_next_321 rfl rfl ⟨_, rfl, ?_⟩
            first
              | exact hfin
              | exact NX.of (t := 0) hE (tk_end (Nat.le_refl _)).1 (if_pos (Nat.le_refl _)) (fun k hk => by rw [mset_ne hk, mset_ne hk, mset_ne hk, mset_ne hk]; exact f1 k hk) (fun j hj => by rw [mset_nj (by omega), mset_nj (by omega), mset_nj (by omega), mset_nj (by omega)]; exact f2 j (by omega)) (fun _ => by rw [mset_nj (by omega), mset_nj (by omega), mset_nj (by omega), mset_nj (by omega)]; exact q3) mset_eq ((mset_nj (by omega)).trans mset_eq) (fun q => absurd q (by decide)) (fun q => absurd q (by decide))
              | exact NX.of (t := 3) hE (tk_sign hlt c92 c145).1 (by unfold tkM; rw [if_neg (by omega), if_neg c92, if_neg c145, if_pos hs]) (fun k hk => by rw [mset_ne hk, mset_ne hk, mset_ne hk, mset_ne hk, mset_ne hk]; exact f1 k hk) (fun j hj => by rw [mset_nj (by omega), mset_nj (by omega), mset_nj (by omega), mset_nj (by omega), mset_nj (by omega)]; exact f2 j (by omega)) (fun _ => mset_eq) (by rw [mset_nj (by omega), mset_nj (by omega), mset_nj (by omega), mset_nj (by omega), mset_eq]) (by rw [mset_nj (by omega), mset_nj (by omega), mset_eq]) (fun q => absurd q (by decide)) (fun _ => (mset_nj (by omega)).trans mset_eq)
        · have c23 := (bA_eq (hTb.by a) (by decide)).mp c_23
          have hlt := c23.1
          have hb : b a = 32 ∨ b a = 10 := Or.inr c23.2
          have hw2 : skS b (n - (a + 1)) (a + 1) = lxP b n a0 := by
            rw [← hw, show n - a = (n - (a + 1)) + 1 by omega, skS, if_pos hb]
          refine g_aload_n (pc := 26) dX8_next_26 rfl ?_
          refine g_dup (pc := 27) dX8_next_27 rfl ?_
          refine v_geti (pc := 28) fl_X8_131 dX8_next_28 (by first | rfl | assumption) rfl q3 ?_
          refine g_iconst (pc := 31) (v := (nI 1)) dX8_next_31 (by decide) ?_
          refine v_iadd (pc := 32) dX8_next_32 (nI_succ a).symm ?_
          refine a_puti (pc := 33) fw_X8_131 dX8_next_33 (by first | rfl | assumption) rfl ?_
          refine g_goto (pc := 36) (tgt := 0) dX8_next_36 (by decide) ?_
          exact ih (n - (a + 1)) (by omega) (a + 1) (by omega) (by omega) hw2 _ ⟨fun k hk => (mset_ne hk).trans (f1 k hk), fun j hj => (mset_nj hj).trans (f2 j hj), mset_eq⟩ rfl
  exact lp0 _ a0 (Nat.le_refl _) hn rfl _ ⟨fun k _ => rfl, fun j _ => rfl, h20⟩ rfl
