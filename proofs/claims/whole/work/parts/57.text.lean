/-! ===== the reader: a text ===== -/
def eiF (n : Nat) (b : Nat → Nat) : Nat → PR := (lvF n b 5).2.2
def exF (n : Nat) (b : Nat → Nat) (i a : Nat) : PR :=
  if lxT b n a = 256 + i then (if (eiF n b (lxE b n a)).1 = true ∧ lxT b n (eiF n b (lxE b n a)).2.1 = 59 then (true, lxE b n (eiF n b (lxE b n a)).2.1, (eiF n b (lxE b n a)).2.2) else (false, (eiF n b (lxE b n a)).2.1, [])) else (false, a, [])
def rdS (n : Nat) (b : Nat → Nat) : Nat → Bool × Nat
  | 0 => (true, 0)
  | i + 1 => if (rdS n b i).1 = true then ((exF n b i (rdS n b i).2).1, (exF n b i (rdS n b i).2).2.1) else rdS n b i
def rdC (n : Nat) (b : Nat → Nat) (e : Nat) : List Nat := (exF n b e (rdS n b e).2).2.2
def rdK (n : Nat) (b : Nat → Nat) : Nat → List Nat
  | 0 => []
  | i + 1 => rdK n b i ++ (rdC n b i ++ [10019])
abbrev rdOK (n : Nat) (b : Nat → Nat) : Prop := (rdS n b 3).1 = true ∧ lxT b n (rdS n b 3).2 = 0
/-- the place of the fault -/
def rdP (n : Nat) (b : Nat → Nat) : Nat := lxP b n (rdS n b 3).2
theorem rdS_no {n : Nat} {b : Nat → Nat} {i : Nat} (h : (rdS n b i).1 = false) : ∀ j, i ≤ j → rdS n b j = rdS n b i := by
  intro j hj
  induction j with
  | zero =>
    obtain rfl : i = 0 := by omega
    rfl
  | succ j ih =>
    rcases Nat.lt_or_ge j i with h1 | h1
    · obtain rfl : i = j + 1 := by omega
      rfl
    · rw [rdS, if_neg (by rw [ih h1, h]; simp), ih h1]
theorem rdK_pre {n : Nat} {b : Nat → Nat} : ∀ {e i : Nat}, e < i → ∃ rest, rdK n b i = rdK n b e ++ (rdC n b e ++ 10019 :: rest)
  | e, 0, h => by omega
  | e, i + 1, h => by
    rcases Nat.lt_or_ge e i with h1 | h1
    · obtain ⟨rest, hr⟩ := rdK_pre (n := n) (b := b) h1
      refine ⟨rest ++ (rdC n b i ++ [10019]), ?_⟩
      rw [rdK, hr]
      simp [List.append_assoc]
    · obtain rfl : e = i := by omega
      exact ⟨[], rfl⟩
theorem exF_in {n : Nat} {b : Nat → Nat} {i a : Nat} (ha : a ≤ n) : a ≤ (exF n b i a).2.1 ∧ (exF n b i a).2.1 ≤ n ∧ ((exF n b i a).1 = true → a + (exF n b i a).2.2.length + 1 ≤ (exF n b i a).2.1) := by
  have hE := lxE_in b ha
  unfold exF
  by_cases ht : lxT b n a = 256 + i
  · rw [if_pos ht]
    have hgo := lxE_go ha (show ¬ lxT b n a = 0 by omega)
    obtain ⟨g1, g2, g3⟩ := (lvF_gd n b 5).2.2 _ hE.2
    have g1 : lxE b n a ≤ (eiF n b (lxE b n a)).2.1 := g1
    have g2 : (eiF n b (lxE b n a)).2.1 ≤ n := g2
    by_cases h2 : (eiF n b (lxE b n a)).1 = true ∧ lxT b n (eiF n b (lxE b n a)).2.1 = 59
    · rw [if_pos h2]
      have hE2 := lxE_in b g2
      have hg2 := lxE_go g2 (show ¬ lxT b n (eiF n b (lxE b n a)).2.1 = 0 by omega)
      have g3 : lxE b n a + (eiF n b (lxE b n a)).2.2.length ≤ (eiF n b (lxE b n a)).2.1 := g3 h2.1
      refine ⟨by show a ≤ lxE b n (eiF n b (lxE b n a)).2.1; omega, hE2.2, fun _ => ?_⟩
      show a + (eiF n b (lxE b n a)).2.2.length + 1 ≤ lxE b n (eiF n b (lxE b n a)).2.1
      omega
    · rw [if_neg h2]
      exact ⟨by show a ≤ (eiF n b (lxE b n a)).2.1; omega, g2, fun q => absurd q (by simp)⟩
  · rw [if_neg ht]
    exact ⟨Nat.le_refl _, ha, fun q => absurd q (by simp)⟩
theorem exF_sm {n : Nat} {b : Nat → Nat} {i a : Nat} (h : (exF n b i a).1 = true) : SMc (exF n b i a).2.2 := by
  unfold exF at h ⊢
  by_cases ht : lxT b n a = 256 + i
  · rw [if_pos ht] at h ⊢
    by_cases h2 : (eiF n b (lxE b n a)).1 = true ∧ lxT b n (eiF n b (lxE b n a)).2.1 = 59
    · rw [if_pos h2]
      exact (lvF_sm n b 5).2.2 _ h2.1
    · rw [if_neg h2] at h
      exact absurd h (by simp)
  · rw [if_neg ht] at h
    exact absurd h (by simp)
theorem rdS_in (n : Nat) (b : Nat → Nat) : ∀ i, (rdS n b i).2 ≤ n
  | 0 => Nat.zero_le _
  | i + 1 => by
    have ih := rdS_in n b i
    rw [rdS]
    split
    · exact (exF_in ih).2.1
    · exact ih
theorem rdS_yes {n : Nat} {b : Nat → Nat} {i : Nat} (h : (rdS n b i).1 = true) : ∀ j, j ≤ i → (rdS n b j).1 = true := by
  intro j hj
  rcases Bool.eq_false_or_eq_true (rdS n b j).1 with h1 | h1
  · exact h1
  · rw [rdS_no h1 i hj, h1] at h
    exact absurd h (by simp)
theorem rdC_sm {n : Nat} {b : Nat → Nat} {e : Nat} (h : (rdS n b (e + 1)).1 = true) : SMc (rdC n b e) := by
  have h0 := rdS_yes h e (by omega)
  rw [rdS, if_pos h0] at h
  exact exF_sm h
theorem RW.code {μ : Mem} {t n : Nat} {b : Nat → Nat} (h : RW μ t n b (rdK n b 3)) (hf : (rdS n b 3).1 = true) (hl : (rdK n b 3).length ≤ 160) {e : Nat} (he : e < 3) (hs : μ (25 + t) e = nI (rdK n b e).length) : CodeOK μ t e (rdC n b e) := by
  obtain ⟨rest, hr⟩ := rdK_pre (n := n) (b := b) he
  obtain ⟨-, -, -, -, h5⟩ := h
  have hll := congrArg List.length hr
  rw [List.length_append, List.length_append, List.length_cons] at hll
  refine ⟨_, hs, by omega, fun j c hj => ⟨h5 _ c ?_, (rdC_sm (rdS_yes hf (e + 1) (by omega))).1 c (List.mem_of_getElem? hj)⟩, h5 _ _ ?_⟩
  · rw [hr, List.getElem?_append_right (by omega), show (rdK n b e).length + j - (rdK n b e).length = j by omega, List.getElem?_append_left (List.getElem?_eq_some_iff.mp hj).1]
    exact hj
  · rw [hr, List.getElem?_append_right (by omega), show (rdK n b e).length + (rdC n b e).length - (rdK n b e).length = (rdC n b e).length by omega, List.getElem?_append_right (by omega), Nat.sub_self]
    rfl
theorem RW.st {μ : Mem} {t n : Nat} {b : Nat → Nat} {c : List Nat} {j : Nat} {x : Int32} (h : RW μ t n b c) : RW (mset μ (25 + t) j x) t n b c := by
  obtain ⟨h1, h2, h3, h4, h5⟩ := h
  refine ⟨h1.moved (mset_ne (by omega)) (mset_ne (by omega)), h2, (congrFun (mset_ne (by omega)) 2).trans h3, (congrFun (mset_ne (by omega)) 3).trans h4, fun i y hy => ?_⟩
  rw [mset_ne (by omega)]
  exact h5 i y hy
theorem TK.st {μ : Mem} {t n : Nat} {b : Nat → Nat} {a j : Nat} {x : Int32} (ht : t < 6) (h : TK μ n b a) : TK (mset μ (25 + t) j x) n b a := by
  unfold TK
  rw [mset_ne (by omega)]
  exact h
def RG (μ μ1 : Mem) (t : Nat) : Prop := ∀ k, k ≠ 33 → k ≠ 18 + t → k ≠ 25 + t → μ1 k = μ k
theorem RF.rg {μ μ1 : Mem} {t : Nat} (h : RF μ μ1 t) : RG μ μ1 t := fun k h1 h2 _ => h k h1 h2
theorem RG.trans {μ μ1 μ2 : Mem} {t : Nat} (h : RG μ μ1 t) (g : RG μ1 μ2 t) : RG μ μ2 t := fun k h1 h2 h3 => (g k h1 h2 h3).trans (h k h1 h2 h3)
theorem rdS_f {n : Nat} {b : Nat → Nat} {i a1 : Nat} {c1 : List Nat} (hi : i < 3) (h0 : (rdS n b i).1 = true) (h : exF n b i (rdS n b i).2 = (false, a1, c1)) : ¬ rdOK n b ∧ rdP n b = lxP b n a1 := by
  have h1 : rdS n b (i + 1) = (false, a1) := by
    rw [rdS, if_pos h0, h]
  have h3 := rdS_no (n := n) (b := b) (i := i + 1) (by rw [h1]) 3 (by omega)
  unfold rdOK rdP
  rw [h3, h1]
  exact ⟨fun q => absurd q.1 (by simp), rfl⟩
theorem c_X2_read (t n : Nat) (ht6 : t < 6) (b : Nat → Nat) (μ : Mem) (ht : TP μ n b) : CA eI yX2_read cX2_read 4 (some .int) 50 [.ref 33, .ref (18 + t), .ref (25 + t)] μ (fun r μ1 => RG μ μ1 t ∧ ((rdOK n b ∧ r = -1 ∧ ∀ e, e < 3 → CodeOK μ1 t e (rdC n b e)) ∨ (¬ rdOK n b ∧ r = nI (rdP n b)))) := by
  have hn160 := ht.2.1
  refine CT.of false (by decide) (by decide) (L := [some (.ref 33), some (.ref (18 + t)), some (.ref (25 + t)), none]) rfl (Nat.le_of_ble_eq_true rfl) ?_
  refine g_aload_n (pc := 0) dX2_read_0 rfl ?_
  refine g_aload_n (pc := 1) dX2_read_1 rfl ?_
  refine a_putd (pc := 2) fw_X2_19 dX2_read_2 (by first | rfl | assumption) rfl (by omega) rfl rfl ?_
  refine g_aload_n (pc := 5) dX2_read_5 rfl ?_
  refine g_iconst (pc := 6) (v := (nI 0)) dX2_read_6 (by decide) ?_
  refine a_puti (pc := 7) fw_X2_22 dX2_read_7 (by first | rfl | assumption) rfl ?_
  refine g_aload_n (pc := 10) dX2_read_10 rfl ?_
  refine g_iconst (pc := 11) (v := (nI 0)) dX2_read_11 (by decide) ?_
  refine a_puti (pc := 12) fw_X2_25 dX2_read_12 (by first | rfl | assumption) rfl ?_
  refine g_aload_n (pc := 15) dX2_read_15 rfl ?_
  have ht0 : TP (mset (mset (mset μ 33 2 (nI (18 + t))) 33 3 (nI 0)) 33 4 (nI 0)) n b := ht.moved2 (by rw [mset_nj (by omega), mset_nj (by omega), mset_nj (by omega)]) (by rw [mset_ne (by omega), mset_ne (by omega), mset_ne (by omega)])
  have hR0 : RW (mset (mset (mset μ 33 2 (nI (18 + t))) 33 3 (nI 0)) 33 4 (nI 0)) t n b [] := ⟨ht0, ht6, by rw [mset_nj (by omega), mset_nj (by omega), mset_eq], by rw [mset_nj (by omega), mset_eq]; rfl, fun j x hj => by simp at hj⟩
  refine a_cv0v (pc := 16) (c_X2_advance (mset (mset (mset μ 33 2 (nI (18 + t))) 33 3 (nI 0)) 33 4 (nI 0)) n b ht0 0 (Nat.zero_le _) mset_eq) m_X2_advance ml_X2_28 (by omega) (by first | rfl | assumption) rfl rfl (Nat.le_of_ble_eq_true rfl) dX2_read_16 (fun x_16 μ_16 h_16 => ?_)
  obtain ⟨R16, T16, f16⟩ := hR0.adv (Nat.zero_le _) h_16
  have f0 : RG μ μ_16 t := fun k k1 k2 _ => (f16 k k1 k2).trans (by rw [mset_ne k1, mset_ne k1, mset_ne k1])
  refine g_iconst (pc := 19) (v := (nI 0)) dX2_read_19 (by decide) ?_
  refine a_ist3 (pc := 20) dX2_read_20 (by decide) rfl ?_
  have lp21 : ∀ (zz : Nat) (i : Nat) (hi : i ≤ 3) (ν : Mem) (hν : (rdS n b i).1 = true ∧ RW ν t n b (rdK n b i) ∧ TK ν n b (rdS n b i).2 ∧ (rdK n b i).length ≤ (rdS n b i).2 ∧ (∀ j, j < i → ν (25 + t) j = nI (rdK n b j).length) ∧ RG μ ν t), 3 - i = zz → WG eI yX2_read.cls cX2_read 4 (some .int) false (fun _ _ => True) 50 (mpost (fun r μ1 => RG μ μ1 t ∧ ((rdOK n b ∧ r = -1 ∧ ∀ e, e < 3 → CodeOK μ1 t e (rdC n b e)) ∨ (¬ rdOK n b ∧ r = nI (rdP n b))))) 0 0 21 [some (.ref 33), some (.ref (18 + t)), some (.ref (25 + t)), some (.int (nI i))] [] (mk ν) := by
    intro zz
    induction zz using Nat.strongRecOn with
    | ind zz ih =>
      intro i hi ν hν hzz
      obtain ⟨h0, hR, hT, hl, hs, hg⟩ := hν
      have hE := lxE_in b hT.1
      have hTl := lxT_le b n (rdS n b i).2
      have hin := rdS_in n b i
      refine g_iload_n (pc := 21) dX2_read_21 rfl ?_
      refine g_iconst (pc := 22) (v := (nI 3)) dX2_read_22 (by decide) ?_
      refine g_icmp_ge (pc := 23) (tgt := 93) dX2_read_23 (by decide) (fun c_23 => ?_) (fun c_23 => ?_)
      · have c23 := nI_le' (by omega) (by omega) c_23
        obtain rfl : i = 3 := by omega
        clear hzz
        refine g_aload_n (pc := 93) dX2_read_93 rfl ?_
        refine v_geti (pc := 94) fl_X2_33 dX2_read_94 (by first | rfl | assumption) rfl hT.2.2.2.1 ?_
        refine g_if_ne (pc := 97) (tgt := 104) dX2_read_97 (by decide) (fun c_97 => ?_) (fun c_97 => ?_)
        · have c97 : ¬ lxT b n (rdS n b 3).2 = 0 := fun h => c_97 (by rw [h]; rfl)
          refine g_aload_n (pc := 104) dX2_read_104 rfl ?_
          refine v_geti (pc := 105) fl_X2_36 dX2_read_105 (by first | rfl | assumption) rfl hT.2.2.1 ?_
          refine g_ireturn (pc := 108) dX2_read_108 rfl (by first | rfl | decide) rfl ⟨_, rfl, ?_⟩
          first | exact ⟨hg, Or.inl ⟨⟨h0, c97⟩, rfl, fun e he => hR.code h0 (by omega) he (hs e he)⟩⟩ | exact ⟨hg, Or.inr ⟨fun q => c97 q.2, rfl⟩⟩
        · have c97 : lxT b n (rdS n b 3).2 = 0 := nI_eq' (b := 0) (by omega) (by omega) c_97
          refine g_iconst (pc := 100) (v := (-1)) dX2_read_100 (by decide) ?_
          refine g_goto (pc := 101) (tgt := 108) dX2_read_101 (by decide) ?_
          refine g_ireturn (pc := 108) dX2_read_108 rfl (by first | rfl | decide) rfl ⟨_, rfl, ?_⟩
          first | exact ⟨hg, Or.inl ⟨⟨h0, c97⟩, rfl, fun e he => hR.code h0 (by omega) he (hs e he)⟩⟩ | exact ⟨hg, Or.inr ⟨fun q => c97 q.2, rfl⟩⟩
      · have hi3 := nI_gt' (by omega) (by omega) c_23
        refine g_aload_n (pc := 26) dX2_read_26 rfl ?_
        refine v_geti (pc := 27) fl_X2_33 dX2_read_27 (by first | rfl | assumption) rfl hT.2.2.2.1 ?_
        refine g_sipush (pc := 30) (v := (nI 256)) dX2_read_30 (by decide) ?_
        refine g_iload_n (pc := 33) dX2_read_33 rfl ?_
        refine v_iadd (pc := 34) dX2_read_34 (nI_add 256 i) ?_
        refine g_icmp_eq (pc := 35) (tgt := 43) dX2_read_35 (by decide) (fun c_35 => ?_) (fun c_35 => ?_)
        · have c35 : lxT b n (rdS n b i).2 = 256 + i := nI_eq' (by omega) (by omega) c_35
          have hgo := lxE_go hT.1 (show ¬ lxT b n (rdS n b i).2 = 0 by omega)
          have hx1 : exF n b i (rdS n b i).2 = if (eiF n b (lxE b n (rdS n b i).2)).1 = true ∧ lxT b n (eiF n b (lxE b n (rdS n b i).2)).2.1 = 59 then (true, lxE b n (eiF n b (lxE b n (rdS n b i).2)).2.1, (eiF n b (lxE b n (rdS n b i).2)).2.2) else (false, (eiF n b (lxE b n (rdS n b i).2)).2.1, []) := if_pos c35
          refine g_aload_n (pc := 43) dX2_read_43 rfl ?_
          refine a_cv0v (pc := 44) (c_X2_advance ν n b hR.1 _ (lxE_in b hT.1).2 hT.2.1) m_X2_advance ml_X2_28 (by omega) (by first | rfl | assumption) rfl rfl (Nat.le_of_ble_eq_true rfl) dX2_read_44 (fun x_44 μ_44 h_44 => ?_)
          obtain ⟨R44, T44, f44⟩ := hR.adv (lxE_in b hT.1).2 h_44
          refine g_aload_n (pc := 47) dX2_read_47 rfl ?_
          refine g_iload_n (pc := 48) dX2_read_48 rfl ?_
          refine g_aload_n (pc := 49) dX2_read_49 rfl ?_
          refine v_geti (pc := 50) fl_X2_22 dX2_read_50 (by first | rfl | assumption) rfl R44.2.2.2.1 ?_
          refine a_iast (pc := 53) dX2_read_53 (shCode t ht6).2 rfl hi3 ?_
          have R53 := R44.st (j := i) (x := nI (rdK n b i).length)
          have T53 := T44.st (t := t) (j := i) (x := nI (rdK n b i).length) ht6
          have fst : RG μ_44 (mset μ_44 (25 + t) i (nI (rdK n b i).length)) t := fun k k1 k2 k3 => mset_ne k3
          refine g_aload_n (pc := 54) dX2_read_54 rfl ?_
          refine g_iconst (pc := 55) (v := (nI 0)) dX2_read_55 (by decide) ?_
          refine a_cv1i (pc := 56) ((lv_all t n b 5 0 rfl).2.2 _ _ _ R53 T53 (by omega)) m_X2_either ml_X2_39 (by omega) (by first | rfl | assumption) rfl rfl (Nat.le_of_ble_eq_true rfl) dX2_read_56 (fun x_56 μ_56 h_56 => ?_)
          obtain ⟨f56, ⟨rfl, g56, R56, T56⟩ | ⟨rfl, g56, L56⟩⟩ := h_56
          · skip
            have g56 : (eiF n b (lxE b n (rdS n b i).2)).1 = true := g56
            have R56 : RW μ_56 t n b (rdK n b i ++ (eiF n b (lxE b n (rdS n b i).2)).2.2) := R56
            have T56 : TK μ_56 n b (eiF n b (lxE b n (rdS n b i).2)).2.1 := T56
            obtain ⟨k1, k2, k3⟩ := (lvF_gd n b 5).2.2 _ hE.2
            have k1 : lxE b n (rdS n b i).2 ≤ (eiF n b (lxE b n (rdS n b i).2)).2.1 := k1
            have k3 : lxE b n (rdS n b i).2 + (eiF n b (lxE b n (rdS n b i).2)).2.2.length ≤ (eiF n b (lxE b n (rdS n b i).2)).2.1 := k3 g56
            have hTl2 := lxT_le b n (eiF n b (lxE b n (rdS n b i).2)).2.1
            have hE2 := lxE_in b T56.1
            have hl80 : (rdK n b i ++ (eiF n b (lxE b n (rdS n b i).2)).2.2).length ≤ (eiF n b (lxE b n (rdS n b i).2)).2.1 := by
              rw [List.length_append]
              omega
            refine g_if_eq (pc := 59) (tgt := 71) dX2_read_59 (by decide) (fun c_59 => absurd c_59 (by decide)) (fun c_59 => ?_)
            refine g_aload_n (pc := 62) dX2_read_62 rfl ?_
            refine v_geti (pc := 63) fl_X2_33 dX2_read_63 (by first | rfl | assumption) rfl T56.2.2.2.1 ?_
            refine g_bipush (pc := 66) (v := (nI 59)) dX2_read_66 (by decide) ?_
            refine g_icmp_eq (pc := 68) (tgt := 76) dX2_read_68 (by decide) (fun c_68 => ?_) (fun c_68 => ?_)
            · have c68 : lxT b n (eiF n b (lxE b n (rdS n b i).2)).2.1 = 59 := nI_eq' (by omega) (by omega) c_68
              have hgo2 := lxE_go T56.1 (show ¬ lxT b n (eiF n b (lxE b n (rdS n b i).2)).2.1 = 0 by omega)
              have hex := hx1.trans (if_pos ⟨g56, c68⟩)
              have hcd : rdC n b i = (eiF n b (lxE b n (rdS n b i).2)).2.2 := by
                unfold rdC
                rw [hex]
              have hl80 : (rdK n b i ++ (eiF n b (lxE b n (rdS n b i).2)).2.2).length ≤ 160 := by omega
              have hl80b : (rdK n b i ++ (eiF n b (lxE b n (rdS n b i).2)).2.2).length < 160 := by omega
              refine g_aload_n (pc := 76) dX2_read_76 rfl ?_
              refine g_sipush (pc := 77) (v := (nI 10019)) dX2_read_77 (by decide) ?_
              refine a_cv1v (pc := 80) (c_X2_emit μ_56 t R56.2.1 _ hl80 R56.2.2.1 R56.2.2.2.1 (nI 10019)) m_X2_emit ml_X2_43 (by omega) (by first | rfl | assumption) rfl rfl (Nat.le_of_ble_eq_true rfl) dX2_read_80 (fun x_80 μ_80 h_80 => ?_)
              obtain ⟨R80, f80, k80⟩ := R56.emit (by omega) h_80
              refine g_aload_n (pc := 83) dX2_read_83 rfl ?_
              refine a_cv0v (pc := 84) (c_X2_advance μ_80 n b R80.1 _ (lxE_in b (k80 _ T56).1).2 (k80 _ T56).2.1) m_X2_advance ml_X2_28 (by omega) (by first | rfl | assumption) rfl rfl (Nat.le_of_ble_eq_true rfl) dX2_read_84 (fun x_84 μ_84 h_84 => ?_)
              obtain ⟨R84, T84, f84⟩ := R80.adv (lxE_in b (k80 _ T56).1).2 h_84
              refine a_iinc3 (pc := 87) dX2_read_87 (inc1 i) (by decide) rfl ?_
              refine g_goto (pc := 90) (tgt := 21) dX2_read_90 (by decide) ?_
              refine ih (3 - (i + 1)) (by omega) (i + 1) (by omega) μ_84 ⟨by rw [rdS, if_pos h0, hex], by rw [rdK, hcd, ← List.append_assoc]; exact R84, by rw [rdS, if_pos h0, hex]; exact T84, by
                  rw [rdK, hcd, rdS, if_pos h0, hex, List.length_append, List.length_append]
                  show (rdK n b i).length + ((eiF n b (lxE b n (rdS n b i).2)).2.2.length + 1) ≤ lxE b n (eiF n b (lxE b n (rdS n b i).2)).2.1
                  omega, fun j hj => ?_, ((((hg.trans f44.rg).trans fst).trans f56.rg).trans f80.rg).trans f84.rg⟩ rfl
              rw [f84 (25 + t) (by omega) (by omega), f80 (25 + t) (by omega) (by omega), f56 (25 + t) (by omega) (by omega)]
              rcases Nat.lt_or_ge j i with hji | hji
              · rw [mset_nj (by omega), f44 (25 + t) (by omega) (by omega)]
                exact hs j hji
              · obtain rfl : j = i := by omega
                rw [mset_eq]
            · have c68 : ¬ lxT b n (eiF n b (lxE b n (rdS n b i).2)).2.1 = 59 := fun h => c_68 (by rw [h])
              refine g_aload_n (pc := 71) dX2_read_71 rfl ?_
              refine v_geti (pc := 72) fl_X2_36 dX2_read_72 (by first | rfl | assumption) rfl T56.2.2.1 ?_
              refine g_ireturn (pc := 75) dX2_read_75 rfl (by first | rfl | decide) rfl ⟨_, rfl, ?_⟩
              obtain ⟨n1, n2⟩ := rdS_f hi3 h0 (hx1.trans (if_neg (fun q => c68 q.2)))
              exact ⟨((hg.trans f44.rg).trans fst).trans f56.rg, Or.inr ⟨n1, congrArg nI n2.symm⟩⟩
          · skip
            refine g_if_eq (pc := 59) (tgt := 71) dX2_read_59 (by decide) (fun c_59 => ?_) (fun c_59 => absurd rfl c_59)
            refine g_aload_n (pc := 71) dX2_read_71 rfl ?_
            refine v_geti (pc := 72) fl_X2_36 dX2_read_72 (by first | rfl | assumption) rfl L56.2.1 ?_
            refine g_ireturn (pc := 75) dX2_read_75 rfl (by first | rfl | decide) rfl ⟨_, rfl, ?_⟩
            obtain ⟨n1, n2⟩ := rdS_f hi3 h0 (hx1.trans (if_neg (fun q => by rw [show (eiF n b (lxE b n (rdS n b i).2)).1 = false from g56] at q; exact absurd q.1 (by simp))))
            exact ⟨((hg.trans f44.rg).trans fst).trans f56.rg, Or.inr ⟨n1, congrArg nI n2.symm⟩⟩
        · have c35 : ¬ lxT b n (rdS n b i).2 = 256 + i := fun h => c_35 (by rw [h])
          refine g_aload_n (pc := 38) dX2_read_38 rfl ?_
          refine v_geti (pc := 39) fl_X2_36 dX2_read_39 (by first | rfl | assumption) rfl hT.2.2.1 ?_
          refine g_ireturn (pc := 42) dX2_read_42 rfl (by first | rfl | decide) rfl ⟨_, rfl, ?_⟩
          obtain ⟨n1, n2⟩ := rdS_f hi3 h0 (if_neg c35)
          exact ⟨hg, Or.inr ⟨n1, congrArg nI n2.symm⟩⟩
  exact lp21 _ 0 (Nat.zero_le _) μ_16 ⟨rfl, R16, T16, Nat.le_refl _, fun j hj => absurd hj (Nat.not_lt_zero j), f0⟩ rfl
theorem XW.same {μ μ1 : Mem} {v vk : View} {tc : Nat} {P : Nat → Nat → List Nat} (h : XW μ v vk tc P) (g : RG μ μ1 tc) : XW μ1 v vk tc P := by
  obtain ⟨h1, h2, ⟨h3, h31, h32⟩, h4, h5, h6, h7, h8⟩ := h
  exact ⟨h1.moved (fun k _ _ => g k (by omega) (by omega) (by omega)), h2.moved (fun k _ _ => g k (by omega) (by omega) (by omega)), ⟨by rw [g 16 (by omega) (by omega) (by omega)]; exact h3, h31, h32⟩, fun t ht e he => ⟨(h4 t ht e he).1.moved (g _ (by omega) (by omega) (by omega)) (g _ (by omega) (by omega) (by omega)), (h4 t ht e he).2⟩, h5, h6, by rw [g 35 (by omega) (by omega) (by omega)]; exact h7, by rw [g 46 (by omega) (by omega) (by omega)]; exact h8⟩
theorem XW.more {μ μ1 : Mem} {v vk : View} {tc : Nat} {P : Nat → Nat → List Nat} (h : XW μ v vk tc P) (ht : tc < 6) (g : ∀ k, k ≠ 16 → k ≠ 33 → μ1 k = μ k) (h16 : μ1 16 4 = nI (tc + 1)) {Q : Nat → List Nat} (hQ : ∀ e, e < 3 → CodeOK μ tc e (Q e) ∧ Pure1 (Q e)) : XW μ1 v vk (tc + 1) (updN P tc Q) := by
  obtain ⟨h1, h2, ⟨h3, h31, h32⟩, h4, h5, h6, h7, h8⟩ := h
  refine ⟨h1.moved (fun k _ _ => g k (by omega) (by omega)), h2.moved (fun k _ _ => g k (by omega) (by omega)), ⟨h16, by omega, by omega⟩, fun t ht e he => ?_, by omega, by omega, by rw [g 35 (by omega) (by omega)]; exact h7, by rw [g 46 (by omega) (by omega)]; exact h8⟩
  by_cases htt : t = tc
  · subst htt
    rw [updN_eq]
    exact ⟨(hQ e he).1.moved (g _ (by omega) (by omega)) (g _ (by omega) (by omega)), (hQ e he).2⟩
  · rw [updN_ne _ _ htt]
    exact ⟨(h4 t (by omega) e he).1.moved (g _ (by omega) (by omega)) (g _ (by omega) (by omega)), (h4 t (by omega) e he).2⟩
theorem rdP_lt {n : Nat} {b : Nat → Nat} (h : n ≤ 160) : rdP n b ≤ 160 := by
  have := (lxP_in b (rdS_in n b 3)).2
  unfold rdP
  omega
theorem c_X7_text (v vk : View) (tc : Nat) (P : Nat → Nat → List Nat) (μ : Mem) (hX : XW μ v vk tc P) (n : Nat) (b : Nat → Nat) (ht : TP μ n b) : CA eI yX7_text cX7_text 2 (some .int) 51 [.ref 0] μ (fun r μ1 => (tc = 6 ∧ r = -4 ∧ μ1 = μ) ∨ (tc < 6 ∧ ((rdOK n b ∧ r = nI tc ∧ XW μ1 v vk (tc + 1) (updN P tc (rdC n b)) ∧ (∀ k, k ≠ 16 → k ≠ 33 → k ≠ 18 + tc → k ≠ 25 + tc → μ1 k = μ k) ∧ μ1 33 1 = nI 0) ∨ (¬ rdOK n b ∧ r = -100 - nI (rdP n b) ∧ XW μ1 v vk tc P ∧ (∀ k, k ≠ 16 → k ≠ 33 → k ≠ 18 + tc → k ≠ 25 + tc → μ1 k = μ k) ∧ μ1 33 1 = nI 0)))) := by
  have htc := hX.2.2.1.2.2
  refine CT.of false (by decide) (by decide) (L := [some (.ref 0), none]) rfl (Nat.le_of_ble_eq_true rfl) ?_
  refine g_aload_n (pc := 0) dX7_text_0 rfl ?_
  refine a_getr (pc := 1) (q := 16) fl_X7_25 dX7_text_1 (by first | rfl | assumption) rfl rfl ?_
  refine v_geti (pc := 4) fl_X7_136 dX7_text_4 (by first | rfl | assumption) rfl hX.2.2.1.1 ?_
  refine g_bipush (pc := 7) (v := (nI 6)) dX7_text_7 (by decide) ?_
  refine g_icmp_lt (pc := 9) (tgt := 15) dX7_text_9 (by decide) (fun c_9 => ?_) (fun c_9 => ?_)
  · have c9 := nI_lt' (by omega) (by omega) c_9
    refine g_aload_n (pc := 15) dX7_text_15 rfl ?_
    refine a_getr (pc := 16) (q := 33) fl_X7_32 dX7_text_16 (by first | rfl | assumption) rfl rfl ?_
    refine g_aload_n (pc := 19) dX7_text_19 rfl ?_
    refine a_getr (pc := 20) (q := 16) fl_X7_25 dX7_text_20 (by first | rfl | assumption) rfl rfl ?_
    refine a_getr (pc := 23) (q := 17) fl_X7_137 dX7_text_23 (by first | rfl | assumption) rfl rfl ?_
    refine g_aload_n (pc := 26) dX7_text_26 rfl ?_
    refine a_getr (pc := 27) (q := 16) fl_X7_25 dX7_text_27 (by first | rfl | assumption) rfl rfl ?_
    refine v_geti (pc := 30) fl_X7_136 dX7_text_30 (by first | rfl | assumption) rfl hX.2.2.1.1 ?_
    refine v_aald (pc := 33) dX7_text_33 (by first | rfl | assumption) rfl (by omega) (show 17 + 1 + tc = 18 + tc by omega) ?_
    refine g_aload_n (pc := 34) dX7_text_34 rfl ?_
    refine a_getr (pc := 35) (q := 16) fl_X7_25 dX7_text_35 (by first | rfl | assumption) rfl rfl ?_
    refine a_getr (pc := 38) (q := 24) fl_X7_141 dX7_text_38 (by first | rfl | assumption) rfl rfl ?_
    refine g_aload_n (pc := 41) dX7_text_41 rfl ?_
    refine a_getr (pc := 42) (q := 16) fl_X7_25 dX7_text_42 (by first | rfl | assumption) rfl rfl ?_
    refine v_geti (pc := 45) fl_X7_136 dX7_text_45 (by first | rfl | assumption) rfl hX.2.2.1.1 ?_
    refine v_aald (pc := 48) dX7_text_48 (by first | rfl | assumption) rfl (by omega) (show 24 + 1 + tc = 25 + tc by omega) ?_
    refine a_cv2i (pc := 49) (c_X2_read tc n c9 b μ ht) m_X2_read ml_X7_144 (by omega) (by first | rfl | assumption) rfl rfl (Nat.le_of_ble_eq_true rfl) dX7_text_49 (fun x_49 μ_49 h_49 => ?_)
    obtain ⟨f49, d49⟩ := h_49
    have hp := rdP_lt (b := b) ht.2.1
    have x49 := hX.same f49
    refine a_ist1 (pc := 52) dX7_text_52 (by decide) rfl ?_
    refine g_aload_n (pc := 53) dX7_text_53 rfl ?_
    refine a_getr (pc := 54) (q := 33) fl_X7_32 dX7_text_54 (by first | rfl | assumption) rfl rfl ?_
    refine g_iconst (pc := 57) (v := (nI 0)) dX7_text_57 (by decide) ?_
    refine a_puti (pc := 58) fw_X7_133 dX7_text_58 (by first | rfl | assumption) rfl ?_
    refine g_iload_n (pc := 61) dX7_text_61 rfl ?_
    refine g_iconst (pc := 62) (v := (-1)) dX7_text_62 (by decide) ?_
    refine g_icmp_eq (pc := 63) (tgt := 71) dX7_text_63 (by decide) (fun c_63 => ?_) (fun c_63 => ?_)
    · obtain ⟨k1, -, k3⟩ := d49.resolve_right (fun q => nI_m1 (show rdP n b < 2 ^ 31 by omega) (q.2.symm.trans c_63))
      refine g_aload_n (pc := 71) dX7_text_71 rfl ?_
      refine a_getr (pc := 72) (q := 16) fl_X7_25 dX7_text_72 (by first | rfl | assumption) rfl rfl ?_
      refine g_dup (pc := 75) dX7_text_75 rfl ?_
      refine v_geti (pc := 76) fl_X7_136 dX7_text_76 (by first | rfl | assumption) rfl ((congrFun (mset_ne (by omega)) 4).trans x49.2.2.1.1) ?_
      refine g_iconst (pc := 79) (v := (nI 1)) dX7_text_79 (by decide) ?_
      refine v_iadd (pc := 80) dX7_text_80 (nI_succ tc).symm ?_
      refine a_puti (pc := 81) fw_X7_136 dX7_text_81 (by first | rfl | assumption) rfl ?_
      refine g_aload_n (pc := 84) dX7_text_84 rfl ?_
      refine a_getr (pc := 85) (q := 16) fl_X7_25 dX7_text_85 (by first | rfl | assumption) rfl rfl ?_
      refine v_geti (pc := 88) fl_X7_136 dX7_text_88 (by first | rfl | assumption) rfl mset_eq ?_
      refine g_iconst (pc := 91) (v := (nI 1)) dX7_text_91 (by decide) ?_
      refine v_isub (pc := 92) dX7_text_92 (pk_sub (by omega)) ?_
      refine g_ireturn (pc := 93) dX7_text_93 rfl (by first | rfl | decide) rfl ⟨_, rfl, ?_⟩
      refine Or.inr ⟨c9, Or.inl ⟨k1, by rw [show tc + 1 - 1 = tc by omega], x49.more c9 (fun k q1 q2 => by rw [mset_ne q1, mset_ne q2]) mset_eq (fun e he => ⟨k3 e he, (rdC_sm (rdS_yes k1.1 (e + 1) (by omega))).pure⟩), fun k q1 q2 q3 q4 => ?_, ?_⟩⟩
      · rw [mset_ne q1, mset_ne q2]
        exact f49 k q2 q3 q4
      · rw [mset_ne (by omega), mset_eq]
    · obtain ⟨k1, rfl⟩ := d49.resolve_left (fun q => c_63 q.2.1)
      refine g_bipush (pc := 66) (v := (-100)) dX7_text_66 (by decide) ?_
      refine g_iload_n (pc := 68) dX7_text_68 rfl ?_
      refine v_isub (pc := 69) dX7_text_69 rfl ?_
      refine g_ireturn (pc := 70) dX7_text_70 rfl (by first | rfl | decide) rfl ⟨_, rfl, ?_⟩
      exact Or.inr ⟨c9, Or.inr ⟨k1, rfl, x49.same (fun k k1 k2 k3 => mset_ne k1), fun k q1 q2 q3 q4 => by rw [mset_ne q2]; exact f49 k q2 q3 q4, mset_eq⟩⟩
  · have c9 := nI_ge' (by omega) (by omega) c_9
    refine g_bipush (pc := 12) (v := (-4)) dX7_text_12 (by decide) ?_
    refine g_ireturn (pc := 14) dX7_text_14 rfl (by first | rfl | decide) rfl ⟨_, rfl, ?_⟩
    exact Or.inl ⟨by omega, rfl, rfl⟩
