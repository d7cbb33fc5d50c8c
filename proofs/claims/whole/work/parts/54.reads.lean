/-! ===== the reader: what is read, by the machine ===== -/
/-- row t is written; c stands there -/
def RW (μ : Mem) (t n : Nat) (b : Nat → Nat) (c : List Nat) : Prop := TP μ n b ∧ t < 6 ∧ μ 33 2 = nI (18 + t) ∧ μ 33 3 = nI c.length ∧ ∀ (j x : Nat), c[j]? = some x → μ (18 + t) j = nI x
/-- the token at hand is the one at a -/
def TK (μ : Mem) (n : Nat) (b : Nat → Nat) (a : Nat) : Prop := a ≤ n ∧ μ 33 4 = nI (lxE b n a) ∧ μ 33 5 = nI (lxP b n a) ∧ μ 33 6 = nI (lxT b n a) ∧ (lxT b n a = 2 ∨ lxT b n a = 3 → μ 33 7 = nI (lxV b n a))
def RF (μ μ1 : Mem) (t : Nat) : Prop := ∀ k, k ≠ 33 → k ≠ 18 + t → μ1 k = μ k
def FLX (μ : Mem) (t n : Nat) (b : Nat → Nat) (a : Nat) : Prop := t < 6 ∧ μ 33 5 = nI (lxP b n a) ∧ μ 33 2 = nI (18 + t) ∧ ∃ len, len ≤ 160 ∧ μ 33 3 = nI len
theorem RF.refl (μ : Mem) (t : Nat) : RF μ μ t := fun _ _ _ => rfl
theorem RF.trans {μ μ1 μ2 : Mem} {t : Nat} (h : RF μ μ1 t) (g : RF μ1 μ2 t) : RF μ μ2 t := fun k h1 h2 => (g k h1 h2).trans (h k h1 h2)
theorem RW.emit {μ μ1 : Mem} {t n : Nat} {b : Nat → Nat} {c : List Nat} {x : Nat} (h : RW μ t n b c) (hl : c.length < 160) (g : (c.length < 160 ∧ μ1 = mset (mset μ 33 3 (nI (c.length + 1))) (18 + t) c.length (nI x)) ∨ (c.length = 160 ∧ μ1 = μ)) : RW μ1 t n b (c ++ [x]) ∧ RF μ μ1 t ∧ ∀ a, TK μ n b a → TK μ1 n b a := by
  rcases g with ⟨-, g⟩ | ⟨g, -⟩
  · subst g
    obtain ⟨h1, h2, h3, h4, h5⟩ := h
    have e33 : ∀ j, ¬ j = 3 → mset (mset μ 33 3 (nI (c.length + 1))) (18 + t) c.length (nI x) 33 j = μ 33 j := fun j hj => by rw [mset_ne (by omega), mset_nj hj]
    refine ⟨⟨h1.moved2 (e33 1 (by omega)) (by rw [mset_ne (by omega), mset_ne (by omega)]), h2, (e33 2 (by omega)).trans h3, ?_, fun j y hj => ?_⟩, fun k k1 k2 => by rw [mset_ne k2, mset_ne k1], fun a ⟨t1, t2, t3, t4, t5⟩ => ⟨t1, (e33 4 (by omega)).trans t2, (e33 5 (by omega)).trans t3, (e33 6 (by omega)).trans t4, fun ht => (e33 7 (by omega)).trans (t5 ht)⟩⟩
    · rw [mset_ne (by omega), mset_eq, List.length_append]
      rfl
    · rw [List.getElem?_append] at hj
      split at hj
      · next hlt =>
        rw [mset_nj (by omega), mset_ne (by omega)]
        exact h5 j y hj
      · next hlt =>
        rw [List.getElem?_singleton] at hj
        split at hj
        · have := Option.some.inj hj
          subst this
          rw [show j = c.length by omega, mset_eq]
        · exact absurd hj (by simp)
  · omega
theorem FLX.emit {μ μ1 : Mem} {t n : Nat} {b : Nat → Nat} {a len : Nat} {x : Int32} (h : FLX μ t n b a) (hl : len ≤ 160) (h3 : μ 33 3 = nI len) (g : (len < 160 ∧ μ1 = mset (mset μ 33 3 (nI (len + 1))) (18 + t) len x) ∨ (len = 160 ∧ μ1 = μ)) : FLX μ1 t n b a ∧ RF μ μ1 t := by
  obtain ⟨h0, h1, h2, -⟩ := h
  rcases g with ⟨g0, g⟩ | ⟨g0, g⟩
  · subst g
    refine ⟨⟨h0, ?_, ?_, len + 1, by omega, ?_⟩, fun k k1 k2 => by rw [mset_ne k2, mset_ne k1]⟩
    · rw [mset_ne (by omega), mset_nj (by omega)]
      exact h1
    · rw [mset_ne (by omega), mset_nj (by omega)]
      exact h2
    · rw [mset_ne (by omega), mset_eq]
  · subst g
    exact ⟨⟨h0, h1, h2, len, hl, h3⟩, RF.refl _ _⟩
theorem RW.adv {μ μ1 : Mem} {t n : Nat} {b : Nat → Nat} {c : List Nat} {a : Nat} (h : RW μ t n b c) (ha : a ≤ n) (g : ADV μ μ1 n b a) : RW μ1 t n b c ∧ TK μ1 n b a ∧ RF μ μ1 t := by
  obtain ⟨h1, h2, h3, h4, h5⟩ := h
  obtain ⟨g1, g2, g3, g4, g5, g6⟩ := g
  refine ⟨⟨h1.moved2 (g2 1 (by omega)) (g1 34 (by omega)), h2, (g2 2 (by omega)).trans h3, (g2 3 (by omega)).trans h4, fun j x hj => ?_⟩, ⟨ha, g3, g4, g5, g6⟩, fun k k1 _ => g1 k k1⟩
  rw [g1 (18 + t) (by omega)]
  exact h5 j x hj
theorem RW.fl {μ : Mem} {t n : Nat} {b : Nat → Nat} {c : List Nat} {a : Nat} (h : RW μ t n b c) (g : TK μ n b a) (hl : c.length ≤ 160) : FLX μ t n b a := ⟨h.2.1, g.2.2.1, h.2.2.1, _, hl, h.2.2.2.1⟩
def JPost (μ : Mem) (t n : Nat) (b : Nat → Nat) (c : List Nat) (r : PR) (x : Int32) (μ1 : Mem) : Prop := RF μ μ1 t ∧ ((x = nI 1 ∧ r.1 = true ∧ RW μ1 t n b (c ++ r.2.2) ∧ TK μ1 n b r.2.1) ∨ (x = nI 0 ∧ r.1 = false ∧ FLX μ1 t n b r.2.1))
theorem JPost.ok {μ μ1 : Mem} {t n : Nat} {b : Nat → Nat} {c c1 : List Nat} {r : PR} {a1 : Nat} (hr : r = (true, a1, c1)) (hf : RF μ μ1 t) (h1 : RW μ1 t n b (c ++ c1)) (h2 : TK μ1 n b a1) : JPost μ t n b c r (nI 1) μ1 := by
  subst hr
  exact ⟨hf, Or.inl ⟨rfl, rfl, h1, h2⟩⟩
theorem JPost.no {μ μ1 : Mem} {t n : Nat} {b : Nat → Nat} {c c1 : List Nat} {r : PR} {a1 : Nat} (hr : r = (false, a1, c1)) (hf : RF μ μ1 t) (h1 : FLX μ1 t n b a1) : JPost μ t n b c r (nI 0) μ1 := by
  subst hr
  exact ⟨hf, Or.inr ⟨rfl, rfl, h1⟩⟩
/-- a method that reads: what it is named for, by g -/
def JP (y : MethodName) (bytes : ByteArray) (maxL dep op t n : Nat) (b : Nat → Nat) (g : Nat → PR) : Prop := ∀ (μ : Mem) (a : Nat) (c : List Nat), RW μ t n b c → TK μ n b a → c.length ≤ a → CA eI y bytes maxL (some .boolean) dep [.ref 33, .int (nI op)] μ (JPost μ t n b c (g a))
theorem oneF_v {n : Nat} {b : Nat → Nat} {dp : Bool} {o1 e1 : Nat → PR} {a : Nat} (h : lxT b n a = 2 ∨ lxT b n a = 3) : oneF n b dp o1 e1 a = (true, lxE b n a, [lxV b n a]) := if_pos h
theorem oneF_no {n : Nat} {b : Nat → Nat} {dp : Bool} {o1 e1 : Nat → PR} {a : Nat} (h : ¬ (lxT b n a = 2 ∨ lxT b n a = 3)) (h2 : dp = true → ¬ lxT b n a = 45 ∧ ¬ lxT b n a = 40) : oneF n b dp o1 e1 a = (false, a, []) := by
  unfold oneF
  rw [if_neg h, if_neg (fun q => (h2 q.1).1 q.2), if_neg (fun q => (h2 q.1).2 q.2)]
theorem oneF_m {n : Nat} {b : Nat → Nat} {dp : Bool} {o1 e1 : Nat → PR} {a : Nat} (hd : dp = true) (h : lxT b n a = 45) : oneF n b dp o1 e1 a = if (o1 (lxE b n a)).1 = true then (true, (o1 (lxE b n a)).2.1, (o1 (lxE b n a)).2.2 ++ [10010]) else (false, (o1 (lxE b n a)).2.1, []) := by
  unfold oneF
  rw [if_neg (by omega), if_pos ⟨hd, h⟩]
theorem oneF_b {n : Nat} {b : Nat → Nat} {dp : Bool} {o1 e1 : Nat → PR} {a : Nat} (hd : dp = true) (h : lxT b n a = 40) : oneF n b dp o1 e1 a = if (e1 (lxE b n a)).1 = true ∧ lxT b n (e1 (lxE b n a)).2.1 = 41 then (true, lxE b n (e1 (lxE b n a)).2.1, (e1 (lxE b n a)).2.2) else (false, (e1 (lxE b n a)).2.1, []) := by
  unfold oneF
  rw [if_neg (by omega), if_neg (fun q => by have := q.2; omega), if_pos ⟨hd, h⟩]
theorem c_X2_one (op t n : Nat) (b : Nat → Nat) (hop : op ≤ 5) (o1 e1 : Nat → PR) (D D1 De : Nat) (hD : 8 ≤ D ∧ D1 + 1 ≤ D ∧ De + 1 ≤ D) (h1 : op < 5 → JP yX2_one cX2_one 3 D1 (op + 1) t n b o1) (h2 : op < 5 → JP yX2_either cX2_either 4 De (op + 1) t n b e1) (G1 : GDf n o1) (G2 : GDf n e1) (μ : Mem) (a : Nat) (c : List Nat) (hR : RW μ t n b c) (hT : TK μ n b a) (hc : c.length ≤ a) : CA eI yX2_one cX2_one 3 (some .boolean) D [.ref 33, .int (nI op)] μ (JPost μ t n b c (oneF n b (decide (op < 5)) o1 e1 a)) := by
  have hn160 := hR.1.2.1
  have ht6 := hR.2.1
  have hTl := lxT_le b n a
  have hE := lxE_in b hT.1
  have han := hT.1
  refine CT.of false (by decide) (by decide) (L := [some (.ref 33), some (.int (nI op)), none]) rfl (Nat.le_of_ble_eq_true rfl) ?_
  have k16 : ∀ (hv : lxT b n a = 2 ∨ lxT b n a = 3), WG eI yX2_one.cls cX2_one 3 (some .boolean) false (fun _ _ => True) D (mpost (JPost μ t n b c (oneF n b (decide (op < 5)) o1 e1 a))) 0 0 16 [some (.ref 33), some (.int (nI op)), none] [] (mk μ) := by
    intro hv
    have hgo := lxE_go hT.1 (show ¬ lxT b n a = 0 by omega)
    have hl21 : c.length ≤ 160 := by omega
    refine g_aload_n (pc := 16) dX2_one_16 rfl ?_
    refine g_aload_n (pc := 17) dX2_one_17 rfl ?_
    refine v_geti (pc := 18) fl_X2_65 dX2_one_18 (by first | rfl | assumption) rfl (hT.2.2.2.2 hv) ?_
    refine a_cv1v (pc := 21) (c_X2_emit μ t hR.2.1 _ hl21 hR.2.2.1 hR.2.2.2.1 (nI (lxV b n a))) m_X2_emit ml_X2_43 (by omega) (by first | rfl | assumption) rfl rfl (Nat.le_of_ble_eq_true rfl) dX2_one_21 (fun x_21 μ_21 h_21 => ?_)
    obtain ⟨R21, f21, k21⟩ := hR.emit (by omega) h_21
    refine g_aload_n (pc := 24) dX2_one_24 rfl ?_
    refine a_cv0v (pc := 25) (c_X2_advance μ_21 n b R21.1 _ (lxE_in b (k21 a hT).1).2 (k21 a hT).2.1) m_X2_advance ml_X2_28 (by omega) (by first | rfl | assumption) rfl rfl (Nat.le_of_ble_eq_true rfl) dX2_one_25 (fun x_25 μ_25 h_25 => ?_)
    obtain ⟨R25, T25, f25⟩ := R21.adv (lxE_in b (k21 a hT).1).2 h_25
    refine g_iconst (pc := 28) (v := (nI 1)) dX2_one_28 (by decide) ?_
    refine g_ireturn (pc := 29) dX2_one_29 rfl (by first | rfl | decide) rfl ⟨_, rfl, ?_⟩
    exact JPost.ok (oneF_v hv) (f21.trans f25) R25 T25
  have k48 : ∀ (h23 : ¬ (lxT b n a = 2 ∨ lxT b n a = 3)) (h4 : lxT b n a = 45 ∨ lxT b n a = 40), WG eI yX2_one.cls cX2_one 3 (some .boolean) false (fun _ _ => True) D (mpost (JPost μ t n b c (oneF n b (decide (op < 5)) o1 e1 a))) 0 0 48 [some (.ref 33), some (.int (nI op)), none] [] (mk μ) := by
    intro h23 h4
    have hgo := lxE_go hT.1 (show ¬ lxT b n a = 0 by omega)
    refine g_iload_n (pc := 48) dX2_one_48 rfl ?_
    refine g_iconst (pc := 49) (v := (nI 5)) dX2_one_49 (by decide) ?_
    refine g_icmp_lt (pc := 50) (tgt := 55) dX2_one_50 (by decide) (fun c_50 => ?_) (fun c_50 => ?_)
    · have c50 : op < 5 := nI_lt' (by omega) (by omega) c_50
      have hdp : decide (op < 5) = true := decide_eq_true c50
      refine g_aload_n (pc := 55) dX2_one_55 rfl ?_
      refine v_geti (pc := 56) fl_X2_33 dX2_one_56 (by first | rfl | assumption) rfl hT.2.2.2.1 ?_
      refine g_bipush (pc := 59) (v := (nI 45)) dX2_one_59 (by decide) ?_
      refine g_icmp_ne (pc := 61) (tgt := 85) dX2_one_61 (by decide) (fun c_61 => ?_) (fun c_61 => ?_)
      · have c61 : lxT b n a = 40 := by
          have : ¬ lxT b n a = 45 := fun h => c_61 (by rw [h])
          omega
        refine g_aload_n (pc := 85) dX2_one_85 rfl ?_
        refine a_cv0v (pc := 86) (c_X2_advance μ n b hR.1 _ (lxE_in b hT.1).2 hT.2.1) m_X2_advance ml_X2_28 (by omega) (by first | rfl | assumption) rfl rfl (Nat.le_of_ble_eq_true rfl) dX2_one_86 (fun x_86 μ_86 h_86 => ?_)
        obtain ⟨R86, T86, f86⟩ := hR.adv (lxE_in b hT.1).2 h_86
        refine g_aload_n (pc := 89) dX2_one_89 rfl ?_
        refine g_iload_n (pc := 90) dX2_one_90 rfl ?_
        refine g_iconst (pc := 91) (v := (nI 1)) dX2_one_91 (by decide) ?_
        refine v_iadd (pc := 92) dX2_one_92 (nI_succ op).symm ?_
        refine a_cv1i (pc := 93) (h2 c50 μ_86 _ c R86 T86 (by omega)) m_X2_either ml_X2_39 (by omega) (by first | rfl | assumption) rfl rfl (Nat.le_of_ble_eq_true rfl) dX2_one_93 (fun x_93 μ_93 h_93 => ?_)
        obtain ⟨f93, ⟨rfl, g93, R93, T93⟩ | ⟨rfl, g93, L93⟩⟩ := h_93
        · skip
          have hg := G2 _ hE.2
          have hg3 := hg.2.2 g93
          have hl80 : (c ++ (e1 (lxE b n a)).2.2).length ≤ 160 := by
            rw [List.length_append]
            omega
          have hT2 := lxT_le b n (e1 (lxE b n a)).2.1
          refine g_if_eq (pc := 96) (tgt := 108) dX2_one_96 (by decide) (fun c_96 => absurd c_96 (by decide)) (fun c_96 => ?_)
          refine g_aload_n (pc := 99) dX2_one_99 rfl ?_
          refine v_geti (pc := 100) fl_X2_33 dX2_one_100 (by first | rfl | assumption) rfl T93.2.2.2.1 ?_
          refine g_bipush (pc := 103) (v := (nI 41)) dX2_one_103 (by decide) ?_
          refine g_icmp_eq (pc := 105) (tgt := 110) dX2_one_105 (by decide) (fun c_105 => ?_) (fun c_105 => ?_)
          · have c105 : lxT b n (e1 (lxE b n a)).2.1 = 41 := nI_eq' (by omega) (by omega) c_105
            refine g_aload_n (pc := 110) dX2_one_110 rfl ?_
            refine a_cv0v (pc := 111) (c_X2_advance μ_93 n b R93.1 _ (lxE_in b T93.1).2 T93.2.1) m_X2_advance ml_X2_28 (by omega) (by first | rfl | assumption) rfl rfl (Nat.le_of_ble_eq_true rfl) dX2_one_111 (fun x_111 μ_111 h_111 => ?_)
            obtain ⟨R111, T111, f111⟩ := R93.adv (lxE_in b T93.1).2 h_111
            refine g_iconst (pc := 114) (v := (nI 1)) dX2_one_114 (by decide) ?_
            refine g_ireturn (pc := 115) dX2_one_115 rfl (by first | rfl | decide) rfl ⟨_, rfl, ?_⟩
            exact JPost.ok ((oneF_b hdp c61).trans (if_pos ⟨g93, c105⟩)) ((f86.trans f93).trans f111) R111 T111
          · have c105 : ¬ lxT b n (e1 (lxE b n a)).2.1 = 41 := fun h => c_105 (by rw [h])
            refine g_iconst (pc := 108) (v := (nI 0)) dX2_one_108 (by decide) ?_
            refine g_ireturn (pc := 109) dX2_one_109 rfl (by first | rfl | decide) rfl ⟨_, rfl, ?_⟩
            exact JPost.no ((oneF_b hdp c61).trans (if_neg (fun q => c105 q.2))) (f86.trans f93) (R93.fl T93 hl80)
        · skip
          refine g_if_eq (pc := 96) (tgt := 108) dX2_one_96 (by decide) (fun c_96 => ?_) (fun c_96 => absurd rfl c_96)
          refine g_iconst (pc := 108) (v := (nI 0)) dX2_one_108 (by decide) ?_
          refine g_ireturn (pc := 109) dX2_one_109 rfl (by first | rfl | decide) rfl ⟨_, rfl, ?_⟩
          exact JPost.no ((oneF_b hdp c61).trans (if_neg (fun q => by rw [g93] at q; exact absurd q.1 (by simp)))) (f86.trans f93) L93
      · have c61 : lxT b n a = 45 := nI_eq' (by omega) (by omega) c_61
        refine g_aload_n (pc := 64) dX2_one_64 rfl ?_
        refine a_cv0v (pc := 65) (c_X2_advance μ n b hR.1 _ (lxE_in b hT.1).2 hT.2.1) m_X2_advance ml_X2_28 (by omega) (by first | rfl | assumption) rfl rfl (Nat.le_of_ble_eq_true rfl) dX2_one_65 (fun x_65 μ_65 h_65 => ?_)
        obtain ⟨R65, T65, f65⟩ := hR.adv (lxE_in b hT.1).2 h_65
        refine g_aload_n (pc := 68) dX2_one_68 rfl ?_
        refine g_iload_n (pc := 69) dX2_one_69 rfl ?_
        refine g_iconst (pc := 70) (v := (nI 1)) dX2_one_70 (by decide) ?_
        refine v_iadd (pc := 71) dX2_one_71 (nI_succ op).symm ?_
        refine a_cv1i (pc := 72) (h1 c50 μ_65 _ c R65 T65 (by omega)) m_X2_one ml_X2_62 (by omega) (by first | rfl | assumption) rfl rfl (Nat.le_of_ble_eq_true rfl) dX2_one_72 (fun x_72 μ_72 h_72 => ?_)
        obtain ⟨f72, ⟨rfl, g72, R72, T72⟩ | ⟨rfl, g72, L72⟩⟩ := h_72
        · skip
          have hg := G1 _ hE.2
          have hg3 := hg.2.2 g72
          have hl80 : (c ++ (o1 (lxE b n a)).2.2).length ≤ 160 := by
            rw [List.length_append]
            omega
          have hl80b : (c ++ (o1 (lxE b n a)).2.2).length < 160 := by
            rw [List.length_append]
            omega
          refine a_ist2 (pc := 75) dX2_one_75 (by decide) rfl ?_
          refine g_aload_n (pc := 76) dX2_one_76 rfl ?_
          refine g_sipush (pc := 77) (v := (nI 10010)) dX2_one_77 (by decide) ?_
          refine a_cv1v (pc := 80) (c_X2_emit μ_72 t R72.2.1 _ hl80 R72.2.2.1 R72.2.2.2.1 (nI 10010)) m_X2_emit ml_X2_43 (by omega) (by first | rfl | assumption) rfl rfl (Nat.le_of_ble_eq_true rfl) dX2_one_80 (fun x_80 μ_80 h_80 => ?_)
          obtain ⟨R80, f80, k80⟩ := R72.emit (by omega) h_80
          refine g_iload_n (pc := 83) dX2_one_83 rfl ?_
          refine g_ireturn (pc := 84) dX2_one_84 rfl (by first | rfl | decide) rfl ⟨_, rfl, ?_⟩
          exact JPost.ok ((oneF_m hdp c61).trans (if_pos g72)) ((f65.trans f72).trans f80) (List.append_assoc _ _ _ ▸ R80) (k80 _ T72)
        · skip
          refine a_ist2 (pc := 75) dX2_one_75 (by decide) rfl ?_
          refine g_aload_n (pc := 76) dX2_one_76 rfl ?_
          refine g_sipush (pc := 77) (v := (nI 10010)) dX2_one_77 (by decide) ?_
          obtain ⟨len, hlen, h3len⟩ := L72.2.2.2
          refine a_cv1v (pc := 80) (c_X2_emit μ_72 t ht6 len hlen L72.2.2.1 h3len (nI 10010)) m_X2_emit ml_X2_43 (by omega) (by first | rfl | assumption) rfl rfl (Nat.le_of_ble_eq_true rfl) dX2_one_80 (fun x_80 μ_80 h_80 => ?_)
          obtain ⟨L80, f80⟩ := L72.emit hlen h3len h_80
          refine g_iload_n (pc := 83) dX2_one_83 rfl ?_
          refine g_ireturn (pc := 84) dX2_one_84 rfl (by first | rfl | decide) rfl ⟨_, rfl, ?_⟩
          exact JPost.no ((oneF_m hdp c61).trans (if_neg (by rw [g72]; simp))) ((f65.trans f72).trans f80) L80
    · have c50 : ¬ op < 5 := Nat.not_lt.mpr (nI_ge' (by omega) (by omega) c_50)
      refine g_iconst (pc := 53) (v := (nI 0)) dX2_one_53 (by decide) ?_
      refine g_ireturn (pc := 54) dX2_one_54 rfl (by first | rfl | decide) rfl ⟨_, rfl, ?_⟩
      exact JPost.no (oneF_no (by omega) (fun q => by first | (have q2 := of_decide_eq_true q; omega) | omega)) (RF.refl _ _) (hR.fl hT (by omega))
  refine g_aload_n (pc := 0) dX2_one_0 rfl ?_
  refine v_geti (pc := 1) fl_X2_33 dX2_one_1 (by first | rfl | assumption) rfl hT.2.2.2.1 ?_
  refine g_iconst (pc := 4) (v := (nI 2)) dX2_one_4 (by decide) ?_
  refine g_icmp_eq (pc := 5) (tgt := 16) dX2_one_5 (by decide) (fun c_5 => ?_) (fun c_5 => ?_)
  · have c5 : lxT b n a = 2 := nI_eq' (by omega) (by omega) c_5
    exact k16 (by omega)
  · have c5 : ¬ lxT b n a = 2 := fun h => c_5 (by rw [h])
    refine g_aload_n (pc := 8) dX2_one_8 rfl ?_
    refine v_geti (pc := 9) fl_X2_33 dX2_one_9 (by first | rfl | assumption) rfl hT.2.2.2.1 ?_
    refine g_iconst (pc := 12) (v := (nI 3)) dX2_one_12 (by decide) ?_
    refine g_icmp_ne (pc := 13) (tgt := 30) dX2_one_13 (by decide) (fun c_13 => ?_) (fun c_13 => ?_)
    · have c13 : ¬ lxT b n a = 3 := fun h => c_13 (by rw [h])
      refine g_aload_n (pc := 30) dX2_one_30 rfl ?_
      refine v_geti (pc := 31) fl_X2_33 dX2_one_31 (by first | rfl | assumption) rfl hT.2.2.2.1 ?_
      refine g_bipush (pc := 34) (v := (nI 45)) dX2_one_34 (by decide) ?_
      refine g_icmp_eq (pc := 36) (tgt := 48) dX2_one_36 (by decide) (fun c_36 => ?_) (fun c_36 => ?_)
      · have c36 : lxT b n a = 45 := nI_eq' (by omega) (by omega) c_36
        exact k48 (by omega) (by omega)
      · have c36 : ¬ lxT b n a = 45 := fun h => c_36 (by rw [h])
        refine g_aload_n (pc := 39) dX2_one_39 rfl ?_
        refine v_geti (pc := 40) fl_X2_33 dX2_one_40 (by first | rfl | assumption) rfl hT.2.2.2.1 ?_
        refine g_bipush (pc := 43) (v := (nI 40)) dX2_one_43 (by decide) ?_
        refine g_icmp_ne (pc := 45) (tgt := 53) dX2_one_45 (by decide) (fun c_45 => ?_) (fun c_45 => ?_)
        · have c45 : ¬ lxT b n a = 40 := fun h => c_45 (by rw [h])
          refine g_iconst (pc := 53) (v := (nI 0)) dX2_one_53 (by decide) ?_
          refine g_ireturn (pc := 54) dX2_one_54 rfl (by first | rfl | decide) rfl ⟨_, rfl, ?_⟩
          exact JPost.no (oneF_no (by omega) (fun q => by first | (have q2 := of_decide_eq_true q; omega) | omega)) (RF.refl _ _) (hR.fl hT (by omega))
        · have c45 : lxT b n a = 40 := nI_eq' (by omega) (by omega) c_45
          exact k48 (by omega) (by omega)
    · have c13 : lxT b n a = 3 := nI_eq' (by omega) (by omega) c_13
      exact k16 (by omega)
theorem c_X2_term (op t n : Nat) (b : Nat → Nat) (hop : op ≤ 5) (g : Nat → PR) (D D1 : Nat) (hD : 8 ≤ D ∧ D1 + 1 ≤ D) (h1 : JP yX2_one cX2_one 3 D1 op t n b g) (G1 : GDf n g) (μ : Mem) (a : Nat) (c : List Nat) (hR : RW μ t n b c) (hT : TK μ n b a) (hc : c.length ≤ a) : CA eI yX2_term cX2_term 4 (some .boolean) D [.ref 33, .int (nI op)] μ (JPost μ t n b c (chF n b opM g a)) := by
  have hn160 := hR.1.2.1
  have ht6 := hR.2.1
  have hTl := lxT_le b n a
  have hE := lxE_in b hT.1
  have han := hT.1
  refine CT.of false (by decide) (by decide) (L := [some (.ref 33), some (.int (nI op)), none, none]) rfl (Nat.le_of_ble_eq_true rfl) ?_
  have k8 : ∀ (s : Int32) (μ2 : Mem) (hs : RF μ μ2 t ∧ ((s = nI 1 ∧ ∃ (k a1 : Nat) (c1 : List Nat), n ≤ a1 + k ∧ 0 ≤ a1 ∧ a ≤ a1 ∧ c.length + c1.length ≤ a1 ∧ RW μ2 t n b (c ++ c1) ∧ TK μ2 n b a1 ∧ lpF n b opM g k a1 c1 = (chF n b opM g a)) ∨ (s = nI 0 ∧ ∃ c1, (chF n b opM g a) = (false, (chF n b opM g a).2.1, c1) ∧ FLX μ2 t n b (chF n b opM g a).2.1))), WG eI yX2_term.cls cX2_term 4 (some .boolean) false (fun _ _ => True) D (mpost (JPost μ t n b c (chF n b opM g a))) 0 0 8 [some (.ref 33), some (.int (nI op)), some (.int s), some (.int (nI 0))] [] (mk μ2) := by
    intro s μ2 hs
    have lp8 : ∀ (zz : Nat) (i : Nat) (hi : i ≤ 160) (s : Int32) (ν : Mem) (hν : RF μ ν t ∧ ((s = nI 1 ∧ ∃ (k a1 : Nat) (c1 : List Nat), n ≤ a1 + k ∧ i ≤ a1 ∧ a ≤ a1 ∧ c.length + c1.length ≤ a1 ∧ RW ν t n b (c ++ c1) ∧ TK ν n b a1 ∧ lpF n b opM g k a1 c1 = (chF n b opM g a)) ∨ (s = nI 0 ∧ ∃ c1, (chF n b opM g a) = (false, (chF n b opM g a).2.1, c1) ∧ FLX ν t n b (chF n b opM g a).2.1))), 160 - i = zz → WG eI yX2_term.cls cX2_term 4 (some .boolean) false (fun _ _ => True) D (mpost (JPost μ t n b c (chF n b opM g a))) 0 0 8 [some (.ref 33), some (.int (nI op)), some (.int s), some (.int (nI i))] [] (mk ν) := by
      intro zz
      induction zz using Nat.strongRecOn with
      | ind zz ih =>
        intro i hi s ν hν hzz
        obtain ⟨hν0, hν1⟩ := hν
        have hs01 : s = nI 1 ∨ s = nI 0 := hν1.elim (fun q => Or.inl q.1) (fun q => Or.inr q.1)
        refine g_iload_n (pc := 8) dX2_term_8 rfl ?_
        refine g_sipush (pc := 9) (v := (nI 160)) dX2_term_9 (by decide) ?_
        refine g_icmp_ge (pc := 12) (tgt := 51) dX2_term_12 (by decide) (fun c_12 => ?_) (fun c_12 => ?_)
        · have c12 := nI_le' (by omega) (by omega) c_12
          have hx : JPost μ t n b c (chF n b opM g a) s ν := by
            rcases hν1 with ⟨rfl, k, a1, c1, hk1, hi1, ha1, hl1, R1, T1, hres⟩ | ⟨rfl, c1, hr1, L1⟩
            · exact JPost.ok (hres.symm.trans (lpF_0 (by rw [lxT_0 (by omega) T1.1]; rfl))) hν0 R1 T1
            · exact JPost.no hr1 hν0 L1
          refine g_iload_n (pc := 51) dX2_term_51 rfl ?_
          refine g_ireturn (pc := 52) dX2_term_52 rfl (by first | rfl | decide | (rcases hs01 with h | h <;> (rw [h]; first | rfl | decide))) rfl ⟨_, rfl, ?_⟩
          exact hx
        · have c12 := nI_gt' (by omega) (by omega) c_12
          refine g_iload_n (pc := 15) dX2_term_15 rfl ?_
          refine g_if_eq (pc := 16) (tgt := 51) dX2_term_16 (by decide) (fun c_16 => ?_) (fun c_16 => ?_)
          · have hx : JPost μ t n b c (chF n b opM g a) s ν := by
              rcases hν1 with ⟨rfl, -⟩ | ⟨rfl, c1, hr1, L1⟩
              · exact absurd c_16 (by decide)
              · exact JPost.no hr1 hν0 L1
            refine g_iload_n (pc := 51) dX2_term_51 rfl ?_
            refine g_ireturn (pc := 52) dX2_term_52 rfl (by first | rfl | decide | (rcases hs01 with h | h <;> (rw [h]; first | rfl | decide))) rfl ⟨_, rfl, ?_⟩
            exact hx
          · obtain ⟨rfl, k, a1, c1, hk1, hi1, ha1, hl1, R1, T1, hres⟩ := hν1.resolve_right (fun q => c_16 q.1)
            clear hν1
            have hT1l := lxT_le b n a1
            refine g_aload_n (pc := 19) dX2_term_19 rfl ?_
            refine v_geti (pc := 20) fl_X2_33 dX2_term_20 (by first | rfl | assumption) rfl T1.2.2.2.1 ?_
            refine g_bipush (pc := 23) (v := (nI 42)) dX2_term_23 (by decide) ?_
            refine g_icmp_ne (pc := 25) (tgt := 51) dX2_term_25 (by decide) (fun c_25 => ?_) (fun c_25 => ?_)
            · have c25 : ¬ lxT b n a1 = 42 := fun h => c_25 (by rw [h])
              have hx : JPost μ t n b c (chF n b opM g a) (nI 1) ν := JPost.ok (hres.symm.trans (lpF_0 (by unfold opM; exact if_neg c25))) hν0 R1 T1
              refine g_iload_n (pc := 51) dX2_term_51 rfl ?_
              refine g_ireturn (pc := 52) dX2_term_52 rfl (by first | rfl | decide | (rcases hs01 with h | h <;> (rw [h]; first | rfl | decide))) rfl ⟨_, rfl, ?_⟩
              exact hx
            · have c25 : lxT b n a1 = 42 := nI_eq' (by omega) (by omega) c_25
              have hst : opM (lxT b n a1) = 10014 := by rw [c25]; rfl
              have hnz : ¬ opM (lxT b n a1) = 0 := by rw [hst]; decide
              have han1 : a1 < n := by
                rcases Nat.lt_or_ge a1 n with h | h
                · exact h
                · exact absurd (by rw [lxT_0 h T1.1]; rfl) hnz
              have hgo := lxE_go T1.1 (ops_nz rfl hnz)
              have hE1 := lxE_in b T1.1
              refine g_aload_n (pc := 28) dX2_term_28 rfl ?_
              refine a_cv0v (pc := 29) (c_X2_advance ν n b R1.1 _ (lxE_in b T1.1).2 T1.2.1) m_X2_advance ml_X2_28 (by omega) (by first | rfl | assumption) rfl rfl (Nat.le_of_ble_eq_true rfl) dX2_term_29 (fun x_29 μ_29 h_29 => ?_)
              obtain ⟨R29, T29, f29⟩ := R1.adv (lxE_in b T1.1).2 h_29
              refine g_aload_n (pc := 32) dX2_term_32 rfl ?_
              refine g_iload_n (pc := 33) dX2_term_33 rfl ?_
              refine a_cv1i (pc := 34) (h1 μ_29 _ _ R29 T29 (by rw [List.length_append]; omega)) m_X2_one ml_X2_62 (by omega) (by first | rfl | assumption) rfl rfl (Nat.le_of_ble_eq_true rfl) dX2_term_34 (fun x_34 μ_34 h_34 => ?_)
              obtain ⟨f34, ⟨rfl, g34, R34, T34⟩ | ⟨rfl, g34, L34⟩⟩ := h_34
              · skip
                have hg := G1 _ hE1.2
                have hg3 := hg.2.2 g34
                have hl42 : ((c ++ c1) ++ (g (lxE b n a1)).2.2).length ≤ 160 := by
                  rw [List.length_append, List.length_append]
                  omega
                have hl42b : ((c ++ c1) ++ (g (lxE b n a1)).2.2).length < 160 := by
                  rw [List.length_append, List.length_append]
                  omega
                refine a_ist2 (pc := 37) dX2_term_37 (by decide) rfl ?_
                refine g_aload_n (pc := 38) dX2_term_38 rfl ?_
                refine g_sipush (pc := 39) (v := (nI 10014)) dX2_term_39 (by decide) ?_
                refine a_cv1v (pc := 42) (c_X2_emit μ_34 t R34.2.1 _ hl42 R34.2.2.1 R34.2.2.2.1 (nI 10014)) m_X2_emit ml_X2_43 (by omega) (by first | rfl | assumption) rfl rfl (Nat.le_of_ble_eq_true rfl) dX2_term_42 (fun x_42 μ_42 h_42 => ?_)
                obtain ⟨R42, f42, k42⟩ := R34.emit (by omega) h_42
                refine a_iinc3 (pc := 45) dX2_term_45 (inc1 i) (by decide) rfl ?_
                refine g_goto (pc := 48) (tgt := 8) dX2_term_48 (by decide) ?_
                exact ih (160 - (i + 1)) (by omega) (i + 1) (by omega) (nI 1) μ_42 ⟨((hν0.trans f29).trans f34).trans f42, Or.inl ⟨rfl, k - 1, (g (lxE b n a1)).2.1, c1 ++ (g (lxE b n a1)).2.2 ++ [10014], by omega, by omega, by omega, by rw [List.length_append, List.length_append]; show c.length + (c1.length + (g (lxE b n a1)).2.2.length + 1) ≤ _; omega, by rw [← List.append_assoc, ← List.append_assoc]; exact R42, k42 _ T34, by rw [← hres, lpF_s hnz hk1 han1, if_pos g34, hst]⟩⟩ rfl
              · skip
                refine a_ist2 (pc := 37) dX2_term_37 (by decide) rfl ?_
                refine g_aload_n (pc := 38) dX2_term_38 rfl ?_
                refine g_sipush (pc := 39) (v := (nI 10014)) dX2_term_39 (by decide) ?_
                obtain ⟨len, hlen, h3len⟩ := L34.2.2.2
                refine a_cv1v (pc := 42) (c_X2_emit μ_34 t ht6 len hlen L34.2.2.1 h3len (nI 10014)) m_X2_emit ml_X2_43 (by omega) (by first | rfl | assumption) rfl rfl (Nat.le_of_ble_eq_true rfl) dX2_term_42 (fun x_42 μ_42 h_42 => ?_)
                obtain ⟨L42, f42⟩ := L34.emit hlen h3len h_42
                refine a_iinc3 (pc := 45) dX2_term_45 (inc1 i) (by decide) rfl ?_
                refine g_goto (pc := 48) (tgt := 8) dX2_term_48 (by decide) ?_
                exact ih (160 - (i + 1)) (by omega) (i + 1) (by omega) (nI 0) μ_42 ⟨((hν0.trans f29).trans f34).trans f42, Or.inr ⟨rfl, [], by rw [← hres, lpF_s hnz hk1 han1, if_neg (by rw [g34]; simp)], by rw [← hres, lpF_s hnz hk1 han1, if_neg (by rw [g34]; simp)]; exact L42⟩⟩ rfl
    exact lp8 _ 0 (Nat.zero_le _) s μ2 hs rfl
  refine g_aload_n (pc := 0) dX2_term_0 rfl ?_
  refine g_iload_n (pc := 1) dX2_term_1 rfl ?_
  refine a_cv1i (pc := 2) (h1 μ a c hR hT hc) m_X2_one ml_X2_62 (by omega) (by first | rfl | assumption) rfl rfl (Nat.le_of_ble_eq_true rfl) dX2_term_2 (fun x_2 μ_2 h_2 => ?_)
  obtain ⟨f2, ⟨rfl, g2, R2, T2⟩ | ⟨rfl, g2, L2⟩⟩ := h_2
  · skip
    have hg := G1 _ han
    have hg3 := hg.2.2 g2
    refine a_ist2 (pc := 5) dX2_term_5 (by decide) rfl ?_
    refine g_iconst (pc := 6) (v := (nI 0)) dX2_term_6 (by decide) ?_
    refine a_ist3 (pc := 7) dX2_term_7 (by decide) rfl ?_
    exact k8 (nI 1) μ_2 ⟨f2, Or.inl ⟨rfl, n, (g a).2.1, (g a).2.2, by omega, Nat.zero_le _, hg.1, by omega, R2, T2, (if_pos g2).symm⟩⟩
  · skip
    refine a_ist2 (pc := 5) dX2_term_5 (by decide) rfl ?_
    refine g_iconst (pc := 6) (v := (nI 0)) dX2_term_6 (by decide) ?_
    refine a_ist3 (pc := 7) dX2_term_7 (by decide) rfl ?_
    exact k8 (nI 0) μ_2 ⟨f2, Or.inr ⟨rfl, [], by unfold chF; rw [if_neg (by rw [g2]; simp)], by unfold chF; rw [if_neg (by rw [g2]; simp)]; exact L2⟩⟩
theorem c_X2_sum (op t n : Nat) (b : Nat → Nat) (hop : op ≤ 5) (g : Nat → PR) (D D1 : Nat) (hD : 8 ≤ D ∧ D1 + 1 ≤ D) (h1 : JP yX2_term cX2_term 4 D1 op t n b g) (G1 : GDf n g) (μ : Mem) (a : Nat) (c : List Nat) (hR : RW μ t n b c) (hT : TK μ n b a) (hc : c.length ≤ a) : CA eI yX2_sum cX2_sum 5 (some .boolean) D [.ref 33, .int (nI op)] μ (JPost μ t n b c (chF n b opA g a)) := by
  have hn160 := hR.1.2.1
  have ht6 := hR.2.1
  have hTl := lxT_le b n a
  have hE := lxE_in b hT.1
  have han := hT.1
  refine CT.of false (by decide) (by decide) (L := [some (.ref 33), some (.int (nI op)), none, none, none]) rfl (Nat.le_of_ble_eq_true rfl) ?_
  have k8 : ∀ (s : Int32) (μ2 : Mem) (hs : RF μ μ2 t ∧ ((s = nI 1 ∧ ∃ (k a1 : Nat) (c1 : List Nat), n ≤ a1 + k ∧ 0 ≤ a1 ∧ a ≤ a1 ∧ c.length + c1.length ≤ a1 ∧ RW μ2 t n b (c ++ c1) ∧ TK μ2 n b a1 ∧ lpF n b opA g k a1 c1 = (chF n b opA g a)) ∨ (s = nI 0 ∧ ∃ c1, (chF n b opA g a) = (false, (chF n b opA g a).2.1, c1) ∧ FLX μ2 t n b (chF n b opA g a).2.1))), WG eI yX2_sum.cls cX2_sum 5 (some .boolean) false (fun _ _ => True) D (mpost (JPost μ t n b c (chF n b opA g a))) 0 0 8 [some (.ref 33), some (.int (nI op)), some (.int s), some (.int (nI 0)), none] [] (mk μ2) := by
    intro s μ2 hs
    have lp8 : ∀ (zz : Nat) (i : Nat) (hi : i ≤ 160) (s : Int32) (ν : Mem) (hν : RF μ ν t ∧ ((s = nI 1 ∧ ∃ (k a1 : Nat) (c1 : List Nat), n ≤ a1 + k ∧ i ≤ a1 ∧ a ≤ a1 ∧ c.length + c1.length ≤ a1 ∧ RW ν t n b (c ++ c1) ∧ TK ν n b a1 ∧ lpF n b opA g k a1 c1 = (chF n b opA g a)) ∨ (s = nI 0 ∧ ∃ c1, (chF n b opA g a) = (false, (chF n b opA g a).2.1, c1) ∧ FLX ν t n b (chF n b opA g a).2.1))) (l4 : Option Value), 160 - i = zz → WG eI yX2_sum.cls cX2_sum 5 (some .boolean) false (fun _ _ => True) D (mpost (JPost μ t n b c (chF n b opA g a))) 0 0 8 [some (.ref 33), some (.int (nI op)), some (.int s), some (.int (nI i)), l4] [] (mk ν) := by
      intro zz
      induction zz using Nat.strongRecOn with
      | ind zz ih =>
        intro i hi s ν hν l4 hzz
        obtain ⟨hν0, hν1⟩ := hν
        have hs01 : s = nI 1 ∨ s = nI 0 := hν1.elim (fun q => Or.inl q.1) (fun q => Or.inr q.1)
        refine g_iload_n (pc := 8) dX2_sum_8 rfl ?_
        refine g_sipush (pc := 9) (v := (nI 160)) dX2_sum_9 (by decide) ?_
        refine g_icmp_ge (pc := 12) (tgt := 79) dX2_sum_12 (by decide) (fun c_12 => ?_) (fun c_12 => ?_)
        · have c12 := nI_le' (by omega) (by omega) c_12
          have hx : JPost μ t n b c (chF n b opA g a) s ν := by
            rcases hν1 with ⟨rfl, k, a1, c1, hk1, hi1, ha1, hl1, R1, T1, hres⟩ | ⟨rfl, c1, hr1, L1⟩
            · exact JPost.ok (hres.symm.trans (lpF_0 (by rw [lxT_0 (by omega) T1.1]; rfl))) hν0 R1 T1
            · exact JPost.no hr1 hν0 L1
          refine g_iload_n (pc := 79) dX2_sum_79 rfl ?_
          refine g_ireturn (pc := 80) dX2_sum_80 rfl (by first | rfl | decide | (rcases hs01 with h | h <;> (rw [h]; first | rfl | decide))) rfl ⟨_, rfl, ?_⟩
          exact hx
        · have c12 := nI_gt' (by omega) (by omega) c_12
          refine g_iload_n (pc := 15) dX2_sum_15 rfl ?_
          refine g_if_eq (pc := 16) (tgt := 79) dX2_sum_16 (by decide) (fun c_16 => ?_) (fun c_16 => ?_)
          · have hx : JPost μ t n b c (chF n b opA g a) s ν := by
              rcases hν1 with ⟨rfl, -⟩ | ⟨rfl, c1, hr1, L1⟩
              · exact absurd c_16 (by decide)
              · exact JPost.no hr1 hν0 L1
            refine g_iload_n (pc := 79) dX2_sum_79 rfl ?_
            refine g_ireturn (pc := 80) dX2_sum_80 rfl (by first | rfl | decide | (rcases hs01 with h | h <;> (rw [h]; first | rfl | decide))) rfl ⟨_, rfl, ?_⟩
            exact hx
          · obtain ⟨rfl, k, a1, c1, hk1, hi1, ha1, hl1, R1, T1, hres⟩ := hν1.resolve_right (fun q => c_16 q.1)
            clear hν1
            have hT1l := lxT_le b n a1
            have k37 : ∀ (h4 : lxT b n a1 = 43 ∨ lxT b n a1 = 45), WG eI yX2_sum.cls cX2_sum 5 (some .boolean) false (fun _ _ => True) D (mpost (JPost μ t n b c (chF n b opA g a))) 0 0 37 [some (.ref 33), some (.int (nI op)), some (.int (nI 1)), some (.int (nI i)), l4] [] (mk ν) := by
              intro h4
              refine g_aload_n (pc := 37) dX2_sum_37 rfl ?_
              refine v_geti (pc := 38) fl_X2_33 dX2_sum_38 (by first | rfl | assumption) rfl T1.2.2.2.1 ?_
              refine g_bipush (pc := 41) (v := (nI 43)) dX2_sum_41 (by decide) ?_
              refine g_icmp_ne (pc := 43) (tgt := 52) dX2_sum_43 (by decide) (fun c_43 => ?_) (fun c_43 => ?_)
              · have c43 : lxT b n a1 = 45 := by
                  have : ¬ lxT b n a1 = 43 := fun h => c_43 (by rw [h])
                  omega
                obtain ⟨sx, hsx⟩ : ∃ sx, sx = 10013 := ⟨_, rfl⟩
                have hst : opA (lxT b n a1) = 10013 := by rw [c43]; rfl
                have hnz : ¬ opA (lxT b n a1) = 0 := by rw [hst]; decide
                have han1 : a1 < n := by
                  rcases Nat.lt_or_ge a1 n with h | h
                  · exact h
                  · exact absurd (by rw [lxT_0 h T1.1]; rfl) hnz
                have hgo := lxE_go T1.1 (ops_nz rfl hnz)
                have hE1 := lxE_in b T1.1
                refine g_sipush (pc := 52) (v := (nI 10013)) dX2_sum_52 (by decide) ?_
                refine a_ist4 (pc := 55) dX2_sum_55 (by decide) rfl ?_
                refine g_aload_n (pc := 57) dX2_sum_57 rfl ?_
                refine a_cv0v (pc := 58) (c_X2_advance ν n b R1.1 _ (lxE_in b T1.1).2 T1.2.1) m_X2_advance ml_X2_28 (by omega) (by first | rfl | assumption) rfl rfl (Nat.le_of_ble_eq_true rfl) dX2_sum_58 (fun x_58 μ_58 h_58 => ?_)
                obtain ⟨R58, T58, f58⟩ := R1.adv (lxE_in b T1.1).2 h_58
                refine g_aload_n (pc := 61) dX2_sum_61 rfl ?_
                refine g_iload_n (pc := 62) dX2_sum_62 rfl ?_
                refine a_cv1i (pc := 63) (h1 μ_58 _ _ R58 T58 (by rw [List.length_append]; omega)) m_X2_term ml_X2_59 (by omega) (by first | rfl | assumption) rfl rfl (Nat.le_of_ble_eq_true rfl) dX2_sum_63 (fun x_63 μ_63 h_63 => ?_)
                obtain ⟨f63, ⟨rfl, g63, R63, T63⟩ | ⟨rfl, g63, L63⟩⟩ := h_63
                · skip
                  have hg := G1 _ hE1.2
                  have hg3 := hg.2.2 g63
                  have hl70 : ((c ++ c1) ++ (g (lxE b n a1)).2.2).length ≤ 160 := by
                    rw [List.length_append, List.length_append]
                    omega
                  have hl70b : ((c ++ c1) ++ (g (lxE b n a1)).2.2).length < 160 := by
                    rw [List.length_append, List.length_append]
                    omega
                  refine a_ist2 (pc := 66) dX2_sum_66 (by decide) rfl ?_
                  refine g_aload_n (pc := 67) dX2_sum_67 rfl ?_
                  refine g_iload (pc := 68) dX2_sum_68 rfl ?_
                  refine a_cv1v (pc := 70) (c_X2_emit μ_63 t R63.2.1 _ hl70 R63.2.2.1 R63.2.2.2.1 (nI 10013)) m_X2_emit ml_X2_43 (by omega) (by first | rfl | assumption) rfl rfl (Nat.le_of_ble_eq_true rfl) dX2_sum_70 (fun x_70 μ_70 h_70 => ?_)
                  obtain ⟨R70, f70, k70⟩ := R63.emit (by omega) h_70
                  refine a_iinc3 (pc := 73) dX2_sum_73 (inc1 i) (by decide) rfl ?_
                  refine g_goto (pc := 76) (tgt := 8) dX2_sum_76 (by decide) ?_
                  exact ih (160 - (i + 1)) (by omega) (i + 1) (by omega) (nI 1) μ_70 ⟨((hν0.trans f58).trans f63).trans f70, Or.inl ⟨rfl, k - 1, (g (lxE b n a1)).2.1, c1 ++ (g (lxE b n a1)).2.2 ++ [10013], by omega, by omega, by omega, by rw [List.length_append, List.length_append]; show c.length + (c1.length + (g (lxE b n a1)).2.2.length + 1) ≤ _; omega, by rw [← List.append_assoc, ← List.append_assoc]; exact R70, k70 _ T63, by rw [← hres, lpF_s hnz hk1 han1, if_pos g63, hst]⟩⟩ _ rfl
                · skip
                  refine a_ist2 (pc := 66) dX2_sum_66 (by decide) rfl ?_
                  refine g_aload_n (pc := 67) dX2_sum_67 rfl ?_
                  refine g_iload (pc := 68) dX2_sum_68 rfl ?_
                  obtain ⟨len, hlen, h3len⟩ := L63.2.2.2
                  refine a_cv1v (pc := 70) (c_X2_emit μ_63 t ht6 len hlen L63.2.2.1 h3len (nI 10013)) m_X2_emit ml_X2_43 (by omega) (by first | rfl | assumption) rfl rfl (Nat.le_of_ble_eq_true rfl) dX2_sum_70 (fun x_70 μ_70 h_70 => ?_)
                  obtain ⟨L70, f70⟩ := L63.emit hlen h3len h_70
                  refine a_iinc3 (pc := 73) dX2_sum_73 (inc1 i) (by decide) rfl ?_
                  refine g_goto (pc := 76) (tgt := 8) dX2_sum_76 (by decide) ?_
                  exact ih (160 - (i + 1)) (by omega) (i + 1) (by omega) (nI 0) μ_70 ⟨((hν0.trans f58).trans f63).trans f70, Or.inr ⟨rfl, [], by rw [← hres, lpF_s hnz hk1 han1, if_neg (by rw [g63]; simp)], by rw [← hres, lpF_s hnz hk1 han1, if_neg (by rw [g63]; simp)]; exact L70⟩⟩ _ rfl
              · have c43 : lxT b n a1 = 43 := nI_eq' (by omega) (by omega) c_43
                have hst : opA (lxT b n a1) = 10012 := by rw [c43]; rfl
                have hnz : ¬ opA (lxT b n a1) = 0 := by rw [hst]; decide
                have han1 : a1 < n := by
                  rcases Nat.lt_or_ge a1 n with h | h
                  · exact h
                  · exact absurd (by rw [lxT_0 h T1.1]; rfl) hnz
                have hgo := lxE_go T1.1 (ops_nz rfl hnz)
                have hE1 := lxE_in b T1.1
                refine g_sipush (pc := 46) (v := (nI 10012)) dX2_sum_46 (by decide) ?_
                refine g_goto (pc := 49) (tgt := 55) dX2_sum_49 (by decide) ?_
                refine a_ist4 (pc := 55) dX2_sum_55 (by decide) rfl ?_
                refine g_aload_n (pc := 57) dX2_sum_57 rfl ?_
                refine a_cv0v (pc := 58) (c_X2_advance ν n b R1.1 _ (lxE_in b T1.1).2 T1.2.1) m_X2_advance ml_X2_28 (by omega) (by first | rfl | assumption) rfl rfl (Nat.le_of_ble_eq_true rfl) dX2_sum_58 (fun x_58 μ_58 h_58 => ?_)
                obtain ⟨R58, T58, f58⟩ := R1.adv (lxE_in b T1.1).2 h_58
                refine g_aload_n (pc := 61) dX2_sum_61 rfl ?_
                refine g_iload_n (pc := 62) dX2_sum_62 rfl ?_
                refine a_cv1i (pc := 63) (h1 μ_58 _ _ R58 T58 (by rw [List.length_append]; omega)) m_X2_term ml_X2_59 (by omega) (by first | rfl | assumption) rfl rfl (Nat.le_of_ble_eq_true rfl) dX2_sum_63 (fun x_63 μ_63 h_63 => ?_)
                obtain ⟨f63, ⟨rfl, g63, R63, T63⟩ | ⟨rfl, g63, L63⟩⟩ := h_63
                · skip
                  have hg := G1 _ hE1.2
                  have hg3 := hg.2.2 g63
                  have hl70 : ((c ++ c1) ++ (g (lxE b n a1)).2.2).length ≤ 160 := by
                    rw [List.length_append, List.length_append]
                    omega
                  have hl70b : ((c ++ c1) ++ (g (lxE b n a1)).2.2).length < 160 := by
                    rw [List.length_append, List.length_append]
                    omega
                  refine a_ist2 (pc := 66) dX2_sum_66 (by decide) rfl ?_
                  refine g_aload_n (pc := 67) dX2_sum_67 rfl ?_
                  refine g_iload (pc := 68) dX2_sum_68 rfl ?_
                  refine a_cv1v (pc := 70) (c_X2_emit μ_63 t R63.2.1 _ hl70 R63.2.2.1 R63.2.2.2.1 (nI 10012)) m_X2_emit ml_X2_43 (by omega) (by first | rfl | assumption) rfl rfl (Nat.le_of_ble_eq_true rfl) dX2_sum_70 (fun x_70 μ_70 h_70 => ?_)
                  obtain ⟨R70, f70, k70⟩ := R63.emit (by omega) h_70
                  refine a_iinc3 (pc := 73) dX2_sum_73 (inc1 i) (by decide) rfl ?_
                  refine g_goto (pc := 76) (tgt := 8) dX2_sum_76 (by decide) ?_
                  exact ih (160 - (i + 1)) (by omega) (i + 1) (by omega) (nI 1) μ_70 ⟨((hν0.trans f58).trans f63).trans f70, Or.inl ⟨rfl, k - 1, (g (lxE b n a1)).2.1, c1 ++ (g (lxE b n a1)).2.2 ++ [10012], by omega, by omega, by omega, by rw [List.length_append, List.length_append]; show c.length + (c1.length + (g (lxE b n a1)).2.2.length + 1) ≤ _; omega, by rw [← List.append_assoc, ← List.append_assoc]; exact R70, k70 _ T63, by rw [← hres, lpF_s hnz hk1 han1, if_pos g63, hst]⟩⟩ _ rfl
                · skip
                  refine a_ist2 (pc := 66) dX2_sum_66 (by decide) rfl ?_
                  refine g_aload_n (pc := 67) dX2_sum_67 rfl ?_
                  refine g_iload (pc := 68) dX2_sum_68 rfl ?_
                  obtain ⟨len, hlen, h3len⟩ := L63.2.2.2
                  refine a_cv1v (pc := 70) (c_X2_emit μ_63 t ht6 len hlen L63.2.2.1 h3len (nI 10012)) m_X2_emit ml_X2_43 (by omega) (by first | rfl | assumption) rfl rfl (Nat.le_of_ble_eq_true rfl) dX2_sum_70 (fun x_70 μ_70 h_70 => ?_)
                  obtain ⟨L70, f70⟩ := L63.emit hlen h3len h_70
                  refine a_iinc3 (pc := 73) dX2_sum_73 (inc1 i) (by decide) rfl ?_
                  refine g_goto (pc := 76) (tgt := 8) dX2_sum_76 (by decide) ?_
                  exact ih (160 - (i + 1)) (by omega) (i + 1) (by omega) (nI 0) μ_70 ⟨((hν0.trans f58).trans f63).trans f70, Or.inr ⟨rfl, [], by rw [← hres, lpF_s hnz hk1 han1, if_neg (by rw [g63]; simp)], by rw [← hres, lpF_s hnz hk1 han1, if_neg (by rw [g63]; simp)]; exact L70⟩⟩ _ rfl
            refine g_aload_n (pc := 19) dX2_sum_19 rfl ?_
            refine v_geti (pc := 20) fl_X2_33 dX2_sum_20 (by first | rfl | assumption) rfl T1.2.2.2.1 ?_
            refine g_bipush (pc := 23) (v := (nI 43)) dX2_sum_23 (by decide) ?_
            refine g_icmp_eq (pc := 25) (tgt := 37) dX2_sum_25 (by decide) (fun c_25 => ?_) (fun c_25 => ?_)
            · have c25 : lxT b n a1 = 43 := nI_eq' (by omega) (by omega) c_25
              exact k37 (by omega)
            · have c25 : ¬ lxT b n a1 = 43 := fun h => c_25 (by rw [h])
              refine g_aload_n (pc := 28) dX2_sum_28 rfl ?_
              refine v_geti (pc := 29) fl_X2_33 dX2_sum_29 (by first | rfl | assumption) rfl T1.2.2.2.1 ?_
              refine g_bipush (pc := 32) (v := (nI 45)) dX2_sum_32 (by decide) ?_
              refine g_icmp_ne (pc := 34) (tgt := 79) dX2_sum_34 (by decide) (fun c_34 => ?_) (fun c_34 => ?_)
              · have c34 : ¬ lxT b n a1 = 45 := fun h => c_34 (by rw [h])
                have hx : JPost μ t n b c (chF n b opA g a) (nI 1) ν := JPost.ok (hres.symm.trans (lpF_0 (by unfold opA; rw [if_neg c25, if_neg c34]))) hν0 R1 T1
                refine g_iload_n (pc := 79) dX2_sum_79 rfl ?_
                refine g_ireturn (pc := 80) dX2_sum_80 rfl (by first | rfl | decide | (rcases hs01 with h | h <;> (rw [h]; first | rfl | decide))) rfl ⟨_, rfl, ?_⟩
                exact hx
              · have c34 : lxT b n a1 = 45 := nI_eq' (by omega) (by omega) c_34
                exact k37 (by omega)
    exact lp8 _ 0 (Nat.zero_le _) s μ2 hs _ rfl
  refine g_aload_n (pc := 0) dX2_sum_0 rfl ?_
  refine g_iload_n (pc := 1) dX2_sum_1 rfl ?_
  refine a_cv1i (pc := 2) (h1 μ a c hR hT hc) m_X2_term ml_X2_59 (by omega) (by first | rfl | assumption) rfl rfl (Nat.le_of_ble_eq_true rfl) dX2_sum_2 (fun x_2 μ_2 h_2 => ?_)
  obtain ⟨f2, ⟨rfl, g2, R2, T2⟩ | ⟨rfl, g2, L2⟩⟩ := h_2
  · skip
    have hg := G1 _ han
    have hg3 := hg.2.2 g2
    refine a_ist2 (pc := 5) dX2_sum_5 (by decide) rfl ?_
    refine g_iconst (pc := 6) (v := (nI 0)) dX2_sum_6 (by decide) ?_
    refine a_ist3 (pc := 7) dX2_sum_7 (by decide) rfl ?_
    exact k8 (nI 1) μ_2 ⟨f2, Or.inl ⟨rfl, n, (g a).2.1, (g a).2.2, by omega, Nat.zero_le _, hg.1, by omega, R2, T2, (if_pos g2).symm⟩⟩
  · skip
    refine a_ist2 (pc := 5) dX2_sum_5 (by decide) rfl ?_
    refine g_iconst (pc := 6) (v := (nI 0)) dX2_sum_6 (by decide) ?_
    refine a_ist3 (pc := 7) dX2_sum_7 (by decide) rfl ?_
    exact k8 (nI 0) μ_2 ⟨f2, Or.inr ⟨rfl, [], by unfold chF; rw [if_neg (by rw [g2]; simp)], by unfold chF; rw [if_neg (by rw [g2]; simp)]; exact L2⟩⟩
theorem c_X2_both (op t n : Nat) (b : Nat → Nat) (hop : op ≤ 5) (g : Nat → PR) (D D1 : Nat) (hD : 8 ≤ D ∧ D1 + 1 ≤ D) (h1 : JP yX2_negation cX2_negation 3 D1 op t n b g) (G1 : GDf n g) (μ : Mem) (a : Nat) (c : List Nat) (hR : RW μ t n b c) (hT : TK μ n b a) (hc : c.length ≤ a) : CA eI yX2_both cX2_both 4 (some .boolean) D [.ref 33, .int (nI op)] μ (JPost μ t n b c (chF n b opN g a)) := by
  have hn160 := hR.1.2.1
  have ht6 := hR.2.1
  have hTl := lxT_le b n a
  have hE := lxE_in b hT.1
  have han := hT.1
  refine CT.of false (by decide) (by decide) (L := [some (.ref 33), some (.int (nI op)), none, none]) rfl (Nat.le_of_ble_eq_true rfl) ?_
  have k8 : ∀ (s : Int32) (μ2 : Mem) (hs : RF μ μ2 t ∧ ((s = nI 1 ∧ ∃ (k a1 : Nat) (c1 : List Nat), n ≤ a1 + k ∧ 0 ≤ a1 ∧ a ≤ a1 ∧ c.length + c1.length ≤ a1 ∧ RW μ2 t n b (c ++ c1) ∧ TK μ2 n b a1 ∧ lpF n b opN g k a1 c1 = (chF n b opN g a)) ∨ (s = nI 0 ∧ ∃ c1, (chF n b opN g a) = (false, (chF n b opN g a).2.1, c1) ∧ FLX μ2 t n b (chF n b opN g a).2.1))), WG eI yX2_both.cls cX2_both 4 (some .boolean) false (fun _ _ => True) D (mpost (JPost μ t n b c (chF n b opN g a))) 0 0 8 [some (.ref 33), some (.int (nI op)), some (.int s), some (.int (nI 0))] [] (mk μ2) := by
    intro s μ2 hs
    have lp8 : ∀ (zz : Nat) (i : Nat) (hi : i ≤ 160) (s : Int32) (ν : Mem) (hν : RF μ ν t ∧ ((s = nI 1 ∧ ∃ (k a1 : Nat) (c1 : List Nat), n ≤ a1 + k ∧ i ≤ a1 ∧ a ≤ a1 ∧ c.length + c1.length ≤ a1 ∧ RW ν t n b (c ++ c1) ∧ TK ν n b a1 ∧ lpF n b opN g k a1 c1 = (chF n b opN g a)) ∨ (s = nI 0 ∧ ∃ c1, (chF n b opN g a) = (false, (chF n b opN g a).2.1, c1) ∧ FLX ν t n b (chF n b opN g a).2.1))), 160 - i = zz → WG eI yX2_both.cls cX2_both 4 (some .boolean) false (fun _ _ => True) D (mpost (JPost μ t n b c (chF n b opN g a))) 0 0 8 [some (.ref 33), some (.int (nI op)), some (.int s), some (.int (nI i))] [] (mk ν) := by
      intro zz
      induction zz using Nat.strongRecOn with
      | ind zz ih =>
        intro i hi s ν hν hzz
        obtain ⟨hν0, hν1⟩ := hν
        have hs01 : s = nI 1 ∨ s = nI 0 := hν1.elim (fun q => Or.inl q.1) (fun q => Or.inr q.1)
        refine g_iload_n (pc := 8) dX2_both_8 rfl ?_
        refine g_sipush (pc := 9) (v := (nI 160)) dX2_both_9 (by decide) ?_
        refine g_icmp_ge (pc := 12) (tgt := 52) dX2_both_12 (by decide) (fun c_12 => ?_) (fun c_12 => ?_)
        · have c12 := nI_le' (by omega) (by omega) c_12
          have hx : JPost μ t n b c (chF n b opN g a) s ν := by
            rcases hν1 with ⟨rfl, k, a1, c1, hk1, hi1, ha1, hl1, R1, T1, hres⟩ | ⟨rfl, c1, hr1, L1⟩
            · exact JPost.ok (hres.symm.trans (lpF_0 (by rw [lxT_0 (by omega) T1.1]; rfl))) hν0 R1 T1
            · exact JPost.no hr1 hν0 L1
          refine g_iload_n (pc := 52) dX2_both_52 rfl ?_
          refine g_ireturn (pc := 53) dX2_both_53 rfl (by first | rfl | decide | (rcases hs01 with h | h <;> (rw [h]; first | rfl | decide))) rfl ⟨_, rfl, ?_⟩
          exact hx
        · have c12 := nI_gt' (by omega) (by omega) c_12
          refine g_iload_n (pc := 15) dX2_both_15 rfl ?_
          refine g_if_eq (pc := 16) (tgt := 52) dX2_both_16 (by decide) (fun c_16 => ?_) (fun c_16 => ?_)
          · have hx : JPost μ t n b c (chF n b opN g a) s ν := by
              rcases hν1 with ⟨rfl, -⟩ | ⟨rfl, c1, hr1, L1⟩
              · exact absurd c_16 (by decide)
              · exact JPost.no hr1 hν0 L1
            refine g_iload_n (pc := 52) dX2_both_52 rfl ?_
            refine g_ireturn (pc := 53) dX2_both_53 rfl (by first | rfl | decide | (rcases hs01 with h | h <;> (rw [h]; first | rfl | decide))) rfl ⟨_, rfl, ?_⟩
            exact hx
          · obtain ⟨rfl, k, a1, c1, hk1, hi1, ha1, hl1, R1, T1, hres⟩ := hν1.resolve_right (fun q => c_16 q.1)
            clear hν1
            have hT1l := lxT_le b n a1
            refine g_aload_n (pc := 19) dX2_both_19 rfl ?_
            refine v_geti (pc := 20) fl_X2_33 dX2_both_20 (by first | rfl | assumption) rfl T1.2.2.2.1 ?_
            refine g_sipush (pc := 23) (v := (nI 260)) dX2_both_23 (by decide) ?_
            refine g_icmp_ne (pc := 26) (tgt := 52) dX2_both_26 (by decide) (fun c_26 => ?_) (fun c_26 => ?_)
            · have c26 : ¬ lxT b n a1 = 260 := fun h => c_26 (by rw [h])
              have hx : JPost μ t n b c (chF n b opN g a) (nI 1) ν := JPost.ok (hres.symm.trans (lpF_0 (by unfold opN; exact if_neg c26))) hν0 R1 T1
              refine g_iload_n (pc := 52) dX2_both_52 rfl ?_
              refine g_ireturn (pc := 53) dX2_both_53 rfl (by first | rfl | decide | (rcases hs01 with h | h <;> (rw [h]; first | rfl | decide))) rfl ⟨_, rfl, ?_⟩
              exact hx
            · have c26 : lxT b n a1 = 260 := nI_eq' (by omega) (by omega) c_26
              have hst : opN (lxT b n a1) = 10017 := by rw [c26]; rfl
              have hnz : ¬ opN (lxT b n a1) = 0 := by rw [hst]; decide
              have han1 : a1 < n := by
                rcases Nat.lt_or_ge a1 n with h | h
                · exact h
                · exact absurd (by rw [lxT_0 h T1.1]; rfl) hnz
              have hgo := lxE_go T1.1 (ops_nz rfl hnz)
              have hE1 := lxE_in b T1.1
              refine g_aload_n (pc := 29) dX2_both_29 rfl ?_
              refine a_cv0v (pc := 30) (c_X2_advance ν n b R1.1 _ (lxE_in b T1.1).2 T1.2.1) m_X2_advance ml_X2_28 (by omega) (by first | rfl | assumption) rfl rfl (Nat.le_of_ble_eq_true rfl) dX2_both_30 (fun x_30 μ_30 h_30 => ?_)
              obtain ⟨R30, T30, f30⟩ := R1.adv (lxE_in b T1.1).2 h_30
              refine g_aload_n (pc := 33) dX2_both_33 rfl ?_
              refine g_iload_n (pc := 34) dX2_both_34 rfl ?_
              refine a_cv1i (pc := 35) (h1 μ_30 _ _ R30 T30 (by rw [List.length_append]; omega)) m_X2_negation ml_X2_50 (by omega) (by first | rfl | assumption) rfl rfl (Nat.le_of_ble_eq_true rfl) dX2_both_35 (fun x_35 μ_35 h_35 => ?_)
              obtain ⟨f35, ⟨rfl, g35, R35, T35⟩ | ⟨rfl, g35, L35⟩⟩ := h_35
              · skip
                have hg := G1 _ hE1.2
                have hg3 := hg.2.2 g35
                have hl43 : ((c ++ c1) ++ (g (lxE b n a1)).2.2).length ≤ 160 := by
                  rw [List.length_append, List.length_append]
                  omega
                have hl43b : ((c ++ c1) ++ (g (lxE b n a1)).2.2).length < 160 := by
                  rw [List.length_append, List.length_append]
                  omega
                refine a_ist2 (pc := 38) dX2_both_38 (by decide) rfl ?_
                refine g_aload_n (pc := 39) dX2_both_39 rfl ?_
                refine g_sipush (pc := 40) (v := (nI 10017)) dX2_both_40 (by decide) ?_
                refine a_cv1v (pc := 43) (c_X2_emit μ_35 t R35.2.1 _ hl43 R35.2.2.1 R35.2.2.2.1 (nI 10017)) m_X2_emit ml_X2_43 (by omega) (by first | rfl | assumption) rfl rfl (Nat.le_of_ble_eq_true rfl) dX2_both_43 (fun x_43 μ_43 h_43 => ?_)
                obtain ⟨R43, f43, k43⟩ := R35.emit (by omega) h_43
                refine a_iinc3 (pc := 46) dX2_both_46 (inc1 i) (by decide) rfl ?_
                refine g_goto (pc := 49) (tgt := 8) dX2_both_49 (by decide) ?_
                exact ih (160 - (i + 1)) (by omega) (i + 1) (by omega) (nI 1) μ_43 ⟨((hν0.trans f30).trans f35).trans f43, Or.inl ⟨rfl, k - 1, (g (lxE b n a1)).2.1, c1 ++ (g (lxE b n a1)).2.2 ++ [10017], by omega, by omega, by omega, by rw [List.length_append, List.length_append]; show c.length + (c1.length + (g (lxE b n a1)).2.2.length + 1) ≤ _; omega, by rw [← List.append_assoc, ← List.append_assoc]; exact R43, k43 _ T35, by rw [← hres, lpF_s hnz hk1 han1, if_pos g35, hst]⟩⟩ rfl
              · skip
                refine a_ist2 (pc := 38) dX2_both_38 (by decide) rfl ?_
                refine g_aload_n (pc := 39) dX2_both_39 rfl ?_
                refine g_sipush (pc := 40) (v := (nI 10017)) dX2_both_40 (by decide) ?_
                obtain ⟨len, hlen, h3len⟩ := L35.2.2.2
                refine a_cv1v (pc := 43) (c_X2_emit μ_35 t ht6 len hlen L35.2.2.1 h3len (nI 10017)) m_X2_emit ml_X2_43 (by omega) (by first | rfl | assumption) rfl rfl (Nat.le_of_ble_eq_true rfl) dX2_both_43 (fun x_43 μ_43 h_43 => ?_)
                obtain ⟨L43, f43⟩ := L35.emit hlen h3len h_43
                refine a_iinc3 (pc := 46) dX2_both_46 (inc1 i) (by decide) rfl ?_
                refine g_goto (pc := 49) (tgt := 8) dX2_both_49 (by decide) ?_
                exact ih (160 - (i + 1)) (by omega) (i + 1) (by omega) (nI 0) μ_43 ⟨((hν0.trans f30).trans f35).trans f43, Or.inr ⟨rfl, [], by rw [← hres, lpF_s hnz hk1 han1, if_neg (by rw [g35]; simp)], by rw [← hres, lpF_s hnz hk1 han1, if_neg (by rw [g35]; simp)]; exact L43⟩⟩ rfl
    exact lp8 _ 0 (Nat.zero_le _) s μ2 hs rfl
  refine g_aload_n (pc := 0) dX2_both_0 rfl ?_
  refine g_iload_n (pc := 1) dX2_both_1 rfl ?_
  refine a_cv1i (pc := 2) (h1 μ a c hR hT hc) m_X2_negation ml_X2_50 (by omega) (by first | rfl | assumption) rfl rfl (Nat.le_of_ble_eq_true rfl) dX2_both_2 (fun x_2 μ_2 h_2 => ?_)
  obtain ⟨f2, ⟨rfl, g2, R2, T2⟩ | ⟨rfl, g2, L2⟩⟩ := h_2
  · skip
    have hg := G1 _ han
    have hg3 := hg.2.2 g2
    refine a_ist2 (pc := 5) dX2_both_5 (by decide) rfl ?_
    refine g_iconst (pc := 6) (v := (nI 0)) dX2_both_6 (by decide) ?_
    refine a_ist3 (pc := 7) dX2_both_7 (by decide) rfl ?_
    exact k8 (nI 1) μ_2 ⟨f2, Or.inl ⟨rfl, n, (g a).2.1, (g a).2.2, by omega, Nat.zero_le _, hg.1, by omega, R2, T2, (if_pos g2).symm⟩⟩
  · skip
    refine a_ist2 (pc := 5) dX2_both_5 (by decide) rfl ?_
    refine g_iconst (pc := 6) (v := (nI 0)) dX2_both_6 (by decide) ?_
    refine a_ist3 (pc := 7) dX2_both_7 (by decide) rfl ?_
    exact k8 (nI 0) μ_2 ⟨f2, Or.inr ⟨rfl, [], by unfold chF; rw [if_neg (by rw [g2]; simp)], by unfold chF; rw [if_neg (by rw [g2]; simp)]; exact L2⟩⟩
theorem c_X2_either (op t n : Nat) (b : Nat → Nat) (hop : op ≤ 5) (g : Nat → PR) (D D1 : Nat) (hD : 8 ≤ D ∧ D1 + 1 ≤ D) (h1 : JP yX2_both cX2_both 4 D1 op t n b g) (G1 : GDf n g) (μ : Mem) (a : Nat) (c : List Nat) (hR : RW μ t n b c) (hT : TK μ n b a) (hc : c.length ≤ a) : CA eI yX2_either cX2_either 4 (some .boolean) D [.ref 33, .int (nI op)] μ (JPost μ t n b c (chF n b opO g a)) := by
  have hn160 := hR.1.2.1
  have ht6 := hR.2.1
  have hTl := lxT_le b n a
  have hE := lxE_in b hT.1
  have han := hT.1
  refine CT.of false (by decide) (by decide) (L := [some (.ref 33), some (.int (nI op)), none, none]) rfl (Nat.le_of_ble_eq_true rfl) ?_
  have k8 : ∀ (s : Int32) (μ2 : Mem) (hs : RF μ μ2 t ∧ ((s = nI 1 ∧ ∃ (k a1 : Nat) (c1 : List Nat), n ≤ a1 + k ∧ 0 ≤ a1 ∧ a ≤ a1 ∧ c.length + c1.length ≤ a1 ∧ RW μ2 t n b (c ++ c1) ∧ TK μ2 n b a1 ∧ lpF n b opO g k a1 c1 = (chF n b opO g a)) ∨ (s = nI 0 ∧ ∃ c1, (chF n b opO g a) = (false, (chF n b opO g a).2.1, c1) ∧ FLX μ2 t n b (chF n b opO g a).2.1))), WG eI yX2_either.cls cX2_either 4 (some .boolean) false (fun _ _ => True) D (mpost (JPost μ t n b c (chF n b opO g a))) 0 0 8 [some (.ref 33), some (.int (nI op)), some (.int s), some (.int (nI 0))] [] (mk μ2) := by
    intro s μ2 hs
    have lp8 : ∀ (zz : Nat) (i : Nat) (hi : i ≤ 160) (s : Int32) (ν : Mem) (hν : RF μ ν t ∧ ((s = nI 1 ∧ ∃ (k a1 : Nat) (c1 : List Nat), n ≤ a1 + k ∧ i ≤ a1 ∧ a ≤ a1 ∧ c.length + c1.length ≤ a1 ∧ RW ν t n b (c ++ c1) ∧ TK ν n b a1 ∧ lpF n b opO g k a1 c1 = (chF n b opO g a)) ∨ (s = nI 0 ∧ ∃ c1, (chF n b opO g a) = (false, (chF n b opO g a).2.1, c1) ∧ FLX ν t n b (chF n b opO g a).2.1))), 160 - i = zz → WG eI yX2_either.cls cX2_either 4 (some .boolean) false (fun _ _ => True) D (mpost (JPost μ t n b c (chF n b opO g a))) 0 0 8 [some (.ref 33), some (.int (nI op)), some (.int s), some (.int (nI i))] [] (mk ν) := by
      intro zz
      induction zz using Nat.strongRecOn with
      | ind zz ih =>
        intro i hi s ν hν hzz
        obtain ⟨hν0, hν1⟩ := hν
        have hs01 : s = nI 1 ∨ s = nI 0 := hν1.elim (fun q => Or.inl q.1) (fun q => Or.inr q.1)
        refine g_iload_n (pc := 8) dX2_either_8 rfl ?_
        refine g_sipush (pc := 9) (v := (nI 160)) dX2_either_9 (by decide) ?_
        refine g_icmp_ge (pc := 12) (tgt := 52) dX2_either_12 (by decide) (fun c_12 => ?_) (fun c_12 => ?_)
        · have c12 := nI_le' (by omega) (by omega) c_12
          have hx : JPost μ t n b c (chF n b opO g a) s ν := by
            rcases hν1 with ⟨rfl, k, a1, c1, hk1, hi1, ha1, hl1, R1, T1, hres⟩ | ⟨rfl, c1, hr1, L1⟩
            · exact JPost.ok (hres.symm.trans (lpF_0 (by rw [lxT_0 (by omega) T1.1]; rfl))) hν0 R1 T1
            · exact JPost.no hr1 hν0 L1
          refine g_iload_n (pc := 52) dX2_either_52 rfl ?_
          refine g_ireturn (pc := 53) dX2_either_53 rfl (by first | rfl | decide | (rcases hs01 with h | h <;> (rw [h]; first | rfl | decide))) rfl ⟨_, rfl, ?_⟩
          exact hx
        · have c12 := nI_gt' (by omega) (by omega) c_12
          refine g_iload_n (pc := 15) dX2_either_15 rfl ?_
          refine g_if_eq (pc := 16) (tgt := 52) dX2_either_16 (by decide) (fun c_16 => ?_) (fun c_16 => ?_)
          · have hx : JPost μ t n b c (chF n b opO g a) s ν := by
              rcases hν1 with ⟨rfl, -⟩ | ⟨rfl, c1, hr1, L1⟩
              · exact absurd c_16 (by decide)
              · exact JPost.no hr1 hν0 L1
            refine g_iload_n (pc := 52) dX2_either_52 rfl ?_
            refine g_ireturn (pc := 53) dX2_either_53 rfl (by first | rfl | decide | (rcases hs01 with h | h <;> (rw [h]; first | rfl | decide))) rfl ⟨_, rfl, ?_⟩
            exact hx
          · obtain ⟨rfl, k, a1, c1, hk1, hi1, ha1, hl1, R1, T1, hres⟩ := hν1.resolve_right (fun q => c_16 q.1)
            clear hν1
            have hT1l := lxT_le b n a1
            refine g_aload_n (pc := 19) dX2_either_19 rfl ?_
            refine v_geti (pc := 20) fl_X2_33 dX2_either_20 (by first | rfl | assumption) rfl T1.2.2.2.1 ?_
            refine g_sipush (pc := 23) (v := (nI 259)) dX2_either_23 (by decide) ?_
            refine g_icmp_ne (pc := 26) (tgt := 52) dX2_either_26 (by decide) (fun c_26 => ?_) (fun c_26 => ?_)
            · have c26 : ¬ lxT b n a1 = 259 := fun h => c_26 (by rw [h])
              have hx : JPost μ t n b c (chF n b opO g a) (nI 1) ν := JPost.ok (hres.symm.trans (lpF_0 (by unfold opO; exact if_neg c26))) hν0 R1 T1
              refine g_iload_n (pc := 52) dX2_either_52 rfl ?_
              refine g_ireturn (pc := 53) dX2_either_53 rfl (by first | rfl | decide | (rcases hs01 with h | h <;> (rw [h]; first | rfl | decide))) rfl ⟨_, rfl, ?_⟩
              exact hx
            · have c26 : lxT b n a1 = 259 := nI_eq' (by omega) (by omega) c_26
              have hst : opO (lxT b n a1) = 10018 := by rw [c26]; rfl
              have hnz : ¬ opO (lxT b n a1) = 0 := by rw [hst]; decide
              have han1 : a1 < n := by
                rcases Nat.lt_or_ge a1 n with h | h
                · exact h
                · exact absurd (by rw [lxT_0 h T1.1]; rfl) hnz
              have hgo := lxE_go T1.1 (ops_nz rfl hnz)
              have hE1 := lxE_in b T1.1
              refine g_aload_n (pc := 29) dX2_either_29 rfl ?_
              refine a_cv0v (pc := 30) (c_X2_advance ν n b R1.1 _ (lxE_in b T1.1).2 T1.2.1) m_X2_advance ml_X2_28 (by omega) (by first | rfl | assumption) rfl rfl (Nat.le_of_ble_eq_true rfl) dX2_either_30 (fun x_30 μ_30 h_30 => ?_)
              obtain ⟨R30, T30, f30⟩ := R1.adv (lxE_in b T1.1).2 h_30
              refine g_aload_n (pc := 33) dX2_either_33 rfl ?_
              refine g_iload_n (pc := 34) dX2_either_34 rfl ?_
              refine a_cv1i (pc := 35) (h1 μ_30 _ _ R30 T30 (by rw [List.length_append]; omega)) m_X2_both ml_X2_47 (by omega) (by first | rfl | assumption) rfl rfl (Nat.le_of_ble_eq_true rfl) dX2_either_35 (fun x_35 μ_35 h_35 => ?_)
              obtain ⟨f35, ⟨rfl, g35, R35, T35⟩ | ⟨rfl, g35, L35⟩⟩ := h_35
              · skip
                have hg := G1 _ hE1.2
                have hg3 := hg.2.2 g35
                have hl43 : ((c ++ c1) ++ (g (lxE b n a1)).2.2).length ≤ 160 := by
                  rw [List.length_append, List.length_append]
                  omega
                have hl43b : ((c ++ c1) ++ (g (lxE b n a1)).2.2).length < 160 := by
                  rw [List.length_append, List.length_append]
                  omega
                refine a_ist2 (pc := 38) dX2_either_38 (by decide) rfl ?_
                refine g_aload_n (pc := 39) dX2_either_39 rfl ?_
                refine g_sipush (pc := 40) (v := (nI 10018)) dX2_either_40 (by decide) ?_
                refine a_cv1v (pc := 43) (c_X2_emit μ_35 t R35.2.1 _ hl43 R35.2.2.1 R35.2.2.2.1 (nI 10018)) m_X2_emit ml_X2_43 (by omega) (by first | rfl | assumption) rfl rfl (Nat.le_of_ble_eq_true rfl) dX2_either_43 (fun x_43 μ_43 h_43 => ?_)
                obtain ⟨R43, f43, k43⟩ := R35.emit (by omega) h_43
                refine a_iinc3 (pc := 46) dX2_either_46 (inc1 i) (by decide) rfl ?_
                refine g_goto (pc := 49) (tgt := 8) dX2_either_49 (by decide) ?_
                exact ih (160 - (i + 1)) (by omega) (i + 1) (by omega) (nI 1) μ_43 ⟨((hν0.trans f30).trans f35).trans f43, Or.inl ⟨rfl, k - 1, (g (lxE b n a1)).2.1, c1 ++ (g (lxE b n a1)).2.2 ++ [10018], by omega, by omega, by omega, by rw [List.length_append, List.length_append]; show c.length + (c1.length + (g (lxE b n a1)).2.2.length + 1) ≤ _; omega, by rw [← List.append_assoc, ← List.append_assoc]; exact R43, k43 _ T35, by rw [← hres, lpF_s hnz hk1 han1, if_pos g35, hst]⟩⟩ rfl
              · skip
                refine a_ist2 (pc := 38) dX2_either_38 (by decide) rfl ?_
                refine g_aload_n (pc := 39) dX2_either_39 rfl ?_
                refine g_sipush (pc := 40) (v := (nI 10018)) dX2_either_40 (by decide) ?_
                obtain ⟨len, hlen, h3len⟩ := L35.2.2.2
                refine a_cv1v (pc := 43) (c_X2_emit μ_35 t ht6 len hlen L35.2.2.1 h3len (nI 10018)) m_X2_emit ml_X2_43 (by omega) (by first | rfl | assumption) rfl rfl (Nat.le_of_ble_eq_true rfl) dX2_either_43 (fun x_43 μ_43 h_43 => ?_)
                obtain ⟨L43, f43⟩ := L35.emit hlen h3len h_43
                refine a_iinc3 (pc := 46) dX2_either_46 (inc1 i) (by decide) rfl ?_
                refine g_goto (pc := 49) (tgt := 8) dX2_either_49 (by decide) ?_
                exact ih (160 - (i + 1)) (by omega) (i + 1) (by omega) (nI 0) μ_43 ⟨((hν0.trans f30).trans f35).trans f43, Or.inr ⟨rfl, [], by rw [← hres, lpF_s hnz hk1 han1, if_neg (by rw [g35]; simp)], by rw [← hres, lpF_s hnz hk1 han1, if_neg (by rw [g35]; simp)]; exact L43⟩⟩ rfl
    exact lp8 _ 0 (Nat.zero_le _) s μ2 hs rfl
  refine g_aload_n (pc := 0) dX2_either_0 rfl ?_
  refine g_iload_n (pc := 1) dX2_either_1 rfl ?_
  refine a_cv1i (pc := 2) (h1 μ a c hR hT hc) m_X2_both ml_X2_47 (by omega) (by first | rfl | assumption) rfl rfl (Nat.le_of_ble_eq_true rfl) dX2_either_2 (fun x_2 μ_2 h_2 => ?_)
  obtain ⟨f2, ⟨rfl, g2, R2, T2⟩ | ⟨rfl, g2, L2⟩⟩ := h_2
  · skip
    have hg := G1 _ han
    have hg3 := hg.2.2 g2
    refine a_ist2 (pc := 5) dX2_either_5 (by decide) rfl ?_
    refine g_iconst (pc := 6) (v := (nI 0)) dX2_either_6 (by decide) ?_
    refine a_ist3 (pc := 7) dX2_either_7 (by decide) rfl ?_
    exact k8 (nI 1) μ_2 ⟨f2, Or.inl ⟨rfl, n, (g a).2.1, (g a).2.2, by omega, Nat.zero_le _, hg.1, by omega, R2, T2, (if_pos g2).symm⟩⟩
  · skip
    refine a_ist2 (pc := 5) dX2_either_5 (by decide) rfl ?_
    refine g_iconst (pc := 6) (v := (nI 0)) dX2_either_6 (by decide) ?_
    refine a_ist3 (pc := 7) dX2_either_7 (by decide) rfl ?_
    exact k8 (nI 0) μ_2 ⟨f2, Or.inr ⟨rfl, [], by unfold chF; rw [if_neg (by rw [g2]; simp)], by unfold chF; rw [if_neg (by rw [g2]; simp)]; exact L2⟩⟩
