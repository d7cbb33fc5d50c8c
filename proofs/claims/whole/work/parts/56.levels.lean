/-! ===== the reader: comparison, negation, the levels ===== -/
theorem c_X2_comparison (op t n : Nat) (b : Nat → Nat) (hop : op ≤ 5) (g : Nat → PR) (D D1 : Nat) (hD : 8 ≤ D ∧ D1 + 1 ≤ D) (h1 : JP yX2_sum cX2_sum 5 D1 op t n b g) (G1 : GDf n g) (μ : Mem) (a : Nat) (c : List Nat) (hR : RW μ t n b c) (hT : TK μ n b a) (hc : c.length ≤ a) : CA eI yX2_comparison cX2_comparison 4 (some .boolean) D [.ref 33, .int (nI op)] μ (JPost μ t n b c (cmpF n b g a)) := by
  have hn160 := hR.1.2.1
  have ht6 := hR.2.1
  have hTl := lxT_le b n a
  have hE := lxE_in b hT.1
  have han := hT.1
  refine CT.of false (by decide) (by decide) (L := [some (.ref 33), some (.int (nI op)), none, none]) rfl (Nat.le_of_ble_eq_true rfl) ?_
  refine g_aload_n (pc := 0) dX2_comparison_0 rfl ?_
  refine g_iload_n (pc := 1) dX2_comparison_1 rfl ?_
  refine a_cv1i (pc := 2) (h1 μ a c hR hT hc) m_X2_sum ml_X2_56 (by omega) (by first | rfl | assumption) rfl rfl (Nat.le_of_ble_eq_true rfl) dX2_comparison_2 (fun x_2 μ_2 h_2 => ?_)
  obtain ⟨f2, ⟨rfl, g2, R2, T2⟩ | ⟨rfl, g2, L2⟩⟩ := h_2
  · skip
    have hg := G1 _ han
    have hg3 := hg.2.2 g2
    have hT1l := lxT_le b n (g a).2.1
    have hl1 : (c ++ (g a).2.2).length ≤ (g a).2.1 := by
      rw [List.length_append]
      omega
    refine a_ist2 (pc := 5) dX2_comparison_5 (by decide) rfl ?_
    refine g_iload_n (pc := 6) dX2_comparison_6 rfl ?_
    refine g_if_eq (pc := 7) (tgt := 28) dX2_comparison_7 (by decide) (fun c_7 => absurd c_7 (by decide)) (fun c_7 => ?_)
    have k30 : ∀ (h4 : lxT b n (g a).2.1 = 60 ∨ lxT b n (g a).2.1 = 61), WG eI yX2_comparison.cls cX2_comparison 4 (some .boolean) false (fun _ _ => True) D (mpost (JPost μ t n b c (cmpF n b g a))) 0 0 30 [some (.ref 33), some (.int (nI op)), some (.int (nI 1)), none] [] (mk μ_2) := by
      intro h4
      have hgo := lxE_go T2.1 (show ¬ lxT b n (g a).2.1 = 0 by omega)
      have hE1 := lxE_in b T2.1
      have hsp : cmpF n b g a = if (g (lxE b n (g a).2.1)).1 = true then (true, (g (lxE b n (g a).2.1)).2.1, (g a).2.2 ++ (g (lxE b n (g a).2.1)).2.2 ++ [opC (lxT b n (g a).2.1)]) else (false, (g (lxE b n (g a).2.1)).2.1, []) := (if_pos g2).trans (if_pos h4)
      refine g_aload_n (pc := 30) dX2_comparison_30 rfl ?_
      refine v_geti (pc := 31) fl_X2_33 dX2_comparison_31 (by first | rfl | assumption) rfl T2.2.2.2.1 ?_
      refine g_bipush (pc := 34) (v := (nI 60)) dX2_comparison_34 (by decide) ?_
      refine g_icmp_ne (pc := 36) (tgt := 45) dX2_comparison_36 (by decide) (fun c_36 => ?_) (fun c_36 => ?_)
      · have c36 : ¬ lxT b n (g a).2.1 = 60 := fun h => c_36 (by rw [h])
        have hst : opC (lxT b n (g a).2.1) = 10016 := if_neg c36
        refine g_sipush (pc := 45) (v := (nI 10016)) dX2_comparison_45 (by decide) ?_
        refine a_ist3 (pc := 48) dX2_comparison_48 (by decide) rfl ?_
        refine g_aload_n (pc := 49) dX2_comparison_49 rfl ?_
        refine a_cv0v (pc := 50) (c_X2_advance μ_2 n b R2.1 _ (lxE_in b T2.1).2 T2.2.1) m_X2_advance ml_X2_28 (by omega) (by first | rfl | assumption) rfl rfl (Nat.le_of_ble_eq_true rfl) dX2_comparison_50 (fun x_50 μ_50 h_50 => ?_)
        obtain ⟨R50, T50, f50⟩ := R2.adv (lxE_in b T2.1).2 h_50
        refine g_aload_n (pc := 53) dX2_comparison_53 rfl ?_
        refine g_iload_n (pc := 54) dX2_comparison_54 rfl ?_
        refine a_cv1i (pc := 55) (h1 μ_50 _ _ R50 T50 (by omega)) m_X2_sum ml_X2_56 (by omega) (by first | rfl | assumption) rfl rfl (Nat.le_of_ble_eq_true rfl) dX2_comparison_55 (fun x_55 μ_55 h_55 => ?_)
        obtain ⟨f55, ⟨rfl, g55, R55, T55⟩ | ⟨rfl, g55, L55⟩⟩ := h_55
        · skip
          have hg5 := G1 _ hE1.2
          have hg6 := hg5.2.2 g55
          have hl61 : ((c ++ (g a).2.2) ++ (g (lxE b n (g a).2.1)).2.2).length ≤ 160 := by
            rw [List.length_append]
            omega
          have hl61b : ((c ++ (g a).2.2) ++ (g (lxE b n (g a).2.1)).2.2).length < 160 := by
            rw [List.length_append]
            omega
          refine a_ist2 (pc := 58) dX2_comparison_58 (by decide) rfl ?_
          refine g_aload_n (pc := 59) dX2_comparison_59 rfl ?_
          refine g_iload_n (pc := 60) dX2_comparison_60 rfl ?_
          refine a_cv1v (pc := 61) (c_X2_emit μ_55 t R55.2.1 _ hl61 R55.2.2.1 R55.2.2.2.1 (nI 10016)) m_X2_emit ml_X2_43 (by omega) (by first | rfl | assumption) rfl rfl (Nat.le_of_ble_eq_true rfl) dX2_comparison_61 (fun x_61 μ_61 h_61 => ?_)
          obtain ⟨R61, f61, k61⟩ := R55.emit (by omega) h_61
          refine g_iload_n (pc := 64) dX2_comparison_64 rfl ?_
          refine g_ireturn (pc := 65) dX2_comparison_65 rfl (by first | rfl | decide) rfl ⟨_, rfl, ?_⟩
          refine JPost.ok (hsp.trans (if_pos g55)) (((f2.trans f50).trans f55).trans f61) ?_ (k61 _ T55)
          rw [hst, ← List.append_assoc, ← List.append_assoc]
          exact R61
        · skip
          refine a_ist2 (pc := 58) dX2_comparison_58 (by decide) rfl ?_
          refine g_aload_n (pc := 59) dX2_comparison_59 rfl ?_
          refine g_iload_n (pc := 60) dX2_comparison_60 rfl ?_
          obtain ⟨len, hlen, h3len⟩ := L55.2.2.2
          refine a_cv1v (pc := 61) (c_X2_emit μ_55 t ht6 len hlen L55.2.2.1 h3len (nI 10016)) m_X2_emit ml_X2_43 (by omega) (by first | rfl | assumption) rfl rfl (Nat.le_of_ble_eq_true rfl) dX2_comparison_61 (fun x_61 μ_61 h_61 => ?_)
          obtain ⟨L61, f61⟩ := L55.emit hlen h3len h_61
          refine g_iload_n (pc := 64) dX2_comparison_64 rfl ?_
          refine g_ireturn (pc := 65) dX2_comparison_65 rfl (by first | rfl | decide) rfl ⟨_, rfl, ?_⟩
          exact JPost.no (hsp.trans (if_neg (by rw [g55]; simp))) (((f2.trans f50).trans f55).trans f61) L61
      · have c36 : lxT b n (g a).2.1 = 60 := nI_eq' (by omega) (by omega) c_36
        have hst : opC (lxT b n (g a).2.1) = 10015 := if_pos c36
        refine g_sipush (pc := 39) (v := (nI 10015)) dX2_comparison_39 (by decide) ?_
        refine g_goto (pc := 42) (tgt := 48) dX2_comparison_42 (by decide) ?_
        refine a_ist3 (pc := 48) dX2_comparison_48 (by decide) rfl ?_
        refine g_aload_n (pc := 49) dX2_comparison_49 rfl ?_
        refine a_cv0v (pc := 50) (c_X2_advance μ_2 n b R2.1 _ (lxE_in b T2.1).2 T2.2.1) m_X2_advance ml_X2_28 (by omega) (by first | rfl | assumption) rfl rfl (Nat.le_of_ble_eq_true rfl) dX2_comparison_50 (fun x_50 μ_50 h_50 => ?_)
        obtain ⟨R50, T50, f50⟩ := R2.adv (lxE_in b T2.1).2 h_50
        refine g_aload_n (pc := 53) dX2_comparison_53 rfl ?_
        refine g_iload_n (pc := 54) dX2_comparison_54 rfl ?_
        refine a_cv1i (pc := 55) (h1 μ_50 _ _ R50 T50 (by omega)) m_X2_sum ml_X2_56 (by omega) (by first | rfl | assumption) rfl rfl (Nat.le_of_ble_eq_true rfl) dX2_comparison_55 (fun x_55 μ_55 h_55 => ?_)
        obtain ⟨f55, ⟨rfl, g55, R55, T55⟩ | ⟨rfl, g55, L55⟩⟩ := h_55
        · skip
          have hg5 := G1 _ hE1.2
          have hg6 := hg5.2.2 g55
          have hl61 : ((c ++ (g a).2.2) ++ (g (lxE b n (g a).2.1)).2.2).length ≤ 160 := by
            rw [List.length_append]
            omega
          have hl61b : ((c ++ (g a).2.2) ++ (g (lxE b n (g a).2.1)).2.2).length < 160 := by
            rw [List.length_append]
            omega
          refine a_ist2 (pc := 58) dX2_comparison_58 (by decide) rfl ?_
          refine g_aload_n (pc := 59) dX2_comparison_59 rfl ?_
          refine g_iload_n (pc := 60) dX2_comparison_60 rfl ?_
          refine a_cv1v (pc := 61) (c_X2_emit μ_55 t R55.2.1 _ hl61 R55.2.2.1 R55.2.2.2.1 (nI 10015)) m_X2_emit ml_X2_43 (by omega) (by first | rfl | assumption) rfl rfl (Nat.le_of_ble_eq_true rfl) dX2_comparison_61 (fun x_61 μ_61 h_61 => ?_)
          obtain ⟨R61, f61, k61⟩ := R55.emit (by omega) h_61
          refine g_iload_n (pc := 64) dX2_comparison_64 rfl ?_
          refine g_ireturn (pc := 65) dX2_comparison_65 rfl (by first | rfl | decide) rfl ⟨_, rfl, ?_⟩
          refine JPost.ok (hsp.trans (if_pos g55)) (((f2.trans f50).trans f55).trans f61) ?_ (k61 _ T55)
          rw [hst, ← List.append_assoc, ← List.append_assoc]
          exact R61
        · skip
          refine a_ist2 (pc := 58) dX2_comparison_58 (by decide) rfl ?_
          refine g_aload_n (pc := 59) dX2_comparison_59 rfl ?_
          refine g_iload_n (pc := 60) dX2_comparison_60 rfl ?_
          obtain ⟨len, hlen, h3len⟩ := L55.2.2.2
          refine a_cv1v (pc := 61) (c_X2_emit μ_55 t ht6 len hlen L55.2.2.1 h3len (nI 10015)) m_X2_emit ml_X2_43 (by omega) (by first | rfl | assumption) rfl rfl (Nat.le_of_ble_eq_true rfl) dX2_comparison_61 (fun x_61 μ_61 h_61 => ?_)
          obtain ⟨L61, f61⟩ := L55.emit hlen h3len h_61
          refine g_iload_n (pc := 64) dX2_comparison_64 rfl ?_
          refine g_ireturn (pc := 65) dX2_comparison_65 rfl (by first | rfl | decide) rfl ⟨_, rfl, ?_⟩
          exact JPost.no (hsp.trans (if_neg (by rw [g55]; simp))) (((f2.trans f50).trans f55).trans f61) L61
    refine g_aload_n (pc := 10) dX2_comparison_10 rfl ?_
    refine v_geti (pc := 11) fl_X2_33 dX2_comparison_11 (by first | rfl | assumption) rfl T2.2.2.2.1 ?_
    refine g_bipush (pc := 14) (v := (nI 60)) dX2_comparison_14 (by decide) ?_
    refine g_icmp_eq (pc := 16) (tgt := 30) dX2_comparison_16 (by decide) (fun c_16 => ?_) (fun c_16 => ?_)
    · have c16 : lxT b n (g a).2.1 = 60 := nI_eq' (by omega) (by omega) c_16
      exact k30 (by omega)
    · have c16 : ¬ lxT b n (g a).2.1 = 60 := fun h => c_16 (by rw [h])
      refine g_aload_n (pc := 19) dX2_comparison_19 rfl ?_
      refine v_geti (pc := 20) fl_X2_33 dX2_comparison_20 (by first | rfl | assumption) rfl T2.2.2.2.1 ?_
      refine g_bipush (pc := 23) (v := (nI 61)) dX2_comparison_23 (by decide) ?_
      refine g_icmp_eq (pc := 25) (tgt := 30) dX2_comparison_25 (by decide) (fun c_25 => ?_) (fun c_25 => ?_)
      · have c25 : lxT b n (g a).2.1 = 61 := nI_eq' (by omega) (by omega) c_25
        exact k30 (by omega)
      · have c25 : ¬ lxT b n (g a).2.1 = 61 := fun h => c_25 (by rw [h])
        refine g_iload_n (pc := 28) dX2_comparison_28 rfl ?_
        refine g_ireturn (pc := 29) dX2_comparison_29 rfl (by first | rfl | decide) rfl ⟨_, rfl, ?_⟩
        exact JPost.ok ((if_pos g2).trans (if_neg (by omega))) f2 R2 T2
  · skip
    refine a_ist2 (pc := 5) dX2_comparison_5 (by decide) rfl ?_
    refine g_iload_n (pc := 6) dX2_comparison_6 rfl ?_
    refine g_if_eq (pc := 7) (tgt := 28) dX2_comparison_7 (by decide) (fun c_7 => ?_) (fun c_7 => absurd rfl c_7)
    refine g_iload_n (pc := 28) dX2_comparison_28 rfl ?_
    refine g_ireturn (pc := 29) dX2_comparison_29 rfl (by first | rfl | decide) rfl ⟨_, rfl, ?_⟩
    exact JPost.no (if_neg (by rw [g2]; simp)) f2 L2
theorem c_X2_negation (op t n : Nat) (b : Nat → Nat) (hop : op ≤ 5) (n1 g : Nat → PR) (D D1 D2 : Nat) (hD : 8 ≤ D ∧ D1 + 1 ≤ D ∧ D2 + 1 ≤ D) (h1 : op < 5 → JP yX2_negation cX2_negation 3 D1 (op + 1) t n b n1) (h2 : JP yX2_comparison cX2_comparison 4 D2 op t n b g) (G1 : GDf n n1) (μ : Mem) (a : Nat) (c : List Nat) (hR : RW μ t n b c) (hT : TK μ n b a) (hc : c.length ≤ a) : CA eI yX2_negation cX2_negation 3 (some .boolean) D [.ref 33, .int (nI op)] μ (JPost μ t n b c (negF n b (decide (op < 5)) n1 g a)) := by
  have hn160 := hR.1.2.1
  have ht6 := hR.2.1
  have hTl := lxT_le b n a
  have hE := lxE_in b hT.1
  have han := hT.1
  refine CT.of false (by decide) (by decide) (L := [some (.ref 33), some (.int (nI op)), none]) rfl (Nat.le_of_ble_eq_true rfl) ?_
  refine g_aload_n (pc := 0) dX2_negation_0 rfl ?_
  refine v_geti (pc := 1) fl_X2_33 dX2_negation_1 (by first | rfl | assumption) rfl hT.2.2.2.1 ?_
  refine g_sipush (pc := 4) (v := (nI 261)) dX2_negation_4 (by decide) ?_
  refine g_icmp_eq (pc := 7) (tgt := 16) dX2_negation_7 (by decide) (fun c_7 => ?_) (fun c_7 => ?_)
  · have c7 : lxT b n a = 261 := nI_eq' (by omega) (by omega) c_7
    refine g_iload_n (pc := 16) dX2_negation_16 rfl ?_
    refine g_iconst (pc := 17) (v := (nI 5)) dX2_negation_17 (by decide) ?_
    refine g_icmp_lt (pc := 18) (tgt := 23) dX2_negation_18 (by decide) (fun c_18 => ?_) (fun c_18 => ?_)
    · have c18 : op < 5 := nI_lt' (by omega) (by omega) c_18
      have hdp : decide (op < 5) = true := decide_eq_true c18
      have hgo := lxE_go hT.1 (show ¬ lxT b n a = 0 by omega)
      refine g_aload_n (pc := 23) dX2_negation_23 rfl ?_
      refine a_cv0v (pc := 24) (c_X2_advance μ n b hR.1 _ (lxE_in b hT.1).2 hT.2.1) m_X2_advance ml_X2_28 (by omega) (by first | rfl | assumption) rfl rfl (Nat.le_of_ble_eq_true rfl) dX2_negation_24 (fun x_24 μ_24 h_24 => ?_)
      obtain ⟨R24, T24, f24⟩ := hR.adv (lxE_in b hT.1).2 h_24
      refine g_aload_n (pc := 27) dX2_negation_27 rfl ?_
      refine g_iload_n (pc := 28) dX2_negation_28 rfl ?_
      refine g_iconst (pc := 29) (v := (nI 1)) dX2_negation_29 (by decide) ?_
      refine v_iadd (pc := 30) dX2_negation_30 (nI_succ op).symm ?_
      refine a_cv1i (pc := 31) (h1 c18 μ_24 _ c R24 T24 (by omega)) m_X2_negation ml_X2_50 (by omega) (by first | rfl | assumption) rfl rfl (Nat.le_of_ble_eq_true rfl) dX2_negation_31 (fun x_31 μ_31 h_31 => ?_)
      obtain ⟨f31, ⟨rfl, g31, R31, T31⟩ | ⟨rfl, g31, L31⟩⟩ := h_31
      · skip
        have hg := G1 _ hE.2
        have hg3 := hg.2.2 g31
        have hl39 : (c ++ (n1 (lxE b n a)).2.2).length ≤ 160 := by
          rw [List.length_append]
          omega
        have hl39b : (c ++ (n1 (lxE b n a)).2.2).length < 160 := by
          rw [List.length_append]
          omega
        refine a_ist2 (pc := 34) dX2_negation_34 (by decide) rfl ?_
        refine g_aload_n (pc := 35) dX2_negation_35 rfl ?_
        refine g_sipush (pc := 36) (v := (nI 10011)) dX2_negation_36 (by decide) ?_
        refine a_cv1v (pc := 39) (c_X2_emit μ_31 t R31.2.1 _ hl39 R31.2.2.1 R31.2.2.2.1 (nI 10011)) m_X2_emit ml_X2_43 (by omega) (by first | rfl | assumption) rfl rfl (Nat.le_of_ble_eq_true rfl) dX2_negation_39 (fun x_39 μ_39 h_39 => ?_)
        obtain ⟨R39, f39, k39⟩ := R31.emit (by omega) h_39
        refine g_iload_n (pc := 42) dX2_negation_42 rfl ?_
        refine g_ireturn (pc := 43) dX2_negation_43 rfl (by first | rfl | decide) rfl ⟨_, rfl, ?_⟩
        exact JPost.ok (((if_pos c7).trans (if_pos hdp)).trans (if_pos g31)) ((f24.trans f31).trans f39) (List.append_assoc _ _ _ ▸ R39) (k39 _ T31)
      · skip
        refine a_ist2 (pc := 34) dX2_negation_34 (by decide) rfl ?_
        refine g_aload_n (pc := 35) dX2_negation_35 rfl ?_
        refine g_sipush (pc := 36) (v := (nI 10011)) dX2_negation_36 (by decide) ?_
        obtain ⟨len, hlen, h3len⟩ := L31.2.2.2
        refine a_cv1v (pc := 39) (c_X2_emit μ_31 t ht6 len hlen L31.2.2.1 h3len (nI 10011)) m_X2_emit ml_X2_43 (by omega) (by first | rfl | assumption) rfl rfl (Nat.le_of_ble_eq_true rfl) dX2_negation_39 (fun x_39 μ_39 h_39 => ?_)
        obtain ⟨L39, f39⟩ := L31.emit hlen h3len h_39
        refine g_iload_n (pc := 42) dX2_negation_42 rfl ?_
        refine g_ireturn (pc := 43) dX2_negation_43 rfl (by first | rfl | decide) rfl ⟨_, rfl, ?_⟩
        exact JPost.no (((if_pos c7).trans (if_pos hdp)).trans (if_neg (by rw [g31]; simp))) ((f24.trans f31).trans f39) L39
    · have c18 : ¬ op < 5 := Nat.not_lt.mpr (nI_ge' (by omega) (by omega) c_18)
      refine g_iconst (pc := 21) (v := (nI 0)) dX2_negation_21 (by decide) ?_
      refine g_ireturn (pc := 22) dX2_negation_22 rfl (by first | rfl | decide) rfl ⟨_, rfl, ?_⟩
      exact JPost.no ((if_pos c7).trans (if_neg (by rw [decide_eq_false c18]; simp))) (RF.refl _ _) (hR.fl hT (by omega))
  · have c7 : ¬ lxT b n a = 261 := fun h => c_7 (by rw [h])
    refine g_aload_n (pc := 10) dX2_negation_10 rfl ?_
    refine g_iload_n (pc := 11) dX2_negation_11 rfl ?_
    refine a_cv1i (pc := 12) (h2 μ a c hR hT hc) m_X2_comparison ml_X2_53 (by omega) (by first | rfl | assumption) rfl rfl (Nat.le_of_ble_eq_true rfl) dX2_negation_12 (fun x_12 μ_12 h_12 => ?_)
    skip
    refine g_ireturn (pc := 15) dX2_negation_15 rfl (by obtain ⟨-, ⟨h, -⟩ | ⟨h, -⟩⟩ := h_12 <;> (rw [h]; first | rfl | decide)) rfl ⟨_, rfl, ?_⟩
    rw [show negF n b (decide (op < 5)) n1 g a = g a from if_neg c7]
    exact h_12
/-- all reading methods with op open -/
theorem lv_up {op t n : Nat} {b : Nat → Nat} (hop : op ≤ 5) {dp : Bool} (hdp : decide (op < 5) = dp) {o1 n1 e1 : Nat → PR} {X : Nat} (hX : 8 ≤ X) (ho : op < 5 → JP yX2_one cX2_one 3 (X - 7) (op + 1) t n b o1) (hn : op < 5 → JP yX2_negation cX2_negation 3 (X - 3) (op + 1) t n b n1) (he : op < 5 → JP yX2_either cX2_either 4 (X - 1) (op + 1) t n b e1) (G1 : GDf n o1) (G2 : GDf n n1) (G3 : GDf n e1) :
    JP yX2_one cX2_one 3 X op t n b (oneF n b dp o1 e1) ∧ JP yX2_negation cX2_negation 3 (X + 4) op t n b (negF n b dp n1 (cmpF n b (chF n b opA (chF n b opM (oneF n b dp o1 e1))))) ∧ JP yX2_either cX2_either 4 (X + 6) op t n b (chF n b opO (chF n b opN (negF n b dp n1 (cmpF n b (chF n b opA (chF n b opM (oneF n b dp o1 e1))))))) := by
  subst hdp
  have j1 : JP yX2_one cX2_one 3 X op t n b (oneF n b (decide (op < 5)) o1 e1) := fun μ a c hR hT hc => c_X2_one op t n b hop o1 e1 X (X - 7) (X - 1) (by omega) ho he G1 G3 μ a c hR hT hc
  have g1 := oneF_gd (b := b) (dp := decide (op < 5)) G1 G3
  have j2 : JP yX2_term cX2_term 4 (X + 1) op t n b (chF n b opM (oneF n b (decide (op < 5)) o1 e1)) := fun μ a c hR hT hc => c_X2_term op t n b hop _ (X + 1) X (by omega) j1 g1 μ a c hR hT hc
  have g2 : GDf n (chF n b opM (oneF n b (decide (op < 5)) o1 e1)) := chF_gd rfl g1
  have j3 : JP yX2_sum cX2_sum 5 (X + 2) op t n b (chF n b opA (chF n b opM (oneF n b (decide (op < 5)) o1 e1))) := fun μ a c hR hT hc => c_X2_sum op t n b hop _ (X + 2) (X + 1) (by omega) j2 g2 μ a c hR hT hc
  have g3 : GDf n (chF n b opA (chF n b opM (oneF n b (decide (op < 5)) o1 e1))) := chF_gd rfl g2
  have j4 : JP yX2_comparison cX2_comparison 4 (X + 3) op t n b (cmpF n b (chF n b opA (chF n b opM (oneF n b (decide (op < 5)) o1 e1)))) := fun μ a c hR hT hc => c_X2_comparison op t n b hop _ (X + 3) (X + 2) (by omega) j3 g3 μ a c hR hT hc
  have g4 := cmpF_gd (b := b) g3
  have j5 : JP yX2_negation cX2_negation 3 (X + 4) op t n b (negF n b (decide (op < 5)) n1 (cmpF n b (chF n b opA (chF n b opM (oneF n b (decide (op < 5)) o1 e1))))) := fun μ a c hR hT hc => c_X2_negation op t n b hop n1 _ (X + 4) (X - 3) (X + 3) (by omega) hn j4 G2 μ a c hR hT hc
  have g5 := negF_gd (b := b) (dp := decide (op < 5)) G2 g4
  have j6 : JP yX2_both cX2_both 4 (X + 5) op t n b (chF n b opN (negF n b (decide (op < 5)) n1 (cmpF n b (chF n b opA (chF n b opM (oneF n b (decide (op < 5)) o1 e1)))))) := fun μ a c hR hT hc => c_X2_both op t n b hop _ (X + 5) (X + 4) (by omega) j5 g5 μ a c hR hT hc
  have g6 : GDf n (chF n b opN (negF n b (decide (op < 5)) n1 (cmpF n b (chF n b opA (chF n b opM (oneF n b (decide (op < 5)) o1 e1)))))) := chF_gd rfl g5
  exact ⟨j1, j5, fun μ a c hR hT hc => c_X2_either op t n b hop _ (X + 6) (X + 5) (by omega) j6 g6 μ a c hR hT hc⟩
theorem lv_all (t n : Nat) (b : Nat → Nat) : ∀ (d op : Nat), op + d = 5 → JP yX2_one cX2_one 3 (8 + 7 * d) op t n b (lvF n b d).1 ∧ JP yX2_negation cX2_negation 3 (8 + 7 * d + 4) op t n b (lvF n b d).2.1 ∧ JP yX2_either cX2_either 4 (8 + 7 * d + 6) op t n b (lvF n b d).2.2
  | 0, op, h => lv_up (by omega) (decide_eq_false (by omega)) (by omega) (fun q => absurd q (by omega)) (fun q => absurd q (by omega)) (fun q => absurd q (by omega)) (bad_gd n) (bad_gd n) (bad_gd n)
  | d + 1, op, h => by
    obtain ⟨h1, h2, h3⟩ := lv_all t n b d (op + 1) (by omega)
    obtain ⟨g1, g2, g3⟩ := lvF_gd n b d
    exact lv_up (by omega) (decide_eq_true (by omega)) (by omega) (fun _ => (show 8 + 7 * (d + 1) - 7 = 8 + 7 * d by omega) ▸ h1) (fun _ => (show 8 + 7 * (d + 1) - 3 = 8 + 7 * d + 4 by omega) ▸ h2) (fun _ => (show 8 + 7 * (d + 1) - 1 = 8 + 7 * d + 6 by omega) ▸ h3) g1 g2 g3
