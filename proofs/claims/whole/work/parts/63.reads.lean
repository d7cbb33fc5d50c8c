/-! ===== the model: a text read through ===== -/
theorem lm_up {op f n : Nat} {b : Nat → Nat} {nm : Nat → Int32} (hop : op ≤ 5) {dp : Bool} (hdp : decide (op < 5) = dp) {o1 n1 e1 : Nat → PR} {X : Nat} (hX : 4 ≤ X) (ho : op < 5 → MP yX8_atom cX8_atom 2 (X - 6) (op + 1) f n b nm o1) (hn : op < 5 → MP yX8_not cX8_not 4 (X - 3) (op + 1) f n b nm n1) (he : op < 5 → MP yX8_either cX8_either 3 (X - 1) (op + 1) f n b nm e1) (G1 : GDf n o1) (G2 : GDf n n1) (G3 : GDf n e1) (S1 : SMf o1) (S2 : SMf n1) (S3 : SMf e1) :
    MP yX8_atom cX8_atom 2 X op f n b nm (oneF n b dp o1 e1) ∧ MP yX8_not cX8_not 4 (X + 3) op f n b nm (negF n b dp n1 (cmpF n b (chF n b opA (chF n b opM (oneF n b dp o1 e1))))) ∧ MP yX8_either cX8_either 3 (X + 5) op f n b nm (chF n b opO (chF n b opN (negF n b dp n1 (cmpF n b (chF n b opA (chF n b opM (oneF n b dp o1 e1))))))) := by
  subst hdp
  have j1 : MP yX8_atom cX8_atom 2 X op f n b nm (oneF n b (decide (op < 5)) o1 e1) := fun μ a hM => c_X8_atom op f n b nm hop o1 e1 X (X - 6) (X - 1) (by omega) ho he S1 μ a hM
  have g1 := oneF_gd (b := b) (dp := decide (op < 5)) G1 G3
  have s1 := oneF_sm (n := n) (b := b) (dp := decide (op < 5)) S1 S3
  have j2 : MP yX8_term cX8_term 2 (X + 1) op f n b nm (chF n b opM (oneF n b (decide (op < 5)) o1 e1)) := fun μ a hM => c_X8_term op f n b nm hop _ (X + 1) X (by omega) j1 g1 s1 μ a hM
  have g2 : GDf n (chF n b opM (oneF n b (decide (op < 5)) o1 e1)) := chF_gd rfl g1
  have s2 : SMf (chF n b opM (oneF n b (decide (op < 5)) o1 e1)) := chF_sm opM_o s1
  have j3 : MP yX8_added cX8_added 4 (X + 2) op f n b nm (chF n b opA (chF n b opM (oneF n b (decide (op < 5)) o1 e1))) := fun μ a hM => c_X8_added op f n b nm hop _ (X + 2) (X + 1) (by omega) j2 g2 s2 μ a hM
  have g3 : GDf n (chF n b opA (chF n b opM (oneF n b (decide (op < 5)) o1 e1))) := chF_gd rfl g2
  have s3 : SMf (chF n b opA (chF n b opM (oneF n b (decide (op < 5)) o1 e1))) := chF_sm opA_o s2
  have j4 : MP yX8_not cX8_not 4 (X + 3) op f n b nm (negF n b (decide (op < 5)) n1 (cmpF n b (chF n b opA (chF n b opM (oneF n b (decide (op < 5)) o1 e1))))) := fun μ a hM => c_X8_not op f n b nm hop n1 _ (X + 3) (X - 3) (X + 2) (by omega) hn j3 S2 s3 μ a hM
  have g4 : GDf n (negF n b (decide (op < 5)) n1 (cmpF n b (chF n b opA (chF n b opM (oneF n b (decide (op < 5)) o1 e1))))) := negF_gd G2 (cmpF_gd g3)
  have s4 : SMf (negF n b (decide (op < 5)) n1 (cmpF n b (chF n b opA (chF n b opM (oneF n b (decide (op < 5)) o1 e1))))) := negF_sm S2 (cmpF_sm s3)
  have j5 : MP yX8_both cX8_both 3 (X + 4) op f n b nm (chF n b opN (negF n b (decide (op < 5)) n1 (cmpF n b (chF n b opA (chF n b opM (oneF n b (decide (op < 5)) o1 e1)))))) := fun μ a hM => c_X8_both op f n b nm hop _ (X + 4) (X + 3) (by omega) j4 g4 s4 μ a hM
  have g5 : GDf n (chF n b opN (negF n b (decide (op < 5)) n1 (cmpF n b (chF n b opA (chF n b opM (oneF n b (decide (op < 5)) o1 e1)))))) := chF_gd rfl g4
  have s5 : SMf (chF n b opN (negF n b (decide (op < 5)) n1 (cmpF n b (chF n b opA (chF n b opM (oneF n b (decide (op < 5)) o1 e1)))))) := chF_sm opN_o s4
  exact ⟨j1, j4, fun μ a hM => c_X8_either op f n b nm hop _ (X + 5) (X + 4) (by omega) j5 g5 s5 μ a hM⟩
theorem lm_all (f n : Nat) (b : Nat → Nat) (nm : Nat → Int32) : ∀ (d op : Nat), op + d = 5 → MP yX8_atom cX8_atom 2 (4 + 6 * d) op f n b nm (lvF n b d).1 ∧ MP yX8_not cX8_not 4 (4 + 6 * d + 3) op f n b nm (lvF n b d).2.1 ∧ MP yX8_either cX8_either 3 (4 + 6 * d + 5) op f n b nm (lvF n b d).2.2
  | 0, op, h => lm_up (by omega) (decide_eq_false (by omega)) (by omega) (fun q => absurd q (by omega)) (fun q => absurd q (by omega)) (fun q => absurd q (by omega)) (bad_gd n) (bad_gd n) (bad_gd n) bad_sm bad_sm bad_sm
  | d + 1, op, h => by
    obtain ⟨h1, h2, h3⟩ := lm_all f n b nm d (op + 1) (by omega)
    obtain ⟨g1, g2, g3⟩ := lvF_gd n b d
    obtain ⟨s1, s2, s3⟩ := lvF_sm n b d
    exact lm_up (by omega) (decide_eq_true (by omega)) (by omega) (fun _ => (show 4 + 6 * (d + 1) - 6 = 4 + 6 * d by omega) ▸ h1) (fun _ => (show 4 + 6 * (d + 1) - 3 = 4 + 6 * d + 3 by omega) ▸ h2) (fun _ => (show 4 + 6 * (d + 1) - 1 = 4 + 6 * d + 5 by omega) ▸ h3) g1 g2 g3 s1 s2 s3
theorem c_X8_part_ (f n : Nat) (b : Nat → Nat) (nm : Nat → Int32) (i : Nat) (hi : i < 3) (k : Int32) (μ : Mem) (a : Nat) (hk : (k = nI 1 ∧ lxT b n a = 256 + i) ∨ (k = nI 0 ∧ ¬ lxT b n a = 256 + i)) (hM : MSg μ f n b nm 0 a) : CA eI yX8_part_ cX8_part_ 3 (some .int) 40 [.ref 57, .int k] μ (GPost μ f n b nm 0 (exF n b i a)) := by
  obtain ⟨hT, han, ⟨k1, k2, k3, k4, k5⟩, k24, k25, knm⟩ := id hM
  have h160 := hT.2.2.2.1
  have hP := lxP_in b han
  have hE := lxE_in b han
  have hTl := lxT_le b n a
  refine CT.of false (by decide) (by decide) (L := [some (.ref 57), some (.int k), none]) rfl (Nat.le_of_ble_eq_true rfl) ?_
  refine g_iload_n (pc := 0) dX8_part__0 rfl ?_
  refine g_if_ne (pc := 1) (tgt := 8) dX8_part__1 (by decide) (fun c_1 => ?_) (fun c_1 => ?_)
  · have c1 : lxT b n a = 256 + i := by
      rcases hk with h | h
      · exact h.2
      · exact absurd h.1 c_1
    have h4 := tk4n (b := b) (n := n) (a := a) (by omega)
    have hx1 : exF n b i a = if (eiF n b (lxE b n a)).1 = true ∧ lxT b n (eiF n b (lxE b n a)).2.1 = 59 then (true, lxE b n (eiF n b (lxE b n a)).2.1, (eiF n b (lxE b n a)).2.2) else (false, (eiF n b (lxE b n a)).2.1, []) := if_pos c1
    refine g_aload_n (pc := 8) dX8_part__8 rfl ?_
    refine v_getz (pc := 9) fl_X8_157 dX8_part__9 (by first | rfl | assumption) rfl k25 ?_
    refine g_if_ne (pc := 12) (tgt := 19) dX8_part__12 (by decide) (fun c_12 => absurd rfl c_12) (fun c_12 => ?_)
    refine g_aload_n (pc := 15) dX8_part__15 rfl ?_
    refine a_cv0v (pc := 16) (c_X8_next μ f n b hM.1 _ (lxE_in b hM.2.1).2 (hM.2.2.1.1 h4)) m_X8_next ml_X8_174 (by omega) (by first | rfl | assumption) rfl rfl (Nat.le_of_ble_eq_true rfl) dX8_part__16 (fun x_16 μ_16 h_16 => ?_)
    obtain ⟨m16, f16⟩ := hM.nx (lxE_in b hM.2.1).2 h_16
    refine g_aload_n (pc := 19) dX8_part__19 rfl ?_
    refine v_getz (pc := 20) fl_X8_157 dX8_part__20 (by first | rfl | assumption) rfl m16.2.2.2.2.1 ?_
    refine g_if_eq (pc := 23) (tgt := 30) dX8_part__23 (by decide) (fun c_23 => ?_) (fun c_23 => absurd rfl c_23)
    refine g_aload_n (pc := 30) dX8_part__30 rfl ?_
    refine a_cv0i (pc := 31) ((lm_all f n b nm 5 0 rfl).2.2 μ_16 _ m16) m_X8_either ml_X8_210 (by omega) (by first | rfl | assumption) rfl rfl (Nat.le_of_ble_eq_true rfl) dX8_part__31 (fun x_31 μ_31 h_31 => ?_)
    obtain ⟨f31, ⟨g31, rfl, m31⟩ | ⟨g31, b31⟩⟩ := h_31
    · have g31 : (eiF n b (lxE b n a)).1 = true := g31
      have m31 : MSg μ_31 f n b nm 0 (eiF n b (lxE b n a)).2.1 := m31
      have hTl2 := lxT_le b n (eiF n b (lxE b n a)).2.1
      refine a_ist2 (pc := 34) dX8_part__34 (by decide) rfl ?_
      refine g_aload_n (pc := 35) dX8_part__35 rfl ?_
      refine g_bipush (pc := 36) (v := (nI 59)) dX8_part__36 (by decide) ?_
      refine a_cv1i (pc := 38) (c_X8_isSign μ_31 f n b nm 0 _ m31 59 (by decide)) m_X8_isSign ml_X8_199 (by omega) (by first | rfl | assumption) rfl rfl (Nat.le_of_ble_eq_true rfl) dX8_part__38 (fun x_38 μ_38 h_38 => ?_)
      obtain ⟨hm_38, hd_38⟩ := h_38
      have hm_38 := hm_38.symm
      subst hm_38
      refine g_if_ne (pc := 41) (tgt := 48) dX8_part__41 (by decide) (fun c_41 => ?_) (fun c_41 => ?_)
      · have c41 := (hd_38.resolve_right (fun q => c_41 q.1)).2
        have h4b := tk4n (b := b) (n := n) (a := (eiF n b (lxE b n a)).2.1) (by omega)
        refine g_aload_n (pc := 48) dX8_part__48 rfl ?_
        refine v_getz (pc := 49) fl_X8_157 dX8_part__49 (by first | rfl | assumption) rfl m31.2.2.2.2.1 ?_
        refine g_if_ne (pc := 52) (tgt := 59) dX8_part__52 (by decide) (fun c_52 => absurd rfl c_52) (fun c_52 => ?_)
        refine g_aload_n (pc := 55) dX8_part__55 rfl ?_
        refine a_cv0v (pc := 56) (c_X8_next μ_31 f n b m31.1 _ (lxE_in b m31.2.1).2 (m31.2.2.1.1 h4b)) m_X8_next ml_X8_174 (by omega) (by first | rfl | assumption) rfl rfl (Nat.le_of_ble_eq_true rfl) dX8_part__56 (fun x_56 μ_56 h_56 => ?_)
        obtain ⟨m56, f56⟩ := m31.nx (lxE_in b m31.2.1).2 h_56
        refine g_iload_n (pc := 59) dX8_part__59 rfl ?_
        refine g_ireturn (pc := 60) dX8_part__60 rfl (by first | rfl | decide) rfl ⟨_, rfl, ?_⟩
        exact GPost.ok (hx1.trans (if_pos ⟨g31, c41⟩)) ((f16.trans f31).trans f56) rfl m56
      · have c41 := (hd_38.resolve_left (fun q => absurd (q.1.symm.trans c_41) (by decide))).2
        refine g_aload_n (pc := 44) dX8_part__44 rfl ?_
        refine a_cv0v (pc := 45) (c_X8_fail μ_31 f n b nm 0 _ m31) m_X8_fail ml_X8_171 (by omega) (by first | rfl | assumption) rfl rfl (Nat.le_of_ble_eq_true rfl) dX8_part__45 (fun x_45 μ_45 h_45 => ?_)
        obtain ⟨b45, f45⟩ := h_45
        refine g_aload_n (pc := 48) dX8_part__48 rfl ?_
        refine v_getz (pc := 49) fl_X8_157 dX8_part__49 (by first | rfl | assumption) rfl b45.1 ?_
        refine g_if_ne (pc := 52) (tgt := 59) dX8_part__52 (by decide) (fun c_52 => ?_) (fun c_52 => absurd c_52 (by decide))
        refine g_iload_n (pc := 59) dX8_part__59 rfl ?_
        refine g_ireturn (pc := 60) dX8_part__60 rfl (by first | rfl | decide) rfl ⟨_, rfl, ?_⟩
        exact GPost.no (hx1.trans (if_neg (fun q => c41 q.2))) ((f16.trans f31).trans f45) b45
    · have g31 : (eiF n b (lxE b n a)).1 = false := g31
      have b31 : MB μ_31 n b (eiF n b (lxE b n a)).2.1 := b31
      refine a_ist2 (pc := 34) dX8_part__34 (by decide) rfl ?_
      refine g_aload_n (pc := 35) dX8_part__35 rfl ?_
      refine g_bipush (pc := 36) (v := (nI 59)) dX8_part__36 (by decide) ?_
      refine a_cv1i (pc := 38) (c_X8_isSignB μ_31 b31.1 _) m_X8_isSign ml_X8_199 (by omega) (by first | rfl | assumption) rfl rfl (Nat.le_of_ble_eq_true rfl) dX8_part__38 (fun x_38 μ_38 h_38 => ?_)
      obtain ⟨rfl, hm_38⟩ := h_38
      have hm_38 := hm_38.symm
      subst hm_38
      refine g_if_ne (pc := 41) (tgt := 48) dX8_part__41 (by decide) (fun c_41 => absurd rfl c_41) (fun c_41 => ?_)
      refine g_aload_n (pc := 44) dX8_part__44 rfl ?_
      refine a_cv0v (pc := 45) (c_X8_failB μ_31 b31.1) m_X8_fail ml_X8_171 (by omega) (by first | rfl | assumption) rfl rfl (Nat.le_of_ble_eq_true rfl) dX8_part__45 (fun x_45 μ_45 h_45 => ?_)
      have hm_45 := (show μ_45 = _ from h_45).symm
      subst hm_45
      refine g_aload_n (pc := 48) dX8_part__48 rfl ?_
      refine v_getz (pc := 49) fl_X8_157 dX8_part__49 (by first | rfl | assumption) rfl b31.1 ?_
      refine g_if_ne (pc := 52) (tgt := 59) dX8_part__52 (by decide) (fun c_52 => ?_) (fun c_52 => absurd c_52 (by decide))
      refine g_iload_n (pc := 59) dX8_part__59 rfl ?_
      refine g_ireturn (pc := 60) dX8_part__60 rfl (by first | rfl | decide) rfl ⟨_, rfl, ?_⟩
      exact GPost.no (hx1.trans (if_neg (fun q => by rw [g31] at q; exact absurd q.1 (by simp)))) (f16.trans f31) b31
  · have c1 : ¬ lxT b n a = 256 + i := by
      rcases hk with h | h
      · rw [h.1] at c_1
        exact absurd c_1 (by decide)
      · exact h.2
    refine g_aload_n (pc := 4) dX8_part__4 rfl ?_
    refine a_cv0v (pc := 5) (c_X8_fail μ f n b nm 0 a hM) m_X8_fail ml_X8_171 (by omega) (by first | rfl | assumption) rfl rfl (Nat.le_of_ble_eq_true rfl) dX8_part__5 (fun x_5 μ_5 h_5 => ?_)
    obtain ⟨b5, f5⟩ := h_5
    refine g_aload_n (pc := 8) dX8_part__8 rfl ?_
    refine v_getz (pc := 9) fl_X8_157 dX8_part__9 (by first | rfl | assumption) rfl b5.1 ?_
    refine g_if_ne (pc := 12) (tgt := 19) dX8_part__12 (by decide) (fun c_12 => ?_) (fun c_12 => absurd c_12 (by decide))
    refine g_aload_n (pc := 19) dX8_part__19 rfl ?_
    refine v_getz (pc := 20) fl_X8_157 dX8_part__20 (by first | rfl | assumption) rfl b5.1 ?_
    refine g_if_eq (pc := 23) (tgt := 30) dX8_part__23 (by decide) (fun c_23 => absurd c_23 (by decide)) (fun c_23 => ?_)
    refine g_iconst (pc := 26) (v := (nI 0)) dX8_part__26 (by decide) ?_
    refine g_goto (pc := 27) (tgt := 34) dX8_part__27 (by decide) ?_
    refine a_ist2 (pc := 34) dX8_part__34 (by decide) rfl ?_
    refine g_aload_n (pc := 35) dX8_part__35 rfl ?_
    refine g_bipush (pc := 36) (v := (nI 59)) dX8_part__36 (by decide) ?_
    refine a_cv1i (pc := 38) (c_X8_isSignB μ_5 b5.1 _) m_X8_isSign ml_X8_199 (by omega) (by first | rfl | assumption) rfl rfl (Nat.le_of_ble_eq_true rfl) dX8_part__38 (fun x_38 μ_38 h_38 => ?_)
    obtain ⟨rfl, hm_38⟩ := h_38
    have hm_38 := hm_38.symm
    subst hm_38
    refine g_if_ne (pc := 41) (tgt := 48) dX8_part__41 (by decide) (fun c_41 => absurd rfl c_41) (fun c_41 => ?_)
    refine g_aload_n (pc := 44) dX8_part__44 rfl ?_
    refine a_cv0v (pc := 45) (c_X8_failB μ_5 b5.1) m_X8_fail ml_X8_171 (by omega) (by first | rfl | assumption) rfl rfl (Nat.le_of_ble_eq_true rfl) dX8_part__45 (fun x_45 μ_45 h_45 => ?_)
    have hm_45 := (show μ_45 = _ from h_45).symm
    subst hm_45
    refine g_aload_n (pc := 48) dX8_part__48 rfl ?_
    refine v_getz (pc := 49) fl_X8_157 dX8_part__49 (by first | rfl | assumption) rfl b5.1 ?_
    refine g_if_ne (pc := 52) (tgt := 59) dX8_part__52 (by decide) (fun c_52 => ?_) (fun c_52 => absurd c_52 (by decide))
    refine g_iload_n (pc := 59) dX8_part__59 rfl ?_
    refine g_ireturn (pc := 60) dX8_part__60 rfl (by first | rfl | decide) rfl ⟨_, rfl, ?_⟩
    exact GPost.no (if_neg c1) f5 b5
theorem MSg.start {μ μ1 : Mem} {f n : Nat} {b : Nat → Nat} {nm : Nat → Int32} (h : TXm μ f n b) (h24 : μ 57 24 = nI 0) (h25 : μ 57 25 = nI 0) (hn : ∀ j, j < 6 → μ 57 (12 + j) = nm j) (g : NX μ μ1 n b 0) : MSg μ1 f n b nm 0 0 ∧ MF μ μ1 := by
  obtain ⟨g1, g2, g3, g4, g5, g6, g7⟩ := g
  exact ⟨⟨h.moved (g2 18 (by omega)) (g2 19 (by omega)) (g1 58 (by omega)), Nat.zero_le _, ⟨g3, g4, g5, g6, g7⟩, (g2 24 (by omega)).trans h24, (g2 25 (by omega)).trans h25, fun j hj => (g2 (12 + j) (by omega)).trans (hn j hj)⟩, g1, fun j hj => g2 j (by omega)⟩
/-- what reading a text has done -/
def RQ (μ μ1 : Mem) (n : Nat) (b : Nat → Nat) (nm : Nat → Int32) (x0 x1 x2 : Int32) : Prop := (∀ k, k ≠ 57 → μ1 k = μ k) ∧ (∀ j, j < 18 ∨ 26 < j → μ1 57 j = μ 57 j) ∧ ((rdOK n b ∧ μ1 57 25 = nI 0 ∧ x0 = vl nm (rdC n b 0) ∧ x1 = vl nm (rdC n b 1) ∧ x2 = vl nm (rdC n b 2)) ∨ (¬ rdOK n b ∧ μ1 57 25 = nI 1 ∧ μ1 57 26 = nI (rdP n b)))
theorem RQ.no {μ μ0 μ1 : Mem} {n : Nat} {b : Nat → Nat} {nm : Nat → Int32} {x0 x1 x2 : Int32} {i a1 : Nat} {c1 : List Nat} (hf : (∀ k, k ≠ 57 → μ0 k = μ k) ∧ (∀ j, j < 18 ∨ 26 < j → μ0 57 j = μ 57 j)) (hm : MF μ0 μ1) (hi : i < 3) (h0 : (rdS n b i).1 = true) (h : exF n b i (rdS n b i).2 = (false, a1, c1)) (hb : MB μ1 n b a1) : RQ μ μ1 n b nm x0 x1 x2 := by
  obtain ⟨n1, n2⟩ := rdS_f hi h0 h
  exact ⟨fun k hk => (hm.1 k hk).trans (hf.1 k hk), fun j hj => (hm.2 j (by omega)).trans (hf.2 j hj), Or.inr ⟨n1, hb.1, by rw [n2]; exact hb.2⟩⟩
theorem exF_eta {n : Nat} {b : Nat → Nat} {i a : Nat} (h : (exF n b i a).1 = false) : exF n b i a = (false, (exF n b i a).2.1, (exF n b i a).2.2) := by rw [← h]
theorem rdS_s {n : Nat} {b : Nat → Nat} {i : Nat} (h0 : (rdS n b i).1 = true) (h : (exF n b i (rdS n b i).2).1 = true) : (rdS n b (i + 1)).1 = true ∧ (rdS n b (i + 1)).2 = (exF n b i (rdS n b i).2).2.1 := by
  rw [rdS, if_pos h0]
  exact ⟨h, rfl⟩
theorem c_X8_read (t n : Nat) (ht : t < 6) (b : Nat → Nat) (nm : Nat → Int32) (wh : Nat) (hwh : wh < 3) (μ : Mem) (hsz : μ 59 t = nI n) (hn : n ≤ 160) (hbt : ∀ j, j < n → μ 58 (160 * t + j) = nI (b j) ∧ b j ≤ 255) (hnm : ∀ j, j < 6 → μ 57 (12 + j) = nm j) : CA eI yX8_read cX8_read 6 (some .int) 41 [.ref 57, .int (nI t), .int (nI wh)] μ (fun r μ1 => (∀ k, k ≠ 57 → μ1 k = μ k) ∧ (∀ j, j < 18 ∨ 26 < j → μ1 57 j = μ 57 j) ∧ ((rdOK n b ∧ μ1 57 25 = nI 0 ∧ r = vl nm (rdC n b wh)) ∨ (¬ rdOK n b ∧ μ1 57 25 = nI 1 ∧ μ1 57 26 = nI (rdP n b)))) := by
  refine CT.of false (by decide) (by decide) (L := [some (.ref 57), some (.int (nI t)), some (.int (nI wh)), none, none, none]) rfl (Nat.le_of_ble_eq_true rfl) ?_
  have k149 : ∀ (x3 x4 x5 : Int32) (ν : Mem) (hν : RQ μ ν n b nm x3 x4 x5), WG eI yX8_read.cls cX8_read 6 (some .int) false (fun _ _ => True) 41 (mpost (fun r μ1 => (∀ k, k ≠ 57 → μ1 k = μ k) ∧ (∀ j, j < 18 ∨ 26 < j → μ1 57 j = μ 57 j) ∧ ((rdOK n b ∧ μ1 57 25 = nI 0 ∧ r = vl nm (rdC n b wh)) ∨ (¬ rdOK n b ∧ μ1 57 25 = nI 1 ∧ μ1 57 26 = nI (rdP n b))))) 0 0 149 [some (.ref 57), some (.int (nI t)), some (.int (nI wh)), some (.int x3), some (.int x4), some (.int x5)] [] (mk ν) := by
    intro x3 x4 x5 ν hν
    refine g_iload_n (pc := 149) dX8_read_149 rfl ?_
    refine g_if_ne (pc := 150) (tgt := 157) dX8_read_150 (by decide) (fun c_150 => ?_) (fun c_150 => ?_)
    · have c150 : ¬ wh = 0 := fun h => c_150 (by rw [h]; rfl)
      refine g_iload_n (pc := 157) dX8_read_157 rfl ?_
      refine g_iconst (pc := 158) (v := (nI 1)) dX8_read_158 (by decide) ?_
      refine g_icmp_ne (pc := 159) (tgt := 167) dX8_read_159 (by decide) (fun c_159 => ?_) (fun c_159 => ?_)
      · have c159 : ¬ wh = 1 := fun h => c_159 (by rw [h])
        have c2 : wh = 2 := by omega
        refine g_iload (pc := 167) dX8_read_167 rfl ?_
        refine g_ireturn (pc := 169) dX8_read_169 rfl (by first | rfl | decide) rfl ⟨_, rfl, ?_⟩
        obtain ⟨q1, q2, q3⟩ := hν
        refine ⟨q1, q2, ?_⟩
        rcases q3 with ⟨q4, q5, q6, q7, q8⟩ | q3
        · refine Or.inl ⟨q4, q5, ?_⟩
          first | (rw [c150]; exact q6) | (rw [c159]; exact q7) | (rw [c2]; exact q8)
        · exact Or.inr q3
      · have c159 : wh = 1 := nI_eq' (by omega) (by omega) c_159
        refine g_iload (pc := 162) dX8_read_162 rfl ?_
        refine g_goto (pc := 164) (tgt := 169) dX8_read_164 (by decide) ?_
        refine g_ireturn (pc := 169) dX8_read_169 rfl (by first | rfl | decide) rfl ⟨_, rfl, ?_⟩
        obtain ⟨q1, q2, q3⟩ := hν
        refine ⟨q1, q2, ?_⟩
        rcases q3 with ⟨q4, q5, q6, q7, q8⟩ | q3
        · refine Or.inl ⟨q4, q5, ?_⟩
          first | (rw [c150]; exact q6) | (rw [c159]; exact q7) | (rw [c2]; exact q8)
        · exact Or.inr q3
    · have c150 : wh = 0 := nI_eq' (b := 0) (by omega) (by omega) c_150
      refine g_iload_n (pc := 153) dX8_read_153 rfl ?_
      refine g_goto (pc := 154) (tgt := 169) dX8_read_154 (by decide) ?_
      refine g_ireturn (pc := 169) dX8_read_169 rfl (by first | rfl | decide) rfl ⟨_, rfl, ?_⟩
      obtain ⟨q1, q2, q3⟩ := hν
      refine ⟨q1, q2, ?_⟩
      rcases q3 with ⟨q4, q5, q6, q7, q8⟩ | q3
      · refine Or.inl ⟨q4, q5, ?_⟩
        first | (rw [c150]; exact q6) | (rw [c159]; exact q7) | (rw [c2]; exact q8)
      · exact Or.inr q3
  refine g_aload_n (pc := 0) dX8_read_0 rfl ?_
  refine g_sipush (pc := 1) (v := (nI 160)) dX8_read_1 (by decide) ?_
  refine g_iload_n (pc := 4) dX8_read_4 rfl ?_
  refine v_imul (pc := 5) dX8_read_5 (pk_mul 160 t) ?_
  refine a_puti (pc := 6) fw_X8_128 dX8_read_6 (by first | rfl | assumption) rfl ?_
  refine g_aload_n (pc := 9) dX8_read_9 rfl ?_
  refine g_aload_n (pc := 10) dX8_read_10 rfl ?_
  refine a_getr (pc := 11) (q := 59) fl_X8_17 dX8_read_11 (by first | rfl | assumption) rfl rfl ?_
  refine g_iload_n (pc := 14) dX8_read_14 rfl ?_
  refine v_iald (pc := 15) dX8_read_15 (by first | rfl | assumption) rfl (by omega) ((congrFun (mset_ne (by omega)) t).trans hsz) ?_
  refine a_puti (pc := 16) fw_X8_125 dX8_read_16 (by first | rfl | assumption) rfl ?_
  refine g_aload_n (pc := 19) dX8_read_19 rfl ?_
  refine g_iconst (pc := 20) (v := (nI 0)) dX8_read_20 (by decide) ?_
  refine a_puti (pc := 21) fw_X8_131 dX8_read_21 (by first | rfl | assumption) rfl ?_
  refine g_aload_n (pc := 24) dX8_read_24 rfl ?_
  refine g_iconst (pc := 25) (v := (nI 0)) dX8_read_25 (by decide) ?_
  refine a_puti (pc := 26) fw_X8_168 dX8_read_26 (by first | rfl | assumption) rfl ?_
  refine g_aload_n (pc := 29) dX8_read_29 rfl ?_
  refine g_iconst (pc := 30) (v := (nI 0)) dX8_read_30 (by decide) ?_
  refine a_putz (pc := 31) fw_X8_157 dX8_read_31 (by first | rfl | assumption) rfl (by decide) ?_
  refine g_aload_n (pc := 34) dX8_read_34 rfl ?_
  have ht0 : TXm (mset (mset (mset (mset (mset μ 57 18 (nI (160 * t))) 57 19 (nI n)) 57 20 (nI 0)) 57 24 (nI 0)) 57 25 (nI 0)) (160 * t) n b := ⟨by rw [mset_nj (by omega), mset_nj (by omega), mset_nj (by omega), mset_nj (by omega), mset_eq], by omega, by rw [mset_nj (by omega), mset_nj (by omega), mset_nj (by omega), mset_eq], hn, fun j hj => by
    rw [mset_ne (by omega), mset_ne (by omega), mset_ne (by omega), mset_ne (by omega), mset_ne (by omega)]
    exact hbt j hj⟩
  have fz0 : (∀ k, k ≠ 57 → (mset (mset (mset (mset (mset μ 57 18 (nI (160 * t))) 57 19 (nI n)) 57 20 (nI 0)) 57 24 (nI 0)) 57 25 (nI 0)) k = μ k) ∧ (∀ j, j < 18 ∨ 26 < j → (mset (mset (mset (mset (mset μ 57 18 (nI (160 * t))) 57 19 (nI n)) 57 20 (nI 0)) 57 24 (nI 0)) 57 25 (nI 0)) 57 j = μ 57 j) := ⟨fun k hk => by rw [mset_ne hk, mset_ne hk, mset_ne hk, mset_ne hk, mset_ne hk], fun j hj => by rw [mset_nj (by omega), mset_nj (by omega), mset_nj (by omega), mset_nj (by omega), mset_nj (by omega)]⟩
  refine a_cv0v (pc := 35) (c_X8_next _ (160 * t) n b ht0 0 (Nat.zero_le _) (by rw [mset_nj (by omega), mset_nj (by omega), mset_eq])) m_X8_next ml_X8_174 (by omega) (by first | rfl | assumption) rfl rfl (Nat.le_of_ble_eq_true rfl) dX8_read_35 (fun x_35 μ_35 h_35 => ?_)
  obtain ⟨m35, f35⟩ := MSg.start ht0 (by rw [mset_nj (by omega), mset_eq]) mset_eq (fun j hj => (fz0.2 (12 + j) (by omega)).trans (hnm j hj)) h_35
  have m35 : MSg μ_35 (160 * t) n b nm 0 (rdS n b 0).2 := m35
  have fz : (∀ k, k ≠ 57 → μ_35 k = μ k) ∧ (∀ j, j < 18 ∨ 26 < j → μ_35 57 j = μ 57 j) := ⟨fun k hk => (f35.1 k hk).trans (fz0.1 k hk), fun j hj => (f35.2 j (by omega)).trans (fz0.2 j hj)⟩
  refine g_aload_n (pc := 38) dX8_read_38 rfl ?_
  refine g_aload_n (pc := 39) dX8_read_39 rfl ?_
  refine g_bipush (pc := 40) (v := (nI 105)) dX8_read_40 (by decide) ?_
  refine g_bipush (pc := 42) (v := (nI 114)) dX8_read_42 (by decide) ?_
  refine g_bipush (pc := 44) (v := (nI 111)) dX8_read_44 (by decide) ?_
  refine g_bipush (pc := 46) (v := (nI 110)) dX8_read_46 (by decide) ?_
  refine g_bipush (pc := 48) (v := (nI 115)) dX8_read_48 (by decide) ?_
  refine g_iconst (pc := 50) (v := (nI 0)) dX8_read_50 (by decide) ?_
  refine g_iconst (pc := 51) (v := (nI 0)) dX8_read_51 (by decide) ?_
  refine g_iconst (pc := 52) (v := (nI 0)) dX8_read_52 (by decide) ?_
  refine a_cv8i (pc := 53) (c_X8_isWord μ_35 (160 * t) n b nm 0 _ m35 6 (by decide)) m_X8_isWord ml_X8_177 (by omega) (by first | rfl | assumption) rfl rfl (Nat.le_of_ble_eq_true rfl) dX8_read_53 (fun x_53 μ_53 h_53 => ?_)
  obtain ⟨hm_53, hd_53⟩ := h_53
  have hm_53 := hm_53.symm
  subst hm_53
  rw [← lxT_atK (i := 6) (by decide) (by decide)] at hd_53
  refine a_cv1i (pc := 56) (c_X8_part_ (160 * t) n b nm 0 (by decide) x_53 μ_35 _ hd_53 m35) m_X8_part_ ml_X8_232 (by omega) (by first | rfl | assumption) rfl rfl (Nat.le_of_ble_eq_true rfl) dX8_read_56 (fun x_56 μ_56 h_56 => ?_)
  obtain ⟨f56, ⟨g56, e56, m56⟩ | ⟨g56, b56⟩⟩ := h_56
  · obtain ⟨r56, s56⟩ := rdS_s (i := 0) rfl g56
    rw [← s56] at m56
    refine a_ist3 (pc := 59) dX8_read_59 (by decide) rfl ?_
    refine g_aload_n (pc := 60) dX8_read_60 rfl ?_
    refine v_getz (pc := 61) fl_X8_157 dX8_read_61 (by first | rfl | assumption) rfl m56.2.2.2.2.1 ?_
    refine g_if_eq (pc := 64) (tgt := 71) dX8_read_64 (by decide) (fun c_64 => ?_) (fun c_64 => absurd rfl c_64)
    refine g_aload_n (pc := 71) dX8_read_71 rfl ?_
    refine g_aload_n (pc := 72) dX8_read_72 rfl ?_
    refine g_bipush (pc := 73) (v := (nI 116)) dX8_read_73 (by decide) ?_
    refine g_bipush (pc := 75) (v := (nI 97)) dX8_read_75 (by decide) ?_
    refine g_bipush (pc := 77) (v := (nI 107)) dX8_read_77 (by decide) ?_
    refine g_bipush (pc := 79) (v := (nI 101)) dX8_read_79 (by decide) ?_
    refine g_bipush (pc := 81) (v := (nI 115)) dX8_read_81 (by decide) ?_
    refine g_iconst (pc := 83) (v := (nI 0)) dX8_read_83 (by decide) ?_
    refine g_iconst (pc := 84) (v := (nI 0)) dX8_read_84 (by decide) ?_
    refine g_iconst (pc := 85) (v := (nI 0)) dX8_read_85 (by decide) ?_
    refine a_cv8i (pc := 86) (c_X8_isWord μ_56 (160 * t) n b nm 0 _ m56 7 (by decide)) m_X8_isWord ml_X8_177 (by omega) (by first | rfl | assumption) rfl rfl (Nat.le_of_ble_eq_true rfl) dX8_read_86 (fun x_86 μ_86 h_86 => ?_)
    obtain ⟨hm_86, hd_86⟩ := h_86
    have hm_86 := hm_86.symm
    subst hm_86
    rw [← lxT_atK (i := 7) (by decide) (by decide)] at hd_86
    refine a_cv1i (pc := 89) (c_X8_part_ (160 * t) n b nm 1 (by decide) x_86 μ_56 _ hd_86 m56) m_X8_part_ ml_X8_232 (by omega) (by first | rfl | assumption) rfl rfl (Nat.le_of_ble_eq_true rfl) dX8_read_89 (fun x_89 μ_89 h_89 => ?_)
    obtain ⟨f89, ⟨g89, e89, m89⟩ | ⟨g89, b89⟩⟩ := h_89
    · obtain ⟨r89, s89⟩ := rdS_s (i := 1) r56 g89
      rw [← s89] at m89
      refine a_ist4 (pc := 92) dX8_read_92 (by decide) rfl ?_
      refine g_aload_n (pc := 94) dX8_read_94 rfl ?_
      refine v_getz (pc := 95) fl_X8_157 dX8_read_95 (by first | rfl | assumption) rfl m89.2.2.2.2.1 ?_
      refine g_if_eq (pc := 98) (tgt := 105) dX8_read_98 (by decide) (fun c_98 => ?_) (fun c_98 => absurd rfl c_98)
      refine g_aload_n (pc := 105) dX8_read_105 rfl ?_
      refine g_aload_n (pc := 106) dX8_read_106 rfl ?_
      refine g_bipush (pc := 107) (v := (nI 99)) dX8_read_107 (by decide) ?_
      refine g_bipush (pc := 109) (v := (nI 114)) dX8_read_109 (by decide) ?_
      refine g_bipush (pc := 111) (v := (nI 117)) dX8_read_111 (by decide) ?_
      refine g_bipush (pc := 113) (v := (nI 109)) dX8_read_113 (by decide) ?_
      refine g_bipush (pc := 115) (v := (nI 112)) dX8_read_115 (by decide) ?_
      refine g_bipush (pc := 117) (v := (nI 108)) dX8_read_117 (by decide) ?_
      refine g_bipush (pc := 119) (v := (nI 101)) dX8_read_119 (by decide) ?_
      refine g_bipush (pc := 121) (v := (nI 115)) dX8_read_121 (by decide) ?_
      refine a_cv8i (pc := 123) (c_X8_isWord μ_89 (160 * t) n b nm 0 _ m89 8 (by decide)) m_X8_isWord ml_X8_177 (by omega) (by first | rfl | assumption) rfl rfl (Nat.le_of_ble_eq_true rfl) dX8_read_123 (fun x_123 μ_123 h_123 => ?_)
      obtain ⟨hm_123, hd_123⟩ := h_123
      have hm_123 := hm_123.symm
      subst hm_123
      rw [← lxT_atK (i := 8) (by decide) (by decide)] at hd_123
      refine a_cv1i (pc := 126) (c_X8_part_ (160 * t) n b nm 2 (by decide) x_123 μ_89 _ hd_123 m89) m_X8_part_ ml_X8_232 (by omega) (by first | rfl | assumption) rfl rfl (Nat.le_of_ble_eq_true rfl) dX8_read_126 (fun x_126 μ_126 h_126 => ?_)
      obtain ⟨f126, ⟨g126, e126, m126⟩ | ⟨g126, b126⟩⟩ := h_126
      · obtain ⟨r126, s126⟩ := rdS_s (i := 2) r89 g126
        rw [← s126] at m126
        refine a_ist5 (pc := 129) dX8_read_129 (by decide) rfl ?_
        refine g_aload_n (pc := 131) dX8_read_131 rfl ?_
        refine v_getz (pc := 132) fl_X8_157 dX8_read_132 (by first | rfl | assumption) rfl m126.2.2.2.2.1 ?_
        refine g_if_ne (pc := 135) (tgt := 149) dX8_read_135 (by decide) (fun c_135 => absurd rfl c_135) (fun c_135 => ?_)
        refine g_aload_n (pc := 138) dX8_read_138 rfl ?_
        refine v_geti (pc := 139) fl_X8_140 dX8_read_139 (by first | rfl | assumption) rfl m126.2.2.1.2.2.1 ?_
        refine g_if_eq (pc := 142) (tgt := 149) dX8_read_142 (by decide) (fun c_142 => ?_) (fun c_142 => ?_)
        · have c142 : tkM b n (lxP b n (rdS n b 3).2) = 0 := nI_eq' (b := 0) (by have := tkM_le b n (lxP b n (rdS n b 3).2); omega) (by omega) c_142
          exact k149 _ _ _ _ ⟨fun k hk => ((((f56.trans f89).trans f126).1 k hk)).trans (fz.1 k hk), fun j hj => (((f56.trans f89).trans f126).2 j (by omega)).trans (fz.2 j hj), Or.inl ⟨⟨r126, lxT_at0.mpr c142⟩, m126.2.2.2.2.1, e56, e89, e126⟩⟩
        · have c142 : ¬ lxT b n (rdS n b 3).2 = 0 := fun h => c_142 (by rw [lxT_at0.mp h]; rfl)
          refine g_aload_n (pc := 145) dX8_read_145 rfl ?_
          refine a_cv0v (pc := 146) (c_X8_fail μ_126 (160 * t) n b nm 0 _ m126) m_X8_fail ml_X8_171 (by omega) (by first | rfl | assumption) rfl rfl (Nat.le_of_ble_eq_true rfl) dX8_read_146 (fun x_146 μ_146 h_146 => ?_)
          obtain ⟨b146, f146⟩ := h_146
          exact k149 _ _ _ _ ⟨fun k hk => (((((f56.trans f89).trans f126).trans f146).1 k hk)).trans (fz.1 k hk), fun j hj => ((((f56.trans f89).trans f126).trans f146).2 j (by omega)).trans (fz.2 j hj), Or.inr ⟨fun q => c142 q.2, b146.1, b146.2⟩⟩
      · skip
        refine a_ist5 (pc := 129) dX8_read_129 (by decide) rfl ?_
        refine g_aload_n (pc := 131) dX8_read_131 rfl ?_
        refine v_getz (pc := 132) fl_X8_157 dX8_read_132 (by first | rfl | assumption) rfl b126.1 ?_
        refine g_if_ne (pc := 135) (tgt := 149) dX8_read_135 (by decide) (fun c_135 => ?_) (fun c_135 => absurd c_135 (by decide))
        exact k149 _ _ _ _ (RQ.no fz ((f56.trans f89).trans f126) (by decide) r89 (exF_eta g126) b126)
    · skip
      refine a_ist4 (pc := 92) dX8_read_92 (by decide) rfl ?_
      refine g_aload_n (pc := 94) dX8_read_94 rfl ?_
      refine v_getz (pc := 95) fl_X8_157 dX8_read_95 (by first | rfl | assumption) rfl b89.1 ?_
      refine g_if_eq (pc := 98) (tgt := 105) dX8_read_98 (by decide) (fun c_98 => absurd c_98 (by decide)) (fun c_98 => ?_)
      refine g_iconst (pc := 101) (v := (nI 0)) dX8_read_101 (by decide) ?_
      refine g_goto (pc := 102) (tgt := 129) dX8_read_102 (by decide) ?_
      refine a_ist5 (pc := 129) dX8_read_129 (by decide) rfl ?_
      refine g_aload_n (pc := 131) dX8_read_131 rfl ?_
      refine v_getz (pc := 132) fl_X8_157 dX8_read_132 (by first | rfl | assumption) rfl b89.1 ?_
      refine g_if_ne (pc := 135) (tgt := 149) dX8_read_135 (by decide) (fun c_135 => ?_) (fun c_135 => absurd c_135 (by decide))
      exact k149 _ _ _ _ (RQ.no fz (f56.trans f89) (by decide) r56 (exF_eta g89) b89)
  · skip
    refine a_ist3 (pc := 59) dX8_read_59 (by decide) rfl ?_
    refine g_aload_n (pc := 60) dX8_read_60 rfl ?_
    refine v_getz (pc := 61) fl_X8_157 dX8_read_61 (by first | rfl | assumption) rfl b56.1 ?_
    refine g_if_eq (pc := 64) (tgt := 71) dX8_read_64 (by decide) (fun c_64 => absurd c_64 (by decide)) (fun c_64 => ?_)
    refine g_iconst (pc := 67) (v := (nI 0)) dX8_read_67 (by decide) ?_
    refine g_goto (pc := 68) (tgt := 92) dX8_read_68 (by decide) ?_
    refine a_ist4 (pc := 92) dX8_read_92 (by decide) rfl ?_
    refine g_aload_n (pc := 94) dX8_read_94 rfl ?_
    refine v_getz (pc := 95) fl_X8_157 dX8_read_95 (by first | rfl | assumption) rfl b56.1 ?_
    refine g_if_eq (pc := 98) (tgt := 105) dX8_read_98 (by decide) (fun c_98 => absurd c_98 (by decide)) (fun c_98 => ?_)
    refine g_iconst (pc := 101) (v := (nI 0)) dX8_read_101 (by decide) ?_
    refine g_goto (pc := 102) (tgt := 129) dX8_read_102 (by decide) ?_
    refine a_ist5 (pc := 129) dX8_read_129 (by decide) rfl ?_
    refine g_aload_n (pc := 131) dX8_read_131 rfl ?_
    refine v_getz (pc := 132) fl_X8_157 dX8_read_132 (by first | rfl | assumption) rfl b56.1 ?_
    refine g_if_ne (pc := 135) (tgt := 149) dX8_read_135 (by decide) (fun c_135 => ?_) (fun c_135 => absurd c_135 (by decide))
    exact k149 _ _ _ _ (RQ.no fz f56 (by decide) rfl (exF_eta g56) b56)
