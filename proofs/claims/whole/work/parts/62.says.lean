/-! ===== the model: what it reads ===== -/
def GPost (μ : Mem) (f n : Nat) (b : Nat → Nat) (nm : Nat → Int32) (op : Nat) (r : PR) (x : Int32) (μ1 : Mem) : Prop := MF μ μ1 ∧ ((r.1 = true ∧ x = vl nm r.2.2 ∧ MSg μ1 f n b nm op r.2.1) ∨ (r.1 = false ∧ MB μ1 n b r.2.1))
theorem GPost.ok {μ μ1 : Mem} {f n : Nat} {b : Nat → Nat} {nm : Nat → Int32} {op : Nat} {r : PR} {x : Int32} {a1 : Nat} {c1 : List Nat} (hr : r = (true, a1, c1)) (hf : MF μ μ1) (hx : x = vl nm c1) (h : MSg μ1 f n b nm op a1) : GPost μ f n b nm op r x μ1 := by
  subst hr
  exact ⟨hf, Or.inl ⟨rfl, hx, h⟩⟩
theorem GPost.no {μ μ1 : Mem} {f n : Nat} {b : Nat → Nat} {nm : Nat → Int32} {op : Nat} {r : PR} {x : Int32} {a1 : Nat} {c1 : List Nat} (hr : r = (false, a1, c1)) (hf : MF μ μ1) (h : MB μ1 n b a1) : GPost μ f n b nm op r x μ1 := by
  subst hr
  exact ⟨hf, Or.inr ⟨rfl, h⟩⟩
def MP (y : MethodName) (bytes : ByteArray) (maxL dep op f n : Nat) (b : Nat → Nat) (nm : Nat → Int32) (g : Nat → PR) : Prop := ∀ (μ : Mem) (a : Nat), MSg μ f n b nm op a → CA eI y bytes maxL (some .int) dep [.ref 57] μ (GPost μ f n b nm op (g a))
theorem vl_un {nm : Nat → Int32} {c : List Nat} {u : Nat} (h : SMc c) (hu : u = 10010 ∨ u = 10011) : vl nm (c ++ [u]) = unV u (vl nm c) := (Sem_un (h.sem nm) hu).vl
theorem vl_bin {nm : Nat → Int32} {c d : List Nat} {u : Nat} (h : SMc c) (g : SMc d) (h1 : 10012 ≤ u) : vl nm (c ++ d ++ [u]) = joinV u (vl nm c) (vl nm d) := (Sem_bin (h.sem nm) (g.sem nm) h1).vl
theorem vl_num {nm : Nat → Int32} {b : Nat → Nat} {n a : Nat} (h : lxT b n a = 2) : vl nm [lxV b n a] = nI (lxV b n a) := (Sem_num (lxV_2 h).1).vl
theorem vl_name {nm : Nat → Int32} {b : Nat → Nat} {n a : Nat} (h : lxT b n a = 3) : vl nm [lxV b n a] = nm (wdN b (lxP b n a) (wE b n (lxP b n a) - lxP b n a)) := by
  obtain ⟨h1, h2, h3⟩ := lxV_3 h
  rw [(Sem_name h1 h2).vl, h3, Nat.add_sub_cancel_left]
theorem jo_add (x y : Int32) : joinV 10012 x y = x + y := if_pos rfl
theorem jo_sub (x y : Int32) : joinV 10013 x y = x - y := by
  unfold joinV
  rw [if_neg (by decide), if_pos rfl]
theorem jo_mul (x y : Int32) : joinV 10014 x y = x * y := by
  unfold joinV
  rw [if_neg (by decide), if_neg (by decide), if_pos rfl]
theorem jo_lt (x y : Int32) : joinV 10015 x y = if x < y then nI 1 else nI 0 := by
  unfold joinV
  rw [if_neg (by decide), if_neg (by decide), if_neg (by decide), if_pos rfl]
theorem jo_eq (x y : Int32) : joinV 10016 x y = if x = y then nI 1 else nI 0 := by
  unfold joinV
  rw [if_neg (by decide), if_neg (by decide), if_neg (by decide), if_neg (by decide), if_pos rfl]
theorem jo_and (x y : Int32) : joinV 10017 x y = if x = 0 ∨ y = 0 then nI 0 else nI 1 := by
  unfold joinV
  rw [if_neg (by decide), if_neg (by decide), if_neg (by decide), if_neg (by decide), if_neg (by decide), if_pos rfl]
theorem jo_or (x y : Int32) : joinV 10018 x y = if x = 0 ∧ y = 0 then nI 0 else nI 1 := by
  unfold joinV
  rw [if_neg (by decide), if_neg (by decide), if_neg (by decide), if_neg (by decide), if_neg (by decide), if_neg (by decide)]
theorem un_neg (x : Int32) : unV 10010 x = -x := if_pos rfl
theorem un_not (x : Int32) : unV 10011 x = if x = 0 then nI 1 else nI 0 := if_neg (by decide)
theorem op_back (op : Nat) : nI (op + 1) - nI 1 = nI op := by rw [pk_sub (by omega), Nat.add_sub_cancel]
theorem tk4n {b : Nat → Nat} {n a : Nat} (h : ¬ lxT b n a = 1) : ¬ tkM b n (lxP b n a) = 4 := fun q => h (tk4 q)
theorem c_X8_atom (op f n : Nat) (b : Nat → Nat) (nm : Nat → Int32) (hop : op ≤ 5) (o1 e1 : Nat → PR) (D D1 De : Nat) (hD : 4 ≤ D ∧ D1 + 1 ≤ D ∧ De + 1 ≤ D) (h1 : op < 5 → MP yX8_atom cX8_atom 2 D1 (op + 1) f n b nm o1) (h2 : op < 5 → MP yX8_either cX8_either 3 De (op + 1) f n b nm e1) (S1 : SMf o1) (μ : Mem) (a : Nat) (hM : MSg μ f n b nm op a) : CA eI yX8_atom cX8_atom 2 (some .int) D [.ref 57] μ (GPost μ f n b nm op (oneF n b (decide (op < 5)) o1 e1 a)) := by
  obtain ⟨hT, han, ⟨k1, k2, k3, k4, k5⟩, k24, k25, knm⟩ := id hM
  have h160 := hT.2.2.2.1
  have hP := lxP_in b han
  have hE := lxE_in b han
  have hTl := lxT_le b n a
  refine CT.of false (by decide) (by decide) (L := [some (.ref 57), none]) rfl (Nat.le_of_ble_eq_true rfl) ?_
  refine g_iconst (pc := 0) (v := (nI 0)) dX8_atom_0 (by decide) ?_
  refine a_ist1 (pc := 1) dX8_atom_1 (by decide) rfl ?_
  refine g_aload_n (pc := 2) dX8_atom_2 rfl ?_
  refine g_bipush (pc := 3) (v := (nI 45)) dX8_atom_3 (by decide) ?_
  refine a_cv1i (pc := 5) (c_X8_isSign μ f n b nm op a hM 45 (by decide)) m_X8_isSign ml_X8_199 (by omega) (by first | rfl | assumption) rfl rfl (Nat.le_of_ble_eq_true rfl) dX8_atom_5 (fun x_5 μ_5 h_5 => ?_)
  obtain ⟨hm_5, hd_5⟩ := h_5
  have hm_5 := hm_5.symm
  subst hm_5
  refine g_if_eq (pc := 8) (tgt := 37) dX8_atom_8 (by decide) (fun c_8 => ?_) (fun c_8 => ?_)
  · have c8 := (hd_5.resolve_left (fun q => absurd (q.1.symm.trans c_8) (by decide))).2
    refine g_aload_n (pc := 37) dX8_atom_37 rfl ?_
    refine g_bipush (pc := 38) (v := (nI 40)) dX8_atom_38 (by decide) ?_
    refine a_cv1i (pc := 40) (c_X8_isSign μ f n b nm op a hM 40 (by decide)) m_X8_isSign ml_X8_199 (by omega) (by first | rfl | assumption) rfl rfl (Nat.le_of_ble_eq_true rfl) dX8_atom_40 (fun x_40 μ_40 h_40 => ?_)
    obtain ⟨hm_40, hd_40⟩ := h_40
    have hm_40 := hm_40.symm
    subst hm_40
    refine g_if_eq (pc := 43) (tgt := 95) dX8_atom_43 (by decide) (fun c_43 => ?_) (fun c_43 => ?_)
    · have c43 := (hd_40.resolve_left (fun q => absurd (q.1.symm.trans c_43) (by decide))).2
      refine g_aload_n (pc := 95) dX8_atom_95 rfl ?_
      refine v_getz (pc := 96) fl_X8_157 dX8_atom_96 (by first | rfl | assumption) rfl k25 ?_
      refine g_if_ne (pc := 99) (tgt := 123) dX8_atom_99 (by decide) (fun c_99 => absurd rfl c_99) (fun c_99 => ?_)
      refine g_aload_n (pc := 102) dX8_atom_102 rfl ?_
      refine v_geti (pc := 103) fl_X8_140 dX8_atom_103 (by first | rfl | assumption) rfl k3 ?_
      refine g_iconst (pc := 106) (v := (nI 2)) dX8_atom_106 (by decide) ?_
      refine g_icmp_ne (pc := 107) (tgt := 123) dX8_atom_107 (by decide) (fun c_107 => ?_) (fun c_107 => ?_)
      · have c107 : ¬ lxT b n a = 2 := fun h => c_107 (by rw [lxT_at2.mp h])
        refine g_aload_n (pc := 123) dX8_atom_123 rfl ?_
        refine v_getz (pc := 124) fl_X8_157 dX8_atom_124 (by first | rfl | assumption) rfl k25 ?_
        refine g_if_ne (pc := 127) (tgt := 157) dX8_atom_127 (by decide) (fun c_127 => absurd rfl c_127) (fun c_127 => ?_)
        refine g_aload_n (pc := 130) dX8_atom_130 rfl ?_
        refine v_geti (pc := 131) fl_X8_140 dX8_atom_131 (by first | rfl | assumption) rfl k3 ?_
        refine g_iconst (pc := 134) (v := (nI 1)) dX8_atom_134 (by decide) ?_
        refine g_icmp_ne (pc := 135) (tgt := 157) dX8_atom_135 (by decide) (fun c_135 => ?_) (fun c_135 => ?_)
        · have c135 : ¬ lxT b n a = 3 := fun h => c_135 (by rw [(lxT_at3.mp h).1])
          refine g_aload_n (pc := 157) dX8_atom_157 rfl ?_
          refine a_cv0v (pc := 158) (c_X8_fail μ f n b nm op a hM) m_X8_fail ml_X8_171 (by omega) (by first | rfl | assumption) rfl rfl (Nat.le_of_ble_eq_true rfl) dX8_atom_158 (fun x_158 μ_158 h_158 => ?_)
          obtain ⟨b158, f158⟩ := h_158
          refine g_iload_n (pc := 161) dX8_atom_161 rfl ?_
          refine g_ireturn (pc := 162) dX8_atom_162 rfl (by first | rfl | decide) rfl ⟨_, rfl, ?_⟩
          first | exact GPost.ok (oneF_v (Or.inl ct)) f117 (vl_num ct).symm m117 | exact GPost.no (oneF_no (fun q => q.elim c107 c135) (fun _ => ⟨c8, c43⟩)) f158 b158
        · have c135 : tkM b n (lxP b n a) = 1 := nI_eq' (by have := tkM_le b n (lxP b n a); omega) (by omega) c_135
          refine g_aload_n (pc := 138) dX8_atom_138 rfl ?_
          refine a_cv0i (pc := 139) (c_X8_name μ f n b nm op a hM c135) m_X8_name ml_X8_213 (by omega) (by first | rfl | assumption) rfl rfl (Nat.le_of_ble_eq_true rfl) dX8_atom_139 (fun x_139 μ_139 h_139 => ?_)
          obtain ⟨f139, ⟨w139, rfl, m139⟩ | ⟨w139, b139⟩⟩ := h_139
          · have ct : lxT b n a = 3 := lxT_at3.mpr ⟨c135, w139⟩
            have h4 := tk4n (b := b) (n := n) (a := a) (by omega)
            refine a_ist1 (pc := 142) dX8_atom_142 (by decide) rfl ?_
            refine g_aload_n (pc := 143) dX8_atom_143 rfl ?_
            refine v_getz (pc := 144) fl_X8_157 dX8_atom_144 (by first | rfl | assumption) rfl m139.2.2.2.2.1 ?_
            refine g_if_ne (pc := 147) (tgt := 161) dX8_atom_147 (by decide) (fun c_147 => absurd rfl c_147) (fun c_147 => ?_)
            refine g_aload_n (pc := 150) dX8_atom_150 rfl ?_
            refine a_cv0v (pc := 151) (c_X8_next μ_139 f n b m139.1 _ (lxE_in b m139.2.1).2 (m139.2.2.1.1 h4)) m_X8_next ml_X8_174 (by omega) (by first | rfl | assumption) rfl rfl (Nat.le_of_ble_eq_true rfl) dX8_atom_151 (fun x_151 μ_151 h_151 => ?_)
            obtain ⟨m151, f151⟩ := m139.nx (lxE_in b m139.2.1).2 h_151
            refine g_goto (pc := 154) (tgt := 161) dX8_atom_154 (by decide) ?_
            refine g_iload_n (pc := 161) dX8_atom_161 rfl ?_
            refine g_ireturn (pc := 162) dX8_atom_162 rfl (by first | rfl | decide) rfl ⟨_, rfl, ?_⟩
            exact GPost.ok (oneF_v (Or.inr ct)) (f139.trans f151) (vl_name ct).symm m151
          · skip
            refine a_ist1 (pc := 142) dX8_atom_142 (by decide) rfl ?_
            refine g_aload_n (pc := 143) dX8_atom_143 rfl ?_
            refine v_getz (pc := 144) fl_X8_157 dX8_atom_144 (by first | rfl | assumption) rfl b139.1 ?_
            refine g_if_ne (pc := 147) (tgt := 161) dX8_atom_147 (by decide) (fun c_147 => ?_) (fun c_147 => absurd c_147 (by decide))
            refine g_iload_n (pc := 161) dX8_atom_161 rfl ?_
            refine g_ireturn (pc := 162) dX8_atom_162 rfl (by first | rfl | decide) rfl ⟨_, rfl, ?_⟩
            exact GPost.no (oneF_no (fun q => q.elim c107 (fun q => (lxT_at3.mp q).2 w139)) (fun _ => ⟨c8, c43⟩)) f139 b139
      · have c107 : tkM b n (lxP b n a) = 2 := nI_eq' (by have := tkM_le b n (lxP b n a); omega) (by omega) c_107
        have ct : lxT b n a = 2 := lxT_at2.mpr c107
        have h4 := tk4n (b := b) (n := n) (a := a) (by omega)
        have hv9 : vlA b n (lxP b n a) < 10000 := (lxV_2 ct).1
        refine g_aload_n (pc := 110) dX8_atom_110 rfl ?_
        refine a_getl (pc := 111) fl_X8_151 dX8_atom_111 (by first | rfl | assumption) rfl ?_
        refine g_l2i (pc := 114) dX8_atom_114 (show (μ 57 23).toInt64.toInt32 = nI (lxV b n a) by rw [k4 c107, nI_l (by omega), lN_i]; rfl) ?_
        refine a_ist1 (pc := 115) dX8_atom_115 (by decide) rfl ?_
        refine g_aload_n (pc := 116) dX8_atom_116 rfl ?_
        refine a_cv0v (pc := 117) (c_X8_next μ f n b hM.1 _ (lxE_in b hM.2.1).2 (hM.2.2.1.1 h4)) m_X8_next ml_X8_174 (by omega) (by first | rfl | assumption) rfl rfl (Nat.le_of_ble_eq_true rfl) dX8_atom_117 (fun x_117 μ_117 h_117 => ?_)
        obtain ⟨m117, f117⟩ := hM.nx (lxE_in b hM.2.1).2 h_117
        refine g_goto (pc := 120) (tgt := 161) dX8_atom_120 (by decide) ?_
        refine g_iload_n (pc := 161) dX8_atom_161 rfl ?_
        refine g_ireturn (pc := 162) dX8_atom_162 rfl (by first | rfl | decide) rfl ⟨_, rfl, ?_⟩
        first | exact GPost.ok (oneF_v (Or.inl ct)) f117 (vl_num ct).symm m117 | exact GPost.no (oneF_no (fun q => q.elim c107 c135) (fun _ => ⟨c8, c43⟩)) f158 b158
    · have c43 := (hd_40.resolve_right (fun q => c_43 q.1)).2
      have h4 := tk4n (b := b) (n := n) (a := a) (by omega)
      refine g_aload_n (pc := 46) dX8_atom_46 rfl ?_
      refine a_cv0i (pc := 47) (c_X8_opens μ f n b nm op a hM hop h4) m_X8_opens ml_X8_202 (by omega) (by first | rfl | assumption) rfl rfl (Nat.le_of_ble_eq_true rfl) dX8_atom_47 (fun x_47 μ_47 h_47 => ?_)
      obtain ⟨f47, ⟨rfl, n47, b47⟩ | ⟨rfl, o47, m47⟩⟩ := h_47
      · skip
        refine g_if_eq (pc := 50) (tgt := 161) dX8_atom_50 (by decide) (fun c_50 => ?_) (fun c_50 => absurd rfl c_50)
        refine g_iload_n (pc := 161) dX8_atom_161 rfl ?_
        refine g_ireturn (pc := 162) dX8_atom_162 rfl (by first | rfl | decide) rfl ⟨_, rfl, ?_⟩
        exact GPost.no (oneF_no (by omega) (fun q => absurd (of_decide_eq_true q) n47)) f47 b47
      · have hdp : decide (op < 5) = true := decide_eq_true o47
        refine g_if_eq (pc := 50) (tgt := 161) dX8_atom_50 (by decide) (fun c_50 => absurd c_50 (by decide)) (fun c_50 => ?_)
        refine g_aload_n (pc := 53) dX8_atom_53 rfl ?_
        refine a_cv0i (pc := 54) (h2 o47 μ_47 _ m47) m_X8_either ml_X8_210 (by omega) (by first | rfl | assumption) rfl rfl (Nat.le_of_ble_eq_true rfl) dX8_atom_54 (fun x_54 μ_54 h_54 => ?_)
        obtain ⟨f54, ⟨g54, rfl, m54⟩ | ⟨g54, b54⟩⟩ := h_54
        · skip
          refine a_ist1 (pc := 57) dX8_atom_57 (by decide) rfl ?_
          refine g_aload_n (pc := 58) dX8_atom_58 rfl ?_
          refine g_bipush (pc := 59) (v := (nI 41)) dX8_atom_59 (by decide) ?_
          refine a_cv1i (pc := 61) (c_X8_isSign μ_54 f n b nm (op + 1) _ m54 41 (by decide)) m_X8_isSign ml_X8_199 (by omega) (by first | rfl | assumption) rfl rfl (Nat.le_of_ble_eq_true rfl) dX8_atom_61 (fun x_61 μ_61 h_61 => ?_)
          obtain ⟨hm_61, hd_61⟩ := h_61
          have hm_61 := hm_61.symm
          subst hm_61
          refine g_if_ne (pc := 64) (tgt := 71) dX8_atom_64 (by decide) (fun c_64 => ?_) (fun c_64 => ?_)
          · have c64 := (hd_61.resolve_right (fun q => c_64 q.1)).2
            obtain ⟨m9, f9⟩ := m54.op op
            have h4b := tk4n (b := b) (n := n) (a := (e1 (lxE b n a)).2.1) (by omega)
            refine g_aload_n (pc := 71) dX8_atom_71 rfl ?_
            refine g_dup (pc := 72) dX8_atom_72 rfl ?_
            refine v_geti (pc := 73) fl_X8_168 dX8_atom_73 (by first | rfl | assumption) rfl m54.2.2.2.1 ?_
            refine g_iconst (pc := 76) (v := (nI 1)) dX8_atom_76 (by decide) ?_
            refine v_isub (pc := 77) dX8_atom_77 (op_back op) ?_
            refine a_puti (pc := 78) fw_X8_168 dX8_atom_78 (by first | rfl | assumption) rfl ?_
            refine g_aload_n (pc := 81) dX8_atom_81 rfl ?_
            refine v_getz (pc := 82) fl_X8_157 dX8_atom_82 (by first | rfl | assumption) rfl m9.2.2.2.2.1 ?_
            refine g_if_ne (pc := 85) (tgt := 161) dX8_atom_85 (by decide) (fun c_85 => absurd rfl c_85) (fun c_85 => ?_)
            refine g_aload_n (pc := 88) dX8_atom_88 rfl ?_
            refine a_cv0v (pc := 89) (c_X8_next _ f n b m9.1 _ (lxE_in b m9.2.1).2 (m9.2.2.1.1 h4b)) m_X8_next ml_X8_174 (by omega) (by first | rfl | assumption) rfl rfl (Nat.le_of_ble_eq_true rfl) dX8_atom_89 (fun x_89 μ_89 h_89 => ?_)
            obtain ⟨m89, f89⟩ := m9.nx (lxE_in b m9.2.1).2 h_89
            refine g_goto (pc := 92) (tgt := 161) dX8_atom_92 (by decide) ?_
            refine g_iload_n (pc := 161) dX8_atom_161 rfl ?_
            refine g_ireturn (pc := 162) dX8_atom_162 rfl (by first | rfl | decide) rfl ⟨_, rfl, ?_⟩
            exact GPost.ok ((oneF_b hdp c43).trans (if_pos ⟨g54, c64⟩)) (((f47.trans f54).trans f9).trans f89) rfl m89
          · have c64 := (hd_61.resolve_left (fun q => absurd (q.1.symm.trans c_64) (by decide))).2
            refine g_aload_n (pc := 67) dX8_atom_67 rfl ?_
            refine a_cv0v (pc := 68) (c_X8_fail μ_54 f n b nm (op + 1) _ m54) m_X8_fail ml_X8_171 (by omega) (by first | rfl | assumption) rfl rfl (Nat.le_of_ble_eq_true rfl) dX8_atom_68 (fun x_68 μ_68 h_68 => ?_)
            obtain ⟨b68, f68⟩ := h_68
            obtain ⟨b9, f9⟩ := b68.op (μ_68 57 24 - nI 1)
            refine g_aload_n (pc := 71) dX8_atom_71 rfl ?_
            refine g_dup (pc := 72) dX8_atom_72 rfl ?_
            refine v_geti (pc := 73) fl_X8_168 dX8_atom_73 (by first | rfl | assumption) rfl rfl ?_
            refine g_iconst (pc := 76) (v := (nI 1)) dX8_atom_76 (by decide) ?_
            refine v_isub (pc := 77) dX8_atom_77 rfl ?_
            refine a_puti (pc := 78) fw_X8_168 dX8_atom_78 (by first | rfl | assumption) rfl ?_
            refine g_aload_n (pc := 81) dX8_atom_81 rfl ?_
            refine v_getz (pc := 82) fl_X8_157 dX8_atom_82 (by first | rfl | assumption) rfl b9.1 ?_
            refine g_if_ne (pc := 85) (tgt := 161) dX8_atom_85 (by decide) (fun c_85 => ?_) (fun c_85 => absurd c_85 (by decide))
            refine g_iload_n (pc := 161) dX8_atom_161 rfl ?_
            refine g_ireturn (pc := 162) dX8_atom_162 rfl (by first | rfl | decide) rfl ⟨_, rfl, ?_⟩
            exact GPost.no ((oneF_b hdp c43).trans (if_neg (fun q => c64 q.2))) (((f47.trans f54).trans f68).trans f9) b9
        · skip
          refine a_ist1 (pc := 57) dX8_atom_57 (by decide) rfl ?_
          refine g_aload_n (pc := 58) dX8_atom_58 rfl ?_
          refine g_bipush (pc := 59) (v := (nI 41)) dX8_atom_59 (by decide) ?_
          refine a_cv1i (pc := 61) (c_X8_isSignB μ_54 b54.1 _) m_X8_isSign ml_X8_199 (by omega) (by first | rfl | assumption) rfl rfl (Nat.le_of_ble_eq_true rfl) dX8_atom_61 (fun x_61 μ_61 h_61 => ?_)
          obtain ⟨rfl, hm_61⟩ := h_61
          have hm_61 := hm_61.symm
          subst hm_61
          refine g_if_ne (pc := 64) (tgt := 71) dX8_atom_64 (by decide) (fun c_64 => absurd rfl c_64) (fun c_64 => ?_)
          refine g_aload_n (pc := 67) dX8_atom_67 rfl ?_
          refine a_cv0v (pc := 68) (c_X8_failB μ_54 b54.1) m_X8_fail ml_X8_171 (by omega) (by first | rfl | assumption) rfl rfl (Nat.le_of_ble_eq_true rfl) dX8_atom_68 (fun x_68 μ_68 h_68 => ?_)
          have hm_68 := (show μ_68 = _ from h_68).symm
          subst hm_68
          obtain ⟨b9, f9⟩ := b54.op (μ_54 57 24 - nI 1)
          refine g_aload_n (pc := 71) dX8_atom_71 rfl ?_
          refine g_dup (pc := 72) dX8_atom_72 rfl ?_
          refine v_geti (pc := 73) fl_X8_168 dX8_atom_73 (by first | rfl | assumption) rfl rfl ?_
          refine g_iconst (pc := 76) (v := (nI 1)) dX8_atom_76 (by decide) ?_
          refine v_isub (pc := 77) dX8_atom_77 rfl ?_
          refine a_puti (pc := 78) fw_X8_168 dX8_atom_78 (by first | rfl | assumption) rfl ?_
          refine g_aload_n (pc := 81) dX8_atom_81 rfl ?_
          refine v_getz (pc := 82) fl_X8_157 dX8_atom_82 (by first | rfl | assumption) rfl b9.1 ?_
          refine g_if_ne (pc := 85) (tgt := 161) dX8_atom_85 (by decide) (fun c_85 => ?_) (fun c_85 => absurd c_85 (by decide))
          refine g_iload_n (pc := 161) dX8_atom_161 rfl ?_
          refine g_ireturn (pc := 162) dX8_atom_162 rfl (by first | rfl | decide) rfl ⟨_, rfl, ?_⟩
          exact GPost.no ((oneF_b hdp c43).trans (if_neg (fun q => by rw [g54] at q; exact absurd q.1 (by simp)))) ((f47.trans f54).trans f9) b9
  · have c8 := (hd_5.resolve_right (fun q => c_8 q.1)).2
    have h4 := tk4n (b := b) (n := n) (a := a) (by omega)
    refine g_aload_n (pc := 11) dX8_atom_11 rfl ?_
    refine a_cv0i (pc := 12) (c_X8_opens μ f n b nm op a hM hop h4) m_X8_opens ml_X8_202 (by omega) (by first | rfl | assumption) rfl rfl (Nat.le_of_ble_eq_true rfl) dX8_atom_12 (fun x_12 μ_12 h_12 => ?_)
    obtain ⟨f12, ⟨rfl, n12, b12⟩ | ⟨rfl, o12, m12⟩⟩ := h_12
    · skip
      refine g_if_eq (pc := 15) (tgt := 161) dX8_atom_15 (by decide) (fun c_15 => ?_) (fun c_15 => absurd rfl c_15)
      refine g_iload_n (pc := 161) dX8_atom_161 rfl ?_
      refine g_ireturn (pc := 162) dX8_atom_162 rfl (by first | rfl | decide) rfl ⟨_, rfl, ?_⟩
      exact GPost.no (oneF_no (by omega) (fun q => absurd (of_decide_eq_true q) n12)) f12 b12
    · have hdp : decide (op < 5) = true := decide_eq_true o12
      refine g_if_eq (pc := 15) (tgt := 161) dX8_atom_15 (by decide) (fun c_15 => absurd c_15 (by decide)) (fun c_15 => ?_)
      refine g_aload_n (pc := 18) dX8_atom_18 rfl ?_
      refine a_cv0i (pc := 19) (h1 o12 μ_12 _ m12) m_X8_atom ml_X8_206 (by omega) (by first | rfl | assumption) rfl rfl (Nat.le_of_ble_eq_true rfl) dX8_atom_19 (fun x_19 μ_19 h_19 => ?_)
      obtain ⟨f19, ⟨g19, rfl, m19⟩ | ⟨g19, b19⟩⟩ := h_19
      · skip
        refine v_ineg (pc := 22) dX8_atom_22 rfl ?_
        refine a_ist1 (pc := 23) dX8_atom_23 (by decide) rfl ?_
        refine g_aload_n (pc := 24) dX8_atom_24 rfl ?_
        refine g_dup (pc := 25) dX8_atom_25 rfl ?_
        refine v_geti (pc := 26) fl_X8_168 dX8_atom_26 (by first | rfl | assumption) rfl m19.2.2.2.1 ?_
        refine g_iconst (pc := 29) (v := (nI 1)) dX8_atom_29 (by decide) ?_
        refine v_isub (pc := 30) dX8_atom_30 (op_back op) ?_
        refine a_puti (pc := 31) fw_X8_168 dX8_atom_31 (by first | rfl | assumption) rfl ?_
        refine g_goto (pc := 34) (tgt := 161) dX8_atom_34 (by decide) ?_
        refine g_iload_n (pc := 161) dX8_atom_161 rfl ?_
        refine g_ireturn (pc := 162) dX8_atom_162 rfl (by first | rfl | decide) rfl ⟨_, rfl, ?_⟩
        obtain ⟨m9, f9⟩ := m19.op op
        exact GPost.ok ((oneF_m hdp c8).trans (if_pos g19)) ((f12.trans f19).trans f9) (by rw [vl_un (S1 _ g19) (Or.inl rfl), un_neg]) m9
      · skip
        refine v_ineg (pc := 22) dX8_atom_22 rfl ?_
        refine a_ist1 (pc := 23) dX8_atom_23 (by decide) rfl ?_
        refine g_aload_n (pc := 24) dX8_atom_24 rfl ?_
        refine g_dup (pc := 25) dX8_atom_25 rfl ?_
        refine v_geti (pc := 26) fl_X8_168 dX8_atom_26 (by first | rfl | assumption) rfl rfl ?_
        refine g_iconst (pc := 29) (v := (nI 1)) dX8_atom_29 (by decide) ?_
        refine v_isub (pc := 30) dX8_atom_30 rfl ?_
        refine a_puti (pc := 31) fw_X8_168 dX8_atom_31 (by first | rfl | assumption) rfl ?_
        refine g_goto (pc := 34) (tgt := 161) dX8_atom_34 (by decide) ?_
        refine g_iload_n (pc := 161) dX8_atom_161 rfl ?_
        refine g_ireturn (pc := 162) dX8_atom_162 rfl (by first | rfl | decide) rfl ⟨_, rfl, ?_⟩
        obtain ⟨b9, f9⟩ := b19.op (μ_19 57 24 - nI 1)
        exact GPost.no ((oneF_m hdp c8).trans (if_neg (by rw [g19]; simp))) ((f12.trans f19).trans f9) b9
theorem c_X8_term (op f n : Nat) (b : Nat → Nat) (nm : Nat → Int32) (hop : op ≤ 5) (g : Nat → PR) (D D1 : Nat) (hD : 4 ≤ D ∧ D1 + 1 ≤ D) (h1 : MP yX8_atom cX8_atom 2 D1 op f n b nm g) (G1 : GDf n g) (S1 : SMf g) (μ : Mem) (a : Nat) (hM : MSg μ f n b nm op a) : CA eI yX8_term cX8_term 2 (some .int) D [.ref 57] μ (GPost μ f n b nm op (chF n b opM g a)) := by
  obtain ⟨hT, han, ⟨k1, k2, k3, k4, k5⟩, k24, k25, knm⟩ := id hM
  have h160 := hT.2.2.2.1
  have hP := lxP_in b han
  have hE := lxE_in b han
  have hTl := lxT_le b n a
  refine CT.of false (by decide) (by decide) (L := [some (.ref 57), none]) rfl (Nat.le_of_ble_eq_true rfl) ?_
  have k5 : ∀ (v : Int32) (ν : Mem) (hb : MF μ ν ∧ (∃ c1, (chF n b opM g a) = (false, (chF n b opM g a).2.1, c1)) ∧ MB ν n b (chF n b opM g a).2.1), WG eI yX8_term.cls cX8_term 2 (some .int) false (fun _ _ => True) D (mpost (GPost μ f n b nm op (chF n b opM g a))) 0 0 5 [some (.ref 57), some (.int v)] [] (mk ν) := by
    intro v ν hb
    refine g_aload_n (pc := 5) dX8_term_5 rfl ?_
    refine g_bipush (pc := 6) (v := (nI 42)) dX8_term_6 (by decide) ?_
    refine a_cv1i (pc := 8) (c_X8_isSignB ν hb.2.2.1 _) m_X8_isSign ml_X8_199 (by omega) (by first | rfl | assumption) rfl rfl (Nat.le_of_ble_eq_true rfl) dX8_term_8 (fun x_8 μ_8 h_8 => ?_)
    obtain ⟨rfl, hm_8⟩ := h_8
    have hm_8 := hm_8.symm
    subst hm_8
    refine g_if_eq (pc := 11) (tgt := 28) dX8_term_11 (by decide) (fun c_11 => ?_) (fun c_11 => absurd rfl c_11)
    refine g_iload_n (pc := 28) dX8_term_28 rfl ?_
    refine g_ireturn (pc := 29) dX8_term_29 rfl (by first | rfl | decide) rfl ⟨_, rfl, ?_⟩
    obtain ⟨hb0, ⟨c1, hb1⟩, hb2⟩ := hb
    exact GPost.no hb1 hb0 hb2
  refine g_aload_n (pc := 0) dX8_term_0 rfl ?_
  refine a_cv0i (pc := 1) (h1 μ _ hM) m_X8_atom ml_X8_206 (by omega) (by first | rfl | assumption) rfl rfl (Nat.le_of_ble_eq_true rfl) dX8_term_1 (fun x_1 μ_1 h_1 => ?_)
  obtain ⟨f1, ⟨g1, rfl, m1⟩ | ⟨g1, b1⟩⟩ := h_1
  · skip
    have hg := G1 _ han
    refine a_ist1 (pc := 4) dX8_term_4 (by decide) rfl ?_
    have lp5 : ∀ (zz : Nat) (a1 k : Nat) (c1 : List Nat) (v : Int32) (ν : Mem) (hν : n ≤ a1 + k ∧ MSg ν f n b nm op a1 ∧ v = vl nm c1 ∧ SMc c1 ∧ lpF n b opM g k a1 c1 = (chF n b opM g a) ∧ MF μ ν), n - a1 = zz → WG eI yX8_term.cls cX8_term 2 (some .int) false (fun _ _ => True) D (mpost (GPost μ f n b nm op (chF n b opM g a))) 0 0 5 [some (.ref 57), some (.int v)] [] (mk ν) := by
      intro zz
      induction zz using Nat.strongRecOn with
      | ind zz ih =>
        intro a1 k c1 v ν hν hzz
        obtain ⟨hk, hm, hv, hs, hres, hf⟩ := hν
        have hE1 := lxE_in b hm.2.1
        have hT1l := lxT_le b n a1
        have ha1n := hm.2.1
        refine g_aload_n (pc := 5) dX8_term_5 rfl ?_
        refine g_bipush (pc := 6) (v := (nI 42)) dX8_term_6 (by decide) ?_
        refine a_cv1i (pc := 8) (c_X8_isSign ν f n b nm op a1 hm 42 (by decide)) m_X8_isSign ml_X8_199 (by omega) (by first | rfl | assumption) rfl rfl (Nat.le_of_ble_eq_true rfl) dX8_term_8 (fun x_8 μ_8 h_8 => ?_)
        obtain ⟨hm_8, hd_8⟩ := h_8
        have hm_8 := hm_8.symm
        subst hm_8
        refine g_if_eq (pc := 11) (tgt := 28) dX8_term_11 (by decide) (fun c_11 => ?_) (fun c_11 => ?_)
        · have c11 := (hd_8.resolve_left (fun q => absurd (q.1.symm.trans c_11) (by decide))).2
          have hstop : opM (lxT b n a1) = 0 := if_neg c11
          refine g_iload_n (pc := 28) dX8_term_28 rfl ?_
          refine g_ireturn (pc := 29) dX8_term_29 rfl (by first | rfl | decide) rfl ⟨_, rfl, ?_⟩
          exact GPost.ok (hres.symm.trans (lpF_0 hstop)) hf hv hm
        · have c11 := (hd_8.resolve_right (fun q => c_11 q.1)).2
          have hst : opM (lxT b n a1) = 10014 := if_pos c11
          have han1 : a1 < n := by
            rcases Nat.lt_or_ge a1 n with h | h
            · exact h
            · exact absurd (lxT_0 (b := b) h hm.2.1) (by omega)
          have hnz : ¬ opM (lxT b n a1) = 0 := by rw [hst]; decide
          have hgo := lxE_go hm.2.1 (show ¬ lxT b n a1 = 0 by omega)
          have h4 := tk4n (b := b) (n := n) (a := a1) (by omega)
          refine g_aload_n (pc := 14) dX8_term_14 rfl ?_
          refine a_cv0v (pc := 15) (c_X8_next ν f n b hm.1 _ (lxE_in b hm.2.1).2 (hm.2.2.1.1 h4)) m_X8_next ml_X8_174 (by omega) (by first | rfl | assumption) rfl rfl (Nat.le_of_ble_eq_true rfl) dX8_term_15 (fun x_15 μ_15 h_15 => ?_)
          obtain ⟨m15, f15⟩ := hm.nx (lxE_in b hm.2.1).2 h_15
          refine g_iload_n (pc := 18) dX8_term_18 rfl ?_
          refine g_aload_n (pc := 19) dX8_term_19 rfl ?_
          refine a_cv0i (pc := 20) (h1 μ_15 _ m15) m_X8_atom ml_X8_206 (by omega) (by first | rfl | assumption) rfl rfl (Nat.le_of_ble_eq_true rfl) dX8_term_20 (fun x_20 μ_20 h_20 => ?_)
          obtain ⟨f20, ⟨g20, rfl, m20⟩ | ⟨g20, b20⟩⟩ := h_20
          · skip
            have hg := G1 _ hE1.2
            refine v_imul (pc := 23) dX8_term_23 rfl ?_
            refine a_ist1 (pc := 24) dX8_term_24 (by decide) rfl ?_
            refine g_goto (pc := 25) (tgt := 5) dX8_term_25 (by decide) ?_
            exact ih (n - (g (lxE b n a1)).2.1) (by omega) (g (lxE b n a1)).2.1 (k - 1) (c1 ++ (g (lxE b n a1)).2.2 ++ [10014]) _ μ_20 ⟨by omega, m20, by rw [vl_bin hs (S1 _ g20) (by decide), ← hv]; exact (jo_mul _ _).symm, hs.bin (S1 _ g20) (by decide) (by decide), by rw [← hres, lpF_s hnz hk han1, if_pos g20, hst], (hf.trans f15).trans f20⟩ rfl
          · skip
            refine v_imul (pc := 23) dX8_term_23 rfl ?_
            refine a_ist1 (pc := 24) dX8_term_24 (by decide) rfl ?_
            refine g_goto (pc := 25) (tgt := 5) dX8_term_25 (by decide) ?_
            exact k5 _ μ_20 ⟨(hf.trans f15).trans f20, ⟨[], by rw [← hres, lpF_s hnz hk han1, if_neg (by rw [g20]; simp)]⟩, by rw [← hres, lpF_s hnz hk han1, if_neg (by rw [g20]; simp)]; exact b20⟩
    exact lp5 _ (g a).2.1 n (g a).2.2 _ μ_1 ⟨by omega, m1, rfl, S1 a g1, (if_pos g1).symm, f1⟩ rfl
  · skip
    refine a_ist1 (pc := 4) dX8_term_4 (by decide) rfl ?_
    exact k5 _ μ_1 ⟨f1, ⟨[], by unfold chF; rw [if_neg (by rw [g1]; simp)]⟩, by unfold chF; rw [if_neg (by rw [g1]; simp)]; exact b1⟩
theorem c_X8_added (op f n : Nat) (b : Nat → Nat) (nm : Nat → Int32) (hop : op ≤ 5) (g : Nat → PR) (D D1 : Nat) (hD : 4 ≤ D ∧ D1 + 1 ≤ D) (h1 : MP yX8_term cX8_term 2 D1 op f n b nm g) (G1 : GDf n g) (S1 : SMf g) (μ : Mem) (a : Nat) (hM : MSg μ f n b nm op a) : CA eI yX8_added cX8_added 4 (some .int) D [.ref 57] μ (GPost μ f n b nm op (chF n b opA g a)) := by
  obtain ⟨hT, han, ⟨k1, k2, k3, k4, k5⟩, k24, k25, knm⟩ := id hM
  have h160 := hT.2.2.2.1
  have hP := lxP_in b han
  have hE := lxE_in b han
  have hTl := lxT_le b n a
  refine CT.of false (by decide) (by decide) (L := [some (.ref 57), none, none, none]) rfl (Nat.le_of_ble_eq_true rfl) ?_
  have k5 : ∀ (v : Int32) (ν : Mem) (hb : MF μ ν ∧ (∃ c1, (chF n b opA g a) = (false, (chF n b opA g a).2.1, c1)) ∧ MB ν n b (chF n b opA g a).2.1) (l2 l3 : Option Value), WG eI yX8_added.cls cX8_added 4 (some .int) false (fun _ _ => True) D (mpost (GPost μ f n b nm op (chF n b opA g a))) 0 0 5 [some (.ref 57), some (.int v), l2, l3] [] (mk ν) := by
    intro v ν hb l2 l3
    refine g_aload_n (pc := 5) dX8_added_5 rfl ?_
    refine g_bipush (pc := 6) (v := (nI 43)) dX8_added_6 (by decide) ?_
    refine a_cv1i (pc := 8) (c_X8_isSignB ν hb.2.2.1 _) m_X8_isSign ml_X8_199 (by omega) (by first | rfl | assumption) rfl rfl (Nat.le_of_ble_eq_true rfl) dX8_added_8 (fun x_8 μ_8 h_8 => ?_)
    obtain ⟨rfl, hm_8⟩ := h_8
    have hm_8 := hm_8.symm
    subst hm_8
    refine g_if_ne (pc := 11) (tgt := 23) dX8_added_11 (by decide) (fun c_11 => absurd rfl c_11) (fun c_11 => ?_)
    refine g_aload_n (pc := 14) dX8_added_14 rfl ?_
    refine g_bipush (pc := 15) (v := (nI 45)) dX8_added_15 (by decide) ?_
    refine a_cv1i (pc := 17) (c_X8_isSignB ν hb.2.2.1 _) m_X8_isSign ml_X8_199 (by omega) (by first | rfl | assumption) rfl rfl (Nat.le_of_ble_eq_true rfl) dX8_added_17 (fun x_17 μ_17 h_17 => ?_)
    obtain ⟨rfl, hm_17⟩ := h_17
    have hm_17 := hm_17.symm
    subst hm_17
    refine g_if_eq (pc := 20) (tgt := 66) dX8_added_20 (by decide) (fun c_20 => ?_) (fun c_20 => absurd rfl c_20)
    refine g_iload_n (pc := 66) dX8_added_66 rfl ?_
    refine g_ireturn (pc := 67) dX8_added_67 rfl (by first | rfl | decide) rfl ⟨_, rfl, ?_⟩
    obtain ⟨hb0, ⟨c1, hb1⟩, hb2⟩ := hb
    exact GPost.no hb1 hb0 hb2
  refine g_aload_n (pc := 0) dX8_added_0 rfl ?_
  refine a_cv0i (pc := 1) (h1 μ _ hM) m_X8_term ml_X8_216 (by omega) (by first | rfl | assumption) rfl rfl (Nat.le_of_ble_eq_true rfl) dX8_added_1 (fun x_1 μ_1 h_1 => ?_)
  obtain ⟨f1, ⟨g1, rfl, m1⟩ | ⟨g1, b1⟩⟩ := h_1
  · skip
    have hg := G1 _ han
    refine a_ist1 (pc := 4) dX8_added_4 (by decide) rfl ?_
    have lp5 : ∀ (zz : Nat) (a1 k : Nat) (c1 : List Nat) (v : Int32) (ν : Mem) (hν : n ≤ a1 + k ∧ MSg ν f n b nm op a1 ∧ v = vl nm c1 ∧ SMc c1 ∧ lpF n b opA g k a1 c1 = (chF n b opA g a) ∧ MF μ ν) (l2 l3 : Option Value), n - a1 = zz → WG eI yX8_added.cls cX8_added 4 (some .int) false (fun _ _ => True) D (mpost (GPost μ f n b nm op (chF n b opA g a))) 0 0 5 [some (.ref 57), some (.int v), l2, l3] [] (mk ν) := by
      intro zz
      induction zz using Nat.strongRecOn with
      | ind zz ih =>
        intro a1 k c1 v ν hν l2 l3 hzz
        obtain ⟨hk, hm, hv, hs, hres, hf⟩ := hν
        have hE1 := lxE_in b hm.2.1
        have hT1l := lxT_le b n a1
        have ha1n := hm.2.1
        refine g_aload_n (pc := 5) dX8_added_5 rfl ?_
        have k23 : ∀ (h43 : lxT b n a1 = 43 ∨ lxT b n a1 = 45), WG eI yX8_added.cls cX8_added 4 (some .int) false (fun _ _ => True) D (mpost (GPost μ f n b nm op (chF n b opA g a))) 0 0 23 [some (.ref 57), some (.int v), l2, l3] [] (mk ν) := by
          intro h43
          obtain ⟨s9, hs9, ht9⟩ : ∃ s, isS s ∧ lxT b n a1 = s := ⟨_, by unfold isS; omega, rfl⟩
          obtain ⟨q1, q2⟩ := (lxT_atS hs9).mp ht9
          have hw9 : ν 57 23 = nI (lxT b n a1) := (hm.2.2.1.2.2.2.2 q1).trans (by rw [q2, ht9])
          refine g_aload_n (pc := 23) dX8_added_23 rfl ?_
          refine a_getl (pc := 24) fl_X8_151 dX8_added_24 (by first | rfl | assumption) rfl ?_
          rw [hw9, nI_l (n := lxT b n a1) (by omega)]
          refine g_ldc2 (pc := 27) dX8_added_27 kc_X8_219 ?_
          refine g_lcmp (pc := 30) dX8_added_30 ?_
          refine g_if_ne (pc := 31) (tgt := 38) dX8_added_31 (by decide) (fun c_31 => ?_) (fun c_31 => ?_)
          · have c31 : ¬ lxT b n a1 = 43 := fun h => c_31 ((lg_cmp_eq _ _).mpr (by rw [h]; rfl))
            have c45 : lxT b n a1 = 45 := by omega
            have hst : opA (lxT b n a1) = 10013 := by rw [c45]; rfl
            have han1 : a1 < n := by
              rcases Nat.lt_or_ge a1 n with h | h
              · exact h
              · exact absurd (lxT_0 (b := b) h hm.2.1) (by omega)
            have hnz : ¬ opA (lxT b n a1) = 0 := by rw [hst]; decide
            have hgo := lxE_go hm.2.1 (show ¬ lxT b n a1 = 0 by omega)
            have h4 := tk4n (b := b) (n := n) (a := a1) (by omega)
            refine g_iconst (pc := 38) (v := (nI 0)) dX8_added_38 (by decide) ?_
            refine a_ist2 (pc := 39) dX8_added_39 (by decide) rfl ?_
            refine g_aload_n (pc := 40) dX8_added_40 rfl ?_
            refine a_cv0v (pc := 41) (c_X8_next ν f n b hm.1 _ (lxE_in b hm.2.1).2 (hm.2.2.1.1 h4)) m_X8_next ml_X8_174 (by omega) (by first | rfl | assumption) rfl rfl (Nat.le_of_ble_eq_true rfl) dX8_added_41 (fun x_41 μ_41 h_41 => ?_)
            obtain ⟨m41, f41⟩ := hm.nx (lxE_in b hm.2.1).2 h_41
            refine g_aload_n (pc := 44) dX8_added_44 rfl ?_
            refine a_cv0i (pc := 45) (h1 μ_41 _ m41) m_X8_term ml_X8_216 (by omega) (by first | rfl | assumption) rfl rfl (Nat.le_of_ble_eq_true rfl) dX8_added_45 (fun x_45 μ_45 h_45 => ?_)
            obtain ⟨f45, ⟨g45, rfl, m45⟩ | ⟨g45, b45⟩⟩ := h_45
            · skip
              have hg := G1 _ hE1.2
              refine a_ist3 (pc := 48) dX8_added_48 (by decide) rfl ?_
              refine g_iload_n (pc := 49) dX8_added_49 rfl ?_
              refine g_if_eq (pc := 50) (tgt := 59) dX8_added_50 (by decide) (fun c_50 => ?_) (fun c_50 => absurd rfl c_50)
              refine g_iload_n (pc := 59) dX8_added_59 rfl ?_
              refine g_iload_n (pc := 60) dX8_added_60 rfl ?_
              refine v_isub (pc := 61) dX8_added_61 rfl ?_
              refine a_ist1 (pc := 62) dX8_added_62 (by decide) rfl ?_
              refine g_goto (pc := 63) (tgt := 5) dX8_added_63 (by decide) ?_
              exact ih (n - (g (lxE b n a1)).2.1) (by omega) (g (lxE b n a1)).2.1 (k - 1) (c1 ++ (g (lxE b n a1)).2.2 ++ [10013]) _ μ_45 ⟨by omega, m45, by rw [vl_bin hs (S1 _ g45) (by decide), ← hv]; exact (jo_sub _ _).symm, hs.bin (S1 _ g45) (by decide) (by decide), by rw [← hres, lpF_s hnz hk han1, if_pos g45, hst], (hf.trans f41).trans f45⟩ _ _ rfl
            · skip
              refine a_ist3 (pc := 48) dX8_added_48 (by decide) rfl ?_
              refine g_iload_n (pc := 49) dX8_added_49 rfl ?_
              refine g_if_eq (pc := 50) (tgt := 59) dX8_added_50 (by decide) (fun c_50 => ?_) (fun c_50 => absurd rfl c_50)
              refine g_iload_n (pc := 59) dX8_added_59 rfl ?_
              refine g_iload_n (pc := 60) dX8_added_60 rfl ?_
              refine v_isub (pc := 61) dX8_added_61 rfl ?_
              refine a_ist1 (pc := 62) dX8_added_62 (by decide) rfl ?_
              refine g_goto (pc := 63) (tgt := 5) dX8_added_63 (by decide) ?_
              exact k5 _ μ_45 ⟨(hf.trans f41).trans f45, ⟨[], by rw [← hres, lpF_s hnz hk han1, if_neg (by rw [g45]; simp)]⟩, by rw [← hres, lpF_s hnz hk han1, if_neg (by rw [g45]; simp)]; exact b45⟩ _ _
          · have c31 : lxT b n a1 = 43 := (lN_eq (a := lxT b n a1) (b := 43) (by omega) (by decide)).mp ((lg_cmp_eq _ _).mp c_31)
            have hst : opA (lxT b n a1) = 10012 := by rw [c31]; rfl
            have han1 : a1 < n := by
              rcases Nat.lt_or_ge a1 n with h | h
              · exact h
              · exact absurd (lxT_0 (b := b) h hm.2.1) (by omega)
            have hnz : ¬ opA (lxT b n a1) = 0 := by rw [hst]; decide
            have hgo := lxE_go hm.2.1 (show ¬ lxT b n a1 = 0 by omega)
            have h4 := tk4n (b := b) (n := n) (a := a1) (by omega)
            refine g_iconst (pc := 34) (v := (nI 1)) dX8_added_34 (by decide) ?_
            refine g_goto (pc := 35) (tgt := 39) dX8_added_35 (by decide) ?_
            refine a_ist2 (pc := 39) dX8_added_39 (by decide) rfl ?_
            refine g_aload_n (pc := 40) dX8_added_40 rfl ?_
            refine a_cv0v (pc := 41) (c_X8_next ν f n b hm.1 _ (lxE_in b hm.2.1).2 (hm.2.2.1.1 h4)) m_X8_next ml_X8_174 (by omega) (by first | rfl | assumption) rfl rfl (Nat.le_of_ble_eq_true rfl) dX8_added_41 (fun x_41 μ_41 h_41 => ?_)
            obtain ⟨m41, f41⟩ := hm.nx (lxE_in b hm.2.1).2 h_41
            refine g_aload_n (pc := 44) dX8_added_44 rfl ?_
            refine a_cv0i (pc := 45) (h1 μ_41 _ m41) m_X8_term ml_X8_216 (by omega) (by first | rfl | assumption) rfl rfl (Nat.le_of_ble_eq_true rfl) dX8_added_45 (fun x_45 μ_45 h_45 => ?_)
            obtain ⟨f45, ⟨g45, rfl, m45⟩ | ⟨g45, b45⟩⟩ := h_45
            · skip
              have hg := G1 _ hE1.2
              refine a_ist3 (pc := 48) dX8_added_48 (by decide) rfl ?_
              refine g_iload_n (pc := 49) dX8_added_49 rfl ?_
              refine g_if_eq (pc := 50) (tgt := 59) dX8_added_50 (by decide) (fun c_50 => absurd c_50 (by decide)) (fun c_50 => ?_)
              refine g_iload_n (pc := 53) dX8_added_53 rfl ?_
              refine g_iload_n (pc := 54) dX8_added_54 rfl ?_
              refine v_iadd (pc := 55) dX8_added_55 rfl ?_
              refine g_goto (pc := 56) (tgt := 62) dX8_added_56 (by decide) ?_
              refine a_ist1 (pc := 62) dX8_added_62 (by decide) rfl ?_
              refine g_goto (pc := 63) (tgt := 5) dX8_added_63 (by decide) ?_
              exact ih (n - (g (lxE b n a1)).2.1) (by omega) (g (lxE b n a1)).2.1 (k - 1) (c1 ++ (g (lxE b n a1)).2.2 ++ [10012]) _ μ_45 ⟨by omega, m45, by rw [vl_bin hs (S1 _ g45) (by decide), ← hv]; exact (jo_add _ _).symm, hs.bin (S1 _ g45) (by decide) (by decide), by rw [← hres, lpF_s hnz hk han1, if_pos g45, hst], (hf.trans f41).trans f45⟩ _ _ rfl
            · skip
              refine a_ist3 (pc := 48) dX8_added_48 (by decide) rfl ?_
              refine g_iload_n (pc := 49) dX8_added_49 rfl ?_
              refine g_if_eq (pc := 50) (tgt := 59) dX8_added_50 (by decide) (fun c_50 => absurd c_50 (by decide)) (fun c_50 => ?_)
              refine g_iload_n (pc := 53) dX8_added_53 rfl ?_
              refine g_iload_n (pc := 54) dX8_added_54 rfl ?_
              refine v_iadd (pc := 55) dX8_added_55 rfl ?_
              refine g_goto (pc := 56) (tgt := 62) dX8_added_56 (by decide) ?_
              refine a_ist1 (pc := 62) dX8_added_62 (by decide) rfl ?_
              refine g_goto (pc := 63) (tgt := 5) dX8_added_63 (by decide) ?_
              exact k5 _ μ_45 ⟨(hf.trans f41).trans f45, ⟨[], by rw [← hres, lpF_s hnz hk han1, if_neg (by rw [g45]; simp)]⟩, by rw [← hres, lpF_s hnz hk han1, if_neg (by rw [g45]; simp)]; exact b45⟩ _ _
        refine g_bipush (pc := 6) (v := (nI 43)) dX8_added_6 (by decide) ?_
        refine a_cv1i (pc := 8) (c_X8_isSign ν f n b nm op a1 hm 43 (by decide)) m_X8_isSign ml_X8_199 (by omega) (by first | rfl | assumption) rfl rfl (Nat.le_of_ble_eq_true rfl) dX8_added_8 (fun x_8 μ_8 h_8 => ?_)
        obtain ⟨hm_8, hd_8⟩ := h_8
        have hm_8 := hm_8.symm
        subst hm_8
        refine g_if_ne (pc := 11) (tgt := 23) dX8_added_11 (by decide) (fun c_11 => ?_) (fun c_11 => ?_)
        · have c11 := (hd_8.resolve_right (fun q => c_11 q.1)).2
          exact k23 (by omega)
        · have c11 := (hd_8.resolve_left (fun q => absurd (q.1.symm.trans c_11) (by decide))).2
          refine g_aload_n (pc := 14) dX8_added_14 rfl ?_
          refine g_bipush (pc := 15) (v := (nI 45)) dX8_added_15 (by decide) ?_
          refine a_cv1i (pc := 17) (c_X8_isSign ν f n b nm op a1 hm 45 (by decide)) m_X8_isSign ml_X8_199 (by omega) (by first | rfl | assumption) rfl rfl (Nat.le_of_ble_eq_true rfl) dX8_added_17 (fun x_17 μ_17 h_17 => ?_)
          obtain ⟨hm_17, hd_17⟩ := h_17
          have hm_17 := hm_17.symm
          subst hm_17
          refine g_if_eq (pc := 20) (tgt := 66) dX8_added_20 (by decide) (fun c_20 => ?_) (fun c_20 => ?_)
          · have c20 := (hd_17.resolve_left (fun q => absurd (q.1.symm.trans c_20) (by decide))).2
            have hstop : opA (lxT b n a1) = 0 := (if_neg c11).trans (if_neg c20)
            refine g_iload_n (pc := 66) dX8_added_66 rfl ?_
            refine g_ireturn (pc := 67) dX8_added_67 rfl (by first | rfl | decide) rfl ⟨_, rfl, ?_⟩
            exact GPost.ok (hres.symm.trans (lpF_0 hstop)) hf hv hm
          · have c20 := (hd_17.resolve_right (fun q => c_20 q.1)).2
            exact k23 (by omega)
    exact lp5 _ (g a).2.1 n (g a).2.2 _ μ_1 ⟨by omega, m1, rfl, S1 a g1, (if_pos g1).symm, f1⟩ _ _ rfl
  · skip
    refine a_ist1 (pc := 4) dX8_added_4 (by decide) rfl ?_
    exact k5 _ μ_1 ⟨f1, ⟨[], by unfold chF; rw [if_neg (by rw [g1]; simp)]⟩, by unfold chF; rw [if_neg (by rw [g1]; simp)]; exact b1⟩ _ _
theorem c_X8_both (op f n : Nat) (b : Nat → Nat) (nm : Nat → Int32) (hop : op ≤ 5) (g : Nat → PR) (D D1 : Nat) (hD : 4 ≤ D ∧ D1 + 1 ≤ D) (h1 : MP yX8_not cX8_not 4 D1 op f n b nm g) (G1 : GDf n g) (S1 : SMf g) (μ : Mem) (a : Nat) (hM : MSg μ f n b nm op a) : CA eI yX8_both cX8_both 3 (some .int) D [.ref 57] μ (GPost μ f n b nm op (chF n b opN g a)) := by
  obtain ⟨hT, han, ⟨k1, k2, k3, k4, k5⟩, k24, k25, knm⟩ := id hM
  have h160 := hT.2.2.2.1
  have hP := lxP_in b han
  have hE := lxE_in b han
  have hTl := lxT_le b n a
  refine CT.of false (by decide) (by decide) (L := [some (.ref 57), none, none]) rfl (Nat.le_of_ble_eq_true rfl) ?_
  have k5 : ∀ (v : Int32) (ν : Mem) (hb : MF μ ν ∧ (∃ c1, (chF n b opN g a) = (false, (chF n b opN g a).2.1, c1)) ∧ MB ν n b (chF n b opN g a).2.1) (l2 : Option Value), WG eI yX8_both.cls cX8_both 3 (some .int) false (fun _ _ => True) D (mpost (GPost μ f n b nm op (chF n b opN g a))) 0 0 5 [some (.ref 57), some (.int v), l2] [] (mk ν) := by
    intro v ν hb l2
    refine g_aload_n (pc := 5) dX8_both_5 rfl ?_
    refine g_bipush (pc := 6) (v := (nI 97)) dX8_both_6 (by decide) ?_
    refine g_bipush (pc := 8) (v := (nI 110)) dX8_both_8 (by decide) ?_
    refine g_bipush (pc := 10) (v := (nI 100)) dX8_both_10 (by decide) ?_
    refine g_iconst (pc := 12) (v := (nI 0)) dX8_both_12 (by decide) ?_
    refine g_iconst (pc := 13) (v := (nI 0)) dX8_both_13 (by decide) ?_
    refine g_iconst (pc := 14) (v := (nI 0)) dX8_both_14 (by decide) ?_
    refine g_iconst (pc := 15) (v := (nI 0)) dX8_both_15 (by decide) ?_
    refine g_iconst (pc := 16) (v := (nI 0)) dX8_both_16 (by decide) ?_
    refine a_cv8i (pc := 17) (c_X8_isWordB ν hb.2.2.1 _ _ _ _ _ _ _ _) m_X8_isWord ml_X8_177 (by omega) (by first | rfl | assumption) rfl rfl (Nat.le_of_ble_eq_true rfl) dX8_both_17 (fun x_17 μ_17 h_17 => ?_)
    obtain ⟨rfl, hm_17⟩ := h_17
    have hm_17 := hm_17.symm
    subst hm_17
    refine g_if_eq (pc := 20) (tgt := 49) dX8_both_20 (by decide) (fun c_20 => ?_) (fun c_20 => absurd rfl c_20)
    refine g_iload_n (pc := 49) dX8_both_49 rfl ?_
    refine g_ireturn (pc := 50) dX8_both_50 rfl (by first | rfl | decide) rfl ⟨_, rfl, ?_⟩
    obtain ⟨hb0, ⟨c1, hb1⟩, hb2⟩ := hb
    exact GPost.no hb1 hb0 hb2
  refine g_aload_n (pc := 0) dX8_both_0 rfl ?_
  refine a_cv0i (pc := 1) (h1 μ _ hM) m_X8_not ml_X8_221 (by omega) (by first | rfl | assumption) rfl rfl (Nat.le_of_ble_eq_true rfl) dX8_both_1 (fun x_1 μ_1 h_1 => ?_)
  obtain ⟨f1, ⟨g1, rfl, m1⟩ | ⟨g1, b1⟩⟩ := h_1
  · skip
    have hg := G1 _ han
    refine a_ist1 (pc := 4) dX8_both_4 (by decide) rfl ?_
    have lp5 : ∀ (zz : Nat) (a1 k : Nat) (c1 : List Nat) (v : Int32) (ν : Mem) (hν : n ≤ a1 + k ∧ MSg ν f n b nm op a1 ∧ v = vl nm c1 ∧ SMc c1 ∧ lpF n b opN g k a1 c1 = (chF n b opN g a) ∧ MF μ ν) (l2 : Option Value), n - a1 = zz → WG eI yX8_both.cls cX8_both 3 (some .int) false (fun _ _ => True) D (mpost (GPost μ f n b nm op (chF n b opN g a))) 0 0 5 [some (.ref 57), some (.int v), l2] [] (mk ν) := by
      intro zz
      induction zz using Nat.strongRecOn with
      | ind zz ih =>
        intro a1 k c1 v ν hν l2 hzz
        obtain ⟨hk, hm, hv, hs, hres, hf⟩ := hν
        have hE1 := lxE_in b hm.2.1
        have hT1l := lxT_le b n a1
        have ha1n := hm.2.1
        refine g_aload_n (pc := 5) dX8_both_5 rfl ?_
        refine g_bipush (pc := 6) (v := (nI 97)) dX8_both_6 (by decide) ?_
        refine g_bipush (pc := 8) (v := (nI 110)) dX8_both_8 (by decide) ?_
        refine g_bipush (pc := 10) (v := (nI 100)) dX8_both_10 (by decide) ?_
        refine g_iconst (pc := 12) (v := (nI 0)) dX8_both_12 (by decide) ?_
        refine g_iconst (pc := 13) (v := (nI 0)) dX8_both_13 (by decide) ?_
        refine g_iconst (pc := 14) (v := (nI 0)) dX8_both_14 (by decide) ?_
        refine g_iconst (pc := 15) (v := (nI 0)) dX8_both_15 (by decide) ?_
        refine g_iconst (pc := 16) (v := (nI 0)) dX8_both_16 (by decide) ?_
        refine a_cv8i (pc := 17) (c_X8_isWord ν f n b nm op a1 hm 10 (by decide)) m_X8_isWord ml_X8_177 (by omega) (by first | rfl | assumption) rfl rfl (Nat.le_of_ble_eq_true rfl) dX8_both_17 (fun x_17 μ_17 h_17 => ?_)
        obtain ⟨hm_17, hd_17⟩ := h_17
        have hm_17 := hm_17.symm
        subst hm_17
        rw [← lxT_atK (i := 10) (by decide) (by decide)] at hd_17
        refine g_if_eq (pc := 20) (tgt := 49) dX8_both_20 (by decide) (fun c_20 => ?_) (fun c_20 => ?_)
        · have c20 := (hd_17.resolve_left (fun q => absurd (q.1.symm.trans c_20) (by decide))).2
          have hstop : opN (lxT b n a1) = 0 := if_neg c20
          refine g_iload_n (pc := 49) dX8_both_49 rfl ?_
          refine g_ireturn (pc := 50) dX8_both_50 rfl (by first | rfl | decide) rfl ⟨_, rfl, ?_⟩
          exact GPost.ok (hres.symm.trans (lpF_0 hstop)) hf hv hm
        · have c20 := (hd_17.resolve_right (fun q => c_20 q.1)).2
          have hst : opN (lxT b n a1) = 10017 := if_pos c20
          have c20 : lxT b n a1 = 260 := c20
          have han1 : a1 < n := by
            rcases Nat.lt_or_ge a1 n with h | h
            · exact h
            · exact absurd (lxT_0 (b := b) h hm.2.1) (by omega)
          have hnz : ¬ opN (lxT b n a1) = 0 := by rw [hst]; decide
          have hgo := lxE_go hm.2.1 (show ¬ lxT b n a1 = 0 by omega)
          have h4 := tk4n (b := b) (n := n) (a := a1) (by omega)
          refine g_aload_n (pc := 23) dX8_both_23 rfl ?_
          refine a_cv0v (pc := 24) (c_X8_next ν f n b hm.1 _ (lxE_in b hm.2.1).2 (hm.2.2.1.1 h4)) m_X8_next ml_X8_174 (by omega) (by first | rfl | assumption) rfl rfl (Nat.le_of_ble_eq_true rfl) dX8_both_24 (fun x_24 μ_24 h_24 => ?_)
          obtain ⟨m24, f24⟩ := hm.nx (lxE_in b hm.2.1).2 h_24
          refine g_aload_n (pc := 27) dX8_both_27 rfl ?_
          refine a_cv0i (pc := 28) (h1 μ_24 _ m24) m_X8_not ml_X8_221 (by omega) (by first | rfl | assumption) rfl rfl (Nat.le_of_ble_eq_true rfl) dX8_both_28 (fun x_28 μ_28 h_28 => ?_)
          obtain ⟨f28, ⟨g28, rfl, m28⟩ | ⟨g28, b28⟩⟩ := h_28
          · skip
            have hg := G1 _ hE1.2
            refine a_ist2 (pc := 31) dX8_both_31 (by decide) rfl ?_
            refine g_iload_n (pc := 32) dX8_both_32 rfl ?_
            refine g_if_eq (pc := 33) (tgt := 44) dX8_both_33 (by decide) (fun c_33 => ?_) (fun c_33 => ?_)
            · refine g_iconst (pc := 44) (v := (nI 0)) dX8_both_44 (by decide) ?_
              refine a_ist1 (pc := 45) dX8_both_45 (by decide) rfl ?_
              refine g_goto (pc := 46) (tgt := 5) dX8_both_46 (by decide) ?_
              exact ih (n - (g (lxE b n a1)).2.1) (by omega) (g (lxE b n a1)).2.1 (k - 1) (c1 ++ (g (lxE b n a1)).2.2 ++ [10017]) _ μ_28 ⟨by omega, m28, by rw [vl_bin hs (S1 _ g28) (by decide), ← hv]; (rw [jo_and]; first | exact (if_neg (fun q => q.elim c_33 c_37)).symm | exact (if_pos (Or.inl c_33)).symm | exact (if_pos (Or.inr c_37)).symm), hs.bin (S1 _ g28) (by decide) (by decide), by rw [← hres, lpF_s hnz hk han1, if_pos g28, hst], (hf.trans f24).trans f28⟩ _ rfl
            · refine g_iload_n (pc := 36) dX8_both_36 rfl ?_
              refine g_if_eq (pc := 37) (tgt := 44) dX8_both_37 (by decide) (fun c_37 => ?_) (fun c_37 => ?_)
              · refine g_iconst (pc := 44) (v := (nI 0)) dX8_both_44 (by decide) ?_
                refine a_ist1 (pc := 45) dX8_both_45 (by decide) rfl ?_
                refine g_goto (pc := 46) (tgt := 5) dX8_both_46 (by decide) ?_
                exact ih (n - (g (lxE b n a1)).2.1) (by omega) (g (lxE b n a1)).2.1 (k - 1) (c1 ++ (g (lxE b n a1)).2.2 ++ [10017]) _ μ_28 ⟨by omega, m28, by rw [vl_bin hs (S1 _ g28) (by decide), ← hv]; (rw [jo_and]; first | exact (if_neg (fun q => q.elim c_33 c_37)).symm | exact (if_pos (Or.inl c_33)).symm | exact (if_pos (Or.inr c_37)).symm), hs.bin (S1 _ g28) (by decide) (by decide), by rw [← hres, lpF_s hnz hk han1, if_pos g28, hst], (hf.trans f24).trans f28⟩ _ rfl
              · refine g_iconst (pc := 40) (v := (nI 1)) dX8_both_40 (by decide) ?_
                refine g_goto (pc := 41) (tgt := 45) dX8_both_41 (by decide) ?_
                refine a_ist1 (pc := 45) dX8_both_45 (by decide) rfl ?_
                refine g_goto (pc := 46) (tgt := 5) dX8_both_46 (by decide) ?_
                exact ih (n - (g (lxE b n a1)).2.1) (by omega) (g (lxE b n a1)).2.1 (k - 1) (c1 ++ (g (lxE b n a1)).2.2 ++ [10017]) _ μ_28 ⟨by omega, m28, by rw [vl_bin hs (S1 _ g28) (by decide), ← hv]; (rw [jo_and]; first | exact (if_neg (fun q => q.elim c_33 c_37)).symm | exact (if_pos (Or.inl c_33)).symm | exact (if_pos (Or.inr c_37)).symm), hs.bin (S1 _ g28) (by decide) (by decide), by rw [← hres, lpF_s hnz hk han1, if_pos g28, hst], (hf.trans f24).trans f28⟩ _ rfl
          · skip
            refine a_ist2 (pc := 31) dX8_both_31 (by decide) rfl ?_
            refine g_iload_n (pc := 32) dX8_both_32 rfl ?_
            refine g_if_eq (pc := 33) (tgt := 44) dX8_both_33 (by decide) (fun c_33 => ?_) (fun c_33 => ?_)
            · refine g_iconst (pc := 44) (v := (nI 0)) dX8_both_44 (by decide) ?_
              refine a_ist1 (pc := 45) dX8_both_45 (by decide) rfl ?_
              refine g_goto (pc := 46) (tgt := 5) dX8_both_46 (by decide) ?_
              exact k5 _ μ_28 ⟨(hf.trans f24).trans f28, ⟨[], by rw [← hres, lpF_s hnz hk han1, if_neg (by rw [g28]; simp)]⟩, by rw [← hres, lpF_s hnz hk han1, if_neg (by rw [g28]; simp)]; exact b28⟩ _
            · refine g_iload_n (pc := 36) dX8_both_36 rfl ?_
              refine g_if_eq (pc := 37) (tgt := 44) dX8_both_37 (by decide) (fun c_37 => ?_) (fun c_37 => ?_)
              · refine g_iconst (pc := 44) (v := (nI 0)) dX8_both_44 (by decide) ?_
                refine a_ist1 (pc := 45) dX8_both_45 (by decide) rfl ?_
                refine g_goto (pc := 46) (tgt := 5) dX8_both_46 (by decide) ?_
                exact k5 _ μ_28 ⟨(hf.trans f24).trans f28, ⟨[], by rw [← hres, lpF_s hnz hk han1, if_neg (by rw [g28]; simp)]⟩, by rw [← hres, lpF_s hnz hk han1, if_neg (by rw [g28]; simp)]; exact b28⟩ _
              · refine g_iconst (pc := 40) (v := (nI 1)) dX8_both_40 (by decide) ?_
                refine g_goto (pc := 41) (tgt := 45) dX8_both_41 (by decide) ?_
                refine a_ist1 (pc := 45) dX8_both_45 (by decide) rfl ?_
                refine g_goto (pc := 46) (tgt := 5) dX8_both_46 (by decide) ?_
                exact k5 _ μ_28 ⟨(hf.trans f24).trans f28, ⟨[], by rw [← hres, lpF_s hnz hk han1, if_neg (by rw [g28]; simp)]⟩, by rw [← hres, lpF_s hnz hk han1, if_neg (by rw [g28]; simp)]; exact b28⟩ _
    exact lp5 _ (g a).2.1 n (g a).2.2 _ μ_1 ⟨by omega, m1, rfl, S1 a g1, (if_pos g1).symm, f1⟩ _ rfl
  · skip
    refine a_ist1 (pc := 4) dX8_both_4 (by decide) rfl ?_
    exact k5 _ μ_1 ⟨f1, ⟨[], by unfold chF; rw [if_neg (by rw [g1]; simp)]⟩, by unfold chF; rw [if_neg (by rw [g1]; simp)]; exact b1⟩ _
theorem c_X8_either (op f n : Nat) (b : Nat → Nat) (nm : Nat → Int32) (hop : op ≤ 5) (g : Nat → PR) (D D1 : Nat) (hD : 4 ≤ D ∧ D1 + 1 ≤ D) (h1 : MP yX8_both cX8_both 3 D1 op f n b nm g) (G1 : GDf n g) (S1 : SMf g) (μ : Mem) (a : Nat) (hM : MSg μ f n b nm op a) : CA eI yX8_either cX8_either 3 (some .int) D [.ref 57] μ (GPost μ f n b nm op (chF n b opO g a)) := by
  obtain ⟨hT, han, ⟨k1, k2, k3, k4, k5⟩, k24, k25, knm⟩ := id hM
  have h160 := hT.2.2.2.1
  have hP := lxP_in b han
  have hE := lxE_in b han
  have hTl := lxT_le b n a
  refine CT.of false (by decide) (by decide) (L := [some (.ref 57), none, none]) rfl (Nat.le_of_ble_eq_true rfl) ?_
  have k5 : ∀ (v : Int32) (ν : Mem) (hb : MF μ ν ∧ (∃ c1, (chF n b opO g a) = (false, (chF n b opO g a).2.1, c1)) ∧ MB ν n b (chF n b opO g a).2.1) (l2 : Option Value), WG eI yX8_either.cls cX8_either 3 (some .int) false (fun _ _ => True) D (mpost (GPost μ f n b nm op (chF n b opO g a))) 0 0 5 [some (.ref 57), some (.int v), l2] [] (mk ν) := by
    intro v ν hb l2
    refine g_aload_n (pc := 5) dX8_either_5 rfl ?_
    refine g_bipush (pc := 6) (v := (nI 111)) dX8_either_6 (by decide) ?_
    refine g_bipush (pc := 8) (v := (nI 114)) dX8_either_8 (by decide) ?_
    refine g_iconst (pc := 10) (v := (nI 0)) dX8_either_10 (by decide) ?_
    refine g_iconst (pc := 11) (v := (nI 0)) dX8_either_11 (by decide) ?_
    refine g_iconst (pc := 12) (v := (nI 0)) dX8_either_12 (by decide) ?_
    refine g_iconst (pc := 13) (v := (nI 0)) dX8_either_13 (by decide) ?_
    refine g_iconst (pc := 14) (v := (nI 0)) dX8_either_14 (by decide) ?_
    refine g_iconst (pc := 15) (v := (nI 0)) dX8_either_15 (by decide) ?_
    refine a_cv8i (pc := 16) (c_X8_isWordB ν hb.2.2.1 _ _ _ _ _ _ _ _) m_X8_isWord ml_X8_177 (by omega) (by first | rfl | assumption) rfl rfl (Nat.le_of_ble_eq_true rfl) dX8_either_16 (fun x_16 μ_16 h_16 => ?_)
    obtain ⟨rfl, hm_16⟩ := h_16
    have hm_16 := hm_16.symm
    subst hm_16
    refine g_if_eq (pc := 19) (tgt := 48) dX8_either_19 (by decide) (fun c_19 => ?_) (fun c_19 => absurd rfl c_19)
    refine g_iload_n (pc := 48) dX8_either_48 rfl ?_
    refine g_ireturn (pc := 49) dX8_either_49 rfl (by first | rfl | decide) rfl ⟨_, rfl, ?_⟩
    obtain ⟨hb0, ⟨c1, hb1⟩, hb2⟩ := hb
    exact GPost.no hb1 hb0 hb2
  refine g_aload_n (pc := 0) dX8_either_0 rfl ?_
  refine a_cv0i (pc := 1) (h1 μ _ hM) m_X8_both ml_X8_229 (by omega) (by first | rfl | assumption) rfl rfl (Nat.le_of_ble_eq_true rfl) dX8_either_1 (fun x_1 μ_1 h_1 => ?_)
  obtain ⟨f1, ⟨g1, rfl, m1⟩ | ⟨g1, b1⟩⟩ := h_1
  · skip
    have hg := G1 _ han
    refine a_ist1 (pc := 4) dX8_either_4 (by decide) rfl ?_
    have lp5 : ∀ (zz : Nat) (a1 k : Nat) (c1 : List Nat) (v : Int32) (ν : Mem) (hν : n ≤ a1 + k ∧ MSg ν f n b nm op a1 ∧ v = vl nm c1 ∧ SMc c1 ∧ lpF n b opO g k a1 c1 = (chF n b opO g a) ∧ MF μ ν) (l2 : Option Value), n - a1 = zz → WG eI yX8_either.cls cX8_either 3 (some .int) false (fun _ _ => True) D (mpost (GPost μ f n b nm op (chF n b opO g a))) 0 0 5 [some (.ref 57), some (.int v), l2] [] (mk ν) := by
      intro zz
      induction zz using Nat.strongRecOn with
      | ind zz ih =>
        intro a1 k c1 v ν hν l2 hzz
        obtain ⟨hk, hm, hv, hs, hres, hf⟩ := hν
        have hE1 := lxE_in b hm.2.1
        have hT1l := lxT_le b n a1
        have ha1n := hm.2.1
        refine g_aload_n (pc := 5) dX8_either_5 rfl ?_
        refine g_bipush (pc := 6) (v := (nI 111)) dX8_either_6 (by decide) ?_
        refine g_bipush (pc := 8) (v := (nI 114)) dX8_either_8 (by decide) ?_
        refine g_iconst (pc := 10) (v := (nI 0)) dX8_either_10 (by decide) ?_
        refine g_iconst (pc := 11) (v := (nI 0)) dX8_either_11 (by decide) ?_
        refine g_iconst (pc := 12) (v := (nI 0)) dX8_either_12 (by decide) ?_
        refine g_iconst (pc := 13) (v := (nI 0)) dX8_either_13 (by decide) ?_
        refine g_iconst (pc := 14) (v := (nI 0)) dX8_either_14 (by decide) ?_
        refine g_iconst (pc := 15) (v := (nI 0)) dX8_either_15 (by decide) ?_
        refine a_cv8i (pc := 16) (c_X8_isWord ν f n b nm op a1 hm 9 (by decide)) m_X8_isWord ml_X8_177 (by omega) (by first | rfl | assumption) rfl rfl (Nat.le_of_ble_eq_true rfl) dX8_either_16 (fun x_16 μ_16 h_16 => ?_)
        obtain ⟨hm_16, hd_16⟩ := h_16
        have hm_16 := hm_16.symm
        subst hm_16
        rw [← lxT_atK (i := 9) (by decide) (by decide)] at hd_16
        refine g_if_eq (pc := 19) (tgt := 48) dX8_either_19 (by decide) (fun c_19 => ?_) (fun c_19 => ?_)
        · have c19 := (hd_16.resolve_left (fun q => absurd (q.1.symm.trans c_19) (by decide))).2
          have hstop : opO (lxT b n a1) = 0 := if_neg c19
          refine g_iload_n (pc := 48) dX8_either_48 rfl ?_
          refine g_ireturn (pc := 49) dX8_either_49 rfl (by first | rfl | decide) rfl ⟨_, rfl, ?_⟩
          exact GPost.ok (hres.symm.trans (lpF_0 hstop)) hf hv hm
        · have c19 := (hd_16.resolve_right (fun q => c_19 q.1)).2
          have hst : opO (lxT b n a1) = 10018 := if_pos c19
          have c19 : lxT b n a1 = 259 := c19
          have han1 : a1 < n := by
            rcases Nat.lt_or_ge a1 n with h | h
            · exact h
            · exact absurd (lxT_0 (b := b) h hm.2.1) (by omega)
          have hnz : ¬ opO (lxT b n a1) = 0 := by rw [hst]; decide
          have hgo := lxE_go hm.2.1 (show ¬ lxT b n a1 = 0 by omega)
          have h4 := tk4n (b := b) (n := n) (a := a1) (by omega)
          refine g_aload_n (pc := 22) dX8_either_22 rfl ?_
          refine a_cv0v (pc := 23) (c_X8_next ν f n b hm.1 _ (lxE_in b hm.2.1).2 (hm.2.2.1.1 h4)) m_X8_next ml_X8_174 (by omega) (by first | rfl | assumption) rfl rfl (Nat.le_of_ble_eq_true rfl) dX8_either_23 (fun x_23 μ_23 h_23 => ?_)
          obtain ⟨m23, f23⟩ := hm.nx (lxE_in b hm.2.1).2 h_23
          refine g_aload_n (pc := 26) dX8_either_26 rfl ?_
          refine a_cv0i (pc := 27) (h1 μ_23 _ m23) m_X8_both ml_X8_229 (by omega) (by first | rfl | assumption) rfl rfl (Nat.le_of_ble_eq_true rfl) dX8_either_27 (fun x_27 μ_27 h_27 => ?_)
          obtain ⟨f27, ⟨g27, rfl, m27⟩ | ⟨g27, b27⟩⟩ := h_27
          · skip
            have hg := G1 _ hE1.2
            refine a_ist2 (pc := 30) dX8_either_30 (by decide) rfl ?_
            refine g_iload_n (pc := 31) dX8_either_31 rfl ?_
            refine g_if_ne (pc := 32) (tgt := 39) dX8_either_32 (by decide) (fun c_32 => ?_) (fun c_32 => ?_)
            · refine g_iconst (pc := 39) (v := (nI 1)) dX8_either_39 (by decide) ?_
              refine g_goto (pc := 40) (tgt := 44) dX8_either_40 (by decide) ?_
              refine a_ist1 (pc := 44) dX8_either_44 (by decide) rfl ?_
              refine g_goto (pc := 45) (tgt := 5) dX8_either_45 (by decide) ?_
              exact ih (n - (g (lxE b n a1)).2.1) (by omega) (g (lxE b n a1)).2.1 (k - 1) (c1 ++ (g (lxE b n a1)).2.2 ++ [10018]) _ μ_27 ⟨by omega, m27, by rw [vl_bin hs (S1 _ g27) (by decide), ← hv]; (rw [jo_or]; first | exact (if_neg (fun q => c_32 q.1)).symm | exact (if_neg (fun q => c_36 q.2)).symm | exact (if_pos ⟨c_32, c_36⟩).symm), hs.bin (S1 _ g27) (by decide) (by decide), by rw [← hres, lpF_s hnz hk han1, if_pos g27, hst], (hf.trans f23).trans f27⟩ _ rfl
            · refine g_iload_n (pc := 35) dX8_either_35 rfl ?_
              refine g_if_eq (pc := 36) (tgt := 43) dX8_either_36 (by decide) (fun c_36 => ?_) (fun c_36 => ?_)
              · refine g_iconst (pc := 43) (v := (nI 0)) dX8_either_43 (by decide) ?_
                refine a_ist1 (pc := 44) dX8_either_44 (by decide) rfl ?_
                refine g_goto (pc := 45) (tgt := 5) dX8_either_45 (by decide) ?_
                exact ih (n - (g (lxE b n a1)).2.1) (by omega) (g (lxE b n a1)).2.1 (k - 1) (c1 ++ (g (lxE b n a1)).2.2 ++ [10018]) _ μ_27 ⟨by omega, m27, by rw [vl_bin hs (S1 _ g27) (by decide), ← hv]; (rw [jo_or]; first | exact (if_neg (fun q => c_32 q.1)).symm | exact (if_neg (fun q => c_36 q.2)).symm | exact (if_pos ⟨c_32, c_36⟩).symm), hs.bin (S1 _ g27) (by decide) (by decide), by rw [← hres, lpF_s hnz hk han1, if_pos g27, hst], (hf.trans f23).trans f27⟩ _ rfl
              · refine g_iconst (pc := 39) (v := (nI 1)) dX8_either_39 (by decide) ?_
                refine g_goto (pc := 40) (tgt := 44) dX8_either_40 (by decide) ?_
                refine a_ist1 (pc := 44) dX8_either_44 (by decide) rfl ?_
                refine g_goto (pc := 45) (tgt := 5) dX8_either_45 (by decide) ?_
                exact ih (n - (g (lxE b n a1)).2.1) (by omega) (g (lxE b n a1)).2.1 (k - 1) (c1 ++ (g (lxE b n a1)).2.2 ++ [10018]) _ μ_27 ⟨by omega, m27, by rw [vl_bin hs (S1 _ g27) (by decide), ← hv]; (rw [jo_or]; first | exact (if_neg (fun q => c_32 q.1)).symm | exact (if_neg (fun q => c_36 q.2)).symm | exact (if_pos ⟨c_32, c_36⟩).symm), hs.bin (S1 _ g27) (by decide) (by decide), by rw [← hres, lpF_s hnz hk han1, if_pos g27, hst], (hf.trans f23).trans f27⟩ _ rfl
          · skip
            refine a_ist2 (pc := 30) dX8_either_30 (by decide) rfl ?_
            refine g_iload_n (pc := 31) dX8_either_31 rfl ?_
            refine g_if_ne (pc := 32) (tgt := 39) dX8_either_32 (by decide) (fun c_32 => ?_) (fun c_32 => ?_)
            · refine g_iconst (pc := 39) (v := (nI 1)) dX8_either_39 (by decide) ?_
              refine g_goto (pc := 40) (tgt := 44) dX8_either_40 (by decide) ?_
              refine a_ist1 (pc := 44) dX8_either_44 (by decide) rfl ?_
              refine g_goto (pc := 45) (tgt := 5) dX8_either_45 (by decide) ?_
              exact k5 _ μ_27 ⟨(hf.trans f23).trans f27, ⟨[], by rw [← hres, lpF_s hnz hk han1, if_neg (by rw [g27]; simp)]⟩, by rw [← hres, lpF_s hnz hk han1, if_neg (by rw [g27]; simp)]; exact b27⟩ _
            · refine g_iload_n (pc := 35) dX8_either_35 rfl ?_
              refine g_if_eq (pc := 36) (tgt := 43) dX8_either_36 (by decide) (fun c_36 => ?_) (fun c_36 => ?_)
              · refine g_iconst (pc := 43) (v := (nI 0)) dX8_either_43 (by decide) ?_
                refine a_ist1 (pc := 44) dX8_either_44 (by decide) rfl ?_
                refine g_goto (pc := 45) (tgt := 5) dX8_either_45 (by decide) ?_
                exact k5 _ μ_27 ⟨(hf.trans f23).trans f27, ⟨[], by rw [← hres, lpF_s hnz hk han1, if_neg (by rw [g27]; simp)]⟩, by rw [← hres, lpF_s hnz hk han1, if_neg (by rw [g27]; simp)]; exact b27⟩ _
              · refine g_iconst (pc := 39) (v := (nI 1)) dX8_either_39 (by decide) ?_
                refine g_goto (pc := 40) (tgt := 44) dX8_either_40 (by decide) ?_
                refine a_ist1 (pc := 44) dX8_either_44 (by decide) rfl ?_
                refine g_goto (pc := 45) (tgt := 5) dX8_either_45 (by decide) ?_
                exact k5 _ μ_27 ⟨(hf.trans f23).trans f27, ⟨[], by rw [← hres, lpF_s hnz hk han1, if_neg (by rw [g27]; simp)]⟩, by rw [← hres, lpF_s hnz hk han1, if_neg (by rw [g27]; simp)]; exact b27⟩ _
    exact lp5 _ (g a).2.1 n (g a).2.2 _ μ_1 ⟨by omega, m1, rfl, S1 a g1, (if_pos g1).symm, f1⟩ _ rfl
  · skip
    refine a_ist1 (pc := 4) dX8_either_4 (by decide) rfl ?_
    exact k5 _ μ_1 ⟨f1, ⟨[], by unfold chF; rw [if_neg (by rw [g1]; simp)]⟩, by unfold chF; rw [if_neg (by rw [g1]; simp)]; exact b1⟩ _
theorem c_X8_not (op f n : Nat) (b : Nat → Nat) (nm : Nat → Int32) (hop : op ≤ 5) (n1 g : Nat → PR) (D D1 D2 : Nat) (hD : 4 ≤ D ∧ D1 + 1 ≤ D ∧ D2 + 1 ≤ D) (h1 : op < 5 → MP yX8_not cX8_not 4 D1 (op + 1) f n b nm n1) (h2 : MP yX8_added cX8_added 4 D2 op f n b nm g) (S1 : SMf n1) (S2 : SMf g) (μ : Mem) (a : Nat) (hM : MSg μ f n b nm op a) : CA eI yX8_not cX8_not 4 (some .int) D [.ref 57] μ (GPost μ f n b nm op (negF n b (decide (op < 5)) n1 (cmpF n b g) a)) := by
  obtain ⟨hT, han, ⟨k1, k2, k3, k4, k5⟩, k24, k25, knm⟩ := id hM
  have h160 := hT.2.2.2.1
  have hP := lxP_in b han
  have hE := lxE_in b han
  have hTl := lxT_le b n a
  refine CT.of false (by decide) (by decide) (L := [some (.ref 57), none, none, none]) rfl (Nat.le_of_ble_eq_true rfl) ?_
  refine g_aload_n (pc := 0) dX8_not_0 rfl ?_
  refine g_bipush (pc := 1) (v := (nI 110)) dX8_not_1 (by decide) ?_
  refine g_bipush (pc := 3) (v := (nI 111)) dX8_not_3 (by decide) ?_
  refine g_bipush (pc := 5) (v := (nI 116)) dX8_not_5 (by decide) ?_
  refine g_iconst (pc := 7) (v := (nI 0)) dX8_not_7 (by decide) ?_
  refine g_iconst (pc := 8) (v := (nI 0)) dX8_not_8 (by decide) ?_
  refine g_iconst (pc := 9) (v := (nI 0)) dX8_not_9 (by decide) ?_
  refine g_iconst (pc := 10) (v := (nI 0)) dX8_not_10 (by decide) ?_
  refine g_iconst (pc := 11) (v := (nI 0)) dX8_not_11 (by decide) ?_
  refine a_cv8i (pc := 12) (c_X8_isWord μ f n b nm op a hM 11 (by decide)) m_X8_isWord ml_X8_177 (by omega) (by first | rfl | assumption) rfl rfl (Nat.le_of_ble_eq_true rfl) dX8_not_12 (fun x_12 μ_12 h_12 => ?_)
  obtain ⟨hm_12, hd_12⟩ := h_12
  have hm_12 := hm_12.symm
  subst hm_12
  rw [← lxT_atK (i := 11) (by decide) (by decide)] at hd_12
  refine g_if_eq (pc := 15) (tgt := 52) dX8_not_15 (by decide) (fun c_15 => ?_) (fun c_15 => ?_)
  · have c15 := (hd_12.resolve_left (fun q => absurd (q.1.symm.trans c_15) (by decide))).2
    have c15 : ¬ lxT b n a = 261 := c15
    have hsp0 : negF n b (decide (op < 5)) n1 (cmpF n b g) a = cmpF n b g a := if_neg c15
    refine g_aload_n (pc := 52) dX8_not_52 rfl ?_
    refine a_cv0i (pc := 53) (h2 μ _ hM) m_X8_added ml_X8_224 (by omega) (by first | rfl | assumption) rfl rfl (Nat.le_of_ble_eq_true rfl) dX8_not_53 (fun x_53 μ_53 h_53 => ?_)
    obtain ⟨f53, ⟨g53, rfl, m53⟩ | ⟨g53, b53⟩⟩ := h_53
    · skip
      refine a_ist1 (pc := 56) dX8_not_56 (by decide) rfl ?_
      have k77 : ∀ (h60 : lxT b n (g a).2.1 = 60 ∨ lxT b n (g a).2.1 = 61), WG eI yX8_not.cls cX8_not 4 (some .int) false (fun _ _ => True) D (mpost (GPost μ f n b nm op (negF n b (decide (op < 5)) n1 (cmpF n b g) a))) 0 0 77 [some (.ref 57), some (.int (vl nm (g a).2.2)), none, none] [] (mk μ_53) := by
        intro h60
        obtain ⟨s9, hs9, ht9⟩ : ∃ s, isS s ∧ lxT b n (g a).2.1 = s := ⟨_, by unfold isS; omega, rfl⟩
        obtain ⟨q1, q2⟩ := (lxT_atS hs9).mp ht9
        have hw9 : μ_53 57 23 = nI (lxT b n (g a).2.1) := (m53.2.2.1.2.2.2.2 q1).trans (by rw [q2, ht9])
        have hT1l := lxT_le b n (g a).2.1
        have hE1 := lxE_in b m53.2.1
        have h4 := tk4n (b := b) (n := n) (a := (g a).2.1) (by omega)
        have hsp : cmpF n b g a = if (g (lxE b n (g a).2.1)).1 = true then (true, (g (lxE b n (g a).2.1)).2.1, (g a).2.2 ++ (g (lxE b n (g a).2.1)).2.2 ++ [opC (lxT b n (g a).2.1)]) else (false, (g (lxE b n (g a).2.1)).2.1, []) := (if_pos g53).trans (if_pos h60)
        refine g_aload_n (pc := 77) dX8_not_77 rfl ?_
        refine a_getl (pc := 78) fl_X8_151 dX8_not_78 (by first | rfl | assumption) rfl ?_
        rw [hw9, nI_l (n := lxT b n (g a).2.1) (by omega)]
        refine g_ldc2 (pc := 81) dX8_not_81 kc_X8_227 ?_
        refine g_lcmp (pc := 84) dX8_not_84 ?_
        refine g_if_ne (pc := 85) (tgt := 92) dX8_not_85 (by decide) (fun c_85 => ?_) (fun c_85 => ?_)
        · have c85 : ¬ lxT b n (g a).2.1 = 60 := fun h => c_85 ((lg_cmp_eq _ _).mpr (by rw [h]; rfl))
          have hst : opC (lxT b n (g a).2.1) = 10016 := if_neg c85
          refine g_iconst (pc := 92) (v := (nI 0)) dX8_not_92 (by decide) ?_
          refine a_ist2 (pc := 93) dX8_not_93 (by decide) rfl ?_
          refine g_aload_n (pc := 94) dX8_not_94 rfl ?_
          refine a_cv0v (pc := 95) (c_X8_next μ_53 f n b m53.1 _ (lxE_in b m53.2.1).2 (m53.2.2.1.1 h4)) m_X8_next ml_X8_174 (by omega) (by first | rfl | assumption) rfl rfl (Nat.le_of_ble_eq_true rfl) dX8_not_95 (fun x_95 μ_95 h_95 => ?_)
          obtain ⟨m95, f95⟩ := m53.nx (lxE_in b m53.2.1).2 h_95
          refine g_aload_n (pc := 98) dX8_not_98 rfl ?_
          refine a_cv0i (pc := 99) (h2 μ_95 _ m95) m_X8_added ml_X8_224 (by omega) (by first | rfl | assumption) rfl rfl (Nat.le_of_ble_eq_true rfl) dX8_not_99 (fun x_99 μ_99 h_99 => ?_)
          obtain ⟨f99, ⟨g99, rfl, m99⟩ | ⟨g99, b99⟩⟩ := h_99
          · skip
            refine a_ist3 (pc := 102) dX8_not_102 (by decide) rfl ?_
            refine g_iload_n (pc := 103) dX8_not_103 rfl ?_
            refine g_if_eq (pc := 104) (tgt := 115) dX8_not_104 (by decide) (fun c_104 => ?_) (fun c_104 => absurd rfl c_104)
            refine g_iload_n (pc := 115) dX8_not_115 rfl ?_
            refine g_iload_n (pc := 116) dX8_not_116 rfl ?_
            refine g_icmp_ne (pc := 117) (tgt := 124) dX8_not_117 (by decide) (fun c_117 => ?_) (fun c_117 => ?_)
            · refine g_iconst (pc := 124) (v := (nI 0)) dX8_not_124 (by decide) ?_
              refine g_ireturn (pc := 125) dX8_not_125 rfl (by first | rfl | decide) rfl ⟨_, rfl, ?_⟩
              refine GPost.ok (hsp0.trans (hsp.trans (if_pos g99))) ((f53.trans f95).trans f99) ?_ m99
              rw [hst, vl_bin (S2 _ g53) (S2 _ g99) (by decide), jo_eq]
              first | exact (if_pos c_117).symm | exact (if_neg c_117).symm
            · refine g_iconst (pc := 120) (v := (nI 1)) dX8_not_120 (by decide) ?_
              refine g_goto (pc := 121) (tgt := 125) dX8_not_121 (by decide) ?_
              refine g_ireturn (pc := 125) dX8_not_125 rfl (by first | rfl | decide) rfl ⟨_, rfl, ?_⟩
              refine GPost.ok (hsp0.trans (hsp.trans (if_pos g99))) ((f53.trans f95).trans f99) ?_ m99
              rw [hst, vl_bin (S2 _ g53) (S2 _ g99) (by decide), jo_eq]
              first | exact (if_pos c_117).symm | exact (if_neg c_117).symm
          · skip
            refine a_ist3 (pc := 102) dX8_not_102 (by decide) rfl ?_
            refine g_iload_n (pc := 103) dX8_not_103 rfl ?_
            refine g_if_eq (pc := 104) (tgt := 115) dX8_not_104 (by decide) (fun c_104 => ?_) (fun c_104 => absurd rfl c_104)
            refine g_iload_n (pc := 115) dX8_not_115 rfl ?_
            refine g_iload_n (pc := 116) dX8_not_116 rfl ?_
            refine g_icmp_ne (pc := 117) (tgt := 124) dX8_not_117 (by decide) (fun c_117 => ?_) (fun c_117 => ?_)
            · refine g_iconst (pc := 124) (v := (nI 0)) dX8_not_124 (by decide) ?_
              refine g_ireturn (pc := 125) dX8_not_125 rfl (by first | rfl | decide) rfl ⟨_, rfl, ?_⟩
              exact GPost.no (hsp0.trans (hsp.trans (if_neg (by rw [g99]; simp)))) ((f53.trans f95).trans f99) b99
            · refine g_iconst (pc := 120) (v := (nI 1)) dX8_not_120 (by decide) ?_
              refine g_goto (pc := 121) (tgt := 125) dX8_not_121 (by decide) ?_
              refine g_ireturn (pc := 125) dX8_not_125 rfl (by first | rfl | decide) rfl ⟨_, rfl, ?_⟩
              exact GPost.no (hsp0.trans (hsp.trans (if_neg (by rw [g99]; simp)))) ((f53.trans f95).trans f99) b99
        · have c85 : lxT b n (g a).2.1 = 60 := (lN_eq (a := lxT b n (g a).2.1) (b := 60) (by omega) (by decide)).mp ((lg_cmp_eq _ _).mp c_85)
          have hst : opC (lxT b n (g a).2.1) = 10015 := if_pos c85
          refine g_iconst (pc := 88) (v := (nI 1)) dX8_not_88 (by decide) ?_
          refine g_goto (pc := 89) (tgt := 93) dX8_not_89 (by decide) ?_
          refine a_ist2 (pc := 93) dX8_not_93 (by decide) rfl ?_
          refine g_aload_n (pc := 94) dX8_not_94 rfl ?_
          refine a_cv0v (pc := 95) (c_X8_next μ_53 f n b m53.1 _ (lxE_in b m53.2.1).2 (m53.2.2.1.1 h4)) m_X8_next ml_X8_174 (by omega) (by first | rfl | assumption) rfl rfl (Nat.le_of_ble_eq_true rfl) dX8_not_95 (fun x_95 μ_95 h_95 => ?_)
          obtain ⟨m95, f95⟩ := m53.nx (lxE_in b m53.2.1).2 h_95
          refine g_aload_n (pc := 98) dX8_not_98 rfl ?_
          refine a_cv0i (pc := 99) (h2 μ_95 _ m95) m_X8_added ml_X8_224 (by omega) (by first | rfl | assumption) rfl rfl (Nat.le_of_ble_eq_true rfl) dX8_not_99 (fun x_99 μ_99 h_99 => ?_)
          obtain ⟨f99, ⟨g99, rfl, m99⟩ | ⟨g99, b99⟩⟩ := h_99
          · skip
            refine a_ist3 (pc := 102) dX8_not_102 (by decide) rfl ?_
            refine g_iload_n (pc := 103) dX8_not_103 rfl ?_
            refine g_if_eq (pc := 104) (tgt := 115) dX8_not_104 (by decide) (fun c_104 => absurd c_104 (by decide)) (fun c_104 => ?_)
            refine g_iload_n (pc := 107) dX8_not_107 rfl ?_
            refine g_iload_n (pc := 108) dX8_not_108 rfl ?_
            refine g_icmp_ge (pc := 109) (tgt := 124) dX8_not_109 (by decide) (fun c_109 => ?_) (fun c_109 => ?_)
            · refine g_iconst (pc := 124) (v := (nI 0)) dX8_not_124 (by decide) ?_
              refine g_ireturn (pc := 125) dX8_not_125 rfl (by first | rfl | decide) rfl ⟨_, rfl, ?_⟩
              refine GPost.ok (hsp0.trans (hsp.trans (if_pos g99))) ((f53.trans f95).trans f99) ?_ m99
              rw [hst, vl_bin (S2 _ g53) (S2 _ g99) (by decide), jo_lt]
              first | exact (if_pos (Int32.not_le.mp c_109)).symm | exact (if_neg (Int32.not_lt.mpr c_109)).symm
            · refine g_goto (pc := 112) (tgt := 120) dX8_not_112 (by decide) ?_
              refine g_iconst (pc := 120) (v := (nI 1)) dX8_not_120 (by decide) ?_
              refine g_goto (pc := 121) (tgt := 125) dX8_not_121 (by decide) ?_
              refine g_ireturn (pc := 125) dX8_not_125 rfl (by first | rfl | decide) rfl ⟨_, rfl, ?_⟩
              refine GPost.ok (hsp0.trans (hsp.trans (if_pos g99))) ((f53.trans f95).trans f99) ?_ m99
              rw [hst, vl_bin (S2 _ g53) (S2 _ g99) (by decide), jo_lt]
              first | exact (if_pos (Int32.not_le.mp c_109)).symm | exact (if_neg (Int32.not_lt.mpr c_109)).symm
          · skip
            refine a_ist3 (pc := 102) dX8_not_102 (by decide) rfl ?_
            refine g_iload_n (pc := 103) dX8_not_103 rfl ?_
            refine g_if_eq (pc := 104) (tgt := 115) dX8_not_104 (by decide) (fun c_104 => absurd c_104 (by decide)) (fun c_104 => ?_)
            refine g_iload_n (pc := 107) dX8_not_107 rfl ?_
            refine g_iload_n (pc := 108) dX8_not_108 rfl ?_
            refine g_icmp_ge (pc := 109) (tgt := 124) dX8_not_109 (by decide) (fun c_109 => ?_) (fun c_109 => ?_)
            · refine g_iconst (pc := 124) (v := (nI 0)) dX8_not_124 (by decide) ?_
              refine g_ireturn (pc := 125) dX8_not_125 rfl (by first | rfl | decide) rfl ⟨_, rfl, ?_⟩
              exact GPost.no (hsp0.trans (hsp.trans (if_neg (by rw [g99]; simp)))) ((f53.trans f95).trans f99) b99
            · refine g_goto (pc := 112) (tgt := 120) dX8_not_112 (by decide) ?_
              refine g_iconst (pc := 120) (v := (nI 1)) dX8_not_120 (by decide) ?_
              refine g_goto (pc := 121) (tgt := 125) dX8_not_121 (by decide) ?_
              refine g_ireturn (pc := 125) dX8_not_125 rfl (by first | rfl | decide) rfl ⟨_, rfl, ?_⟩
              exact GPost.no (hsp0.trans (hsp.trans (if_neg (by rw [g99]; simp)))) ((f53.trans f95).trans f99) b99
      refine g_aload_n (pc := 57) dX8_not_57 rfl ?_
      refine g_bipush (pc := 58) (v := (nI 60)) dX8_not_58 (by decide) ?_
      refine a_cv1i (pc := 60) (c_X8_isSign μ_53 f n b nm op _ m53 60 (by decide)) m_X8_isSign ml_X8_199 (by omega) (by first | rfl | assumption) rfl rfl (Nat.le_of_ble_eq_true rfl) dX8_not_60 (fun x_60 μ_60 h_60 => ?_)
      obtain ⟨hm_60, hd_60⟩ := h_60
      have hm_60 := hm_60.symm
      subst hm_60
      refine g_if_ne (pc := 63) (tgt := 77) dX8_not_63 (by decide) (fun c_63 => ?_) (fun c_63 => ?_)
      · have c63 := (hd_60.resolve_right (fun q => c_63 q.1)).2
        exact k77 (by omega)
      · have c63 := (hd_60.resolve_left (fun q => absurd (q.1.symm.trans c_63) (by decide))).2
        refine g_aload_n (pc := 66) dX8_not_66 rfl ?_
        refine g_bipush (pc := 67) (v := (nI 61)) dX8_not_67 (by decide) ?_
        refine a_cv1i (pc := 69) (c_X8_isSign μ_53 f n b nm op _ m53 61 (by decide)) m_X8_isSign ml_X8_199 (by omega) (by first | rfl | assumption) rfl rfl (Nat.le_of_ble_eq_true rfl) dX8_not_69 (fun x_69 μ_69 h_69 => ?_)
        obtain ⟨hm_69, hd_69⟩ := h_69
        have hm_69 := hm_69.symm
        subst hm_69
        refine g_if_ne (pc := 72) (tgt := 77) dX8_not_72 (by decide) (fun c_72 => ?_) (fun c_72 => ?_)
        · have c72 := (hd_69.resolve_right (fun q => c_72 q.1)).2
          exact k77 (by omega)
        · have c72 := (hd_69.resolve_left (fun q => absurd (q.1.symm.trans c_72) (by decide))).2
          refine g_iload_n (pc := 75) dX8_not_75 rfl ?_
          refine g_ireturn (pc := 76) dX8_not_76 rfl (by first | rfl | decide) rfl ⟨_, rfl, ?_⟩
          exact GPost.ok (hsp0.trans ((if_pos g53).trans (if_neg (by omega)))) f53 rfl m53
    · skip
      refine a_ist1 (pc := 56) dX8_not_56 (by decide) rfl ?_
      refine g_aload_n (pc := 57) dX8_not_57 rfl ?_
      refine g_bipush (pc := 58) (v := (nI 60)) dX8_not_58 (by decide) ?_
      refine a_cv1i (pc := 60) (c_X8_isSignB μ_53 b53.1 _) m_X8_isSign ml_X8_199 (by omega) (by first | rfl | assumption) rfl rfl (Nat.le_of_ble_eq_true rfl) dX8_not_60 (fun x_60 μ_60 h_60 => ?_)
      obtain ⟨rfl, hm_60⟩ := h_60
      have hm_60 := hm_60.symm
      subst hm_60
      refine g_if_ne (pc := 63) (tgt := 77) dX8_not_63 (by decide) (fun c_63 => absurd rfl c_63) (fun c_63 => ?_)
      refine g_aload_n (pc := 66) dX8_not_66 rfl ?_
      refine g_bipush (pc := 67) (v := (nI 61)) dX8_not_67 (by decide) ?_
      refine a_cv1i (pc := 69) (c_X8_isSignB μ_53 b53.1 _) m_X8_isSign ml_X8_199 (by omega) (by first | rfl | assumption) rfl rfl (Nat.le_of_ble_eq_true rfl) dX8_not_69 (fun x_69 μ_69 h_69 => ?_)
      obtain ⟨rfl, hm_69⟩ := h_69
      have hm_69 := hm_69.symm
      subst hm_69
      refine g_if_ne (pc := 72) (tgt := 77) dX8_not_72 (by decide) (fun c_72 => absurd rfl c_72) (fun c_72 => ?_)
      refine g_iload_n (pc := 75) dX8_not_75 rfl ?_
      refine g_ireturn (pc := 76) dX8_not_76 rfl (by first | rfl | decide) rfl ⟨_, rfl, ?_⟩
      exact GPost.no (hsp0.trans (if_neg (by rw [g53]; simp))) f53 b53
  · have c15 := (hd_12.resolve_right (fun q => c_15 q.1)).2
    have c15 : lxT b n a = 261 := c15
    have h4 := tk4n (b := b) (n := n) (a := a) (by omega)
    refine g_aload_n (pc := 18) dX8_not_18 rfl ?_
    refine a_cv0i (pc := 19) (c_X8_opens μ f n b nm op a hM hop h4) m_X8_opens ml_X8_202 (by omega) (by first | rfl | assumption) rfl rfl (Nat.le_of_ble_eq_true rfl) dX8_not_19 (fun x_19 μ_19 h_19 => ?_)
    obtain ⟨f19, ⟨rfl, n19, b19⟩ | ⟨rfl, o19, m19⟩⟩ := h_19
    · skip
      refine g_if_ne (pc := 22) (tgt := 27) dX8_not_22 (by decide) (fun c_22 => absurd rfl c_22) (fun c_22 => ?_)
      refine g_iconst (pc := 25) (v := (nI 0)) dX8_not_25 (by decide) ?_
      refine g_ireturn (pc := 26) dX8_not_26 rfl (by first | rfl | decide) rfl ⟨_, rfl, ?_⟩
      exact GPost.no ((if_pos c15).trans (if_neg (fun q => n19 (of_decide_eq_true q)))) f19 b19
    · have hdp : decide (op < 5) = true := decide_eq_true o19
      refine g_if_ne (pc := 22) (tgt := 27) dX8_not_22 (by decide) (fun c_22 => ?_) (fun c_22 => absurd c_22 (by decide))
      refine g_aload_n (pc := 27) dX8_not_27 rfl ?_
      refine a_cv0i (pc := 28) (h1 o19 μ_19 _ m19) m_X8_not ml_X8_221 (by omega) (by first | rfl | assumption) rfl rfl (Nat.le_of_ble_eq_true rfl) dX8_not_28 (fun x_28 μ_28 h_28 => ?_)
      obtain ⟨f28, ⟨g28, rfl, m28⟩ | ⟨g28, b28⟩⟩ := h_28
      · skip
        refine a_ist1 (pc := 31) dX8_not_31 (by decide) rfl ?_
        refine g_aload_n (pc := 32) dX8_not_32 rfl ?_
        refine g_dup (pc := 33) dX8_not_33 rfl ?_
        refine v_geti (pc := 34) fl_X8_168 dX8_not_34 (by first | rfl | assumption) rfl m28.2.2.2.1 ?_
        refine g_iconst (pc := 37) (v := (nI 1)) dX8_not_37 (by decide) ?_
        refine v_isub (pc := 38) dX8_not_38 (op_back op) ?_
        refine a_puti (pc := 39) fw_X8_168 dX8_not_39 (by first | rfl | assumption) rfl ?_
        refine g_iload_n (pc := 42) dX8_not_42 rfl ?_
        refine g_if_ne (pc := 43) (tgt := 50) dX8_not_43 (by decide) (fun c_43 => ?_) (fun c_43 => ?_)
        · refine g_iconst (pc := 50) (v := (nI 0)) dX8_not_50 (by decide) ?_
          refine g_ireturn (pc := 51) dX8_not_51 rfl (by first | rfl | decide) rfl ⟨_, rfl, ?_⟩
          obtain ⟨m9, f9⟩ := m28.op op
          refine GPost.ok (((if_pos c15).trans (if_pos hdp)).trans (if_pos g28)) ((f19.trans f28).trans f9) ?_ m9
          rw [vl_un (S1 _ g28) (Or.inr rfl), un_not]
          first | exact (if_neg c_43).symm | exact (if_pos c_43).symm
        · refine g_iconst (pc := 46) (v := (nI 1)) dX8_not_46 (by decide) ?_
          refine g_goto (pc := 47) (tgt := 51) dX8_not_47 (by decide) ?_
          refine g_ireturn (pc := 51) dX8_not_51 rfl (by first | rfl | decide) rfl ⟨_, rfl, ?_⟩
          obtain ⟨m9, f9⟩ := m28.op op
          refine GPost.ok (((if_pos c15).trans (if_pos hdp)).trans (if_pos g28)) ((f19.trans f28).trans f9) ?_ m9
          rw [vl_un (S1 _ g28) (Or.inr rfl), un_not]
          first | exact (if_neg c_43).symm | exact (if_pos c_43).symm
      · skip
        refine a_ist1 (pc := 31) dX8_not_31 (by decide) rfl ?_
        refine g_aload_n (pc := 32) dX8_not_32 rfl ?_
        refine g_dup (pc := 33) dX8_not_33 rfl ?_
        refine v_geti (pc := 34) fl_X8_168 dX8_not_34 (by first | rfl | assumption) rfl rfl ?_
        refine g_iconst (pc := 37) (v := (nI 1)) dX8_not_37 (by decide) ?_
        refine v_isub (pc := 38) dX8_not_38 rfl ?_
        refine a_puti (pc := 39) fw_X8_168 dX8_not_39 (by first | rfl | assumption) rfl ?_
        refine g_iload_n (pc := 42) dX8_not_42 rfl ?_
        refine g_if_ne (pc := 43) (tgt := 50) dX8_not_43 (by decide) (fun c_43 => ?_) (fun c_43 => ?_)
        · refine g_iconst (pc := 50) (v := (nI 0)) dX8_not_50 (by decide) ?_
          refine g_ireturn (pc := 51) dX8_not_51 rfl (by first | rfl | decide) rfl ⟨_, rfl, ?_⟩
          obtain ⟨b9, f9⟩ := b28.op (μ_28 57 24 - nI 1)
          exact GPost.no (((if_pos c15).trans (if_pos hdp)).trans (if_neg (by rw [g28]; simp))) ((f19.trans f28).trans f9) b9
        · refine g_iconst (pc := 46) (v := (nI 1)) dX8_not_46 (by decide) ?_
          refine g_goto (pc := 47) (tgt := 51) dX8_not_47 (by decide) ?_
          refine g_ireturn (pc := 51) dX8_not_51 rfl (by first | rfl | decide) rfl ⟨_, rfl, ?_⟩
          obtain ⟨b9, f9⟩ := b28.op (μ_28 57 24 - nI 1)
          exact GPost.no (((if_pos c15).trans (if_pos hdp)).trans (if_neg (by rw [g28]; simp))) ((f19.trans f28).trans f9) b9
