/-! ===== the class: what is otherwise, film, drawn, chance ===== -/
/-- the bits of those that end otherwise -/
def othB (f : Nat → Nat) (g : Nat → Int32) : Nat → Int32
  | 0 => nI 0
  | p + 1 => if nI (f p) = g p then othB f g p else othB f g p ||| (nI 1 <<< (nI p &&& 31))
abbrev LF (v : View) (Q : Nat → List Nat) : Nat → Nat := stF v Q 9 (chs 127 (v 0 3)) (chs 127 (v 0 3)).length
theorem c_X7_otherwise (sb : Nat) (v : View) (Q : Nat → List Nat) (μ : Mem) (hc : CW μ sb v Q) (hsp : μ 35 3 = -1) (zs : Nat → Int32) (zn : Nat → Nat) (zi : Nat → Nat → Int32) (hz : ZA μ zs zn zi) (s : Nat) (hs : s < 4) (hn : zn s = v 0 3) : CA eI yX7_otherwise cX7_otherwise 6 (some .int) 5 [.ref 0, .ref sb, .int (nI s)] μ (fun r μ1 => r = othB (LF v Q) (zi s) (v 0 3) ∧ SF μ μ1) := by
  have hsb := hc.1
  obtain ⟨s1, s2, s3, s4, s5, s6, s7, s8, s9, s10⟩ := hsb.f
  have hvb := hc.2.1.vb
  have hn7 := hvb.1
  have h127 := chs_lo 127 (v 0 3)
  have hlen := chs127_len (v 0 3) hn7
  have hsh := shS s hs
  refine CT.of false (by decide) (by decide) (L := [some (.ref 0), some (.ref sb), some (.int (nI s)), none, none, none]) rfl (Nat.le_of_ble_eq_true rfl) ?_
  refine g_aload_n (pc := 0) dX7_otherwise_0 rfl ?_
  refine a_getr (pc := 1) (q := 35) fl_X7_41 dX7_otherwise_1 (by first | rfl | assumption) rfl rfl ?_
  refine g_aload_n (pc := 4) dX7_otherwise_4 rfl ?_
  refine g_bipush (pc := 5) (v := (nI 127)) dX7_otherwise_5 (by decide) ?_
  refine a_cv2v (pc := 7) (c_X0_choose sb hsb v μ hc.2.1 127 (by decide)) m_X0_choose ml_X7_113 (by omega) (by first | rfl | assumption) rfl rfl (Nat.le_of_ble_eq_true rfl) dX7_otherwise_7 (fun x_7 μ_7 h_7 => ?_)
  obtain ⟨c7, o7, f7, w7, p7⟩ := hc.cho h_7
  refine g_aload_n (pc := 10) dX7_otherwise_10 rfl ?_
  refine a_getr (pc := 11) (q := 35) fl_X7_41 dX7_otherwise_11 (by first | rfl | assumption) rfl rfl ?_
  refine g_aload_n (pc := 14) dX7_otherwise_14 rfl ?_
  refine a_cv1v (pc := 15) (c_X0_run sb hsb v Q μ_7 c7.2.1 c7.2.2.1 9 (Or.inl ⟨p7.trans hsp, rfl⟩) _ o7 h127 c7.2.2.2) m_X0_run ml_X7_117 (by omega) (by first | rfl | assumption) rfl rfl (Nat.le_of_ble_eq_true rfl) dX7_otherwise_15 (fun x_15 μ_15 h_15 => ?_)
  obtain ⟨c15, o15, f15, w15, p15, r15⟩ := CW.ran c7 o7 h127 h_15
  refine g_aload_n (pc := 18) dX7_otherwise_18 rfl ?_
  refine a_getr (pc := 19) (q := 35) fl_X7_41 dX7_otherwise_19 (by first | rfl | assumption) rfl rfl ?_
  refine a_cv0r (pc := 22) (c_X0_last μ_15 _ o15) m_X0_last ml_X7_120 (by omega) (by first | rfl | assumption) rfl rfl (Nat.le_of_ble_eq_true rfl) dX7_otherwise_22 (fun x_22 μ_22 h_22 => ?_)
  obtain ⟨rfl, hm_22⟩ := h_22
  have hm_22 := hm_22.symm
  subst hm_22
  refine a_ast3 (pc := 25) dX7_otherwise_25 (by decide) rfl ?_
  refine g_iconst (pc := 26) (v := (nI 0)) dX7_otherwise_26 (by decide) ?_
  refine a_ist4 (pc := 27) dX7_otherwise_27 (by decide) rfl ?_
  refine g_iconst (pc := 29) (v := (nI 0)) dX7_otherwise_29 (by decide) ?_
  refine a_ist5 (pc := 30) dX7_otherwise_30 (by decide) rfl ?_
  have f9 := f7.trans f15
  have z9 := hz.tf f9.tf
  have hA := shA (chs 127 (v 0 3)).length (by omega)
  have lp32 : ∀ (zz : Nat) (i : Nat) (hi : i ≤ v 0 3), v 0 3 - i = zz → WG eI yX7_otherwise.cls cX7_otherwise 6 (some .int) false (fun _ _ => True) 5 (mpost (fun r μ1 => r = othB (LF v Q) (zi s) (v 0 3) ∧ SF μ μ1)) 0 0 32 [some (.ref 0), some (.ref sb), some (.int (nI s)), some (.ref (38 + (chs 127 (v 0 3)).length)), some (.int (othB (LF v Q) (zi s) i)), some (.int (nI i))] [] (mk μ_15) := by
    intro zz
    induction zz using Nat.strongRecOn with
    | ind zz ih =>
      intro i hi hzz
      have hrec : othB (LF v Q) (zi s) (i + 1) = if nI (LF v Q i) = zi s i then othB (LF v Q) (zi s) i else othB (LF v Q) (zi s) i ||| (nI 1 <<< (nI i &&& 31)) := rfl
      refine g_iload (pc := 32) dX7_otherwise_32 rfl ?_
      refine g_aload_n (pc := 34) dX7_otherwise_34 rfl ?_
      refine v_geti (pc := 35) fl_X7_82 dX7_otherwise_35 (by first | rfl | assumption) rfl c15.2.1.2.2.2.1.1 ?_
      refine g_icmp_ge (pc := 38) (tgt := 75) dX7_otherwise_38 (by decide) (fun c_38 => ?_) (fun c_38 => ?_)
      · have c38 := nI_le' (by omega) (by omega) c_38
        obtain rfl : i = v 0 3 := by omega
        refine g_iload (pc := 75) dX7_otherwise_75 rfl ?_
        refine g_ireturn (pc := 77) dX7_otherwise_77 rfl (by first | rfl | decide) rfl ⟨_, rfl, ?_⟩
        exact ⟨rfl, f9⟩
      · have c38 := nI_gt' (by omega) (by omega) c_38
        refine g_aload_n (pc := 41) dX7_otherwise_41 rfl ?_
        refine g_iload (pc := 42) dX7_otherwise_42 rfl ?_
        refine v_iald (pc := 44) dX7_otherwise_44 (by first | rfl | assumption) rfl (by omega) (r15 i c38).1 ?_
        refine g_aload_n (pc := 45) dX7_otherwise_45 rfl ?_
        refine a_getr (pc := 46) (q := 49) fl_X7_57 dX7_otherwise_46 (by first | rfl | assumption) rfl rfl ?_
        refine a_getr (pc := 49) (q := 52) fl_X7_211 dX7_otherwise_49 (by first | rfl | assumption) rfl rfl ?_
        refine g_iload_n (pc := 52) dX7_otherwise_52 rfl ?_
        refine v_aald (pc := 53) dX7_otherwise_53 (by first | rfl | assumption) rfl (by omega) (show 52 + 1 + s = 53 + s by omega) ?_
        refine g_iload (pc := 54) dX7_otherwise_54 rfl ?_
        refine v_iald (pc := 56) dX7_otherwise_56 (by first | rfl | assumption) rfl (by omega) (z9.2 s hs i (by omega)) ?_
        refine g_icmp_eq (pc := 57) (tgt := 69) dX7_otherwise_57 (by decide) (fun c_57 => ?_) (fun c_57 => ?_)
        · rw [if_pos c_57] at hrec
          refine a_iinc5 (pc := 69) dX7_otherwise_69 (inc1 i) (by decide) rfl ?_
          refine g_goto (pc := 72) (tgt := 32) dX7_otherwise_72 (by decide) ?_
          have hfin := ih (v 0 3 - (i + 1)) (by omega) (i + 1) (by omega) rfl
          rw [hrec] at hfin
          exact hfin
        · rw [if_neg c_57] at hrec
          refine g_iload (pc := 60) dX7_otherwise_60 rfl ?_
          refine g_iconst (pc := 62) (v := (nI 1)) dX7_otherwise_62 (by decide) ?_
          refine g_iload (pc := 63) dX7_otherwise_63 rfl ?_
          refine v_ishl (pc := 65) dX7_otherwise_65 rfl ?_
          refine v_ior (pc := 66) dX7_otherwise_66 rfl ?_
          refine a_ist4 (pc := 67) dX7_otherwise_67 (by decide) rfl ?_
          refine a_iinc5 (pc := 69) dX7_otherwise_69 (inc1 i) (by decide) rfl ?_
          refine g_goto (pc := 72) (tgt := 32) dX7_otherwise_72 (by decide) ?_
          have hfin := ih (v 0 3 - (i + 1)) (by omega) (i + 1) (by omega) rfl
          rw [hrec] at hfin
          exact hfin
  exact lp32 _ 0 (Nat.zero_le _) rfl
theorem c_X7_film (v vk : View) (tc : Nat) (P : Nat → Nat → List Nat) (μ : Mem) (hX : XW μ v vk tc P) (zs : Nat → Int32) (zn : Nat → Nat) (zi : Nat → Nat → Int32) (hz : ZA μ zs zn zi) (s : Int32) : CA eI yX7_film cX7_film 2 (some .int) 6 [.ref 0, .int s] μ (fun r μ1 => (¬ nx s < 4 ∧ r = -2 ∧ μ1 = μ) ∨ (nx s < 4 ∧ r = nI (v 0 3) ∧ ZA μ1 (updN zs (nx s) (nI 0)) (updN zn (nx s) (v 0 3)) (updN zi (nx s) (fun p => nI (LF v (P (v 0 2)) p))) ∧ TZ μ μ1)) := by
  have hc := hX.cw
  have hv := hc.2.1
  have hsb : SB 1 := Or.inl rfl
  have hvb := hc.2.1.vb
  have hn7 := hvb.1
  have hsp := hX.2.2.2.2.2.2.1
  have h127 := chs_lo 127 (v 0 3)
  have hlen := chs127_len (v 0 3) hn7
  refine CT.of false (by decide) (by decide) (L := [some (.ref 0), some (.int s)]) rfl (Nat.le_of_ble_eq_true rfl) ?_
  refine g_aload_n (pc := 0) dX7_film_0 rfl ?_
  refine a_getr (pc := 1) (q := 49) fl_X7_57 dX7_film_1 (by first | rfl | assumption) rfl rfl ?_
  refine g_iload_n (pc := 4) dX7_film_4 rfl ?_
  refine a_cv1i (pc := 5) (c_X4_has μ s) m_X4_has ml_X7_158 (by omega) (by first | rfl | assumption) rfl rfl (Nat.le_of_ble_eq_true rfl) dX7_film_5 (fun x_5 μ_5 h_5 => ?_)
  obtain ⟨hm_5, hd_5⟩ := h_5
  have hm_5 := hm_5.symm
  subst hm_5
  rw [has_nx (by omega)] at hd_5
  refine g_if_ne (pc := 8) (tgt := 14) dX7_film_8 (by decide) (fun c_8 => ?_) (fun c_8 => ?_)
  · have c8 := (hd_5.resolve_right (fun q => c_8 q.1)).2
    have e_a := nx_lt c8 (by omega)
    generalize j_a : nx s = a at e_a c8
    subst e_a
    have hsh := shS a c8
    refine g_aload_n (pc := 14) dX7_film_14 rfl ?_
    refine a_getr (pc := 15) (q := 35) fl_X7_41 dX7_film_15 (by first | rfl | assumption) rfl rfl ?_
    refine g_aload_n (pc := 18) dX7_film_18 rfl ?_
    refine a_getr (pc := 19) (q := 1) fl_X7_10 dX7_film_19 (by first | rfl | assumption) rfl rfl ?_
    refine g_bipush (pc := 22) (v := (nI 127)) dX7_film_22 (by decide) ?_
    refine a_cv2v (pc := 24) (c_X0_choose 1 hsb v μ hc.2.1 127 (by decide)) m_X0_choose ml_X7_113 (by omega) (by first | rfl | assumption) rfl rfl (Nat.le_of_ble_eq_true rfl) dX7_film_24 (fun x_24 μ_24 h_24 => ?_)
    obtain ⟨c24, o24, f24, w24, p24⟩ := hc.cho h_24
    refine g_aload_n (pc := 27) dX7_film_27 rfl ?_
    refine a_getr (pc := 28) (q := 35) fl_X7_41 dX7_film_28 (by first | rfl | assumption) rfl rfl ?_
    refine g_aload_n (pc := 31) dX7_film_31 rfl ?_
    refine a_getr (pc := 32) (q := 1) fl_X7_10 dX7_film_32 (by first | rfl | assumption) rfl rfl ?_
    refine a_cv1v (pc := 35) (c_X0_run 1 hsb v (P (v 0 2)) μ_24 c24.2.1 c24.2.2.1 9 (Or.inl ⟨p24.trans hsp, rfl⟩) _ o24 h127 c24.2.2.2) m_X0_run ml_X7_117 (by omega) (by first | rfl | assumption) rfl rfl (Nat.le_of_ble_eq_true rfl) dX7_film_35 (fun x_35 μ_35 h_35 => ?_)
    obtain ⟨c35, o35, f35, w35, p35, r35⟩ := CW.ran c24 o24 h127 h_35
    refine g_aload_n (pc := 38) dX7_film_38 rfl ?_
    refine a_getr (pc := 39) (q := 49) fl_X7_57 dX7_film_39 (by first | rfl | assumption) rfl rfl ?_
    refine g_iload_n (pc := 42) dX7_film_42 rfl ?_
    refine g_iconst (pc := 43) (v := (nI 0)) dX7_film_43 (by decide) ?_
    refine g_aload_n (pc := 44) dX7_film_44 rfl ?_
    refine a_getr (pc := 45) (q := 1) fl_X7_10 dX7_film_45 (by first | rfl | assumption) rfl rfl ?_
    refine v_geti (pc := 48) fl_X7_82 dX7_film_48 (by first | rfl | assumption) rfl c35.2.1.2.2.2.1.1 ?_
    refine a_cv3v (pc := 51) (c_X4_become μ_35 a c8 (nI 0) (nI (v 0 3))) m_X4_become ml_X7_208 (by omega) (by first | rfl | assumption) rfl rfl (Nat.le_of_ble_eq_true rfl) dX7_film_51 (fun x_51 μ_51 h_51 => ?_)
    have f9 := (f24.trans f35).tf
    obtain ⟨z51, t51⟩ := (hz.tf f9).bec c8 (show v 0 3 ≤ 40 by omega) h_51
    have o51 : OR μ_51 (chs 127 (v 0 3)) := o35.moved (congrFun (h_51.2.2.2.2.2 35 (by omega) (by omega) (by omega)) 2) (h_51.2.2.2.2.2 36 (by omega) (by omega) (by omega))
    have e51 : μ_51 1 3 = nI (v 0 3) := (congrFun (h_51.2.2.2.2.2 1 (by omega) (by omega) (by omega)) 3).trans c35.2.1.2.2.2.1.1
    have hA := shA (chs 127 (v 0 3)).length (by omega)
    refine g_aload_n (pc := 54) dX7_film_54 rfl ?_
    refine a_getr (pc := 55) (q := 35) fl_X7_41 dX7_film_55 (by first | rfl | assumption) rfl rfl ?_
    refine a_cv0r (pc := 58) (c_X0_last μ_51 _ o51) m_X0_last ml_X7_120 (by omega) (by first | rfl | assumption) rfl rfl (Nat.le_of_ble_eq_true rfl) dX7_film_58 (fun x_58 μ_58 h_58 => ?_)
    obtain ⟨rfl, hm_58⟩ := h_58
    have hm_58 := hm_58.symm
    subst hm_58
    refine g_iconst (pc := 61) (v := (nI 0)) dX7_film_61 (by decide) ?_
    refine g_aload_n (pc := 62) dX7_film_62 rfl ?_
    refine a_getr (pc := 63) (q := 49) fl_X7_57 dX7_film_63 (by first | rfl | assumption) rfl rfl ?_
    refine a_getr (pc := 66) (q := 52) fl_X7_211 dX7_film_66 (by first | rfl | assumption) rfl rfl ?_
    refine g_iload_n (pc := 69) dX7_film_69 rfl ?_
    refine v_aald (pc := 70) dX7_film_70 (by first | rfl | assumption) rfl (by omega) (show 52 + 1 + a = 53 + a by omega) ?_
    refine g_iconst (pc := 71) (v := (nI 0)) dX7_film_71 (by decide) ?_
    refine g_aload_n (pc := 72) dX7_film_72 rfl ?_
    refine a_getr (pc := 73) (q := 1) fl_X7_10 dX7_film_73 (by first | rfl | assumption) rfl rfl ?_
    refine v_geti (pc := 76) fl_X7_82 dX7_film_76 (by first | rfl | assumption) rfl e51 ?_
    refine a_copy (pc := 79) (sp := 0) (dp := 0) (n := v 0 3) ml_X7_124 (by omega) (Nat.le_of_ble_eq_true rfl) dX7_film_79 hA hsh rfl rfl rfl (by omega) (by omega) ?_
    refine g_aload_n (pc := 82) dX7_film_82 rfl ?_
    refine a_getr (pc := 83) (q := 1) fl_X7_10 dX7_film_83 (by first | rfl | assumption) rfl rfl ?_
    refine v_geti (pc := 86) fl_X7_82 dX7_film_86 (by first | rfl | assumption) rfl ((congrFun (mcopy_ne (by omega)) 3).trans e51) ?_
    refine g_ireturn (pc := 89) dX7_film_89 rfl (by first | rfl | decide) rfl ⟨_, rfl, ?_⟩
    refine Or.inr ⟨c8, rfl, ⟨fun t ht => ?_, fun t ht j hj => ?_⟩, (f9.tz.trans t51).trans ⟨fun c hc => mcopy_ne (by omega), congrFun (mcopy_ne (by omega)) 0, congrFun (mcopy_ne (by omega)) 3⟩⟩
    · rw [mcopy_ne (by omega), mcopy_ne (by omega)]
      exact z51.1 t ht
    · by_cases hta : t = a
      · subst hta
        rw [updN_eq] at hj ⊢
        rw [mcopy_eq hj, h_51.2.2.2.2.2 _ (by omega) (by omega) (by omega)]
        exact (r35 j hj).1
      · rw [updN_ne _ _ hta] at hj ⊢
        rw [mcopy_ne (by omega)]
        have h9 := z51.2 t ht j (by rw [updN_ne _ _ hta]; exact hj)
        rw [updN_ne _ _ hta] at h9
        exact h9
  · have c8 := (hd_5.resolve_left (fun q => absurd (q.1.symm.trans c_8) (by decide))).2
    refine g_bipush (pc := 11) (v := (-2)) dX7_film_11 (by decide) ?_
    refine g_ireturn (pc := 13) dX7_film_13 rfl (by first | rfl | decide) rfl ⟨_, rfl, ?_⟩
    exact Or.inl ⟨c8, rfl, rfl⟩
abbrev drW (v : View) (z : Int32) : View := ironV v (drawN z)
def drV (v : View) (Q : Nat → List Nat) (z : Int32) : Nat := CR (drW v z) Q 9 (chs 127 (v 0 3))
theorem BEC.tf {μ μ1 : Mem} {ob : Nat} (h : BEC μ μ1 11 ob) : TF μ μ1 := ⟨fun c hc => h.2.2 c (by omega), congrFun (h.2.2 46 (by omega)) 0, congrFun (h.2.2 35 (by omega)) 3⟩
theorem c_X7_drawn (v vk : View) (tc : Nat) (P : Nat → Nat → List Nat) (μ : Mem) (hX : XW μ v vk tc P) (z : Int32) : CA eI yX7_drawn cX7_drawn 2 (some .int) 6 [.ref 0, .int z] μ (fun r μ1 => r = nI (drV v (P (v 0 2)) z) ∧ TF μ μ1 ∧ CW μ1 11 (drW v z) (P (v 0 2))) := by
  have hc := hX.cw
  have hv := hc.2.1
  have hsb : SB 1 := Or.inl rfl
  have hvb := hc.2.1.vb
  have hn7 := hvb.1
  have hsp := hX.2.2.2.2.2.2.1
  have h127 := chs_lo 127 (v 0 3)
  have hlen := chs127_len (v 0 3) hn7
  refine CT.of false (by decide) (by decide) (L := [some (.ref 0), some (.int z)]) rfl (Nat.le_of_ble_eq_true rfl) ?_
  refine g_aload_n (pc := 0) dX7_drawn_0 rfl ?_
  refine a_getr (pc := 1) (q := 11) fl_X7_19 dX7_drawn_1 (by first | rfl | assumption) rfl rfl ?_
  refine g_aload_n (pc := 4) dX7_drawn_4 rfl ?_
  refine a_getr (pc := 5) (q := 1) fl_X7_10 dX7_drawn_5 (by first | rfl | assumption) rfl rfl ?_
  refine a_cv1v (pc := 8) (c_X5_become 11 1 (Or.inr (Or.inr rfl)) hsb (by decide) μ) m_X5_become ml_X7_214 (by omega) (by first | rfl | assumption) rfl rfl (Nat.le_of_ble_eq_true rfl) dX7_drawn_8 (fun x_8 μ_8 h_8 => ?_)
  have f8 : TF μ μ_8 := BEC.tf h_8
  have v8 : SV μ_8 11 v := SV.bec_of hv h_8
  refine g_aload_n (pc := 11) dX7_drawn_11 rfl ?_
  refine a_getr (pc := 12) (q := 11) fl_X7_19 dX7_drawn_12 (by first | rfl | assumption) rfl rfl ?_
  refine g_iload_n (pc := 15) dX7_drawn_15 rfl ?_
  refine a_cv1v (pc := 16) (c_X5_draw 11 (Or.inr (Or.inr rfl)) v μ_8 v8 z) m_X5_draw ml_X7_216 (by omega) (by first | rfl | assumption) rfl rfl (Nat.le_of_ble_eq_true rfl) dX7_drawn_16 (fun x_16 μ_16 h_16 => ?_)
  obtain ⟨d16, g16⟩ := h_16
  have g16 : ∀ k, k ≠ 14 → μ_16 k = μ_8 k := g16
  have v16 : SV μ_16 11 (drW v z) := v8.iron (fun i h1 h2 => g16 _ (by omega)) (fun p hp => ⟨d16 p hp, drawN_le z p⟩)
  have f16 : TF μ μ_16 := f8.trans ⟨fun c hc => g16 c (by omega), congrFun (g16 46 (by omega)) 0, congrFun (g16 35 (by omega)) 3⟩
  have x16 := (hX.tf f16).cw
  have hn : drW v z 0 3 = v 0 3 := rfl
  have c16 : CW μ_16 11 (drW v z) (P (v 0 2)) := ⟨Or.inr (Or.inr rfl), v16, x16.2.2.1, x16.2.2.2⟩
  have sp16 : μ_16 35 3 = -1 := f16.2.2.trans hsp
  refine g_aload_n (pc := 19) dX7_drawn_19 rfl ?_
  refine a_getr (pc := 20) (q := 35) fl_X7_41 dX7_drawn_20 (by first | rfl | assumption) rfl rfl ?_
  refine g_aload_n (pc := 23) dX7_drawn_23 rfl ?_
  refine a_getr (pc := 24) (q := 11) fl_X7_19 dX7_drawn_24 (by first | rfl | assumption) rfl rfl ?_
  refine g_bipush (pc := 27) (v := (nI 127)) dX7_drawn_27 (by decide) ?_
  refine a_cv2v (pc := 29) (c_X0_choose 11 c16.1 (drW v z) μ_16 c16.2.1 127 (by decide)) m_X0_choose ml_X7_113 (by omega) (by first | rfl | assumption) rfl rfl (Nat.le_of_ble_eq_true rfl) dX7_drawn_29 (fun x_29 μ_29 h_29 => ?_)
  obtain ⟨c29, o29, f29, w29, p29⟩ := c16.cho h_29
  refine g_aload_n (pc := 32) dX7_drawn_32 rfl ?_
  refine a_getr (pc := 33) (q := 35) fl_X7_41 dX7_drawn_33 (by first | rfl | assumption) rfl rfl ?_
  refine g_aload_n (pc := 36) dX7_drawn_36 rfl ?_
  refine a_getr (pc := 37) (q := 11) fl_X7_19 dX7_drawn_37 (by first | rfl | assumption) rfl rfl ?_
  refine a_cv1v (pc := 40) (c_X0_run 11 c16.1 (drW v z) (P (v 0 2)) μ_29 c29.2.1 c29.2.2.1 9 (Or.inl ⟨p29.trans sp16, rfl⟩) _ o29 h127 c29.2.2.2) m_X0_run ml_X7_117 (by omega) (by first | rfl | assumption) rfl rfl (Nat.le_of_ble_eq_true rfl) dX7_drawn_40 (fun x_40 μ_40 h_40 => ?_)
  obtain ⟨c40, o40, f40, w40, p40, r40⟩ := CW.ran c29 o29 h127 h_40
  refine g_aload_n (pc := 43) dX7_drawn_43 rfl ?_
  refine a_getr (pc := 44) (q := 35) fl_X7_41 dX7_drawn_44 (by first | rfl | assumption) rfl rfl ?_
  refine g_aload_n (pc := 47) dX7_drawn_47 rfl ?_
  refine a_getr (pc := 48) (q := 11) fl_X7_19 dX7_drawn_48 (by first | rfl | assumption) rfl rfl ?_
  refine a_cv1i (pc := 51) (c_X0_creased 11 c16.1 (drW v z) μ_40 c40.2.1 _ o40 _ r40) m_X0_creased ml_X7_177 (by omega) (by first | rfl | assumption) rfl rfl (Nat.le_of_ble_eq_true rfl) dX7_drawn_51 (fun x_51 μ_51 h_51 => ?_)
  obtain ⟨rfl, hm_51⟩ := h_51
  have hm_51 := hm_51.symm
  subst hm_51
  refine g_ireturn (pc := 54) dX7_drawn_54 rfl (by first | rfl | decide) rfl ⟨_, rfl, ?_⟩
  exact ⟨rfl, f16.trans (f29.trans f40).tf, c40⟩
def cmN : Nat → Nat → Nat → Nat
  | 0, a, _ => a
  | k + 1, a, b => if b = 0 then a else cmN k b (a % b)
theorem cmN_0 (k a : Nat) : cmN k a 0 = a := by
  cases k with
  | zero => rfl
  | succ k => exact if_pos rfl
theorem cmN_s {i a b : Nat} (hi : i < 100) (hb : ¬ b = 0) : cmN (100 - i) a b = cmN (100 - (i + 1)) b (a % b) := by
  rw [show 100 - i = (100 - (i + 1)) + 1 by omega]
  exact if_neg hb
theorem cmN_pos : ∀ a, a < 21 → ∀ b, b < 21 → 0 < b → 1 ≤ cmN 100 a b ∧ cmN 100 a b ≤ 20 := by decide +kernel
theorem c_X7_common (a0 b0 : Nat) (ha0 : a0 < 2 ^ 31) (hb0 : b0 < 2 ^ 31) (μ : Mem) : CA eI yX7_common cX7_common 6 (some .int) 0 [.int (nI a0), .int (nI b0)] μ (fun r μ1 => r = nI (cmN 100 a0 b0) ∧ μ1 = μ) := by
  refine CT.of false (by decide) (by decide) (L := [some (.int (nI a0)), some (.int (nI b0)), none, none, none, none]) rfl (Nat.le_of_ble_eq_true rfl) ?_
  refine g_iload_n (pc := 0) dX7_common_0 rfl ?_
  refine a_ist2 (pc := 1) dX7_common_1 (by decide) rfl ?_
  refine g_iload_n (pc := 2) dX7_common_2 rfl ?_
  refine a_ist3 (pc := 3) dX7_common_3 (by decide) rfl ?_
  refine g_iconst (pc := 4) (v := (nI 0)) dX7_common_4 (by decide) ?_
  refine a_ist4 (pc := 5) dX7_common_5 (by decide) rfl ?_
  have lp7 : ∀ (zz : Nat) (i : Nat) (hi : i ≤ 100) (a b : Nat) (ha : a < 2 ^ 31) (hb : b < 2 ^ 31) (he : cmN (100 - i) a b = cmN 100 a0 b0) (l5 : Option Value), 100 - i = zz → WG eI yX7_common.cls cX7_common 6 (some .int) false (fun _ _ => True) 0 (mpost (fun r μ1 => r = nI (cmN 100 a0 b0) ∧ μ1 = μ)) 0 0 7 [some (.int (nI a0)), some (.int (nI b0)), some (.int (nI a)), some (.int (nI b)), some (.int (nI i)), l5] [] (mk μ) := by
    intro zz
    induction zz using Nat.strongRecOn with
    | ind zz ih =>
      intro i hi a b ha hb he l5 hzz
      refine g_iload (pc := 7) dX7_common_7 rfl ?_
      refine g_bipush (pc := 9) (v := (nI 100)) dX7_common_9 (by decide) ?_
      refine g_icmp_ge (pc := 11) (tgt := 34) dX7_common_11 (by decide) (fun c_11 => ?_) (fun c_11 => ?_)
      · have c11 := nI_le' (by omega) (by omega) c_11
        obtain rfl : i = 100 := by omega
        have hr : a = cmN 100 a0 b0 := he
        refine g_iload_n (pc := 34) dX7_common_34 rfl ?_
        refine g_ireturn (pc := 35) dX7_common_35 rfl (by first | rfl | decide) rfl ⟨_, rfl, ?_⟩
        exact ⟨by rw [hr], rfl⟩
      · have c11 := nI_gt' (by omega) (by omega) c_11
        refine g_iload_n (pc := 14) dX7_common_14 rfl ?_
        refine g_if_eq (pc := 15) (tgt := 34) dX7_common_15 (by decide) (fun c_15 => ?_) (fun c_15 => ?_)
        · have c15 : b = 0 := nI_eq' (b := 0) hb (by decide) c_15
          have hr : a = cmN 100 a0 b0 := by
            rw [c15, cmN_0] at he
            exact he
          refine g_iload_n (pc := 34) dX7_common_34 rfl ?_
          refine g_ireturn (pc := 35) dX7_common_35 rfl (by first | rfl | decide) rfl ⟨_, rfl, ?_⟩
          exact ⟨by rw [hr], rfl⟩
        · have c15 : ¬ b = 0 := fun h => c_15 (by rw [h]; rfl)
          refine g_iload_n (pc := 18) dX7_common_18 rfl ?_
          refine g_iload_n (pc := 19) dX7_common_19 rfl ?_
          refine v_irem (pc := 20) dX7_common_20 c_15 (pk_rem ha (by omega) hb) ?_
          refine a_ist5 (pc := 21) dX7_common_21 (by decide) rfl ?_
          refine g_iload_n (pc := 23) dX7_common_23 rfl ?_
          refine a_ist2 (pc := 24) dX7_common_24 (by decide) rfl ?_
          refine g_iload (pc := 25) dX7_common_25 rfl ?_
          refine a_ist3 (pc := 27) dX7_common_27 (by decide) rfl ?_
          refine a_iinc4 (pc := 28) dX7_common_28 (inc1 i) (by decide) rfl ?_
          refine g_goto (pc := 31) (tgt := 7) dX7_common_31 (by decide) ?_
          exact ih (100 - (i + 1)) (by omega) (i + 1) (by omega) b (a % b) hb (Nat.lt_of_le_of_lt (Nat.mod_le _ _) ha) (by rw [← cmN_s (by omega) c15]; exact he) _ rfl
  exact lp7 _ 0 (Nat.zero_le _) a0 b0 ha0 hb0 rfl _ rfl
/-- of so many that are drawn: of how many the worst first is no worse -/
def gdN (v : View) (Q : Nat → List Nat) (z : Int32) : Nat → Nat
  | 0 => 0
  | i + 1 => if CR (drW v (z + nI i)) Q 9 (wfL (drW v (z + nI i)) (v 0 3)) ≤ drV v Q (z + nI i) then gdN v Q z i + 1 else gdN v Q z i
theorem gdN_le (v : View) (Q : Nat → List Nat) (z : Int32) : ∀ i, gdN v Q z i ≤ i
  | 0 => Nat.le_refl _
  | i + 1 => by
    have ih := gdN_le v Q z i
    rw [gdN]
    split <;> omega
abbrev chanOK (n k : Int32) : Prop := nx n ≤ 20 ∧ ¬ nx n = 0 ∧ nx k ≤ 1
def chanV (v : View) (Q : Nat → List Nat) (z n k : Int32) : Int64 := if chanOK n k then lN ((if nx k = 0 then gdN v Q z (nx n) else nx n) / cmN 100 (gdN v Q z (nx n)) (nx n)) else -4611686018427387904
theorem c_X7_chance (v vk : View) (tc : Nat) (P : Nat → Nat → List Nat) (μ : Mem) (hX : XW μ v vk tc P) (z n k : Int32) : CA eL yX7_chance cX7_chance 7 (some .long) 7 [.ref 0, .int z, .int n, .int k] μ (fun r μ1 => r = chanV v (P (v 0 2)) z n k ∧ TF μ μ1) := by
  have hc := hX.cw
  have hv := hc.2.1
  have hsb : SB 1 := Or.inl rfl
  have hvb := hc.2.1.vb
  have hn7 := hvb.1
  have hsp := hX.2.2.2.2.2.2.1
  have h127 := chs_lo 127 (v 0 3)
  have hlen := chs127_len (v 0 3) hn7
  refine CT.of false (by decide) (by decide) (L := [some (.ref 0), some (.int z), some (.int n), some (.int k), none, none, none]) rfl (Nat.le_of_ble_eq_true rfl) ?_
  refine g_iload_n (pc := 0) dX7_chance_0 rfl ?_
  refine g_iconst (pc := 1) (v := (nI 1)) dX7_chance_1 (by decide) ?_
  refine g_icmp_lt (pc := 2) (tgt := 20) dX7_chance_2 (by decide) (fun c_2 => ?_) (fun c_2 => ?_)
  · have hno : ¬ chanOK n k := fun h => by
      have e := nx_lt (x := n) (n := 21) (by omega) (by decide)
      rw [e] at c_2
      have := nI_lt' (b := 1) (by omega) (by decide) c_2
      omega
    refine g_ldc2 (pc := 20) dX7_chance_20 kc_X7_220 ?_
    refine g_lreturn (pc := 23) dX7_chance_23 rfl rfl ⟨_, rfl, ?_⟩
    refine ⟨?_, TF.refl μ⟩
    unfold chanV
    exact (if_neg hno).symm
  · have c2 : ¬ n < 0 := fun h => c_2 (Int32.lt_trans h (by decide))
    obtain ⟨e_m, b_m⟩ := nx_of c2
    generalize j_m : nx n = m at e_m b_m
    subst e_m
    have c2 := nI_ge' (a := m) (b := 1) b_m (by decide) c_2
    refine g_iload_n (pc := 5) dX7_chance_5 rfl ?_
    refine g_bipush (pc := 6) (v := (nI 20)) dX7_chance_6 (by decide) ?_
    refine g_icmp_gt (pc := 8) (tgt := 20) dX7_chance_8 (by decide) (fun c_8 => ?_) (fun c_8 => ?_)
    · have c8 := nI_lt' (by omega) (by omega) c_8
      have hno : ¬ chanOK (nI m) k := fun h => by
        have := h.1
        omega
      refine g_ldc2 (pc := 20) dX7_chance_20 kc_X7_220 ?_
      refine g_lreturn (pc := 23) dX7_chance_23 rfl rfl ⟨_, rfl, ?_⟩
      refine ⟨?_, TF.refl μ⟩
      unfold chanV
      exact (if_neg hno).symm
    · have c8 := nI_ge' (by omega) (by omega) c_8
      refine g_iload_n (pc := 11) dX7_chance_11 rfl ?_
      refine g_if_lt (pc := 12) (tgt := 20) dX7_chance_12 (by decide) (fun c_12 => ?_) (fun c_12 => ?_)
      · have hno : ¬ chanOK (nI m) k := fun h => by
          have h2 := h.2.2
          rw [nx_neg c_12] at h2
          exact absurd h2 (by decide)
        refine g_ldc2 (pc := 20) dX7_chance_20 kc_X7_220 ?_
        refine g_lreturn (pc := 23) dX7_chance_23 rfl rfl ⟨_, rfl, ?_⟩
        refine ⟨?_, TF.refl μ⟩
        unfold chanV
        exact (if_neg hno).symm
      · obtain ⟨e_kk, b_kk⟩ := nx_of c_12
        generalize j_kk : nx k = kk at e_kk b_kk
        subst e_kk
        refine g_iload_n (pc := 15) dX7_chance_15 rfl ?_
        refine g_iconst (pc := 16) (v := (nI 1)) dX7_chance_16 (by decide) ?_
        refine g_icmp_le (pc := 17) (tgt := 24) dX7_chance_17 (by decide) (fun c_17 => ?_) (fun c_17 => ?_)
        · have c17 := nI_le' (by omega) (by omega) c_17
          refine g_iconst (pc := 24) (v := (nI 0)) dX7_chance_24 (by decide) ?_
          refine a_ist4 (pc := 25) dX7_chance_25 (by decide) rfl ?_
          refine g_iconst (pc := 27) (v := (nI 0)) dX7_chance_27 (by decide) ?_
          refine a_ist5 (pc := 28) dX7_chance_28 (by decide) rfl ?_
          have lp30 : ∀ (zz : Nat) (i : Nat) (hi : i ≤ m) (ν : Mem) (hν : TF μ ν) (l6 : Option Value), m - i = zz → WG eL yX7_chance.cls cX7_chance 7 (some .long) false (fun _ _ => True) 7 (mpost (fun r μ1 => r = chanV v (P (v 0 2)) z (nI m) (nI kk) ∧ TF μ μ1)) 0 0 30 [some (.ref 0), some (.int z), some (.int (nI m)), some (.int (nI kk)), some (.int (nI (gdN v (P (v 0 2)) z i))), some (.int (nI i)), l6] [] (mk ν) := by
            intro zz
            induction zz using Nat.strongRecOn with
            | ind zz ih =>
              intro i hi ν hν l6 hzz
              have hg := gdN_le v (P (v 0 2)) z i
              have hXν := hX.tf hν
              have hrec : gdN v (P (v 0 2)) z (i + 1) = if CR (drW v (z + nI i)) (P (v 0 2)) 9 (wfL (drW v (z + nI i)) (v 0 3)) ≤ drV v (P (v 0 2)) (z + nI i) then gdN v (P (v 0 2)) z i + 1 else gdN v (P (v 0 2)) z i := rfl
              refine g_iload (pc := 30) dX7_chance_30 rfl ?_
              refine g_iload_n (pc := 32) dX7_chance_32 rfl ?_
              refine g_icmp_ge (pc := 33) (tgt := 93) dX7_chance_33 (by decide) (fun c_33 => ?_) (fun c_33 => ?_)
              · have c33 := nI_le' (by omega) (by omega) c_33
                obtain rfl : i = m := by omega
                have hcm := cmN_pos (gdN v (P (v 0 2)) z i) (by omega) i (by omega) (by omega)
                refine g_iload (pc := 93) dX7_chance_93 rfl ?_
                refine g_iload_n (pc := 95) dX7_chance_95 rfl ?_
                refine a_cs2i (pc := 96) (c_X7_common (gdN v (P (v 0 2)) z i) i (by omega) (by omega) ν) m_X7_common ml_X7_225 (by omega) (Nat.le_of_ble_eq_true rfl) dX7_chance_96 (fun x_96 μ_96 h_96 => ?_)
                obtain ⟨rfl, hm_96⟩ := h_96
                have hm_96 := hm_96.symm
                subst hm_96
                refine a_ist5 (pc := 99) dX7_chance_99 (by decide) rfl ?_
                refine g_iload (pc := 101) dX7_chance_101 rfl ?_
                refine g_iconst (pc := 103) (v := (nI 1)) dX7_chance_103 (by decide) ?_
                refine g_icmp_ge (pc := 104) (tgt := 111) dX7_chance_104 (by decide) (fun c_104 => ?_) (fun c_104 => ?_)
                · have c104 := nI_le' (by omega) (by omega) c_104
                  refine g_iload_n (pc := 111) dX7_chance_111 rfl ?_
                  refine g_if_ne (pc := 112) (tgt := 124) dX7_chance_112 (by decide) (fun c_112 => ?_) (fun c_112 => ?_)
                  · have ck : ¬ kk = 0 := fun h => c_112 (by rw [h]; rfl)
                    refine g_iload_n (pc := 124) dX7_chance_124 rfl ?_
                    refine g_iload (pc := 125) dX7_chance_125 rfl ?_
                    refine v_idiv (pc := 127) dX7_chance_127 (fun h => absurd (nI_eq' (b := 0) (by omega) (by decide) h) (by omega)) (pk_div (by omega) (by omega) (by omega)) ?_
                    refine g_i2l (pc := 128) dX7_chance_128 (nI_l (Nat.lt_of_le_of_lt (Nat.div_le_self _ _) (by omega))) ?_
                    refine g_lreturn (pc := 129) dX7_chance_129 rfl rfl ⟨_, rfl, ?_⟩
                    refine ⟨?_, hν⟩
                    unfold chanV
                    rw [if_pos (by unfold chanOK; omega), j_kk, j_m]
                    first | rw [if_pos ck] | rw [if_neg ck]
                  · have ck : kk = 0 := nI_eq' (b := 0) (by omega) (by omega) c_112
                    refine g_iload (pc := 115) dX7_chance_115 rfl ?_
                    refine g_iload (pc := 117) dX7_chance_117 rfl ?_
                    refine v_idiv (pc := 119) dX7_chance_119 (fun h => absurd (nI_eq' (b := 0) (by omega) (by decide) h) (by omega)) (pk_div (by omega) (by omega) (by omega)) ?_
                    refine g_i2l (pc := 120) dX7_chance_120 (nI_l (Nat.lt_of_le_of_lt (Nat.div_le_self _ _) (by omega))) ?_
                    refine g_goto (pc := 121) (tgt := 129) dX7_chance_121 (by decide) ?_
                    refine g_lreturn (pc := 129) dX7_chance_129 rfl rfl ⟨_, rfl, ?_⟩
                    refine ⟨?_, hν⟩
                    unfold chanV
                    rw [if_pos (by unfold chanOK; omega), j_kk, j_m]
                    first | rw [if_pos ck] | rw [if_neg ck]
                · exact absurd (nI_gt' (by omega) (by omega) c_104) (by omega)
              · have c33 := nI_gt' (by omega) (by omega) c_33
                refine g_aload_n (pc := 36) dX7_chance_36 rfl ?_
                refine g_iload_n (pc := 37) dX7_chance_37 rfl ?_
                refine g_iload (pc := 38) dX7_chance_38 rfl ?_
                refine v_iadd (pc := 40) dX7_chance_40 rfl ?_
                refine a_cv1i (pc := 41) (c_X7_drawn v vk tc P ν hXν (z + nI i)) m_X7_drawn ml_X7_222 (by omega) (by first | rfl | assumption) rfl rfl (Nat.le_of_ble_eq_true rfl) dX7_chance_41 (fun x_41 μ_41 h_41 => ?_)
                obtain ⟨rfl, f41, c41⟩ := h_41
                have sp41 : μ_41 35 3 = -1 := (hν.trans f41).2.2.trans hsp
                have b41 : drV v (P (v 0 2)) (z + nI i) ≤ 2079 := CR_lt (v := drW v (z + nI i)) c41.2.1.vb h127
                refine a_ist6 (pc := 44) dX7_chance_44 (by decide) rfl ?_
                refine g_aload_n (pc := 46) dX7_chance_46 rfl ?_
                refine a_getr (pc := 47) (q := 35) fl_X7_41 dX7_chance_47 (by first | rfl | assumption) rfl rfl ?_
                refine g_aload_n (pc := 50) dX7_chance_50 rfl ?_
                refine a_getr (pc := 51) (q := 11) fl_X7_19 dX7_chance_51 (by first | rfl | assumption) rfl rfl ?_
                refine a_cv1v (pc := 54) (c_X0_chooseWorstFirst 11 c41.1 (drW v (z + nI i)) μ_41 c41.2.1) m_X0_chooseWorstFirst ml_X7_174 (by omega) (by first | rfl | assumption) rfl rfl (Nat.le_of_ble_eq_true rfl) dX7_chance_54 (fun x_54 μ_54 h_54 => ?_)
                obtain ⟨o54, g54, g54b⟩ := h_54
                have c54 : CW μ_54 11 (drW v (z + nI i)) (P (v 0 2)) := c41.moved (fun k hk => g54 k (by omega) (by omega) (by omega)) (congrFun (g54 46 (by omega) (by omega) (by omega)) 0)
                have f54 : SF μ_41 μ_54 := ⟨fun c hc => g54 c (by omega) (by omega) (by omega), congrFun (g54 46 (by omega) (by omega) (by omega)) 0, g54b 3 (by omega)⟩
                have hwl := wfL_lo (drW v (z + nI i)) (v 0 3)
                refine g_aload_n (pc := 57) dX7_chance_57 rfl ?_
                refine a_getr (pc := 58) (q := 35) fl_X7_41 dX7_chance_58 (by first | rfl | assumption) rfl rfl ?_
                refine g_aload_n (pc := 61) dX7_chance_61 rfl ?_
                refine a_getr (pc := 62) (q := 11) fl_X7_19 dX7_chance_62 (by first | rfl | assumption) rfl rfl ?_
                refine a_cv1v (pc := 65) (c_X0_run 11 c41.1 (drW v (z + nI i)) (P (v 0 2)) μ_54 c54.2.1 c54.2.2.1 9 (Or.inl ⟨f54.2.2.trans sp41, rfl⟩) _ o54 hwl c54.2.2.2) m_X0_run ml_X7_117 (by omega) (by first | rfl | assumption) rfl rfl (Nat.le_of_ble_eq_true rfl) dX7_chance_65 (fun x_65 μ_65 h_65 => ?_)
                obtain ⟨c65, o65, f65, w65, p65, r65⟩ := CW.ran c54 o54 hwl h_65
                have b65 : CR (drW v (z + nI i)) (P (v 0 2)) 9 (wfL (drW v (z + nI i)) (v 0 3)) ≤ 2079 := CR_lt c41.2.1.vb hwl
                refine g_aload_n (pc := 68) dX7_chance_68 rfl ?_
                refine a_getr (pc := 69) (q := 35) fl_X7_41 dX7_chance_69 (by first | rfl | assumption) rfl rfl ?_
                refine g_aload_n (pc := 72) dX7_chance_72 rfl ?_
                refine a_getr (pc := 73) (q := 11) fl_X7_19 dX7_chance_73 (by first | rfl | assumption) rfl rfl ?_
                refine a_cv1i (pc := 76) (c_X0_creased 11 c41.1 (drW v (z + nI i)) μ_65 c65.2.1 _ o65 _ r65) m_X0_creased ml_X7_177 (by omega) (by first | rfl | assumption) rfl rfl (Nat.le_of_ble_eq_true rfl) dX7_chance_76 (fun x_76 μ_76 h_76 => ?_)
                obtain ⟨rfl, hm_76⟩ := h_76
                have hm_76 := hm_76.symm
                subst hm_76
                have f99 := (hν.trans f41).trans (f54.trans f65).tf
                obtain ⟨y, hy⟩ : ∃ y, CR (drW v (z + nI i)) (P (v 0 2)) 9 (wfL (drW v (z + nI i)) (v 0 3)) = y := ⟨_, rfl⟩
                rw [show csum (drW v (z + nI i)) (stF (drW v (z + nI i)) (P (v 0 2)) 9 (wfL (drW v (z + nI i)) (drW v (z + nI i) 0 3)) (wfL (drW v (z + nI i)) (drW v (z + nI i) 0 3)).length) (drW v (z + nI i) 0 3) = y from hy]
                rw [hy] at b65 hrec
                refine g_iload (pc := 79) dX7_chance_79 rfl ?_
                refine g_icmp_gt (pc := 81) (tgt := 87) dX7_chance_81 (by decide) (fun c_81 => ?_) (fun c_81 => ?_)
                · have c81 := nI_lt' (by omega) (by omega) c_81
                  rw [if_neg (by omega)] at hrec
                  refine a_iinc5 (pc := 87) dX7_chance_87 (inc1 i) (by decide) rfl ?_
                  refine g_goto (pc := 90) (tgt := 30) dX7_chance_90 (by decide) ?_
                  have hfin := ih (m - (i + 1)) (by omega) (i + 1) (by omega) _ f99 (some (.int (nI (drV v (P (v 0 2)) (z + nI i))))) rfl
                  rw [hrec] at hfin
                  exact hfin
                · have c81 := nI_ge' (by omega) (by omega) c_81
                  rw [if_pos c81] at hrec
                  refine a_iinc4 (pc := 84) dX7_chance_84 (inc1 _) (by decide) rfl ?_
                  refine a_iinc5 (pc := 87) dX7_chance_87 (inc1 i) (by decide) rfl ?_
                  refine g_goto (pc := 90) (tgt := 30) dX7_chance_90 (by decide) ?_
                  have hfin := ih (m - (i + 1)) (by omega) (i + 1) (by omega) _ f99 (some (.int (nI (drV v (P (v 0 2)) (z + nI i))))) rfl
                  rw [hrec] at hfin
                  exact hfin
          exact lp30 _ 0 (Nat.zero_le _) _ (TF.refl μ) _ rfl
        · have c17 := nI_gt' (by omega) (by omega) c_17
          have hno : ¬ chanOK (nI m) (nI kk) := fun h => by
            have := h.2.2
            omega
          refine g_ldc2 (pc := 20) dX7_chance_20 kc_X7_220 ?_
          refine g_lreturn (pc := 23) dX7_chance_23 rfl rfl ⟨_, rfl, ?_⟩
          refine ⟨?_, TF.refl μ⟩
          unfold chanV
          exact (if_neg hno).symm
