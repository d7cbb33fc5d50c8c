/-! ===== ironing: one place of an order ===== -/
def isTk (v : View) (Q : Nat → List Nat) (dry p : Nat) (f : Nat → Nat) (m : Nat) : Nat := kTakes (v 1 p) (TV Q 1 m (v 0 1 - (m - dry)) (v 0 0) (v 2 p) (f p) p) (v 2 p)
def isKp (v : View) (Q : Nat → List Nat) (dry p : Nat) (f : Nat → Nat) (m : Nat) : Nat := kKeeps (v 1 p) (TV Q 0 m (v 0 1 - (m - dry)) (v 0 0) (v 2 p) (f p) p) (f p) (v 2 p)
def isCr (v : View) (Q : Nat → List Nat) (dry : Nat) (f : Nat → Nat) (m q : Nat) : Nat := kCrumples (v 1 q) (TV Q 2 m (v 0 1 - (m - dry)) (v 0 0) (v 2 q) (f q) q)
def isM (v : View) (Q : Nat → List Nat) (dry p : Nat) (f : Nat → Nat) (m : Nat) : Nat := m + isTk v Q dry p f m
def isF (v : View) (Q : Nat → List Nat) (dry p : Nat) (f : Nat → Nat) (m : Nat) : Nat → Nat := fun q => if q = p then isKp v Q dry p f m else if bitAt (v 4 p) q = 1 then min 99 (f q + isCr v Q dry f (isM v Q dry p f m) q) else f q
theorem kTakes_le {k v n : Nat} (hv : v ≤ 99) (hn : n ≤ 9) : kTakes k v n ≤ 207 := by
  unfold kTakes
  repeat (first | omega | split)
theorem kKeeps_le {k v c n : Nat} (hv : v ≤ 99) (hc : c ≤ 99) : kKeeps k v c n ≤ 99 := by
  unfold kKeeps
  repeat (first | omega | split)
theorem kCrumples_le {k v : Nat} (hv : v ≤ 99) : kCrumples k v ≤ 198 := by
  unfold kCrumples
  repeat (first | omega | split)
theorem isF_le {v : View} {Q : Nat → List Nat} {dry p m q : Nat} {f : Nat → Nat} (hf : ∀ q, q < v 0 3 → f q ≤ 99) (hp : p < v 0 3) (hq : q < v 0 3) : isF v Q dry p f m q ≤ 99 := by
  unfold isF
  split
  · exact kKeeps_le (TV_le _ _ _ _ _ _ _ _) (hf p hp)
  · split
    · omega
    · exact hf q hq
theorem shA : ∀ k, k < 8 → sh (38 + k) = (0, 7) := by decide
theorem c_X0_ironOne (sb : Nat) (v : View) (Q : Nat → List Nat) (μ : Mem) (hI : IW μ sb v Q) (k p m dry : Nat) (f : Nat → Nat) (hk : k < 7) (hpn : p < v 0 3) (hop : μ 36 k = nI p) (hf : ∀ q, q < v 0 3 → μ (38 + k) q = nI (f q) ∧ f q ≤ 99) (hm : μ 46 k = nI m) (hmb : m ≤ 1500) (hdm : dry ≤ m) (hsp : (μ 35 3 = -1 ∧ dry = 0) ∨ ∃ s, s < 7 ∧ μ 35 3 = nI s ∧ ((s ≤ k ∧ μ 46 s = nI dry) ∨ (k < s ∧ dry = 0))) : CA eV yX0_ironOne cX0_ironOne 7 none 3 [.ref 35, .int (nI k)] μ (fun _ μ1 => (∀ q, q < v 0 3 → μ1 (38 + (k + 1)) q = nI (isF v Q dry p f m q)) ∧ μ1 46 (k + 1) = nI (isM v Q dry p f m) ∧ (∀ j, j ≠ k + 1 → μ1 46 j = μ 46 j) ∧ (∀ j, j ≠ 8 → j ≠ 9 → μ1 35 j = μ 35 j) ∧ μ1 31 2 = μ 31 2 ∧ ∀ c, c ≠ 31 → c ≠ 32 → c ≠ 35 → c ≠ 46 → c ≠ 38 + (k + 1) → μ1 c = μ c) := by
  obtain ⟨hsb, hsh, hv, hcd, hht⟩ := id hI
  obtain ⟨hs0, hs1, hs2, hs3, hs4, hr4, hr5, hr6, hr7, hs9⟩ := hsb.f
  obtain ⟨⟨e0, b0⟩, ⟨e1, b1⟩, ⟨e2, b2⟩, ⟨e3, b3⟩, hp⟩ := id hv
  have hA0 := shA k (by omega)
  have hA1 := shA (k + 1) (by omega)
  have hfp := hf p hpn
  have hpb := hp p hpn
  obtain ⟨R, hR⟩ : ∃ R, R = 38 + (k + 1) := ⟨_, rfl⟩
  rw [← hR]
  rw [← hR] at hA1
  have hRg : 38 < R := by omega
  have hRl : R < 46 := by omega
  refine CT.of false (by decide) (by decide) (L := [some (.ref 35), some (.int (nI k)), none, none, none, none, none]) rfl (Nat.le_of_ble_eq_true rfl) ?_
  refine g_aload_n (pc := 0) dX0_ironOne_0 rfl ?_
  refine a_getr (pc := 1) (q := 36) fl_X0_9 dX0_ironOne_1 (by first | assumption | rfl) rfl rfl ?_
  refine g_iload_n (pc := 4) dX0_ironOne_4 rfl ?_
  refine v_iald (pc := 5) dX0_ironOne_5 (by first | assumption | rfl) rfl (by omega) hop ?_
  refine a_ist2 (pc := 6) dX0_ironOne_6 (by decide) rfl ?_
  refine g_aload_n (pc := 7) dX0_ironOne_7 rfl ?_
  refine a_getr (pc := 8) (q := 37) fl_X0_21 dX0_ironOne_8 (by first | assumption | rfl) rfl rfl ?_
  refine g_iload_n (pc := 11) dX0_ironOne_11 rfl ?_
  refine g_iconst (pc := 12) (v := (nI 1)) dX0_ironOne_12 (by decide) ?_
  refine v_iadd (pc := 13) dX0_ironOne_13 (nI_add _ _) ?_
  refine v_aald (pc := 14) dX0_ironOne_14 (by first | assumption | rfl) rfl (by omega) (show 37 + 1 + (k + 1) = R by omega) ?_
  refine a_ast3 (pc := 15) dX0_ironOne_15 (by decide) rfl ?_
  refine g_aload_n (pc := 16) dX0_ironOne_16 rfl ?_
  refine a_getr (pc := 17) (q := 37) fl_X0_21 dX0_ironOne_17 (by first | assumption | rfl) rfl rfl ?_
  refine g_iload_n (pc := 20) dX0_ironOne_20 rfl ?_
  refine v_aald (pc := 21) dX0_ironOne_21 (by first | assumption | rfl) rfl (by omega) (show 37 + 1 + k = 38 + k by omega) ?_
  refine g_iconst (pc := 22) (v := (nI 0)) dX0_ironOne_22 (by decide) ?_
  refine g_aload_n (pc := 23) dX0_ironOne_23 rfl ?_
  refine g_iconst (pc := 24) (v := (nI 0)) dX0_ironOne_24 (by decide) ?_
  refine g_bipush (pc := 25) (v := (nI 7)) dX0_ironOne_25 (by decide) ?_
  refine a_copy (pc := 27) (sp := 0) (dp := 0) (n := 7) ml_X0_69 (by omega) (Nat.le_of_ble_eq_true rfl) dX0_ironOne_27 hA0 hA1 rfl rfl rfl (by omega) (by omega) ?_
  obtain ⟨ν, hr0, ho0, hν⟩ : ∃ ν : Mem, (∀ q, q < 7 → ν R q = μ (38 + k) q) ∧ (∀ c, c ≠ R → ν c = μ c) ∧ mcopy μ (38 + k) 0 R 0 7 = ν := ⟨_, fun q hq => mcopy_eq hq, fun c hc => mcopy_ne hc, rfl⟩
  rw [hν]
  clear hν
  refine g_aload_n (pc := 30) dX0_ironOne_30 rfl ?_
  refine g_aload_n (pc := 31) dX0_ironOne_31 rfl ?_
  refine a_getr (pc := 32) (q := 46) fl_X0_24 dX0_ironOne_32 (by first | assumption | rfl) rfl rfl ?_
  refine g_iload_n (pc := 35) dX0_ironOne_35 rfl ?_
  refine v_iald (pc := 36) dX0_ironOne_36 (by first | assumption | rfl) rfl (by omega) ((congrFun (ho0 46 (by omega)) k).trans hm) ?_
  refine a_puti (pc := 37) fw_X0_84 dX0_ironOne_37 (by first | assumption | rfl) rfl ?_
  have k69 : ∀ (_ : True), WG eV yX0_ironOne.cls cX0_ironOne 7 none false (fun _ _ => True) 3 (mpost (fun _ μ1 => (∀ q, q < v 0 3 → μ1 R q = nI (isF v Q dry p f m q)) ∧ μ1 46 (k + 1) = nI (isM v Q dry p f m) ∧ (∀ j, j ≠ k + 1 → μ1 46 j = μ 46 j) ∧ (∀ j, j ≠ 8 → j ≠ 9 → μ1 35 j = μ 35 j) ∧ μ1 31 2 = μ 31 2 ∧ ∀ c, c ≠ 31 → c ≠ 32 → c ≠ 35 → c ≠ 46 → c ≠ R → μ1 c = μ c)) 0 0 69 [some (.ref 35), some (.int (nI k)), some (.int (nI p)), some (.ref R), none, none, none] [.int (nI dry), .ref 35] (mk (mset ν 35 8 (nI m))) := by
    intro _
    refine a_puti (pc := 69) fw_X0_87 dX0_ironOne_69 (by first | assumption | rfl) rfl ?_
    obtain ⟨ν1, g8, g9, g35, hr1, ho1, hν1⟩ : ∃ ν1 : Mem, ν1 35 8 = nI m ∧ ν1 35 9 = nI dry ∧ (∀ j, j ≠ 8 → j ≠ 9 → ν1 35 j = μ 35 j) ∧ (∀ q, q < 7 → ν1 R q = μ (38 + k) q) ∧ (∀ c, c ≠ R → c ≠ 35 → ν1 c = μ c) ∧ mset (mset ν 35 8 (nI m)) 35 9 (nI dry) = ν1 := by
      refine ⟨_, (mset_nj (by omega)).trans mset_eq, mset_eq, fun j h8 h9 => ?_, fun q hq => ?_, fun c h1 h2 => ?_, rfl⟩
      · rw [mset_nj h9, mset_nj h8, ho0 35 (by omega)]
      · rw [mset_ne (by omega), mset_ne (by omega)]
        exact hr0 q hq
      · rw [mset_ne h2, mset_ne h2]
        exact ho0 c h1
    rw [hν1]
    clear hν1
    have hI1 : IW ν1 sb v Q := hI.moved (fun c hc => ho1 c (by omega) (by omega)) (by rw [ho1 31 (by omega) (by omega)]) (g35 7 (by omega) (by omega))
    refine g_aload_n (pc := 72) dX0_ironOne_72 rfl ?_
    refine g_iload_n (pc := 73) dX0_ironOne_73 rfl ?_
    refine g_aload_n (pc := 74) dX0_ironOne_74 rfl ?_
    refine g_iload_n (pc := 75) dX0_ironOne_75 rfl ?_
    refine v_iald (pc := 76) dX0_ironOne_76 (by first | assumption | rfl) rfl (by omega) ((hr1 p (by omega)).trans hfp.1) ?_
    refine a_cv2i (pc := 77) (c_X0_takes sb v Q ν1 hI1 m dry (f p) p g8 g9 hdm (by omega) hfp.2 hpn) m_X0_takes ml_X0_98 (by omega) (by first | assumption | rfl) rfl rfl (Nat.le_of_ble_eq_true rfl) dX0_ironOne_77 (fun x_77 μ_77 h_77 => ?_)
    obtain ⟨rfl, ho2, hn2⟩ := h_77
    have hI2 : IW μ_77 sb v Q := hI1.moved (fun c hc => ho2 c (by omega) (by omega)) hn2 (by rw [ho2 35 (by omega) (by omega)])
    obtain ⟨tk, htk⟩ : ∃ tk, tk = isTk v Q dry p f m := ⟨_, rfl⟩
    have htk' : tk ≤ 207 := by
      rw [htk]
      exact kTakes_le (TV_le _ _ _ _ _ _ _ _) hpb.2.1.2
    rw [show kTakes (v 1 p) (TV Q 1 m (v 0 1 - (m - dry)) (v 0 0) (v 2 p) (f p) p) (v 2 p) = tk from htk.symm]
    refine a_ist4 (pc := 80) dX0_ironOne_80 (by decide) rfl ?_
    refine g_aload_n (pc := 82) dX0_ironOne_82 rfl ?_
    refine g_iload_n (pc := 83) dX0_ironOne_83 rfl ?_
    refine g_aload_n (pc := 84) dX0_ironOne_84 rfl ?_
    refine g_iload_n (pc := 85) dX0_ironOne_85 rfl ?_
    refine g_aload_n (pc := 86) dX0_ironOne_86 rfl ?_
    refine g_iload_n (pc := 87) dX0_ironOne_87 rfl ?_
    refine v_iald (pc := 88) dX0_ironOne_88 (by first | assumption | rfl) rfl (by omega) ((congrFun (ho2 R (by omega) (by omega)) p).trans ((hr1 p (by omega)).trans hfp.1)) ?_
    refine a_cv2i (pc := 89) (c_X0_keeps sb v Q μ_77 hI2 m dry (f p) p ((congrFun (ho2 35 (by omega) (by omega)) 8).trans g8) ((congrFun (ho2 35 (by omega) (by omega)) 9).trans g9) hdm (by omega) hfp.2 hpn) m_X0_keeps ml_X0_101 (by omega) (by first | assumption | rfl) rfl rfl (Nat.le_of_ble_eq_true rfl) dX0_ironOne_89 (fun x_89 μ_89 h_89 => ?_)
    obtain ⟨rfl, ho3, hn3⟩ := h_89
    rw [show kKeeps (v 1 p) (TV Q 0 m (v 0 1 - (m - dry)) (v 0 0) (v 2 p) (f p) p) (f p) (v 2 p) = isKp v Q dry p f m from rfl]
    refine a_iast (pc := 92) dX0_ironOne_92 (by first | assumption | rfl) rfl (by omega) ?_
    refine g_aload_n (pc := 93) dX0_ironOne_93 rfl ?_
    refine g_dup (pc := 94) dX0_ironOne_94 rfl ?_
    refine v_geti (pc := 95) fl_X0_84 dX0_ironOne_95 (by first | assumption | rfl) rfl ((congrFun (mset_ne (by omega)) 8).trans ((congrFun (ho3 35 (by omega) (by omega)) 8).trans ((congrFun (ho2 35 (by omega) (by omega)) 8).trans g8))) ?_
    refine g_iload (pc := 98) dX0_ironOne_98 rfl ?_
    refine v_iadd (pc := 100) dX0_ironOne_100 (nI_add _ _) ?_
    refine a_puti (pc := 101) fw_X0_84 dX0_ironOne_101 (by first | assumption | rfl) rfl ?_
    refine g_aload_n (pc := 104) dX0_ironOne_104 rfl ?_
    refine a_getr (pc := 105) (q := 46) fl_X0_24 dX0_ironOne_105 (by first | assumption | rfl) rfl rfl ?_
    refine g_iload_n (pc := 108) dX0_ironOne_108 rfl ?_
    refine g_iconst (pc := 109) (v := (nI 1)) dX0_ironOne_109 (by decide) ?_
    refine v_iadd (pc := 110) dX0_ironOne_110 (nI_add _ _) ?_
    refine g_aload_n (pc := 111) dX0_ironOne_111 rfl ?_
    refine v_geti (pc := 112) fl_X0_84 dX0_ironOne_112 (by first | assumption | rfl) rfl mset_eq ?_
    refine a_iast (pc := 115) dX0_ironOne_115 (by first | assumption | rfl) rfl (by omega) ?_
    obtain ⟨ν2, g8', g9', g35', hr2, hrp, ho4, hmn, hmo, hn4, hν2⟩ : ∃ ν2 : Mem, ν2 35 8 = nI (m + tk) ∧ ν2 35 9 = nI dry ∧ (∀ j, j ≠ 8 → j ≠ 9 → ν2 35 j = μ 35 j) ∧ (∀ q, q < 7 → q ≠ p → ν2 R q = μ (38 + k) q) ∧ ν2 R p = nI (isKp v Q dry p f m) ∧ (∀ c, c ≠ R → c ≠ 31 → c ≠ 32 → c ≠ 35 → c ≠ 46 → ν2 c = μ c) ∧ ν2 46 (k + 1) = nI (m + tk) ∧ (∀ j, j ≠ k + 1 → ν2 46 j = μ 46 j) ∧ ν2 31 2 = μ 31 2 ∧ mset (mset (mset μ_89 R p (nI (isKp v Q dry p f m))) 35 8 (nI (m + tk))) 46 (k + 1) (nI (m + tk)) = ν2 := by
      refine ⟨_, ?_, ?_, fun j h8 h9 => ?_, fun q hq hqp => ?_, ?_, fun c h1 h2 h3 h4 h5 => ?_, mset_eq, fun j hj => ?_, ?_, rfl⟩
      · rw [mset_ne (by omega), mset_eq]
      · rw [mset_ne (by omega), mset_nj (by omega), mset_ne (by omega), ho3 35 (by omega) (by omega), ho2 35 (by omega) (by omega)]
        exact g9
      · rw [mset_ne (by omega), mset_nj h8, mset_ne (by omega), ho3 35 (by omega) (by omega), ho2 35 (by omega) (by omega)]
        exact g35 j h8 h9
      · rw [mset_ne (by omega), mset_ne (by omega), mset_nj hqp, ho3 R (by omega) (by omega), ho2 R (by omega) (by omega)]
        exact hr1 q hq
      · rw [mset_ne (by omega), mset_ne (by omega), mset_eq]
      · rw [mset_ne h5, mset_ne h4, mset_ne h1, ho3 c h2 h3, ho2 c h2 h3]
        exact ho1 c h1 h4
      · rw [mset_nj hj, mset_ne (by omega), mset_ne (by omega), ho3 46 (by omega) (by omega), ho2 46 (by omega) (by omega)]
        exact congrFun (ho1 46 (by omega) (by omega)) j
      · rw [mset_ne (by omega), mset_ne (by omega), mset_ne (by omega)]
        exact hn3.trans (hn2.trans (congrFun (ho1 31 (by omega) (by omega)) 2))
    rw [hν2]
    clear hν2
    have hI3 : IW ν2 sb v Q := hI.moved (fun c hc => ho4 c (by omega) (by omega) (by omega) (by omega) (by omega)) hn4 (g35' 7 (by omega) (by omega))
    have hv3 := hI3.2.2.1
    obtain ⟨u, hu128, hu, hub⟩ := und_lem (v 4 p) (by omega) p (by omega)
    refine g_aload_n (pc := 116) dX0_ironOne_116 rfl ?_
    refine a_getd (pc := 117) fl_X0_34 dX0_ironOne_117 (by first | assumption | rfl) rfl hI3.2.1 (by omega) ?_
    refine a_getr (pc := 120) (q := sb + 4) fl_X0_104 dX0_ironOne_120 (by first | assumption | rfl) rfl (by assumption) ?_
    refine g_iload_n (pc := 123) dX0_ironOne_123 rfl ?_
    refine v_iald (pc := 124) dX0_ironOne_124 (by first | assumption | rfl) rfl (by omega) (hv3.2.2.2.2 p hpn).2.2.2.1 ?_
    refine g_iconst (pc := 125) (v := (nI 1)) dX0_ironOne_125 (by decide) ?_
    refine g_iload_n (pc := 126) dX0_ironOne_126 rfl ?_
    refine v_ishl (pc := 127) dX0_ironOne_127 rfl ?_
    refine g_iconst (pc := 128) (v := (-1)) dX0_ironOne_128 (by decide) ?_
    refine v_ixor (pc := 129) dX0_ironOne_129 rfl ?_
    refine v_iand (pc := 130) dX0_ironOne_130 hu ?_
    refine a_ist5 (pc := 131) dX0_ironOne_131 (by decide) rfl ?_
    refine g_iconst (pc := 133) (v := (nI 0)) dX0_ironOne_133 (by decide) ?_
    refine a_ist6 (pc := 134) dX0_ironOne_134 (by decide) rfl ?_
    have lp136 : ∀ (zz : Nat) (i : Nat) (hi : i ≤ v 0 3) (ν3 : Mem) (hl : (∀ q, q < i → ν3 R q = nI (isF v Q dry p f m q)) ∧ (∀ q, i ≤ q → q < v 0 3 → ν3 R q = ν2 R q) ∧ (∀ c, c ≠ R → c ≠ 31 → c ≠ 32 → ν3 c = ν2 c) ∧ ν3 31 2 = ν2 31 2), v 0 3 - i = zz → WG eV yX0_ironOne.cls cX0_ironOne 7 none false (fun _ _ => True) 3 (mpost (fun _ μ1 => (∀ q, q < v 0 3 → μ1 R q = nI (isF v Q dry p f m q)) ∧ μ1 46 (k + 1) = nI (isM v Q dry p f m) ∧ (∀ j, j ≠ k + 1 → μ1 46 j = μ 46 j) ∧ (∀ j, j ≠ 8 → j ≠ 9 → μ1 35 j = μ 35 j) ∧ μ1 31 2 = μ 31 2 ∧ ∀ c, c ≠ 31 → c ≠ 32 → c ≠ 35 → c ≠ 46 → c ≠ R → μ1 c = μ c)) 0 0 136 [some (.ref 35), some (.int (nI k)), some (.int (nI p)), some (.ref R), some (.int (nI tk)), some (.int (nI u)), some (.int (nI i))] [] (mk ν3) := by
      intro zz
      induction zz using Nat.strongRecOn with
      | ind zz ih =>
        intro i hi ν3 hl hzz
        obtain ⟨l1, l2, l3, l4⟩ := hl
        have hI4 : IW ν3 sb v Q := hI3.moved (fun c hc => l3 c (by omega) (by omega) (by omega)) l4 (by rw [l3 35 (by omega) (by omega) (by omega)])
        have hv4 := hI4.2.2.1
        refine g_iload (pc := 136) dX0_ironOne_136 rfl ?_
        refine g_aload_n (pc := 138) dX0_ironOne_138 rfl ?_
        refine a_getd (pc := 139) fl_X0_34 dX0_ironOne_139 (by first | assumption | rfl) rfl hI4.2.1 (by omega) ?_
        refine v_geti (pc := 142) fl_X0_44 dX0_ironOne_142 (by first | assumption | rfl) rfl hv4.2.2.2.1.1 ?_
        refine g_icmp_ge (pc := 145) (tgt := 188) dX0_ironOne_145 (by decide) (fun c_145 => ?_) (fun c_145 => ?_)
        · have c145 := nI_le' (by omega) (by omega) c_145
          obtain rfl : i = v 0 3 := by omega
          refine g_return (pc := 188) (x := ()) dX0_ironOne_188 rfl rfl ⟨_, rfl, ?_⟩
          refine ⟨fun q hq => ?_, ?_, fun j hj => ?_, fun j h8 h9 => ?_, l4.trans hn4, fun c h1 h2 h3 h4 h5 => ?_⟩
          · exact l1 q hq
          · rw [l3 46 (by omega) (by omega) (by omega), hmn, htk]
            rfl
          · rw [l3 46 (by omega) (by omega) (by omega)]
            exact hmo j hj
          · rw [l3 35 (by omega) (by omega) (by omega)]
            exact g35' j h8 h9
          · rw [l3 c h5 h1 h2]
            exact ho4 c h5 h1 h2 h3 h4
        · have c145 := nI_gt' (by omega) (by omega) c_145
          have hbi := hub i (by omega)
          have hfi := hf i c145
          refine g_iload (pc := 148) dX0_ironOne_148 rfl ?_
          refine g_iload (pc := 150) dX0_ironOne_150 rfl ?_
          refine v_ishr (pc := 152) dX0_ironOne_152 rfl ?_
          refine g_iconst (pc := 153) (v := (nI 1)) dX0_ironOne_153 (by decide) ?_
          refine v_iand (pc := 154) dX0_ironOne_154 (bit_lem u hu128 i (by omega)) ?_
          refine g_if_eq (pc := 155) (tgt := 182) dX0_ironOne_155 (by decide) (fun c_155 => ?_) (fun c_155 => ?_)
          · have hb0 : ¬ bitAt u i = 1 := fun h => by
              rw [h] at c_155
              exact absurd c_155 (by decide)
            have hnx : (∀ q, q < i + 1 → ν3 R q = nI (isF v Q dry p f m q)) ∧ (∀ q, i + 1 ≤ q → q < v 0 3 → ν3 R q = ν2 R q) ∧ (∀ c, c ≠ R → c ≠ 31 → c ≠ 32 → ν3 c = ν2 c) ∧ ν3 31 2 = ν2 31 2 := by
              refine ⟨fun q hq => ?_, fun q h1 h2 => l2 q (by omega) h2, l3, l4⟩
              rcases Nat.lt_or_ge q i with h | h
              · exact l1 q h
              · obtain rfl : q = i := by omega
                rw [l2 q (Nat.le_refl _) c145]
                unfold isF
                by_cases hqp : q = p
                · subst hqp
                  rw [if_pos rfl]
                  exact hrp
                · rw [if_neg hqp] at hbi
                  rw [if_neg hqp, if_neg (by rw [← hbi]; exact hb0), hr2 q (by omega) hqp]
                  exact hfi.1
            refine a_iinc6 (pc := 182) dX0_ironOne_182 (inc1 i) (by decide) rfl ?_
            refine g_goto (pc := 185) (tgt := 136) dX0_ironOne_185 (by decide) ?_
            exact ih (v 0 3 - (i + 1)) (by omega) (i + 1) (by omega) _ hnx rfl
          · have hb0 : bitAt u i = 1 := by
              have h1 := bit_le u i
              rcases Nat.lt_or_ge 0 (bitAt u i) with h | h
              · omega
              · rw [show bitAt u i = 0 by omega] at c_155
                exact absurd rfl c_155
            have hip : ¬ i = p := fun h => by
              rw [if_pos h] at hbi
              omega
            rw [if_neg hip] at hbi
            have hri : ν3 R i = nI (f i) := (l2 i (Nat.le_refl _) c145).trans ((hr2 i (by omega) hip).trans hfi.1)
            refine g_aload_n (pc := 158) dX0_ironOne_158 rfl ?_
            refine g_iload (pc := 159) dX0_ironOne_159 rfl ?_
            refine g_bipush (pc := 161) (v := (nI 99)) dX0_ironOne_161 (by decide) ?_
            refine g_aload_n (pc := 163) dX0_ironOne_163 rfl ?_
            refine g_iload (pc := 164) dX0_ironOne_164 rfl ?_
            refine v_iald (pc := 166) dX0_ironOne_166 (by first | assumption | rfl) rfl (by omega) hri ?_
            refine g_aload_n (pc := 167) dX0_ironOne_167 rfl ?_
            refine g_iload (pc := 168) dX0_ironOne_168 rfl ?_
            refine g_aload_n (pc := 170) dX0_ironOne_170 rfl ?_
            refine g_iload (pc := 171) dX0_ironOne_171 rfl ?_
            refine v_iald (pc := 173) dX0_ironOne_173 (by first | assumption | rfl) rfl (by omega) hri ?_
            refine a_cv2i (pc := 174) (c_X0_crumples sb v Q ν3 hI4 (m + tk) dry (f i) i ((congrFun (l3 35 (by omega) (by omega) (by omega)) 8).trans g8') ((congrFun (l3 35 (by omega) (by omega) (by omega)) 9).trans g9') (by omega) (by omega) hfi.2 c145) m_X0_crumples ml_X0_107 (by omega) (by first | assumption | rfl) rfl rfl (Nat.le_of_ble_eq_true rfl) dX0_ironOne_174 (fun x_174 μ_174 h_174 => ?_)
            obtain ⟨rfl, ho5, hn5⟩ := h_174
            have hcr : kCrumples (v 1 i) (TV Q 2 (m + tk) (v 0 1 - (m + tk - dry)) (v 0 0) (v 2 i) (f i) i) ≤ 198 := kCrumples_le (TV_le _ _ _ _ _ _ _ _)
            refine v_iadd (pc := 177) dX0_ironOne_177 (nI_add _ _) ?_
            refine v_min (pc := 178) ml_X0_110 (by omega) (Nat.le_of_ble_eq_true rfl) dX0_ironOne_178 (nI_min (by omega) (by omega)) ?_
            have hnx : (∀ q, q < i + 1 → mset μ_174 R i (nI (min 99 (f i + kCrumples (v 1 i) (TV Q 2 (m + tk) (v 0 1 - (m + tk - dry)) (v 0 0) (v 2 i) (f i) i)))) R q = nI (isF v Q dry p f m q)) ∧ (∀ q, i + 1 ≤ q → q < v 0 3 → mset μ_174 R i (nI (min 99 (f i + kCrumples (v 1 i) (TV Q 2 (m + tk) (v 0 1 - (m + tk - dry)) (v 0 0) (v 2 i) (f i) i)))) R q = ν2 R q) ∧ (∀ c, c ≠ R → c ≠ 31 → c ≠ 32 → mset μ_174 R i (nI (min 99 (f i + kCrumples (v 1 i) (TV Q 2 (m + tk) (v 0 1 - (m + tk - dry)) (v 0 0) (v 2 i) (f i) i)))) c = ν2 c) ∧ mset μ_174 R i (nI (min 99 (f i + kCrumples (v 1 i) (TV Q 2 (m + tk) (v 0 1 - (m + tk - dry)) (v 0 0) (v 2 i) (f i) i)))) 31 2 = ν2 31 2 := by
              refine ⟨fun q hq => ?_, fun q h1 h2 => ?_, fun c h1 h2 h3 => ?_, ?_⟩
              · by_cases hqi : q = i
                · subst hqi
                  rw [mset_eq]
                  unfold isF
                  rw [if_neg hip, if_pos (by rw [← hbi]; exact hb0)]
                  unfold isCr isM
                  rw [← htk]
                · rw [mset_nj hqi, ho5 R (by omega) (by omega)]
                  exact l1 q (by omega)
              · rw [mset_nj (by omega), ho5 R (by omega) (by omega)]
                exact l2 q (by omega) h2
              · rw [mset_ne h1, ho5 c h2 h3]
                exact l3 c h1 h2 h3
              · rw [mset_ne (by omega)]
                exact hn5.trans l4
            refine a_iast (pc := 181) dX0_ironOne_181 (by first | assumption | rfl) rfl (by omega) ?_
            refine a_iinc6 (pc := 182) dX0_ironOne_182 (inc1 i) (by decide) rfl ?_
            refine g_goto (pc := 185) (tgt := 136) dX0_ironOne_185 (by decide) ?_
            exact ih (v 0 3 - (i + 1)) (by omega) (i + 1) (by omega) _ hnx rfl
    exact lp136 _ 0 (Nat.zero_le _) ν2 ⟨fun q h => absurd h (Nat.not_lt_zero _), fun _ _ _ => rfl, fun _ _ _ _ => rfl, rfl⟩ rfl
  refine g_aload_n (pc := 40) dX0_ironOne_40 rfl ?_
  refine g_aload_n (pc := 41) dX0_ironOne_41 rfl ?_
  refine v_geti (pc := 42) fl_X0_15 dX0_ironOne_42 (by first | assumption | rfl) rfl ((mset_nj (by omega)).trans (congrFun (ho0 35 (by omega)) 3)) ?_
  refine g_if_lt (pc := 45) (tgt := 68) dX0_ironOne_45 (by decide) (fun c_45 => ?_) (fun c_45 => ?_)
  · have hd0 : dry = 0 := by
      rcases hsp with ⟨-, h⟩ | ⟨s, hs7, hs, -⟩
      · exact h
      · rw [hs] at c_45
        exact absurd c_45 (nI_pos (by omega))
    subst hd0
    refine g_iconst (pc := 68) (v := (nI 0)) dX0_ironOne_68 (by decide) ?_
    exact k69 trivial
  · obtain ⟨s, hs7, hs, hd⟩ : ∃ s, s < 7 ∧ μ 35 3 = nI s ∧ ((s ≤ k ∧ μ 46 s = nI dry) ∨ (k < s ∧ dry = 0)) := by
      rcases hsp with ⟨h, -⟩ | h
      · rw [h] at c_45
        exact absurd (by decide) c_45
      · exact h
    refine g_aload_n (pc := 48) dX0_ironOne_48 rfl ?_
    refine v_geti (pc := 49) fl_X0_15 dX0_ironOne_49 (by first | assumption | rfl) rfl ((mset_nj (by omega)).trans ((congrFun (ho0 35 (by omega)) 3).trans hs)) ?_
    refine g_iload_n (pc := 52) dX0_ironOne_52 rfl ?_
    refine g_icmp_gt (pc := 53) (tgt := 68) dX0_ironOne_53 (by decide) (fun c_53 => ?_) (fun c_53 => ?_)
    · have c53 := nI_lt' (by omega) (by omega) c_53
      have hd0 : dry = 0 := by
        rcases hd with ⟨h, -⟩ | ⟨-, h⟩
        · omega
        · exact h
      subst hd0
      refine g_iconst (pc := 68) (v := (nI 0)) dX0_ironOne_68 (by decide) ?_
      exact k69 trivial
    · have c53 := nI_ge' (by omega) (by omega) c_53
      have hd1 : μ 46 s = nI dry := by
        rcases hd with ⟨-, h⟩ | ⟨h, -⟩
        · exact h
        · omega
      refine g_aload_n (pc := 56) dX0_ironOne_56 rfl ?_
      refine a_getr (pc := 57) (q := 46) fl_X0_24 dX0_ironOne_57 (by first | assumption | rfl) rfl rfl ?_
      refine g_aload_n (pc := 60) dX0_ironOne_60 rfl ?_
      refine v_geti (pc := 61) fl_X0_15 dX0_ironOne_61 (by first | assumption | rfl) rfl ((mset_nj (by omega)).trans ((congrFun (ho0 35 (by omega)) 3).trans hs)) ?_
      refine v_iald (pc := 64) dX0_ironOne_64 (by first | assumption | rfl) rfl (by omega) ((congrFun (mset_ne (by omega)) s).trans ((congrFun (ho0 46 (by omega)) s).trans hd1)) ?_
      refine g_goto (pc := 65) (tgt := 69) dX0_ironOne_65 (by decide) ?_
      exact k69 trivial
