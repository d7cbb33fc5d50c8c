/-! ===== the model: best ===== -/
/-- an order that is whole: is it better -/
def lfS (v : View) (Q : Nat → List Nat) (S : Option (Nat × Nat)) (l : List Nat) : Option (Nat × Nat) := match S with
  | none => some (CR v Q 9 l, dg l)
  | some t => if CR v Q 9 l < t.1 then some (CR v Q 9 l, dg l) else some t
/-- the orders that begin with l, d more places -/
def dfS (v : View) (Q : Nat → List Nat) (n : Nat) : Nat → List Nat → Option (Nat × Nat) → Option (Nat × Nat)
  | 0, l, S => lfS v Q S l
  | d + 1, l, S => (List.range n).foldl (fun T p => if p ∈ l then T else dfS v Q n d (l ++ [p]) T) S
def dfP (v : View) (Q : Nat → List Nat) (n d : Nat) (l : List Nat) (S : Option (Nat × Nat)) (p : Nat) : Option (Nat × Nat) := (List.range p).foldl (fun T p => if p ∈ l then T else dfS v Q n d (l ++ [p]) T) S
theorem dfP_s (v : View) (Q : Nat → List Nat) (n d : Nat) (l : List Nat) (S : Option (Nat × Nat)) (p : Nat) : dfP v Q n d l S (p + 1) = if p ∈ l then dfP v Q n d l S p else dfS v Q n d (l ++ [p]) (dfP v Q n d l S p) := by
  unfold dfP
  rw [List.range_succ, List.foldl_append]
  rfl
def BWm (μ : Mem) (S : Option (Nat × Nat)) : Prop := (S = none → μ 57 32 = nI 0) ∧ ∀ t, S = some t → μ 57 32 = nI 1 ∧ μ 57 33 = nI t.1 ∧ μ 57 34 = nI t.2 ∧ t.1 ≤ 2079
theorem BWm.moved {μ μ1 : Mem} {S : Option (Nat × Nat)} (h : BWm μ S) (h1 : ∀ j, 31 < j → j < 35 → μ1 57 j = μ 57 j) : BWm μ1 S := ⟨fun q => (h1 32 (by omega) (by omega)).trans (h.1 q), fun t ht => by
  obtain ⟨a, b, c, d⟩ := h.2 t ht
  exact ⟨(h1 32 (by omega) (by omega)).trans a, (h1 33 (by omega) (by omega)).trans b, (h1 34 (by omega) (by omega)).trans c, d⟩⟩
/-- what seeking leaves as it is -/
def KFm (L : Nat) (μ μ1 : Mem) : Prop := (∀ x, x < 8 * L → μ1 65 x = μ 65 x) ∧ (∀ k, k ≠ 57 → k ≠ 63 → k ≠ 64 → k ≠ 65 → μ1 k = μ k) ∧ ∀ j, j < 12 ∨ 34 < j → μ1 57 j = μ 57 j
theorem KFm.trans {L : Nat} {μ μ1 μ2 : Mem} (h : KFm L μ μ1) (g : KFm L μ1 μ2) : KFm L μ μ2 := ⟨fun x hx => (g.1 x hx).trans (h.1 x hx), fun k h1 h2 h3 h4 => (g.2.1 k h1 h2 h3 h4).trans (h.2.1 k h1 h2 h3 h4), fun j hj => (g.2.2 j hj).trans (h.2.2 j hj)⟩
theorem KFm.qfm {L : Nat} {μ μ1 : Mem} (h : KFm L μ μ1) : QFm μ μ1 := ⟨fun k h1 h2 h3 h4 _ => h.2.1 k h1 h2 h3 h4, fun j hj => h.2.2 j (by omega)⟩
theorem IFm.kfm {L : Nat} {μ μ1 : Mem} (h : IFm μ μ1) : KFm L μ μ1 := ⟨fun x _ => congrFun (h.1 65 (by omega) (by omega) (by omega)) x, fun k h1 h2 h3 _ => h.1 k h1 h2 h3, fun j hj => h.2 j (by omega)⟩
theorem st_9 {v : View} {Q : Nat → List Nat} {l : List Nat} {x : Nat} (h : l.length < 7) : stF v Q 9 (l ++ [x]) (l ++ [x]).length = isF v Q 0 x (stF v Q 9 l l.length) (stM v Q 9 l l.length) ∧ stM v Q 9 (l ++ [x]) (l ++ [x]).length = isM v Q 0 x (stF v Q 9 l l.length) (stM v Q 9 l l.length) := by
  have el : (l ++ [x]).length = l.length + 1 := by
    rw [List.length_append]
    rfl
  have hd : stD v Q 9 (l ++ [x]) l.length = 0 := by
    rw [stD_eq, if_neg (by omega)]
  have e0 := stS_app v Q 9 l x (Nat.le_refl l.length)
  rw [el, stF_succ, stM_succ, hd, app_last]
  unfold stF stM
  rw [e0]
  exact ⟨rfl, rfl⟩
/-- seeking, d places before the end -/
def SKd (v : View) (tc : Nat) (sz : Nat → Nat) (tb : Nat → Nat → Nat) (dep d : Nat) : Prop := ∀ (l : List Nat) (bm : Nat) (μ : Mem) (S : Option (Nat × Nat)), l.length + d = v 0 3 → LO l (v 0 3) → BMS bm l → MW μ v tc sz tb → MIr μ v (stF v (QM sz tb (v 0 2)) 9 l l.length) (stM v (QM sz tb (v 0 2)) 9 l l.length) 0 → BWm μ S → CA eV yX8_seeks cX8_seeks 6 none dep [.ref 57, .int (nI l.length), .int (nI bm), .int (nI (dg l))] μ (fun _ μ1 => BWm μ1 (dfS v (QM sz tb (v 0 2)) (v 0 3) d l S) ∧ μ1 57 30 = nI 0 ∧ KFm l.length μ μ1)
theorem c_X8_seeks (v : View) (tc : Nat) (sz : Nat → Nat) (tb : Nat → Nat → Nat) (D D1 d : Nat) (hD : 45 ≤ D ∧ D1 + 1 ≤ D) (hrec : ∀ d1, d = d1 + 1 → SKd v tc sz tb D1 d1) (l : List Nat) (bm : Nat) (μ : Mem) (S : Option (Nat × Nat)) (hld : l.length + d = v 0 3) (hl : LO l (v 0 3)) (hb : BMS bm l) (hW : MW μ v tc sz tb) (hI : MIr μ v (stF v (QM sz tb (v 0 2)) 9 l l.length) (stM v (QM sz tb (v 0 2)) 9 l l.length) 0) (hB : BWm μ S) : CA eV yX8_seeks cX8_seeks 6 none D [.ref 57, .int (nI l.length), .int (nI bm), .int (nI (dg l))] μ (fun _ μ1 => BWm μ1 (dfS v (QM sz tb (v 0 2)) (v 0 3) d l S) ∧ μ1 57 30 = nI 0 ∧ KFm l.length μ μ1) := by
  obtain ⟨hV, hTx, hru⟩ := id hW
  obtain ⟨⟨v1, v1b⟩, ⟨v2, v2b⟩, ⟨v3, v3b⟩, ⟨v4, v4b⟩, v5⟩ := id hV
  refine CT.of false (by decide) (by decide) (L := [some (.ref 57), some (.int (nI l.length)), some (.int (nI bm)), some (.int (nI (dg l))), none, none]) rfl (Nat.le_of_ble_eq_true rfl) ?_
  refine g_iload_n (pc := 0) dX8_seeks_0 rfl ?_
  refine g_aload_n (pc := 1) dX8_seeks_1 rfl ?_
  refine v_geti (pc := 2) fl_X8_73 dX8_seeks_2 (by first | rfl | assumption) rfl v4 ?_
  refine g_icmp_ne (pc := 5) (tgt := 47) dX8_seeks_5 (by decide) (fun c_5 => ?_) (fun c_5 => ?_)
  · have c5 : ¬ l.length = v 0 3 := fun h => c_5 (by rw [h])
    obtain ⟨d1, rfl⟩ : ∃ d1, d = d1 + 1 := ⟨d - 1, by omega⟩
    have hR := hrec d1 rfl
    have hl6 : l.length < 7 := by omega
    have hmb : (stM v (QM sz tb (v 0 2)) 9 l l.length) ≤ 1500 := Nat.le_trans (st_bounds (Q := (QM sz tb (v 0 2))) (sp := 9) hV.vb hl l.length (Nat.le_refl _)).2.1 (by omega)
    refine g_iconst (pc := 47) (v := (nI 0)) dX8_seeks_47 (by decide) ?_
    refine a_ist4 (pc := 48) dX8_seeks_48 (by decide) rfl ?_
    have lp50 : ∀ (zz : Nat) (i : Nat) (hi : i ≤ v 0 3) (ν : Mem) (hν : (∀ q, q < i → ν 65 (8 * l.length + q) = nI ((stF v (QM sz tb (v 0 2)) 9 l l.length) q)) ∧ (∀ x, x < 8 * l.length → ν 65 x = μ 65 x) ∧ ∀ c, c ≠ 65 → ν c = μ c), v 0 3 - i = zz → WG eV yX8_seeks.cls cX8_seeks 6 none false (fun _ _ => True) D (mpost (fun _ μ1 => BWm μ1 (dfS v (QM sz tb (v 0 2)) (v 0 3) (d1 + 1) l S) ∧ μ1 57 30 = nI 0 ∧ KFm l.length μ μ1)) 0 0 50 [some (.ref 57), some (.int (nI l.length)), some (.int (nI bm)), some (.int (nI (dg l))), some (.int (nI i)), none] [] (mk ν) := by
      intro zz
      induction zz using Nat.strongRecOn with
      | ind zz ih =>
        intro i hi ν hν hzz
        obtain ⟨a1, a2, a3⟩ := hν
        refine g_iload (pc := 50) dX8_seeks_50 rfl ?_
        refine g_aload_n (pc := 52) dX8_seeks_52 rfl ?_
        refine v_geti (pc := 53) fl_X8_73 dX8_seeks_53 (by first | rfl | assumption) rfl ((congrFun (a3 57 (by omega)) 11).trans v4) ?_
        refine g_icmp_ge (pc := 56) (tgt := 84) dX8_seeks_56 (by decide) (fun c_56 => ?_) (fun c_56 => ?_)
        · have c56 := nI_le' (by omega) (by omega) c_56
          obtain rfl : i = v 0 3 := by omega
          refine g_aload_n (pc := 84) dX8_seeks_84 rfl ?_
          refine a_getr (pc := 85) (q := 65) fl_X8_41 dX8_seeks_85 (by first | rfl | assumption) rfl rfl ?_
          refine g_bipush (pc := 88) (v := (nI 8)) dX8_seeks_88 (by decide) ?_
          refine g_iload_n (pc := 90) dX8_seeks_90 rfl ?_
          refine v_imul (pc := 91) dX8_seeks_91 (pk_mul 8 _) ?_
          refine g_bipush (pc := 92) (v := (nI 7)) dX8_seeks_92 (by decide) ?_
          refine v_iadd (pc := 94) dX8_seeks_94 (nI_add _ 7) ?_
          refine g_aload_n (pc := 95) dX8_seeks_95 rfl ?_
          refine v_geti (pc := 96) fl_X8_239 dX8_seeks_96 (by first | rfl | assumption) rfl ((congrFun (a3 57 (by omega)) 29).trans hI.2.1) ?_
          refine a_iast (pc := 99) dX8_seeks_99 (by first | rfl | assumption) rfl (by omega) ?_
          refine g_iconst (pc := 100) (v := (nI 0)) dX8_seeks_100 (by decide) ?_
          refine a_ist4 (pc := 101) dX8_seeks_101 (by decide) rfl ?_
          have lp103 : ∀ (zz : Nat) (p : Nat) (hp : p ≤ v 0 3) (κ : Mem) (hκ : MIr κ v (stF v (QM sz tb (v 0 2)) 9 l l.length) (stM v (QM sz tb (v 0 2)) 9 l l.length) 0 ∧ BWm κ (dfP v (QM sz tb (v 0 2)) (v 0 3) d1 l S p) ∧ (((∀ q, q < v 0 3 → κ 65 (8 * l.length + q) = nI ((stF v (QM sz tb (v 0 2)) 9 l l.length) q)) ∧ κ 65 (8 * l.length + 7) = nI (stM v (QM sz tb (v 0 2)) 9 l l.length)) ∧ KFm l.length μ κ)) (l5 : Option Value), v 0 3 - p = zz → WG eV yX8_seeks.cls cX8_seeks 6 none false (fun _ _ => True) D (mpost (fun _ μ1 => BWm μ1 (dfS v (QM sz tb (v 0 2)) (v 0 3) (d1 + 1) l S) ∧ μ1 57 30 = nI 0 ∧ KFm l.length μ μ1)) 0 0 103 [some (.ref 57), some (.int (nI l.length)), some (.int (nI bm)), some (.int (nI (dg l))), some (.int (nI p)), l5] [] (mk κ) := by
            intro zz
            induction zz using Nat.strongRecOn with
            | ind zz ih2 =>
              intro p hp κ hκ l5 hzz
              obtain ⟨k1, k2, ⟨k3, k4⟩, k5⟩ := hκ
              have hWκ := hW.qfm k5.qfm
              have hds := dfP_s v (QM sz tb (v 0 2)) (v 0 3) d1 l S p
              refine g_iload (pc := 103) dX8_seeks_103 rfl ?_
              refine g_aload_n (pc := 105) dX8_seeks_105 rfl ?_
              refine v_geti (pc := 106) fl_X8_73 dX8_seeks_106 (by first | rfl | assumption) rfl hWκ.1.2.2.2.1.1 ?_
              refine g_icmp_ge (pc := 109) (tgt := 208) dX8_seeks_109 (by decide) (fun c_109 => ?_) (fun c_109 => ?_)
              · have c109 := nI_le' (by omega) (by omega) c_109
                obtain rfl : p = v 0 3 := by omega
                refine g_return (pc := 208) (x := ()) dX8_seeks_208 rfl rfl ⟨_, rfl, ?_⟩
                exact ⟨k2, k1.2.2.1, k5⟩
              · have c109 := nI_gt' (by omega) (by omega) c_109
                refine g_iload_n (pc := 112) dX8_seeks_112 rfl ?_
                refine g_iload (pc := 113) dX8_seeks_113 rfl ?_
                refine v_ishr (pc := 115) dX8_seeks_115 rfl ?_
                refine g_iconst (pc := 116) (v := (nI 1)) dX8_seeks_116 (by decide) ?_
                refine v_iand (pc := 117) dX8_seeks_117 (bit_lem bm hb.1 p (by omega)) ?_
                refine g_if_ne (pc := 118) (tgt := 202) dX8_seeks_118 (by decide) (fun c_118 => ?_) (fun c_118 => ?_)
                · have c118 : p ∈ l := by
                    by_cases h : p ∈ l
                    · exact h
                    · exact absurd (show nI (bitAt bm p) = 0 by rw [(mem_bit hb (by omega)).mpr h]; rfl) c_118
                  rw [if_pos c118] at hds
                  have hnx : MIr κ v (stF v (QM sz tb (v 0 2)) 9 l l.length) (stM v (QM sz tb (v 0 2)) 9 l l.length) 0 ∧ BWm κ (dfP v (QM sz tb (v 0 2)) (v 0 3) d1 l S (p + 1)) ∧ (((∀ q, q < v 0 3 → κ 65 (8 * l.length + q) = nI ((stF v (QM sz tb (v 0 2)) 9 l l.length) q)) ∧ κ 65 (8 * l.length + 7) = nI (stM v (QM sz tb (v 0 2)) 9 l l.length)) ∧ KFm l.length μ κ) := by
                    rw [hds]
                    exact ⟨k1, k2, ⟨k3, k4⟩, k5⟩
                  refine a_iinc4 (pc := 202) dX8_seeks_202 (inc1 p) (by decide) rfl ?_
                  refine g_goto (pc := 205) (tgt := 103) dX8_seeks_205 (by decide) ?_
                  exact ih2 (v 0 3 - (p + 1)) (by omega) (p + 1) (by omega) _ hnx _ rfl
                · have c118 : p ∉ l := (mem_bit hb (by omega)).mp (nI_eq' (b := 0) (by have := bit_le bm p; omega) (by omega) c_118)
                  rw [if_neg c118] at hds
                  obtain ⟨e1, e2⟩ := st_9 (v := v) (Q := (QM sz tb (v 0 2))) (x := p) hl6
                  refine g_aload_n (pc := 121) dX8_seeks_121 rfl ?_
                  refine g_iload (pc := 122) dX8_seeks_122 rfl ?_
                  refine a_cv1v (pc := 124) (c_X8_irons v tc sz tb _ _ _ κ hWκ k1 hmb p c109) m_X8_irons ml_X8_252 (by omega) (by first | rfl | assumption) rfl rfl (Nat.le_of_ble_eq_true rfl) dX8_seeks_124 (fun x_124 μ_124 h_124 => ?_)
                  obtain ⟨g1, -, g2⟩ := h_124
                  rw [← e1, ← e2] at g1
                  have hW2 := hWκ.ifm g2
                  refine g_aload_n (pc := 127) dX8_seeks_127 rfl ?_
                  refine g_iload_n (pc := 128) dX8_seeks_128 rfl ?_
                  refine g_iconst (pc := 129) (v := (nI 1)) dX8_seeks_129 (by decide) ?_
                  refine v_iadd (pc := 130) dX8_seeks_130 (show nI l.length + nI 1 = nI (l ++ [p]).length by rw [List.length_append]; exact (nI_succ _).symm) ?_
                  refine g_iload_n (pc := 131) dX8_seeks_131 rfl ?_
                  refine g_iconst (pc := 132) (v := (nI 1)) dX8_seeks_132 (by decide) ?_
                  refine g_iload (pc := 133) dX8_seeks_133 rfl ?_
                  refine v_ishl (pc := 135) dX8_seeks_135 rfl ?_
                  refine v_ior (pc := 136) dX8_seeks_136 (ob_lem bm hb.1 p (by omega) (hb.new (by omega) c118)).1 ?_
                  refine g_bipush (pc := 137) (v := (nI 10)) dX8_seeks_137 (by decide) ?_
                  refine g_iload_n (pc := 139) dX8_seeks_139 rfl ?_
                  refine v_imul (pc := 140) dX8_seeks_140 (pk_mul 10 _) ?_
                  refine g_iload (pc := 141) dX8_seeks_141 rfl ?_
                  refine v_iadd (pc := 143) dX8_seeks_143 (nI_add _ p) ?_
                  refine g_iconst (pc := 144) (v := (nI 1)) dX8_seeks_144 (by decide) ?_
                  refine v_iadd (pc := 145) dX8_seeks_145 (show nI (10 * dg l + p) + nI 1 = nI (dg (l ++ [p])) by rw [dg_snoc, Nat.mul_comm]; exact nI_add _ 1) ?_
                  refine a_cv3v (pc := 146) (hR (l ++ [p]) (bm ||| 2 ^ p) μ_124 (dfP v (QM sz tb (v 0 2)) (v 0 3) d1 l S p) (by rw [List.length_append]; show l.length + 1 + d1 = _; omega) (hl.snoc c109) (hb.go (by omega) (hb.new (by omega) c118)).1 hW2 g1 (k2.moved (fun j h1 h2 => g2.2 j (by omega)))) m_X8_seeks ml_X8_285 (by omega) (by first | rfl | assumption) rfl rfl (Nat.le_of_ble_eq_true rfl) dX8_seeks_146 (fun x_146 μ_146 h_146 => ?_)
                  obtain ⟨s1, s2, s3⟩ := h_146
                  rw [← hds] at s1
                  have el : (l ++ [p]).length = l.length + 1 := by
                    rw [List.length_append]
                    rfl
                  rw [el] at s3
                  have r3 : ∀ q, q < v 0 3 → μ_146 65 (8 * l.length + q) = nI ((stF v (QM sz tb (v 0 2)) 9 l l.length) q) := fun q hq => (s3.1 _ (by omega)).trans ((congrFun (g2.1 65 (by omega) (by omega) (by omega)) _).trans (k3 q hq))
                  have r4 : μ_146 65 (8 * l.length + 7) = nI (stM v (QM sz tb (v 0 2)) 9 l l.length) := (s3.1 _ (by omega)).trans ((congrFun (g2.1 65 (by omega) (by omega) (by omega)) _).trans k4)
                  have r5 : KFm l.length κ μ_146 := ⟨fun x hx => (s3.1 x (by omega)).trans (congrFun (g2.1 65 (by omega) (by omega) (by omega)) x), fun k h1 h2 h3 h4 => (s3.2.1 k h1 h2 h3 h4).trans (g2.1 k h1 h2 h3), fun j hj => (s3.2.2 j hj).trans (g2.2 j (by omega))⟩
                  have hW3 := hWκ.qfm r5.qfm
                  refine g_iconst (pc := 149) (v := (nI 0)) dX8_seeks_149 (by decide) ?_
                  refine a_ist5 (pc := 150) dX8_seeks_150 (by decide) rfl ?_
                  have lp152 : ∀ (zz : Nat) (i : Nat) (hi : i ≤ v 0 3) (ξ : Mem) (hξ : (∀ q, q < i → ξ 63 q = nI ((stF v (QM sz tb (v 0 2)) 9 l l.length) q)) ∧ ∀ c, c ≠ 63 → ξ c = μ_146 c), v 0 3 - i = zz → WG eV yX8_seeks.cls cX8_seeks 6 none false (fun _ _ => True) D (mpost (fun _ μ1 => BWm μ1 (dfS v (QM sz tb (v 0 2)) (v 0 3) (d1 + 1) l S) ∧ μ1 57 30 = nI 0 ∧ KFm l.length μ μ1)) 0 0 152 [some (.ref 57), some (.int (nI l.length)), some (.int (nI bm)), some (.int (nI (dg l))), some (.int (nI p)), some (.int (nI i))] [] (mk ξ) := by
                    intro zz
                    induction zz using Nat.strongRecOn with
                    | ind zz ih3 =>
                      intro i hi ξ hξ hzz
                      obtain ⟨x1, x2⟩ := hξ
                      refine g_iload (pc := 152) dX8_seeks_152 rfl ?_
                      refine g_aload_n (pc := 154) dX8_seeks_154 rfl ?_
                      refine v_geti (pc := 155) fl_X8_73 dX8_seeks_155 (by first | rfl | assumption) rfl ((congrFun (x2 57 (by omega)) 11).trans hW3.1.2.2.2.1.1) ?_
                      refine g_icmp_ge (pc := 158) (tgt := 186) dX8_seeks_158 (by decide) (fun c_158 => ?_) (fun c_158 => ?_)
                      · have c158 := nI_le' (by omega) (by omega) c_158
                        obtain rfl : i = v 0 3 := by omega
                        refine g_aload_n (pc := 186) dX8_seeks_186 rfl ?_
                        refine g_aload_n (pc := 187) dX8_seeks_187 rfl ?_
                        refine a_getr (pc := 188) (q := 65) fl_X8_41 dX8_seeks_188 (by first | rfl | assumption) rfl rfl ?_
                        refine g_bipush (pc := 191) (v := (nI 8)) dX8_seeks_191 (by decide) ?_
                        refine g_iload_n (pc := 193) dX8_seeks_193 rfl ?_
                        refine v_imul (pc := 194) dX8_seeks_194 (pk_mul 8 _) ?_
                        refine g_bipush (pc := 195) (v := (nI 7)) dX8_seeks_195 (by decide) ?_
                        refine v_iadd (pc := 197) dX8_seeks_197 (nI_add _ 7) ?_
                        refine v_iald (pc := 198) dX8_seeks_198 (by first | rfl | assumption) rfl (by omega) ((congrFun (x2 65 (by omega)) _).trans r4) ?_
                        refine a_puti (pc := 199) fw_X8_239 dX8_seeks_199 (by first | rfl | assumption) rfl ?_
                        refine a_iinc4 (pc := 202) dX8_seeks_202 (inc1 p) (by decide) rfl ?_
                        refine g_goto (pc := 205) (tgt := 103) dX8_seeks_205 (by decide) ?_
                        have hnx : MIr (mset ξ 57 29 (nI (stM v (QM sz tb (v 0 2)) 9 l l.length))) v (stF v (QM sz tb (v 0 2)) 9 l l.length) (stM v (QM sz tb (v 0 2)) 9 l l.length) 0 ∧ BWm (mset ξ 57 29 (nI (stM v (QM sz tb (v 0 2)) 9 l l.length))) (dfP v (QM sz tb (v 0 2)) (v 0 3) d1 l S (p + 1)) ∧ (((∀ q, q < v 0 3 → mset ξ 57 29 (nI (stM v (QM sz tb (v 0 2)) 9 l l.length)) 65 (8 * l.length + q) = nI ((stF v (QM sz tb (v 0 2)) 9 l l.length) q)) ∧ mset ξ 57 29 (nI (stM v (QM sz tb (v 0 2)) 9 l l.length)) 65 (8 * l.length + 7) = nI (stM v (QM sz tb (v 0 2)) 9 l l.length)) ∧ KFm l.length μ (mset ξ 57 29 (nI (stM v (QM sz tb (v 0 2)) 9 l l.length)))) := by
                          refine ⟨⟨fun q hq => ⟨by rw [mset_ne (by omega)]; exact x1 q hq, (hI.1 q hq).2⟩, mset_eq, (mset_nj (by omega)).trans ((congrFun (x2 57 (by omega)) 30).trans s2), Nat.zero_le _, hI.2.2.2.2⟩, s1.moved (fun j h1 h2 => (mset_nj (by omega)).trans (congrFun (x2 57 (by omega)) j)), ⟨fun q hq => ?_, ?_⟩, k5.trans (r5.trans ⟨fun x hx => ?_, fun k h1 h2 h3 h4 => (mset_ne h1).trans (x2 k h2), fun j hj => (mset_nj (by omega)).trans (congrFun (x2 57 (by omega)) j)⟩)⟩
                          · rw [mset_ne (by omega), x2 65 (by omega)]
                            exact r3 q hq
                          · rw [mset_ne (by omega), x2 65 (by omega)]
                            exact r4
                          · rw [mset_ne (by omega), x2 65 (by omega)]
                        exact ih2 (v 0 3 - (p + 1)) (by omega) (p + 1) (by omega) _ hnx _ rfl
                      · have c158 := nI_gt' (by omega) (by omega) c_158
                        refine g_aload_n (pc := 161) dX8_seeks_161 rfl ?_
                        refine a_getr (pc := 162) (q := 63) fl_X8_35 dX8_seeks_162 (by first | rfl | assumption) rfl rfl ?_
                        refine g_iload (pc := 165) dX8_seeks_165 rfl ?_
                        refine g_aload_n (pc := 167) dX8_seeks_167 rfl ?_
                        refine a_getr (pc := 168) (q := 65) fl_X8_41 dX8_seeks_168 (by first | rfl | assumption) rfl rfl ?_
                        refine g_bipush (pc := 171) (v := (nI 8)) dX8_seeks_171 (by decide) ?_
                        refine g_iload_n (pc := 173) dX8_seeks_173 rfl ?_
                        refine v_imul (pc := 174) dX8_seeks_174 (pk_mul 8 _) ?_
                        refine g_iload (pc := 175) dX8_seeks_175 rfl ?_
                        refine v_iadd (pc := 177) dX8_seeks_177 (nI_add _ i) ?_
                        refine v_iald (pc := 178) dX8_seeks_178 (by first | rfl | assumption) rfl (by omega) ((congrFun (x2 65 (by omega)) _).trans (r3 i c158)) ?_
                        refine a_iast (pc := 179) dX8_seeks_179 (by first | rfl | assumption) rfl (by omega) ?_
                        refine a_iinc5 (pc := 180) dX8_seeks_180 (inc1 i) (by decide) rfl ?_
                        refine g_goto (pc := 183) (tgt := 152) dX8_seeks_183 (by decide) ?_
                        refine ih3 (v 0 3 - (i + 1)) (by omega) (i + 1) (by omega) _ ⟨fun q hq => ?_, fun c hc => (mset_ne hc).trans (x2 c hc)⟩ rfl
                        by_cases hqi : q = i
                        · subst hqi
                          exact mset_eq
                        · rw [mset_nj (by omega)]
                          exact x1 q (by omega)
                  exact lp152 _ 0 (Nat.zero_le _) μ_146 ⟨fun q hq => absurd hq (Nat.not_lt_zero q), fun _ _ => rfl⟩ rfl
          exact lp103 _ 0 (Nat.zero_le _) _ ⟨hI.moved (by rw [mset_ne (by omega)]; exact a3 63 (by omega)) (by rw [mset_ne (by omega)]; exact congrFun (a3 57 (by omega)) 29) (by rw [mset_ne (by omega)]; exact congrFun (a3 57 (by omega)) 30), hB.moved (fun j _ _ => by rw [mset_ne (by omega)]; exact congrFun (a3 57 (by omega)) j), ⟨fun q hq => by rw [mset_nj (by omega)]; exact a1 q hq, mset_eq⟩, fun x hx => by rw [mset_nj (by omega)]; exact a2 x hx, fun k _ _ _ h4 => by rw [mset_ne h4]; exact a3 k h4, fun j _ => by rw [mset_ne (by omega)]; exact congrFun (a3 57 (by omega)) j⟩ _ rfl
        · have c56 := nI_gt' (by omega) (by omega) c_56
          refine g_aload_n (pc := 59) dX8_seeks_59 rfl ?_
          refine a_getr (pc := 60) (q := 65) fl_X8_41 dX8_seeks_60 (by first | rfl | assumption) rfl rfl ?_
          refine g_bipush (pc := 63) (v := (nI 8)) dX8_seeks_63 (by decide) ?_
          refine g_iload_n (pc := 65) dX8_seeks_65 rfl ?_
          refine v_imul (pc := 66) dX8_seeks_66 (pk_mul 8 _) ?_
          refine g_iload (pc := 67) dX8_seeks_67 rfl ?_
          refine v_iadd (pc := 69) dX8_seeks_69 (nI_add _ i) ?_
          refine g_aload_n (pc := 70) dX8_seeks_70 rfl ?_
          refine a_getr (pc := 71) (q := 63) fl_X8_35 dX8_seeks_71 (by first | rfl | assumption) rfl rfl ?_
          refine g_iload (pc := 74) dX8_seeks_74 rfl ?_
          refine v_iald (pc := 76) dX8_seeks_76 (by first | rfl | assumption) rfl (by omega) ((congrFun (a3 63 (by omega)) i).trans (hI.1 i c56).1) ?_
          refine a_iast (pc := 77) dX8_seeks_77 (by first | rfl | assumption) rfl (by omega) ?_
          refine a_iinc4 (pc := 78) dX8_seeks_78 (inc1 i) (by decide) rfl ?_
          refine g_goto (pc := 81) (tgt := 50) dX8_seeks_81 (by decide) ?_
          refine ih (v 0 3 - (i + 1)) (by omega) (i + 1) (by omega) _ ⟨fun q hq => ?_, fun x hx => (mset_nj (by omega)).trans (a2 x hx), fun c hc => (mset_ne hc).trans (a3 c hc)⟩ rfl
          by_cases hqi : q = i
          · subst hqi
            exact mset_eq
          · rw [mset_nj (by omega)]
            exact a1 q (by omega)
    exact lp50 _ 0 (Nat.zero_le _) μ ⟨fun q hq => absurd hq (Nat.not_lt_zero q), fun _ _ => rfl, fun _ _ => rfl⟩ rfl
  · have c5 : l.length = v 0 3 := nI_eq' (by omega) (by omega) c_5
    obtain rfl : d = 0 := by omega
    have hcr : CR v (QM sz tb (v 0 2)) 9 l ≤ 2079 := CR_le hV.vb hl
    have k30 : ∀ (hS : lfS v (QM sz tb (v 0 2)) S l = some (CR v (QM sz tb (v 0 2)) 9 l, dg l)), WG eV yX8_seeks.cls cX8_seeks 6 none false (fun _ _ => True) D (mpost (fun _ μ1 => BWm μ1 (dfS v (QM sz tb (v 0 2)) (v 0 3) 0 l S) ∧ μ1 57 30 = nI 0 ∧ KFm l.length μ μ1)) 0 0 30 [some (.ref 57), some (.int (nI l.length)), some (.int (nI bm)), some (.int (nI (dg l))), some (.int (nI (CR v (QM sz tb (v 0 2)) 9 l))), none] [] (mk μ) := by
      intro hS
      refine g_aload_n (pc := 30) dX8_seeks_30 rfl ?_
      refine g_iconst (pc := 31) (v := (nI 1)) dX8_seeks_31 (by decide) ?_
      refine a_putz (pc := 32) fw_X8_276 dX8_seeks_32 (by first | rfl | assumption) rfl (by decide) ?_
      refine g_aload_n (pc := 35) dX8_seeks_35 rfl ?_
      refine g_iload (pc := 36) dX8_seeks_36 rfl ?_
      refine a_puti (pc := 38) fw_X8_279 dX8_seeks_38 (by first | rfl | assumption) rfl ?_
      refine g_aload_n (pc := 41) dX8_seeks_41 rfl ?_
      refine g_iload_n (pc := 42) dX8_seeks_42 rfl ?_
      refine a_puti (pc := 43) fw_X8_282 dX8_seeks_43 (by first | rfl | assumption) rfl ?_
      refine g_return (pc := 46) (x := ()) dX8_seeks_46 rfl rfl ⟨_, rfl, ?_⟩
      refine ⟨⟨fun q => ?_, fun t ht => ?_⟩, ?_, fun x _ => by rw [mset_ne (by omega), mset_ne (by omega), mset_ne (by omega)], fun k h1 _ _ _ => by rw [mset_ne h1, mset_ne h1, mset_ne h1], fun j hj => by rw [mset_nj (by omega), mset_nj (by omega), mset_nj (by omega)]⟩
      · rw [show dfS v (QM sz tb (v 0 2)) (v 0 3) 0 l S = lfS v (QM sz tb (v 0 2)) S l from rfl, hS] at q
        exact absurd q (by simp)
      · rw [show dfS v (QM sz tb (v 0 2)) (v 0 3) 0 l S = lfS v (QM sz tb (v 0 2)) S l from rfl, hS] at ht
        have ht := Option.some.inj ht
        subst ht
        exact ⟨by rw [mset_nj (by omega), mset_nj (by omega), mset_eq], by rw [mset_nj (by omega), mset_eq], mset_eq, hcr⟩
      · rw [mset_nj (by omega), mset_nj (by omega), mset_nj (by omega)]
        exact hI.2.2.1
    refine g_aload_n (pc := 8) dX8_seeks_8 rfl ?_
    refine a_cv0i (pc := 9) (c_X8_creased v _ μ hV hI.1) m_X8_creased ml_X8_256 (by omega) (by first | rfl | assumption) rfl rfl (Nat.le_of_ble_eq_true rfl) dX8_seeks_9 (fun x_9 μ_9 h_9 => ?_)
    obtain ⟨rfl, hm_9⟩ := h_9
    have hm_9 := hm_9.symm
    subst hm_9
    rw [show csum v (stF v (QM sz tb (v 0 2)) 9 l l.length) (v 0 3) = CR v (QM sz tb (v 0 2)) 9 l from rfl]
    refine a_ist4 (pc := 12) dX8_seeks_12 (by decide) rfl ?_
    refine g_aload_n (pc := 14) dX8_seeks_14 rfl ?_
    refine v_getz (pc := 15) fl_X8_276 dX8_seeks_15 (by first | rfl | assumption) rfl rfl ?_
    refine g_if_eq (pc := 18) (tgt := 30) dX8_seeks_18 (by decide) (fun c_18 => ?_) (fun c_18 => ?_)
    · have hSn : S = none := by
        cases hc : S with
        | none => rfl
        | some t =>
          rw [(hB.2 t hc).1] at c_18
          exact absurd c_18 (by decide)
      exact k30 (by rw [hSn]; rfl)
    · obtain ⟨t, hSt⟩ : ∃ t, S = some t := by
        cases hc : S with
        | none => exact absurd (hB.1 hc) c_18
        | some t => exact ⟨t, rfl⟩
      obtain ⟨t1, t2, t3, t4⟩ := hB.2 t hSt
      refine g_iload (pc := 21) dX8_seeks_21 rfl ?_
      refine g_aload_n (pc := 23) dX8_seeks_23 rfl ?_
      refine v_geti (pc := 24) fl_X8_279 dX8_seeks_24 (by first | rfl | assumption) rfl t2 ?_
      refine g_icmp_ge (pc := 27) (tgt := 46) dX8_seeks_27 (by decide) (fun c_27 => ?_) (fun c_27 => ?_)
      · have c27 := nI_le' (by omega) (by omega) c_27
        have hS : lfS v (QM sz tb (v 0 2)) S l = S := by
          rw [hSt]
          exact if_neg (by omega)
        refine g_return (pc := 46) (x := ()) dX8_seeks_46 rfl rfl ⟨_, rfl, ?_⟩
        exact ⟨by rw [show dfS v (QM sz tb (v 0 2)) (v 0 3) 0 l S = lfS v (QM sz tb (v 0 2)) S l from rfl, hS]; exact hB, hI.2.2.1, fun _ _ => rfl, fun _ _ _ _ _ => rfl, fun _ _ => rfl⟩
      · have c27 := nI_gt' (by omega) (by omega) c_27
        exact k30 (by rw [hSt]; exact if_pos c27)
theorem sk_all (v : View) (tc : Nat) (sz : Nat → Nat) (tb : Nat → Nat → Nat) : ∀ d, SKd v tc sz tb (45 + d) d
  | 0 => fun l bm μ S h1 h2 h3 h4 h5 h6 => c_X8_seeks v tc sz tb 45 0 0 (by omega) (fun d1 h => absurd h (by omega)) l bm μ S h1 h2 h3 h4 h5 h6
  | d + 1 => fun l bm μ S h1 h2 h3 h4 h5 h6 => c_X8_seeks v tc sz tb (45 + (d + 1)) (45 + d) (d + 1) (by omega) (fun d1 h => by
    have h := Nat.succ.inj h
    subst h
    exact sk_all v tc sz tb d) l bm μ S h1 h2 h3 h4 h5 h6
theorem c_X8_best (v : View) (tc : Nat) (sz : Nat → Nat) (tb : Nat → Nat → Nat) (μ : Mem) (hW : MW μ v tc sz tb) (w : Int32) : CA eI yX8_best cX8_best 2 (some .int) 53 [.ref 57, .int w] μ (fun r μ1 => (∀ t, dfS v (QM sz tb (v 0 2)) (v 0 3) (v 0 3) [] none = some t → r = twoV w (nI t.1) (nI t.2)) ∧ QFm μ μ1) := by
  obtain ⟨hV, hTx, hru⟩ := id hW
  obtain ⟨⟨v1, v1b⟩, ⟨v2, v2b⟩, ⟨v3, v3b⟩, ⟨v4, v4b⟩, v5⟩ := id hV
  refine CT.of false (by decide) (by decide) (L := [some (.ref 57), some (.int w)]) rfl (Nat.le_of_ble_eq_true rfl) ?_
  refine g_iload_n (pc := 0) dX8_best_0 rfl ?_
  refine g_i2l (pc := 1) dX8_best_1 rfl ?_
  refine g_lconst (pc := 2) (v := 0) dX8_best_2 (by decide) ?_
  refine g_lconst (pc := 3) (v := 1) dX8_best_3 (by decide) ?_
  refine a_cs3i (pc := 4) (c_X8_in w.toInt64 0 1 μ) m_X8_in ml_X8_76 (by omega) (Nat.le_of_ble_eq_true rfl) dX8_best_4 (fun x_4 μ_4 h_4 => ?_)
  obtain ⟨hm_4, hd_4⟩ := h_4
  have hm_4 := hm_4.symm
  subst hm_4
  rw [in_c (x := w) (y := 0) (z := 1) 0 1 rfl rfl (by decide) (by decide)] at hd_4
  refine g_if_ne (pc := 7) (tgt := 13) dX8_best_7 (by decide) (fun c_7 => ?_) (fun c_7 => ?_)
  · have c7 := (hd_4.resolve_right (fun q => c_7 q.1)).2
    have c7 := c7.2
    refine g_aload_n (pc := 13) dX8_best_13 rfl ?_
    refine a_cv0v (pc := 14) (c_X8_begins v μ hV) m_X8_begins ml_X8_108 (by omega) (by first | rfl | assumption) rfl rfl (Nat.le_of_ble_eq_true rfl) dX8_best_14 (fun x_14 μ_14 h_14 => ?_)
    obtain ⟨b1, b2, b3⟩ := h_14
    have hW2 := hW.ifm b3
    refine g_aload_n (pc := 17) dX8_best_17 rfl ?_
    refine g_iconst (pc := 18) (v := (nI 0)) dX8_best_18 (by decide) ?_
    refine a_putz (pc := 19) fw_X8_276 dX8_best_19 (by first | rfl | assumption) rfl (by decide) ?_
    refine g_aload_n (pc := 22) dX8_best_22 rfl ?_
    refine g_iconst (pc := 23) (v := (nI 0)) dX8_best_23 (by decide) ?_
    refine g_iconst (pc := 24) (v := (nI 0)) dX8_best_24 (by decide) ?_
    refine g_iconst (pc := 25) (v := (nI 0)) dX8_best_25 (by decide) ?_
    refine a_cv3v (pc := 26) (sk_all v tc sz tb (v 0 3) [] 0 _ none (Nat.zero_add _) (fun j x hx => by simp at hx) BMS.nil (hW2.moved (fun j hj => mset_nj (by omega)) (fun k h1 h2 => mset_ne (by omega))) (b1.moved (mset_ne (by omega)) (mset_nj (by omega)) (mset_nj (by omega))) ⟨fun _ => mset_eq, fun t ht => absurd ht (by simp)⟩) m_X8_seeks ml_X8_285 (show 45 + v 0 3 + 1 ≤ 53 by omega) (by first | rfl | assumption) rfl rfl (Nat.le_of_ble_eq_true rfl) dX8_best_26 (fun x_26 μ_26 h_26 => ?_)
    obtain ⟨s1, -, s3⟩ := h_26
    have f9 : QFm μ μ_26 := (b3.qfm.trans ⟨fun k h1 _ _ _ _ => mset_ne h1, fun j hj => mset_nj (by omega)⟩).trans s3.qfm
    refine g_iload_n (pc := 29) dX8_best_29 rfl ?_
    refine g_if_ne (pc := 30) (tgt := 40) dX8_best_30 (by decide) (fun c_30 => ?_) (fun c_30 => ?_)
    · refine g_aload_n (pc := 40) dX8_best_40 rfl ?_
      refine v_geti (pc := 41) fl_X8_282 dX8_best_41 (by first | rfl | assumption) rfl rfl ?_
      refine g_ireturn (pc := 44) dX8_best_44 rfl (by first | rfl | decide) rfl ⟨_, rfl, ?_⟩
      first | exact ⟨fun t ht => (s1.2 t ht).2.1.trans (two_0 c7 c_30), f9⟩ | exact ⟨fun t ht => (s1.2 t ht).2.2.1.trans (two_1 c7 c_30), f9⟩
    · refine g_aload_n (pc := 33) dX8_best_33 rfl ?_
      refine v_geti (pc := 34) fl_X8_279 dX8_best_34 (by first | rfl | assumption) rfl rfl ?_
      refine g_goto (pc := 37) (tgt := 44) dX8_best_37 (by decide) ?_
      refine g_ireturn (pc := 44) dX8_best_44 rfl (by first | rfl | decide) rfl ⟨_, rfl, ?_⟩
      first | exact ⟨fun t ht => (s1.2 t ht).2.1.trans (two_0 c7 c_30), f9⟩ | exact ⟨fun t ht => (s1.2 t ht).2.2.1.trans (two_1 c7 c_30), f9⟩
  · have c7 := (hd_4.resolve_left (fun q => absurd (q.1.symm.trans c_7) (by decide))).2
    refine g_bipush (pc := 10) (v := (-2)) dX8_best_10 (by decide) ?_
    refine g_ireturn (pc := 12) dX8_best_12 rfl (by first | rfl | decide) rfl ⟨_, rfl, ?_⟩
    exact ⟨fun t _ => two_no c7, QFm.refl μ⟩
