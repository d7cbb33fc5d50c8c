/-! ===== the model: worst, change, leave, spray ===== -/
def WFm (μ μ1 : Mem) : Prop := (∀ k, k ≠ 57 → k ≠ 63 → k ≠ 64 → μ1 k = μ k) ∧ ∀ j, j < 12 ∨ 37 < j → μ1 57 j = μ 57 j
theorem WFm.trans {μ μ1 μ2 : Mem} (h : WFm μ μ1) (g : WFm μ1 μ2) : WFm μ μ2 := ⟨fun k h1 h2 h3 => (g.1 k h1 h2 h3).trans (h.1 k h1 h2 h3), fun j hj => (g.2 j hj).trans (h.2 j hj)⟩
theorem IFm.wfm {μ μ1 : Mem} (h : IFm μ μ1) : WFm μ μ1 := ⟨h.1, fun j hj => h.2 j (by omega)⟩
theorem WFm.qfm {μ μ1 : Mem} (h : WFm μ μ1) : QFm μ μ1 := ⟨fun k h1 h2 h3 _ _ => h.1 k h1 h2 h3, h.2⟩
/-- of those below p that are not in l: the first of the heaviest (9: there is none) -/
def bsP (v : View) (l : List Nat) : Nat → Nat
  | 0 => 9
  | p + 1 => if p ∉ l ∧ (bsP v l p = 9 ∨ wtV v (bsP v l p) < wtV v p) then p else bsP v l p
/-- the heaviest first, so many -/
def wsL (v : View) : Nat → List Nat
  | 0 => []
  | k + 1 => wsL v k ++ [bsP v (wsL v k) (v 0 3)]
theorem bsP_in (v : View) (l : List Nat) : ∀ p, p ≤ 7 → bsP v l p = 9 ∨ (bsP v l p < p ∧ bsP v l p ∉ l)
  | 0, _ => Or.inl rfl
  | p + 1, hp => by
    have ih := bsP_in v l p (by omega)
    rw [bsP]
    split
    · next h => exact Or.inr ⟨by omega, h.1⟩
    · rcases ih with h | h
      · exact Or.inl h
      · exact Or.inr ⟨by omega, h.2⟩
theorem bsP_9 {v : View} {l : List Nat} : ∀ p, p ≤ 7 → bsP v l p = 9 → ∀ q, q < p → q ∈ l
  | 0, _, _, q, hq => by omega
  | p + 1, hp, h, q, hq => by
    rw [bsP] at h
    split at h
    · omega
    · next hc =>
      have ih := bsP_9 p (by omega) h
      rcases Nat.lt_or_ge q p with h1 | h1
      · exact ih q h1
      · obtain rfl : q = p := by omega
        by_cases hq2 : q ∈ l
        · exact hq2
        · exact absurd ⟨hq2, Or.inl h⟩ hc
theorem full_lem : ∀ b, b < 128 → ∀ n, n < 8 → (∀ q, q < n → bitAt b q = 1) → n ≤ popc b := by decide +kernel
theorem wsL_len (v : View) : ∀ k, (wsL v k).length = k
  | 0 => rfl
  | k + 1 => by
    rw [wsL, List.length_append, wsL_len v k]
    rfl
theorem bsP_ok {v : View} {l : List Nat} {n bm : Nat} (hn : n ≤ 7) (hb : BMS bm l) (hl : l.length < n) : bsP v l n < n ∧ bsP v l n ∉ l := by
  rcases bsP_in v l n hn with h | h
  · exfalso
    have h1 := bsP_9 n hn h
    have h2 := full_lem bm hb.1 n (by omega) (fun q hq => (hb.2.2 q (by omega)).trans (if_pos (h1 q hq)))
    have := hb.2.1
    omega
  · exact h
theorem wsL_bms {v : View} (hn : v 0 3 ≤ 7) : ∀ k, k ≤ v 0 3 → ∃ bm, BMS bm (wsL v k)
  | 0, _ => ⟨0, BMS.nil⟩
  | k + 1, hk => by
    obtain ⟨bm, hb⟩ := wsL_bms hn k (by omega)
    obtain ⟨h1, h2⟩ := bsP_ok (v := v) hn hb (by rw [wsL_len]; omega)
    exact ⟨_, (hb.go (by omega) (hb.new (by omega) h2)).1⟩
theorem wsL_lo {v : View} (hn : v 0 3 ≤ 7) : ∀ k, k ≤ v 0 3 → LO (wsL v k) (v 0 3)
  | 0, _ => fun j x hx => by simp [wsL] at hx
  | k + 1, hk => by
    obtain ⟨bm, hb⟩ := wsL_bms hn k (by omega)
    exact (wsL_lo hn k (by omega)).snoc (bsP_ok hn hb (by rw [wsL_len]; omega)).1
theorem dg_snoc (l : List Nat) (x : Nat) : dg (l ++ [x]) = dg l * 10 + x + 1 := by
  unfold dg
  rw [List.foldl_append]
  rfl
theorem mem_bit {bm : Nat} {l : List Nat} {p : Nat} (hb : BMS bm l) (hp : p < 7) : bitAt bm p = 0 ↔ p ∉ l := by
  rw [hb.2.2 p hp]
  by_cases h : p ∈ l
  · rw [if_pos h]
    exact ⟨fun q => absurd q (by decide), fun q => absurd h q⟩
  · rw [if_neg h]
    exact ⟨fun _ => h, fun _ => rfl⟩
/-- none, or a part -/
def fdV (k : Nat) : Int32 := if k = 9 then -1 else nI k
theorem fdV_9 : fdV 9 = -1 := rfl
theorem fdV_n {k : Nat} (h : ¬ k = 9) : fdV k = nI k := if_neg h
theorem c_X8_worstFirst (v : View) (tc : Nat) (sz : Nat → Nat) (tb : Nat → Nat → Nat) (μ : Mem) (hW : MW μ v tc sz tb) : CA eI yX8_worstFirst cX8_worstFirst 5 (some .int) 45 [.ref 57] μ (fun r μ1 => MO μ1 v (QM sz tb (v 0 2)) 9 (wsL v (v 0 3)) ∧ r = nI (CR v (QM sz tb (v 0 2)) 9 (wsL v (v 0 3))) ∧ μ1 57 35 = nI (dg (wsL v (v 0 3))) ∧ WFm μ μ1) := by
  obtain ⟨hV, hTx, hru⟩ := id hW
  obtain ⟨⟨v1, v1b⟩, ⟨v2, v2b⟩, ⟨v3, v3b⟩, ⟨v4, v4b⟩, v5⟩ := id hV
  refine CT.of false (by decide) (by decide) (L := [some (.ref 57), none, none, none, none]) rfl (Nat.le_of_ble_eq_true rfl) ?_
  refine g_aload_n (pc := 0) dX8_worstFirst_0 rfl ?_
  refine a_cv0v (pc := 1) (c_X8_begins v μ hV) m_X8_begins ml_X8_108 (by omega) (by first | rfl | assumption) rfl rfl (Nat.le_of_ble_eq_true rfl) dX8_worstFirst_1 (fun x_1 μ_1 h_1 => ?_)
  obtain ⟨b1, b2, b3⟩ := h_1
  refine g_aload_n (pc := 4) dX8_worstFirst_4 rfl ?_
  refine g_iconst (pc := 5) (v := (nI 0)) dX8_worstFirst_5 (by decide) ?_
  refine a_puti (pc := 6) fw_X8_288 dX8_worstFirst_6 (by first | rfl | assumption) rfl ?_
  refine g_iconst (pc := 9) (v := (nI 0)) dX8_worstFirst_9 (by decide) ?_
  refine a_ist1 (pc := 10) dX8_worstFirst_10 (by decide) rfl ?_
  refine g_iconst (pc := 11) (v := (nI 0)) dX8_worstFirst_11 (by decide) ?_
  refine a_ist2 (pc := 12) dX8_worstFirst_12 (by decide) rfl ?_
  have lp13 : ∀ (zz : Nat) (k : Nat) (hk : k ≤ v 0 3) (bm : Nat) (hb : BMS bm (wsL v k)) (ν : Mem) (hν : MO ν v (QM sz tb (v 0 2)) 9 (wsL v k) ∧ ν 57 35 = nI (dg (wsL v k)) ∧ WFm μ ν) (l3 l4 : Option Value), v 0 3 - k = zz → WG eI yX8_worstFirst.cls cX8_worstFirst 5 (some .int) false (fun _ _ => True) 45 (mpost (fun r μ1 => MO μ1 v (QM sz tb (v 0 2)) 9 (wsL v (v 0 3)) ∧ r = nI (CR v (QM sz tb (v 0 2)) 9 (wsL v (v 0 3))) ∧ μ1 57 35 = nI (dg (wsL v (v 0 3))) ∧ WFm μ μ1)) 0 0 13 [some (.ref 57), some (.int (nI bm)), some (.int (nI k)), l3, l4] [] (mk ν) := by
    intro zz
    induction zz using Nat.strongRecOn with
    | ind zz ih =>
      intro k hk bm hb ν hν l3 l4 hzz
      obtain ⟨hO, hd, hf⟩ := hν
      have hWν := hW.qfm hf.qfm
      obtain ⟨n1, n2, n3, n4, n5⟩ := hWν.1
      have hlen := wsL_len v k
      refine g_iload_n (pc := 13) dX8_worstFirst_13 rfl ?_
      refine g_aload_n (pc := 14) dX8_worstFirst_14 rfl ?_
      refine v_geti (pc := 15) fl_X8_73 dX8_worstFirst_15 (by first | rfl | assumption) rfl n4.1 ?_
      refine g_icmp_ge (pc := 18) (tgt := 127) dX8_worstFirst_18 (by decide) (fun c_18 => ?_) (fun c_18 => ?_)
      · have c18 := nI_le' (by omega) (by omega) c_18
        obtain rfl : k = v 0 3 := by omega
        refine g_aload_n (pc := 127) dX8_worstFirst_127 rfl ?_
        refine a_cv0i (pc := 128) (c_X8_creased v _ ν hWν.1 hO.1.1) m_X8_creased ml_X8_256 (by omega) (by first | rfl | assumption) rfl rfl (Nat.le_of_ble_eq_true rfl) dX8_worstFirst_128 (fun x_128 μ_128 h_128 => ?_)
        obtain ⟨rfl, hm_128⟩ := h_128
        have hm_128 := hm_128.symm
        subst hm_128
        refine g_ireturn (pc := 131) dX8_worstFirst_131 rfl (by first | rfl | decide) rfl ⟨_, rfl, ?_⟩
        exact ⟨hO, rfl, hd, hf⟩
      · have c18 := nI_gt' (by omega) (by omega) c_18
        obtain ⟨q1, q2⟩ := bsP_ok (v := v) (by omega) hb (by omega)
        refine g_iconst (pc := 21) (v := (-1)) dX8_worstFirst_21 (by decide) ?_
        refine a_ist3 (pc := 22) dX8_worstFirst_22 (by decide) rfl ?_
        refine g_iconst (pc := 23) (v := (nI 0)) dX8_worstFirst_23 (by decide) ?_
        refine a_ist4 (pc := 24) dX8_worstFirst_24 (by decide) rfl ?_
        have lp26 : ∀ (zz : Nat) (p : Nat) (hp : p ≤ v 0 3), v 0 3 - p = zz → WG eI yX8_worstFirst.cls cX8_worstFirst 5 (some .int) false (fun _ _ => True) 45 (mpost (fun r μ1 => MO μ1 v (QM sz tb (v 0 2)) 9 (wsL v (v 0 3)) ∧ r = nI (CR v (QM sz tb (v 0 2)) 9 (wsL v (v 0 3))) ∧ μ1 57 35 = nI (dg (wsL v (v 0 3))) ∧ WFm μ μ1)) 0 0 26 [some (.ref 57), some (.int (nI bm)), some (.int (nI k)), some (.int (fdV (bsP v (wsL v k) p))), some (.int (nI p))] [] (mk ν) := by
          intro zz
          induction zz using Nat.strongRecOn with
          | ind zz ih2 =>
            intro p hp hzz
            have hin := bsP_in v (wsL v k) p (by omega)
            have hrec : bsP v (wsL v k) (p + 1) = if p ∉ (wsL v k) ∧ (bsP v (wsL v k) p = 9 ∨ wtV v (bsP v (wsL v k) p) < wtV v p) then p else bsP v (wsL v k) p := rfl
            refine g_iload (pc := 26) dX8_worstFirst_26 rfl ?_
            refine g_aload_n (pc := 28) dX8_worstFirst_28 rfl ?_
            refine v_geti (pc := 29) fl_X8_73 dX8_worstFirst_29 (by first | rfl | assumption) rfl n4.1 ?_
            refine g_icmp_ge (pc := 32) (tgt := 95) dX8_worstFirst_32 (by decide) (fun c_32 => ?_) (fun c_32 => ?_)
            · have c32 := nI_le' (by omega) (by omega) c_32
              obtain rfl : p = v 0 3 := by omega
              obtain ⟨x, hx⟩ : ∃ x, bsP v (wsL v k) (v 0 3) = x := ⟨_, rfl⟩
              rw [hx] at q1 q2
              rw [hx, fdV_n (by omega)]
              obtain ⟨hb2, -, hl7⟩ := hb.go (show x < 7 by omega) (hb.new (by omega) q2)
              have hws : wsL v (k + 1) = wsL v k ++ [x] := by rw [wsL, hx]
              rw [← hws] at hb2
              refine g_iload_n (pc := 95) dX8_worstFirst_95 rfl ?_
              refine g_iconst (pc := 96) (v := (nI 1)) dX8_worstFirst_96 (by decide) ?_
              refine g_iload_n (pc := 97) dX8_worstFirst_97 rfl ?_
              refine v_ishl (pc := 98) dX8_worstFirst_98 rfl ?_
              refine v_ior (pc := 99) dX8_worstFirst_99 (ob_lem bm hb.1 x (by omega) (hb.new (by omega) q2)).1 ?_
              refine a_ist1 (pc := 100) dX8_worstFirst_100 (by decide) rfl ?_
              refine g_aload_n (pc := 101) dX8_worstFirst_101 rfl ?_
              refine g_bipush (pc := 102) (v := (nI 10)) dX8_worstFirst_102 (by decide) ?_
              refine g_aload_n (pc := 104) dX8_worstFirst_104 rfl ?_
              refine v_geti (pc := 105) fl_X8_288 dX8_worstFirst_105 (by first | rfl | assumption) rfl hd ?_
              refine v_imul (pc := 108) dX8_worstFirst_108 (pk_mul 10 _) ?_
              refine g_iload_n (pc := 109) dX8_worstFirst_109 rfl ?_
              refine v_iadd (pc := 110) dX8_worstFirst_110 (nI_add _ x) ?_
              refine g_iconst (pc := 111) (v := (nI 1)) dX8_worstFirst_111 (by decide) ?_
              refine v_iadd (pc := 112) dX8_worstFirst_112 (nI_add _ 1) ?_
              refine a_puti (pc := 113) fw_X8_288 dX8_worstFirst_113 (by first | rfl | assumption) rfl ?_
              refine g_aload_n (pc := 116) dX8_worstFirst_116 rfl ?_
              refine g_iload_n (pc := 117) dX8_worstFirst_117 rfl ?_
              obtain ⟨κ, hκ⟩ : ∃ κ, κ = mset ν 57 35 (nI (10 * dg (wsL v k) + x + 1)) := ⟨_, rfl⟩
              rw [← hκ]
              have qκ : WFm ν κ := by
                rw [hκ]
                exact ⟨fun k h1 _ _ => mset_ne h1, fun j hj => mset_nj (by omega)⟩
              have oκ : MO κ v (QM sz tb (v 0 2)) 9 (wsL v k) := by
                rw [hκ]
                exact ⟨hO.1.moved (mset_ne (by omega)) (mset_nj (by omega)) (mset_nj (by omega)), fun q hq => (congrFun (mset_ne (by omega)) q).trans (hO.2 q hq)⟩
              have dκ : κ 57 35 = nI (dg (wsL v (k + 1))) := by
                rw [hκ, mset_eq, hws, dg_snoc, Nat.mul_comm]
              have hWκ := hWν.qfm qκ.qfm
              refine a_cv1v (pc := 118) (c_X8_irons v tc sz tb _ _ _ κ hWκ oκ.1 (MO.mb hWκ.1 (wsL_lo (by omega) k hk) (by omega)) x q1) m_X8_irons ml_X8_252 (by omega) (by first | rfl | assumption) rfl rfl (Nat.le_of_ble_eq_true rfl) dX8_worstFirst_118 (fun x_118 μ_118 h_118 => ?_)
              obtain ⟨o9, g9⟩ := oκ.go (by omega) q2 h_118
              rw [← hws] at o9
              have d9 : μ_118 57 35 = nI (dg (wsL v (k + 1))) := (g9.2 35 (by omega)).trans dκ
              have f9 := (hf.trans qκ).trans g9.wfm
              refine a_iinc2 (pc := 121) dX8_worstFirst_121 (inc1 k) (by decide) rfl ?_
              refine g_goto (pc := 124) (tgt := 13) dX8_worstFirst_124 (by decide) ?_
              exact ih (v 0 3 - (k + 1)) (by omega) (k + 1) (by omega) _ hb2 _ ⟨o9, d9, f9⟩ _ _ rfl
            · have c32 := nI_gt' (by omega) (by omega) c_32
              have hwp : wtV v p ≤ 297 := wtV_le (n5 p c32).2.2.1.2
              refine g_iload_n (pc := 35) dX8_worstFirst_35 rfl ?_
              refine g_iload (pc := 36) dX8_worstFirst_36 rfl ?_
              refine v_ishr (pc := 38) dX8_worstFirst_38 rfl ?_
              refine g_iconst (pc := 39) (v := (nI 1)) dX8_worstFirst_39 (by decide) ?_
              refine v_iand (pc := 40) dX8_worstFirst_40 (bit_lem bm hb.1 p (by omega)) ?_
              refine g_if_ne (pc := 41) (tgt := 89) dX8_worstFirst_41 (by decide) (fun c_41 => ?_) (fun c_41 => ?_)
              · have c41 : ¬ bitAt bm p = 0 := fun h => c_41 (by rw [h]; rfl)
                rw [if_neg (fun q => c41 ((mem_bit hb (by omega)).mpr q.1))] at hrec
                refine a_iinc4 (pc := 89) dX8_worstFirst_89 (inc1 p) (by decide) rfl ?_
                refine g_goto (pc := 92) (tgt := 26) dX8_worstFirst_92 (by decide) ?_
                have hfin := ih2 (v 0 3 - (p + 1)) (by omega) (p + 1) (by omega) rfl
                rw [hrec] at hfin
                exact hfin
              · have c41 : p ∉ (wsL v k) := (mem_bit hb (by omega)).mp (nI_eq' (b := 0) (by have := bit_le bm p; omega) (by omega) c_41)
                refine g_iload_n (pc := 44) dX8_worstFirst_44 rfl ?_
                refine g_iconst (pc := 45) (v := (-1)) dX8_worstFirst_45 (by decide) ?_
                refine g_icmp_eq (pc := 46) (tgt := 86) dX8_worstFirst_46 (by decide) (fun c_46 => ?_) (fun c_46 => ?_)
                · have c46 : bsP v (wsL v k) p = 9 := by
                    by_cases h : bsP v (wsL v k) p = 9
                    · exact h
                    · rw [fdV_n h] at c_46
                      exact absurd c_46 (nI_m1 (by omega))
                  rw [if_pos ⟨c41, Or.inl c46⟩] at hrec
                  refine g_iload (pc := 86) dX8_worstFirst_86 rfl ?_
                  refine a_ist3 (pc := 88) dX8_worstFirst_88 (by decide) rfl ?_
                  refine a_iinc4 (pc := 89) dX8_worstFirst_89 (inc1 p) (by decide) rfl ?_
                  refine g_goto (pc := 92) (tgt := 26) dX8_worstFirst_92 (by decide) ?_
                  have hfin := ih2 (v 0 3 - (p + 1)) (by omega) (p + 1) (by omega) rfl
                  rw [hrec, fdV_n (show ¬ p = 9 by omega)] at hfin
                  exact hfin
                · have c46 : ¬ bsP v (wsL v k) p = 9 := fun h => c_46 (by rw [h]; rfl)
                  obtain ⟨x, hx⟩ : ∃ x, bsP v (wsL v k) p = x := ⟨_, rfl⟩
                  rw [hx] at c46 hin hrec
                  rw [hx, fdV_n c46]
                  obtain ⟨x1, x2⟩ := hin.resolve_left c46
                  have hwx : wtV v x ≤ 297 := wtV_le (n5 x (by omega)).2.2.1.2
                  refine g_aload_n (pc := 49) dX8_worstFirst_49 rfl ?_
                  refine a_getr (pc := 50) (q := 62) fl_X8_32 dX8_worstFirst_50 (by first | rfl | assumption) rfl rfl ?_
                  refine g_iconst (pc := 53) (v := (nI 3)) dX8_worstFirst_53 (by decide) ?_
                  refine g_iload (pc := 54) dX8_worstFirst_54 rfl ?_
                  refine v_imul (pc := 56) dX8_worstFirst_56 (pk_mul 3 p) ?_
                  refine g_iconst (pc := 57) (v := (nI 1)) dX8_worstFirst_57 (by decide) ?_
                  refine v_iadd (pc := 58) dX8_worstFirst_58 (nI_add _ 1) ?_
                  refine v_iald (pc := 59) dX8_worstFirst_59 (by first | rfl | assumption) rfl (by omega) (n5 p c32).2.2.1.1 ?_
                  refine g_aload_n (pc := 60) dX8_worstFirst_60 rfl ?_
                  refine g_iload (pc := 61) dX8_worstFirst_61 rfl ?_
                  refine a_cv1i (pc := 63) (c_X8_showsOf v ν hWν.1 p c32) m_X8_showsOf ml_X8_105 (by omega) (by first | rfl | assumption) rfl rfl (Nat.le_of_ble_eq_true rfl) dX8_worstFirst_63 (fun x_63 μ_63 h_63 => ?_)
                  obtain ⟨rfl, hm_63⟩ := h_63
                  have hm_63 := hm_63.symm
                  subst hm_63
                  refine v_imul (pc := 66) dX8_worstFirst_66 (pk_mul (v 3 p) (kShows (v 1 p))) ?_
                  refine g_aload_n (pc := 67) dX8_worstFirst_67 rfl ?_
                  refine a_getr (pc := 68) (q := 62) fl_X8_32 dX8_worstFirst_68 (by first | rfl | assumption) rfl rfl ?_
                  refine g_iconst (pc := 71) (v := (nI 3)) dX8_worstFirst_71 (by decide) ?_
                  refine g_iload_n (pc := 72) dX8_worstFirst_72 rfl ?_
                  refine v_imul (pc := 73) dX8_worstFirst_73 (pk_mul 3 x) ?_
                  refine g_iconst (pc := 74) (v := (nI 1)) dX8_worstFirst_74 (by decide) ?_
                  refine v_iadd (pc := 75) dX8_worstFirst_75 (nI_add _ 1) ?_
                  refine v_iald (pc := 76) dX8_worstFirst_76 (by first | rfl | assumption) rfl (by omega) (n5 x (by omega)).2.2.1.1 ?_
                  refine g_aload_n (pc := 77) dX8_worstFirst_77 rfl ?_
                  refine g_iload_n (pc := 78) dX8_worstFirst_78 rfl ?_
                  refine a_cv1i (pc := 79) (c_X8_showsOf v ν hWν.1 x (by omega)) m_X8_showsOf ml_X8_105 (by omega) (by first | rfl | assumption) rfl rfl (Nat.le_of_ble_eq_true rfl) dX8_worstFirst_79 (fun x_79 μ_79 h_79 => ?_)
                  obtain ⟨rfl, hm_79⟩ := h_79
                  have hm_79 := hm_79.symm
                  subst hm_79
                  refine v_imul (pc := 82) dX8_worstFirst_82 (pk_mul (v 3 x) (kShows (v 1 x))) ?_
                  have e1 : v 3 p * kShows (v 1 p) = wtV v p := rfl
                  have e2 : v 3 x * kShows (v 1 x) = wtV v x := rfl
                  rw [e1, e2]
                  refine g_icmp_le (pc := 83) (tgt := 89) dX8_worstFirst_83 (by decide) (fun c_83 => ?_) (fun c_83 => ?_)
                  · have c83 := nI_le' (by omega) (by omega) c_83
                    rw [if_neg (fun q => by omega)] at hrec
                    skip
                    refine a_iinc4 (pc := 89) dX8_worstFirst_89 (inc1 p) (by decide) rfl ?_
                    refine g_goto (pc := 92) (tgt := 26) dX8_worstFirst_92 (by decide) ?_
                    have hfin := ih2 (v 0 3 - (p + 1)) (by omega) (p + 1) (by omega) rfl
                    rw [hrec, fdV_n c46] at hfin
                    exact hfin
                  · have c83 := nI_gt' (by omega) (by omega) c_83
                    rw [if_pos ⟨c41, Or.inr c83⟩] at hrec
                    refine g_iload (pc := 86) dX8_worstFirst_86 rfl ?_
                    refine a_ist3 (pc := 88) dX8_worstFirst_88 (by decide) rfl ?_
                    refine a_iinc4 (pc := 89) dX8_worstFirst_89 (inc1 p) (by decide) rfl ?_
                    refine g_goto (pc := 92) (tgt := 26) dX8_worstFirst_92 (by decide) ?_
                    have hfin := ih2 (v 0 3 - (p + 1)) (by omega) (p + 1) (by omega) rfl
                    rw [hrec, fdV_n (show ¬ p = 9 by omega)] at hfin
                    exact hfin
        exact lp26 _ 0 (Nat.zero_le _) rfl
  exact lp13 _ 0 (Nat.zero_le _) 0 BMS.nil _ ⟨MO.nil (b1.moved (mset_ne (by omega)) (mset_nj (by omega)) (mset_nj (by omega))) (fun q hq => (congrFun (mset_ne (by omega)) q).trans (b2 q hq)), mset_eq, b3.wfm.trans ⟨fun k h1 _ _ => mset_ne h1, fun j hj => mset_nj (by omega)⟩⟩ _ _ rfl
