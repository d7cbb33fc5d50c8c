/-! ===== the model: orders ===== -/
def QFm (μ μ1 : Mem) : Prop := (∀ k, k ≠ 57 → k ≠ 63 → k ≠ 64 → k ≠ 65 → k ≠ 66 → μ1 k = μ k) ∧ ∀ j, j < 12 ∨ 37 < j → μ1 57 j = μ 57 j
theorem QFm.refl (μ : Mem) : QFm μ μ := ⟨fun _ _ _ _ _ _ => rfl, fun _ _ => rfl⟩
theorem QFm.trans {μ μ1 μ2 : Mem} (h : QFm μ μ1) (g : QFm μ1 μ2) : QFm μ μ2 := ⟨fun k h1 h2 h3 h4 h5 => (g.1 k h1 h2 h3 h4 h5).trans (h.1 k h1 h2 h3 h4 h5), fun j hj => (g.2 j hj).trans (h.2 j hj)⟩
theorem IFm.qfm {μ μ1 : Mem} (h : IFm μ μ1) : QFm μ μ1 := ⟨fun k h1 h2 h3 _ _ => h.1 k h1 h2 h3, fun j hj => h.2 j (by omega)⟩
theorem MW.qfm {μ μ1 : Mem} {v : View} {tc : Nat} {sz : Nat → Nat} {tb : Nat → Nat → Nat} (h : MW μ v tc sz tb) (g : QFm μ μ1) : MW μ1 v tc sz tb := h.moved (fun j hj => g.2 j (Or.inl hj)) (fun k h1 h2 => g.1 k (by omega) (by omega) (by omega) (by omega) (by omega))
/-- the model's sheets -/
def ZMs (μ : Mem) (zs : Nat → Int32) (zn : Nat → Nat) (zi : Nat → Nat → Int32) : Prop := ∀ s, s < 4 → (μ 68 s = nI 0 ∧ zs s = -1) ∨ (μ 68 s = nI 1 ∧ ¬ zs s = -1 ∧ μ 69 s = zs s ∧ μ 70 s = nI (zn s) ∧ zn s ≤ 40 ∧ ∀ j, j < zn s → μ 71 (40 * s + j) = zi s j)
theorem ZMs.moved {μ μ1 : Mem} {zs : Nat → Int32} {zn : Nat → Nat} {zi : Nat → Nat → Int32} (h : ZMs μ zs zn zi) (g : ∀ k, 67 < k → k < 72 → μ1 k = μ k) : ZMs μ1 zs zn zi := fun s hs => by
  rw [g 68 (by omega) (by omega), g 69 (by omega) (by omega), g 70 (by omega) (by omega), g 71 (by omega) (by omega)]
  exact h s hs
theorem ZMs.qfm {μ μ1 : Mem} {zs : Nat → Int32} {zn : Nat → Nat} {zi : Nat → Nat → Int32} (h : ZMs μ zs zn zi) (g : QFm μ μ1) : ZMs μ1 zs zn zi := h.moved (fun k h1 h2 => g.1 k (by omega) (by omega) (by omega) (by omega) (by omega))
theorem c_X8_isSheet (s : Int32) (μ : Mem) : CA eI yX8_isSheet cX8_isSheet 1 (some .boolean) 1 [.int s] μ (fun r μ1 => μ1 = μ ∧ ((r = nI 1 ∧ nx s < 4) ∨ (r = nI 0 ∧ ¬ nx s < 4))) := by
  refine CT.of false (by decide) (by decide) (L := [some (.int s)]) rfl (Nat.le_of_ble_eq_true rfl) ?_
  skip
  refine g_iload_n (pc := 0) dX8_isSheet_0 rfl ?_
  refine g_i2l (pc := 1) dX8_isSheet_1 rfl ?_
  refine g_lconst (pc := 2) (v := 0) dX8_isSheet_2 (by decide) ?_
  refine g_ldc2 (pc := 3) dX8_isSheet_3 kc_X8_297 ?_
  refine a_cs3i (pc := 6) (c_X8_in s.toInt64 0 3 μ) m_X8_in ml_X8_76 (by omega) (Nat.le_of_ble_eq_true rfl) dX8_isSheet_6 (fun x_6 μ_6 h_6 => ?_)
  obtain ⟨hm_6, hd_6⟩ := h_6
  have hm_6 := hm_6.symm
  subst hm_6
  rw [in_c (x := s) (y := 0) (z := 3) 0 3 rfl rfl (by decide) (by decide)] at hd_6
  refine g_ireturn (pc := 9) dX8_isSheet_9 rfl (by rcases hd_6 with ⟨h, -⟩ | ⟨h, -⟩ <;> (rw [h]; first | rfl | decide)) rfl ⟨_, rfl, ?_⟩
  exact ⟨rfl, by rcases hd_6 with ⟨h, g⟩ | ⟨h, g⟩; exact Or.inl ⟨h, by omega⟩; exact Or.inr ⟨h, by omega⟩⟩
theorem tkO_step {n : Nat} {g : Nat → Int32} {k i : Nat} {l li : List Nat} (h : tkO n g k = some l) (hi : i < k) (hl : tkO n g i = some li) : nx (g i) < n ∧ nx (g i) ∉ li ∧ tkO n g (i + 1) = some (li ++ [nx (g i)]) := by
  by_cases hc : nx (g i) < n ∧ nx (g i) ∉ li
  · exact ⟨hc.1, hc.2, tkO_go hl rfl hc.1 hc.2⟩
  · rw [tkO_no hl hc k hi] at h
    exact absurd h (by simp)
theorem BMS.nil : BMS 0 [] := ⟨by decide, by decide, fun q hq => by rw [if_neg (by simp)]; revert q; decide⟩
theorem BMS.new {bm : Nat} {l : List Nat} {a : Nat} (h : BMS bm l) (ha : a < 7) (hn : a ∉ l) : bitAt bm a = 0 := (h.2.2 a ha).trans (if_neg hn)
theorem tkO_bms {n : Nat} {g : Nat → Int32} (hn : n ≤ 7) : ∀ (i : Nat) (l : List Nat), tkO n g i = some l → ∃ bm, BMS bm l
  | 0, l, h => by
    rw [tkO] at h
    have := Option.some.inj h
    subst this
    exact ⟨0, BMS.nil⟩
  | i + 1, l, h => by
    cases hi : tkO n g i with
    | none =>
      rw [tkO, hi] at h
      exact absurd h (by simp)
    | some li =>
      obtain ⟨bm, hb⟩ := tkO_bms hn i li hi
      obtain ⟨h1, h2, h3⟩ := tkO_step h (Nat.lt_succ_self i) hi
      rw [h3] at h
      have := Option.some.inj h
      subst this
      exact ⟨_, (hb.go (by omega) (hb.new (by omega) h2)).1⟩
theorem BMS.len {bm : Nat} {l : List Nat} (h : BMS bm l) : l.length ≤ 7 := by
  have := popc_le bm h.1
  have := h.2.1
  omega
theorem c_X8_isOrder (v : View) (h7 : v 0 3 ≤ 7) (s k : Nat) (hs : s < 4) (hk : k ≤ 40) (g : Nat → Int32) (μ : Mem) (h11 : μ 57 11 = nI (v 0 3)) (hz1 : μ 70 s = nI k) (hz3 : ∀ j, j < k → μ 71 (40 * s + j) = g j) : CA eI yX8_isOrder cX8_isOrder 5 (some .boolean) 2 [.ref 57, .int (nI s)] μ (fun r μ1 => μ1 = μ ∧ ((r = nI 1 ∧ ∃ l, tkO (v 0 3) g k = some l) ∨ (r = nI 0 ∧ tkO (v 0 3) g k = none))) := by
  refine CT.of false (by decide) (by decide) (L := [some (.ref 57), some (.int (nI s)), none, none, none]) rfl (Nat.le_of_ble_eq_true rfl) ?_
  refine g_iconst (pc := 0) (v := (nI 0)) dX8_isOrder_0 (by decide) ?_
  refine a_ist2 (pc := 1) dX8_isOrder_1 (by decide) rfl ?_
  refine g_iconst (pc := 2) (v := (nI 0)) dX8_isOrder_2 (by decide) ?_
  refine a_ist3 (pc := 3) dX8_isOrder_3 (by decide) rfl ?_
  have lp4 : ∀ (zz : Nat) (i : Nat) (hi : i ≤ k) (l : List Nat) (hl : tkO (v 0 3) g i = some l) (bm : Nat) (hb : BMS bm l) (l4 : Option Value), k - i = zz → WG eI yX8_isOrder.cls cX8_isOrder 5 (some .boolean) false (fun _ _ => True) 2 (mpost (fun r μ1 => μ1 = μ ∧ ((r = nI 1 ∧ ∃ l, tkO (v 0 3) g k = some l) ∨ (r = nI 0 ∧ tkO (v 0 3) g k = none)))) 0 0 4 [some (.ref 57), some (.int (nI s)), some (.int (nI bm)), some (.int (nI i)), l4] [] (mk μ) := by
    intro zz
    induction zz using Nat.strongRecOn with
    | ind zz ih =>
      intro i hi l hl bm hb l4 hzz
      refine g_iload_n (pc := 4) dX8_isOrder_4 rfl ?_
      refine g_aload_n (pc := 5) dX8_isOrder_5 rfl ?_
      refine a_getr (pc := 6) (q := 70) fl_X8_60 dX8_isOrder_6 (by first | rfl | assumption) rfl rfl ?_
      refine g_iload_n (pc := 9) dX8_isOrder_9 rfl ?_
      refine v_iald (pc := 10) dX8_isOrder_10 (by first | rfl | assumption) rfl (by omega) hz1 ?_
      refine g_icmp_ge (pc := 11) (tgt := 61) dX8_isOrder_11 (by decide) (fun c_11 => ?_) (fun c_11 => ?_)
      · have c11 := nI_le' (by omega) (by omega) c_11
        obtain rfl : i = k := by omega
        refine g_iconst (pc := 61) (v := (nI 1)) dX8_isOrder_61 (by decide) ?_
        refine g_ireturn (pc := 62) dX8_isOrder_62 rfl (by first | rfl | decide) rfl ⟨_, rfl, ?_⟩
        exact ⟨rfl, Or.inl ⟨rfl, l, hl⟩⟩
      · have c11 := nI_gt' (by omega) (by omega) c_11
        obtain ⟨x, hx⟩ : ∃ x, g i = x := ⟨_, rfl⟩
        refine g_aload_n (pc := 14) dX8_isOrder_14 rfl ?_
        refine a_getr (pc := 15) (q := 71) fl_X8_63 dX8_isOrder_15 (by first | rfl | assumption) rfl rfl ?_
        refine g_bipush (pc := 18) (v := (nI 40)) dX8_isOrder_18 (by decide) ?_
        refine g_iload_n (pc := 20) dX8_isOrder_20 rfl ?_
        refine v_imul (pc := 21) dX8_isOrder_21 (pk_mul 40 s) ?_
        refine g_iload_n (pc := 22) dX8_isOrder_22 rfl ?_
        refine v_iadd (pc := 23) dX8_isOrder_23 (nI_add _ i) ?_
        refine v_iald (pc := 24) dX8_isOrder_24 (by first | rfl | assumption) rfl (by omega) ((hz3 i c11).trans hx) ?_
        refine a_ist4 (pc := 25) dX8_isOrder_25 (by decide) rfl ?_
        refine g_aload_n (pc := 27) dX8_isOrder_27 rfl ?_
        refine g_iload (pc := 28) dX8_isOrder_28 rfl ?_
        refine a_cv1i (pc := 30) (c_X8_isPart x (v 0 3) (by omega) μ h11) m_X8_isPart ml_X8_82 (by omega) (by first | rfl | assumption) rfl rfl (Nat.le_of_ble_eq_true rfl) dX8_isOrder_30 (fun x_30 μ_30 h_30 => ?_)
        obtain ⟨hm_30, hd_30⟩ := h_30
        have hm_30 := hm_30.symm
        subst hm_30
        refine g_if_eq (pc := 33) (tgt := 46) dX8_isOrder_33 (by decide) (fun c_33 => ?_) (fun c_33 => ?_)
        · have c33 := (hd_30.resolve_left (fun q => absurd (q.1.symm.trans c_33) (by decide))).2
          have hno : tkO (v 0 3) g k = none := tkO_no hl (fun h => c33 (hx ▸ h.1)) _ c11
          refine g_iconst (pc := 46) (v := (nI 0)) dX8_isOrder_46 (by decide) ?_
          refine g_ireturn (pc := 47) dX8_isOrder_47 rfl (by first | rfl | decide) rfl ⟨_, rfl, ?_⟩
          exact ⟨rfl, Or.inr ⟨rfl, hno⟩⟩
        · have c33 := (hd_30.resolve_right (fun q => c_33 q.1)).2
          have e_a := nx_lt c33 (by omega)
          generalize j_a : nx x = a at e_a c33
          subst e_a
          refine g_iload_n (pc := 36) dX8_isOrder_36 rfl ?_
          refine g_iload (pc := 37) dX8_isOrder_37 rfl ?_
          refine v_ishr (pc := 39) dX8_isOrder_39 rfl ?_
          refine g_iconst (pc := 40) (v := (nI 1)) dX8_isOrder_40 (by decide) ?_
          refine v_iand (pc := 41) dX8_isOrder_41 (bit_lem bm hb.1 a (by omega)) ?_
          refine g_iconst (pc := 42) (v := (nI 1)) dX8_isOrder_42 (by decide) ?_
          refine g_icmp_ne (pc := 43) (tgt := 48) dX8_isOrder_43 (by decide) (fun c_43 => ?_) (fun c_43 => ?_)
          · have hb0 : bitAt bm a = 0 := by
              have h1 := bit_le bm a
              have : ¬ bitAt bm a = 1 := fun h => c_43 (by rw [h])
              omega
            obtain ⟨hb2, hnl, hl7⟩ := hb.go (show a < 7 by omega) hb0
            have hl2 := tkO_go hl (show nx (g i) = a by rw [hx]; exact j_a) c33 hnl
            refine g_iload_n (pc := 48) dX8_isOrder_48 rfl ?_
            refine g_iconst (pc := 49) (v := (nI 1)) dX8_isOrder_49 (by decide) ?_
            refine g_iload (pc := 50) dX8_isOrder_50 rfl ?_
            refine v_ishl (pc := 52) dX8_isOrder_52 rfl ?_
            refine v_ior (pc := 53) dX8_isOrder_53 (ob_lem bm hb.1 a (by omega) hb0).1 ?_
            refine a_ist2 (pc := 54) dX8_isOrder_54 (by decide) rfl ?_
            refine a_iinc3 (pc := 55) dX8_isOrder_55 (inc1 i) (by decide) rfl ?_
            refine g_goto (pc := 58) (tgt := 4) dX8_isOrder_58 (by decide) ?_
            exact ih (k - (i + 1)) (by omega) (i + 1) (by omega) _ hl2 _ hb2 _ rfl
          · have hno : tkO (v 0 3) g k = none := tkO_no hl (fun h => by
              have h2 := h.2
              rw [show nx (g i) = a by rw [hx]; exact j_a] at h2
              have h3 := hb.2.2 a (by omega)
              rw [if_neg h2] at h3
              rw [h3] at c_43
              exact absurd c_43 (by decide)) _ c11
            refine g_iconst (pc := 46) (v := (nI 0)) dX8_isOrder_46 (by decide) ?_
            refine g_ireturn (pc := 47) dX8_isOrder_47 rfl (by first | rfl | decide) rfl ⟨_, rfl, ?_⟩
            exact ⟨rfl, Or.inr ⟨rfl, hno⟩⟩
  exact lp4 _ 0 (Nat.zero_le _) [] rfl 0 BMS.nil _ rfl
theorem c_X8_order (v : View) (tc : Nat) (sz : Nat → Nat) (tb : Nat → Nat → Nat) (μ : Mem) (hW : MW μ v tc sz tb) (zs : Nat → Int32) (zn : Nat → Nat) (zi : Nat → Nat → Int32) (hz : ZMs μ zs zn zi) (s w : Int32) : CA eI yX8_order cX8_order 4 (some .int) 45 [.ref 57, .int s, .int w] μ (fun r μ1 => r = ordV v (QM sz tb (v 0 2)) zs zn zi s w ∧ IFm μ μ1) := by
  obtain ⟨hV, hTx, hru⟩ := id hW
  obtain ⟨⟨v1, v1b⟩, ⟨v2, v2b⟩, ⟨v3, v3b⟩, ⟨v4, v4b⟩, v5⟩ := id hV
  refine CT.of false (by decide) (by decide) (L := [some (.ref 57), some (.int s), some (.int w), none]) rfl (Nat.le_of_ble_eq_true rfl) ?_
  refine g_iload_n (pc := 0) dX8_order_0 rfl ?_
  refine a_cs1i (pc := 1) (c_X8_isSheet s μ) m_X8_isSheet ml_X8_270 (by omega) (Nat.le_of_ble_eq_true rfl) dX8_order_1 (fun x_1 μ_1 h_1 => ?_)
  obtain ⟨hm_1, hd_1⟩ := h_1
  have hm_1 := hm_1.symm
  subst hm_1
  refine g_if_eq (pc := 4) (tgt := 15) dX8_order_4 (by decide) (fun c_4 => ?_) (fun c_4 => ?_)
  · have c4 := (hd_1.resolve_left (fun q => absurd (q.1.symm.trans c_4) (by decide))).2
    have hno : ¬ (nx s < 4 ∧ okW (v 0 3) w) := fun h => c4 h.1
    refine g_bipush (pc := 15) (v := (-2)) dX8_order_15 (by decide) ?_
    refine g_ireturn (pc := 17) dX8_order_17 rfl (by first | rfl | decide) rfl ⟨_, rfl, ?_⟩
    refine ⟨?_, IFm.refl μ⟩
    unfold ordV
    rw [if_neg hno]
  · have c4 := (hd_1.resolve_right (fun q => c_4 q.1)).2
    refine g_aload_n (pc := 7) dX8_order_7 rfl ?_
    refine g_iload_n (pc := 8) dX8_order_8 rfl ?_
    refine a_cv1i (pc := 9) (c_X8_isTold v tc sz tb μ hW w) m_X8_isTold ml_X8_261 (by omega) (by first | rfl | assumption) rfl rfl (Nat.le_of_ble_eq_true rfl) dX8_order_9 (fun x_9 μ_9 h_9 => ?_)
    obtain ⟨hm_9, hd_9⟩ := h_9
    have hm_9 := hm_9.symm
    subst hm_9
    refine g_if_ne (pc := 12) (tgt := 18) dX8_order_12 (by decide) (fun c_12 => ?_) (fun c_12 => ?_)
    · have c12 := (hd_9.resolve_right (fun q => c_12 q.1)).2
      have hyes : nx s < 4 ∧ okW (v 0 3) w := ⟨c4, c12⟩
      obtain ⟨e_j, b_j⟩ := okW_nx c12
      have e_a := nx_lt c4 (by omega)
      generalize j_a : nx s = a at e_a c4 hyes
      subst e_a
      refine g_aload_n (pc := 18) dX8_order_18 rfl ?_
      refine a_getr (pc := 19) (q := 68) fl_X8_53 dX8_order_19 (by first | rfl | assumption) rfl rfl ?_
      refine g_iload_n (pc := 22) dX8_order_22 rfl ?_
      obtain ⟨b68, hb68⟩ : ∃ b, μ 68 a = b := ⟨_, rfl⟩
      refine v_zald (pc := 23) dX8_order_23 (by first | rfl | assumption) rfl (by omega) hb68 ?_
      refine g_if_ne (pc := 24) (tgt := 30) dX8_order_24 (by decide) (fun c_24 => ?_) (fun c_24 => ?_)
      · obtain ⟨-, z1, z2, z3, z4, z5⟩ := (hz a c4).resolve_left (fun q => c_24 (by rw [← hb68, q.1]; rfl))
        refine g_aload_n (pc := 30) dX8_order_30 rfl ?_
        refine g_iload_n (pc := 31) dX8_order_31 rfl ?_
        refine a_cv1i (pc := 32) (c_X8_isOrder v (by omega) a (zn a) c4 z4 (zi a) μ v4 z3 z5) m_X8_isOrder ml_X8_273 (by omega) (by first | rfl | assumption) rfl rfl (Nat.le_of_ble_eq_true rfl) dX8_order_32 (fun x_32 μ_32 h_32 => ?_)
        obtain ⟨hm_32, hd_32⟩ := h_32
        have hm_32 := hm_32.symm
        subst hm_32
        refine g_if_ne (pc := 35) (tgt := 41) dX8_order_35 (by decide) (fun c_35 => ?_) (fun c_35 => ?_)
        · have c35 := (hd_32.resolve_right (fun q => c_35 q.1)).2
          obtain ⟨l, hl⟩ := c35
          refine g_aload_n (pc := 41) dX8_order_41 rfl ?_
          refine a_cv0v (pc := 42) (c_X8_begins v μ hV) m_X8_begins ml_X8_108 (by omega) (by first | rfl | assumption) rfl rfl (Nat.le_of_ble_eq_true rfl) dX8_order_42 (fun x_42 μ_42 h_42 => ?_)
          obtain ⟨b1, b2, b3⟩ := h_42
          refine g_iconst (pc := 45) (v := (nI 0)) dX8_order_45 (by decide) ?_
          refine a_ist3 (pc := 46) dX8_order_46 (by decide) rfl ?_
          have lp47 : ∀ (zz : Nat) (i : Nat) (hi : i ≤ zn a) (li : List Nat) (hli : tkO (v 0 3) (zi a) i = some li) (ν : Mem) (hν : MO ν v (QM sz tb (v 0 2)) 9 li ∧ IFm μ ν), zn a - i = zz → WG eI yX8_order.cls cX8_order 4 (some .int) false (fun _ _ => True) 45 (mpost (fun r μ1 => r = ordV v (QM sz tb (v 0 2)) zs zn zi (nI a) w ∧ IFm μ μ1)) 0 0 47 [some (.ref 57), some (.int (nI a)), some (.int w), some (.int (nI i))] [] (mk ν) := by
            intro zz
            induction zz using Nat.strongRecOn with
            | ind zz ih =>
              intro i hi li hli ν hν hzz
              obtain ⟨hO, hf⟩ := hν
              have hWν := hW.ifm hf
              refine g_iload_n (pc := 47) dX8_order_47 rfl ?_
              refine g_aload_n (pc := 48) dX8_order_48 rfl ?_
              refine a_getr (pc := 49) (q := 70) fl_X8_60 dX8_order_49 (by first | rfl | assumption) rfl rfl ?_
              refine g_iload_n (pc := 52) dX8_order_52 rfl ?_
              refine v_iald (pc := 53) dX8_order_53 (by first | rfl | assumption) rfl (by omega) ((congrFun (hf.1 70 (by omega) (by omega) (by omega)) a).trans z3) ?_
              refine g_icmp_ge (pc := 54) (tgt := 78) dX8_order_54 (by decide) (fun c_54 => ?_) (fun c_54 => ?_)
              · have c54 := nI_le' (by omega) (by omega) c_54
                obtain rfl : i = zn a := by omega
                have hll : li = l := Option.some.inj (hli.symm.trans hl)
                subst hll
                have hL9 : (Value.int w) = .int (nI (nx w)) := congrArg Value.int e_j
                rw [hL9]
                refine g_aload_n (pc := 78) dX8_order_78 rfl ?_
                refine g_iload_n (pc := 79) dX8_order_79 rfl ?_
                refine a_cv1i (pc := 80) (c_X8_tellsOf v tc sz tb ν hWν _ hO (nx w) b_j) m_X8_tellsOf ml_X8_267 (by omega) (by first | rfl | assumption) rfl rfl (Nat.le_of_ble_eq_true rfl) dX8_order_80 (fun x_80 μ_80 h_80 => ?_)
                obtain ⟨rfl, hm_80⟩ := h_80
                have hm_80 := hm_80.symm
                subst hm_80
                refine g_ireturn (pc := 83) dX8_order_83 rfl (by first | rfl | decide) rfl ⟨_, rfl, ?_⟩
                refine ⟨?_, hf⟩
                unfold ordV
                rw [j_a, if_pos hyes, if_neg z1, hl]
              · have c54 := nI_gt' (by omega) (by omega) c_54
                obtain ⟨t1, t2, t3⟩ := tkO_step hl c54 hli
                obtain ⟨bm, hb⟩ := tkO_bms (by omega) _ _ t3
                have hl7 := hb.len
                rw [List.length_append] at hl7
                have hl7 : li.length + 1 ≤ 7 := hl7
                have e_x := nx_lt t1 (by omega)
                refine g_aload_n (pc := 57) dX8_order_57 rfl ?_
                refine g_aload_n (pc := 58) dX8_order_58 rfl ?_
                refine a_getr (pc := 59) (q := 71) fl_X8_63 dX8_order_59 (by first | rfl | assumption) rfl rfl ?_
                refine g_bipush (pc := 62) (v := (nI 40)) dX8_order_62 (by decide) ?_
                refine g_iload_n (pc := 64) dX8_order_64 rfl ?_
                refine v_imul (pc := 65) dX8_order_65 (pk_mul 40 a) ?_
                refine g_iload_n (pc := 66) dX8_order_66 rfl ?_
                refine v_iadd (pc := 67) dX8_order_67 (nI_add _ i) ?_
                refine v_iald (pc := 68) dX8_order_68 (by first | rfl | assumption) rfl (by omega) ((congrFun (hf.1 71 (by omega) (by omega) (by omega)) _).trans ((z5 i c54).trans e_x)) ?_
                refine a_cv1v (pc := 69) (c_X8_irons v tc sz tb _ _ _ ν hWν hO.1 (MO.mb hWν.1 (tkO_lo _ _ hli) (by omega)) _ t1) m_X8_irons ml_X8_252 (by omega) (by first | rfl | assumption) rfl rfl (Nat.le_of_ble_eq_true rfl) dX8_order_69 (fun x_69 μ_69 h_69 => ?_)
                obtain ⟨o9, f9⟩ := hO.go (by omega) t2 h_69
                refine a_iinc3 (pc := 72) dX8_order_72 (inc1 i) (by decide) rfl ?_
                refine g_goto (pc := 75) (tgt := 47) dX8_order_75 (by decide) ?_
                exact ih (zn a - (i + 1)) (by omega) (i + 1) (by omega) _ t3 _ ⟨o9, hf.trans f9⟩ rfl
          exact lp47 _ 0 (Nat.zero_le _) [] rfl _ ⟨MO.nil b1 b2, b3⟩ rfl
        · have c35 := (hd_32.resolve_left (fun q => absurd (q.1.symm.trans c_35) (by decide))).2
          refine g_bipush (pc := 38) (v := (-2)) dX8_order_38 (by decide) ?_
          refine g_ireturn (pc := 40) dX8_order_40 rfl (by first | rfl | decide) rfl ⟨_, rfl, ?_⟩
          refine ⟨?_, IFm.refl μ⟩
          unfold ordV
          rw [j_a, if_pos hyes, if_neg z1, c35]
      · have z1 := ((hz a c4).resolve_right (fun q => by rw [← hb68, q.1] at c_24; exact absurd c_24 (by decide))).2
        refine g_bipush (pc := 27) (v := (-11)) dX8_order_27 (by decide) ?_
        refine g_ireturn (pc := 29) dX8_order_29 rfl (by first | rfl | decide) rfl ⟨_, rfl, ?_⟩
        refine ⟨?_, IFm.refl μ⟩
        unfold ordV
        rw [j_a, if_pos hyes, if_pos z1]
    · have c12 := (hd_9.resolve_left (fun q => absurd (q.1.symm.trans c_12) (by decide))).2
      have hno : ¬ (nx s < 4 ∧ okW (v 0 3) w) := fun h => c12 h.2
      refine g_bipush (pc := 15) (v := (-2)) dX8_order_15 (by decide) ?_
      refine g_ireturn (pc := 17) dX8_order_17 rfl (by first | rfl | decide) rfl ⟨_, rfl, ?_⟩
      refine ⟨?_, IFm.refl μ⟩
      unfold ordV
      rw [if_neg hno]
