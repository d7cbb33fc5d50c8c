/-! ===== the class: an order that is told, how, enough, feed ===== -/
/-- the order that i items of a sheet tell -/
def tkO (n : Nat) (g : Nat → Int32) : Nat → Option (List Nat)
  | 0 => some []
  | i + 1 => match tkO n g i with
    | none => none
    | some l => if nx (g i) < n ∧ nx (g i) ∉ l then some (l ++ [nx (g i)]) else none
theorem tkO_no {n : Nat} {g : Nat → Int32} {i : Nat} {l : List Nat} (h : tkO n g i = some l) (hn : ¬ (nx (g i) < n ∧ nx (g i) ∉ l)) : ∀ j, i < j → tkO n g j = none := by
  intro j hj
  induction j with
  | zero => omega
  | succ j ih =>
    rw [tkO]
    rcases Nat.lt_or_ge i j with h1 | h1
    · rw [ih h1]
    · obtain rfl : j = i := by omega
      rw [h]
      exact if_neg hn
theorem tkO_go {n : Nat} {g : Nat → Int32} {i : Nat} {l : List Nat} {a : Nat} (h : tkO n g i = some l) (ha : nx (g i) = a) (h1 : a < n) (h2 : a ∉ l) : tkO n g (i + 1) = some (l ++ [a]) := by
  rw [tkO, h]
  show (if nx (g i) < n ∧ nx (g i) ∉ l then some (l ++ [nx (g i)]) else none) = _
  rw [ha]
  exact if_pos ⟨h1, h2⟩
theorem LO.snoc {l : List Nat} {n a : Nat} (h : LO l n) (ha : a < n) : LO (l ++ [a]) n := by
  intro j x hx
  rw [List.getElem?_append] at hx
  split at hx
  · exact h j x hx
  · rw [List.getElem?_singleton] at hx
    split at hx
    · have := Option.some.inj hx
      omega
    · exact absurd hx (by simp)
theorem tkO_lo {n : Nat} {g : Nat → Int32} : ∀ (i : Nat) (l : List Nat), tkO n g i = some l → LO l n := by
  intro i
  induction i with
  | zero =>
    intro l h
    rw [tkO] at h
    have := Option.some.inj h
    subst this
    intro j x hx
    simp at hx
  | succ i ih =>
    intro l h
    rw [tkO] at h
    split at h
    · exact absurd h (by simp)
    · next l0 e0 =>
      split at h
      · next hk =>
        have := Option.some.inj h
        subst this
        exact (ih l0 e0).snoc hk.1
      · exact absurd h (by simp)
theorem ob_lem : ∀ b, b < 128 → ∀ p, p < 7 → bitAt b p = 0 → (nI b ||| (nI 1 <<< (nI p &&& 31))) = nI (b ||| 2 ^ p) ∧ b ||| 2 ^ p < 128 ∧ popc (b ||| 2 ^ p) = popc b + 1 ∧ ∀ q, q < 7 → bitAt (b ||| 2 ^ p) q = if q = p then 1 else bitAt b q := by decide +kernel
/-- the bits of what came -/
def BMS (bm : Nat) (l : List Nat) : Prop := bm < 128 ∧ popc bm = l.length ∧ ∀ q, q < 7 → bitAt bm q = if q ∈ l then 1 else 0
theorem BMS.go {bm : Nat} {l : List Nat} {a : Nat} (h : BMS bm l) (ha : a < 7) (hn : bitAt bm a = 0) : BMS (bm ||| 2 ^ a) (l ++ [a]) ∧ a ∉ l ∧ l.length < 7 := by
  obtain ⟨h1, h2, h3⟩ := h
  obtain ⟨e1, e2, e3, e4⟩ := ob_lem bm h1 a ha hn
  have hnl : a ∉ l := fun hm => by
    have := h3 a ha
    rw [if_pos hm] at this
    omega
  have hp := popc_le _ e2
  refine ⟨⟨e2, by rw [List.length_append, e3, h2]; rfl, fun q hq => ?_⟩, hnl, by omega⟩
  rw [e4 q hq, h3 q hq]
  by_cases hqa : q = a
  · rw [if_pos hqa, if_pos (by rw [hqa]; simp)]
  · rw [if_neg hqa]
    by_cases hql : q ∈ l
    · rw [if_pos hql, if_pos (List.mem_append_left _ hql)]
    · rw [if_neg hql, if_neg (by simp [hql, hqa])]
theorem SF.tf2 {μ μ1 : Mem} (h : SF μ μ1) : ∀ k, k < 31 → μ1 k = μ k := fun k hk => h.1 k (Or.inl hk)
theorem c_X7_takesOrder (v vk : View) (tc : Nat) (P : Nat → Nat → List Nat) (μ : Mem) (hX : XW μ v vk tc P) (zs : Nat → Int32) (zn : Nat → Nat) (zi : Nat → Nat → Int32) (hz : ZA μ zs zn zi) (s : Nat) (hs : s < 4) : CA eI yX7_takesOrder cX7_takesOrder 5 (some .boolean) 1 [.ref 0, .int (nI s)] μ (fun r μ1 => ((r = nI 1 ∧ ∃ l, tkO (v 0 3) (zi s) (zn s) = some l ∧ OR μ1 l) ∨ (r = nI 0 ∧ tkO (v 0 3) (zi s) (zn s) = none)) ∧ SF μ μ1) := by
  have hc := hX.cw
  have hv := hc.2.1
  have hsb : SB 1 := Or.inl rfl
  have hvb := hc.2.1.vb
  have hn7 := hvb.1
  have hsp := hX.2.2.2.2.2.2.1
  have h127 := chs_lo 127 (v 0 3)
  have hsh := shS s hs
  have h40 := (hz.1 s hs).2.2
  refine CT.of false (by decide) (by decide) (L := [some (.ref 0), some (.int (nI s)), none, none, none]) rfl (Nat.le_of_ble_eq_true rfl) ?_
  refine g_iconst (pc := 0) (v := (nI 0)) dX7_takesOrder_0 (by decide) ?_
  refine a_ist2 (pc := 1) dX7_takesOrder_1 (by decide) rfl ?_
  refine g_aload_n (pc := 2) dX7_takesOrder_2 rfl ?_
  refine a_getr (pc := 3) (q := 35) fl_X7_41 dX7_takesOrder_3 (by first | rfl | assumption) rfl rfl ?_
  refine a_cv0v (pc := 6) (c_X0_clear μ) m_X0_clear ml_X7_256 (by omega) (by first | rfl | assumption) rfl rfl (Nat.le_of_ble_eq_true rfl) dX7_takesOrder_6 (fun x_6 μ_6 h_6 => ?_)
  have hm_6 := (show μ_6 = _ from h_6).symm
  subst hm_6
  refine g_iconst (pc := 9) (v := (nI 0)) dX7_takesOrder_9 (by decide) ?_
  refine a_ist3 (pc := 10) dX7_takesOrder_10 (by decide) rfl ?_
  have lp11 : ∀ (zz : Nat) (i : Nat) (hi : i ≤ zn s) (l : List Nat) (hl : tkO (v 0 3) (zi s) i = some l) (bm : Nat) (hb : BMS bm l) (ν : Mem) (hν : OR ν l ∧ SF μ ν) (l4 : Option Value), zn s - i = zz → WG eI yX7_takesOrder.cls cX7_takesOrder 5 (some .boolean) false (fun _ _ => True) 1 (mpost (fun r μ1 => ((r = nI 1 ∧ ∃ l, tkO (v 0 3) (zi s) (zn s) = some l ∧ OR μ1 l) ∨ (r = nI 0 ∧ tkO (v 0 3) (zi s) (zn s) = none)) ∧ SF μ μ1)) 0 0 11 [some (.ref 0), some (.int (nI s)), some (.int (nI bm)), some (.int (nI i)), l4] [] (mk ν) := by
    intro zz
    induction zz using Nat.strongRecOn with
    | ind zz ih =>
      intro i hi l hl bm hb ν hν l4 hzz
      have d := hc.moved hν.2.tf2 hν.2.2.1
      refine g_iload_n (pc := 11) dX7_takesOrder_11 rfl ?_
      refine g_aload_n (pc := 12) dX7_takesOrder_12 rfl ?_
      refine a_getr (pc := 13) (q := 49) fl_X7_57 dX7_takesOrder_13 (by first | rfl | assumption) rfl rfl ?_
      refine a_getr (pc := 16) (q := 51) fl_X7_200 dX7_takesOrder_16 (by first | rfl | assumption) rfl rfl ?_
      refine g_iload_n (pc := 19) dX7_takesOrder_19 rfl ?_
      refine v_iald (pc := 20) dX7_takesOrder_20 (by first | rfl | assumption) rfl (by omega) ((congrFun (hν.2.1 51 (by omega)) s).trans (hz.1 s hs).2.1) ?_
      refine g_icmp_ge (pc := 21) (tgt := 82) dX7_takesOrder_21 (by decide) (fun c_21 => ?_) (fun c_21 => ?_)
      · have c21 := nI_le' (by omega) (by omega) c_21
        obtain rfl : i = zn s := by omega
        refine g_iconst (pc := 82) (v := (nI 1)) dX7_takesOrder_82 (by decide) ?_
        refine g_ireturn (pc := 83) dX7_takesOrder_83 rfl (by first | rfl | decide) rfl ⟨_, rfl, ?_⟩
        exact ⟨Or.inl ⟨rfl, l, hl, hν.1⟩, hν.2⟩
      · have c21 := nI_gt' (by omega) (by omega) c_21
        obtain ⟨g, hg⟩ : ∃ g, zi s i = g := ⟨_, rfl⟩
        refine g_aload_n (pc := 24) dX7_takesOrder_24 rfl ?_
        refine a_getr (pc := 25) (q := 49) fl_X7_57 dX7_takesOrder_25 (by first | rfl | assumption) rfl rfl ?_
        refine a_getr (pc := 28) (q := 52) fl_X7_211 dX7_takesOrder_28 (by first | rfl | assumption) rfl rfl ?_
        refine g_iload_n (pc := 31) dX7_takesOrder_31 rfl ?_
        refine v_aald (pc := 32) dX7_takesOrder_32 (by first | rfl | assumption) rfl (by omega) (show 52 + 1 + s = 53 + s by omega) ?_
        refine g_iload_n (pc := 33) dX7_takesOrder_33 rfl ?_
        refine v_iald (pc := 34) dX7_takesOrder_34 (by first | rfl | assumption) rfl (by omega) ((congrFun (hν.2.1 (53 + s) (by omega)) i).trans ((hz.2 s hs i c21).trans hg)) ?_
        refine a_ist4 (pc := 35) dX7_takesOrder_35 (by decide) rfl ?_
        refine g_aload_n (pc := 37) dX7_takesOrder_37 rfl ?_
        refine a_getr (pc := 38) (q := 1) fl_X7_10 dX7_takesOrder_38 (by first | rfl | assumption) rfl rfl ?_
        refine g_iload (pc := 41) dX7_takesOrder_41 rfl ?_
        refine a_cv1i (pc := 43) (c_X5_has 1 hsb v ν d.2.1 g) m_X5_has ml_X7_109 (by omega) (by first | rfl | assumption) rfl rfl (Nat.le_of_ble_eq_true rfl) dX7_takesOrder_43 (fun x_43 μ_43 h_43 => ?_)
        obtain ⟨hm_43, hd_43⟩ := h_43
        have hm_43 := hm_43.symm
        subst hm_43
        rw [has_nx (by omega)] at hd_43
        refine g_if_eq (pc := 46) (tgt := 58) dX7_takesOrder_46 (by decide) (fun c_46 => ?_) (fun c_46 => ?_)
        · have c46 := (hd_43.resolve_left (fun q => absurd (q.1.symm.trans c_46) (by decide))).2
          have hno : tkO (v 0 3) (zi s) (zn s) = none := tkO_no hl (fun h => c46 (hg ▸ h.1)) _ c21
          refine g_iconst (pc := 58) (v := (nI 0)) dX7_takesOrder_58 (by decide) ?_
          refine g_ireturn (pc := 59) dX7_takesOrder_59 rfl (by first | rfl | decide) rfl ⟨_, rfl, ?_⟩
          exact ⟨Or.inr ⟨rfl, hno⟩, hν.2⟩
        · have c46 := (hd_43.resolve_right (fun q => c_46 q.1)).2
          have e_a := nx_lt c46 (by omega)
          generalize j_a : nx g = a at e_a c46
          subst e_a
          refine g_iload_n (pc := 49) dX7_takesOrder_49 rfl ?_
          refine g_iload (pc := 50) dX7_takesOrder_50 rfl ?_
          refine v_ishr (pc := 52) dX7_takesOrder_52 rfl ?_
          refine g_iconst (pc := 53) (v := (nI 1)) dX7_takesOrder_53 (by decide) ?_
          refine v_iand (pc := 54) dX7_takesOrder_54 (bit_lem bm hb.1 a (by omega)) ?_
          refine g_if_eq (pc := 55) (tgt := 60) dX7_takesOrder_55 (by decide) (fun c_55 => ?_) (fun c_55 => ?_)
          · have hb0 : bitAt bm a = 0 := by
              have h1 := bit_le bm a
              rcases Nat.lt_or_ge 0 (bitAt bm a) with h | h
              · rw [show bitAt bm a = 1 by omega] at c_55
                exact absurd c_55 (by decide)
              · omega
            obtain ⟨hb2, hnl, hl7⟩ := hb.go (show a < 7 by omega) hb0
            have hl2 := tkO_go hl (show nx (zi s i) = a by rw [hg]; exact j_a) c46 hnl
            refine g_iload_n (pc := 60) dX7_takesOrder_60 rfl ?_
            refine g_iconst (pc := 61) (v := (nI 1)) dX7_takesOrder_61 (by decide) ?_
            refine g_iload (pc := 62) dX7_takesOrder_62 rfl ?_
            refine v_ishl (pc := 64) dX7_takesOrder_64 rfl ?_
            refine v_ior (pc := 65) dX7_takesOrder_65 (ob_lem bm hb.1 a (by omega) hb0).1 ?_
            refine a_ist2 (pc := 66) dX7_takesOrder_66 (by decide) rfl ?_
            refine g_aload_n (pc := 67) dX7_takesOrder_67 rfl ?_
            refine a_getr (pc := 68) (q := 35) fl_X7_41 dX7_takesOrder_68 (by first | rfl | assumption) rfl rfl ?_
            refine g_iload (pc := 71) dX7_takesOrder_71 rfl ?_
            refine a_cv1v (pc := 73) (c_X0_append ν l a hl7 hν.1) m_X0_append ml_X7_259 (by omega) (by first | rfl | assumption) rfl rfl (Nat.le_of_ble_eq_true rfl) dX7_takesOrder_73 (fun x_73 μ_73 h_73 => ?_)
            have hm := (show μ_73 = _ from h_73).symm
            subst hm
            have hnx : OR (mset (mset ν 35 2 (nI (l.length + 1))) 36 l.length (nI a)) (l ++ [a]) ∧ SF μ (mset (mset ν 35 2 (nI (l.length + 1))) 36 l.length (nI a)) := by
              refine ⟨hν.1.snoc hl7, fun c hc => ?_, ?_, ?_⟩
              · rw [mset_ne (by omega), mset_ne (by omega)]
                exact hν.2.1 c hc
              · rw [mset_ne (by omega), mset_ne (by omega)]
                exact hν.2.2.1
              · rw [mset_ne (by omega), mset_nj (by omega)]
                exact hν.2.2.2
            refine a_iinc3 (pc := 76) dX7_takesOrder_76 (inc1 i) (by decide) rfl ?_
            refine g_goto (pc := 79) (tgt := 11) dX7_takesOrder_79 (by decide) ?_
            exact ih (zn s - (i + 1)) (by omega) (i + 1) (by omega) _ hl2 _ hb2 _ hnx _ rfl
          · have hno : tkO (v 0 3) (zi s) (zn s) = none := tkO_no hl (fun h => by
              have h2 := h.2
              rw [show nx (zi s i) = a by rw [hg]; exact j_a] at h2
              have h3 := hb.2.2 a (by omega)
              rw [if_neg h2] at h3
              rw [h3] at c_55
              exact c_55 rfl) _ c21
            refine g_iconst (pc := 58) (v := (nI 0)) dX7_takesOrder_58 (by decide) ?_
            refine g_ireturn (pc := 59) dX7_takesOrder_59 rfl (by first | rfl | decide) rfl ⟨_, rfl, ?_⟩
            exact ⟨Or.inr ⟨rfl, hno⟩, hν.2⟩
  exact lp11 _ 0 (Nat.zero_le _) [] rfl 0 ⟨by decide, by decide, fun q hq => by rw [if_neg (by simp)]; revert q; decide⟩ _ ⟨⟨mset_eq, Nat.zero_le 7, fun j x h => by simp at h⟩, fun c hc => mset_ne (by omega), congrFun (mset_ne (by omega)) 0, mset_nj (by omega)⟩ _ rfl
/-- order()'s answer -/
def ordV (v : View) (Q : Nat → List Nat) (zs : Nat → Int32) (zn : Nat → Nat) (zi : Nat → Nat → Int32) (s w : Int32) : Int32 := if nx s < 4 ∧ okW (v 0 3) w then (if zs (nx s) = -1 then -11 else match tkO (v 0 3) (zi (nx s)) (zn (nx s)) with
  | none => -2
  | some l => ansV v (stF v Q 9 l l.length) (stM v Q 9 l) l (nx w)) else -2
theorem c_X7_order (v vk : View) (tc : Nat) (P : Nat → Nat → List Nat) (μ : Mem) (hX : XW μ v vk tc P) (zs : Nat → Int32) (zn : Nat → Nat) (zi : Nat → Nat → Int32) (hz : ZA μ zs zn zi) (s w : Int32) : CA eI yX7_order cX7_order 3 (some .int) 5 [.ref 0, .int s, .int w] μ (fun r μ1 => r = ordV v (P (v 0 2)) zs zn zi s w ∧ TF μ μ1) := by
  have hc := hX.cw
  have hv := hc.2.1
  have hsb : SB 1 := Or.inl rfl
  have hvb := hc.2.1.vb
  have hn7 := hvb.1
  have hsp := hX.2.2.2.2.2.2.1
  have h127 := chs_lo 127 (v 0 3)
  refine CT.of false (by decide) (by decide) (L := [some (.ref 0), some (.int s), some (.int w)]) rfl (Nat.le_of_ble_eq_true rfl) ?_
  refine g_aload_n (pc := 0) dX7_order_0 rfl ?_
  refine a_getr (pc := 1) (q := 49) fl_X7_57 dX7_order_1 (by first | rfl | assumption) rfl rfl ?_
  refine g_iload_n (pc := 4) dX7_order_4 rfl ?_
  refine a_cv1i (pc := 5) (c_X4_has μ s) m_X4_has ml_X7_158 (by omega) (by first | rfl | assumption) rfl rfl (Nat.le_of_ble_eq_true rfl) dX7_order_5 (fun x_5 μ_5 h_5 => ?_)
  obtain ⟨hm_5, hd_5⟩ := h_5
  have hm_5 := hm_5.symm
  subst hm_5
  rw [has_nx (by omega)] at hd_5
  refine g_if_eq (pc := 8) (tgt := 19) dX7_order_8 (by decide) (fun c_8 => ?_) (fun c_8 => ?_)
  · have c8 := (hd_5.resolve_left (fun q => absurd (q.1.symm.trans c_8) (by decide))).2
    have hno : ¬ (nx s < 4 ∧ okW (v 0 3) w) := fun h => c8 h.1
    refine g_bipush (pc := 19) (v := (-2)) dX7_order_19 (by decide) ?_
    refine g_ireturn (pc := 21) dX7_order_21 rfl (by first | rfl | decide) rfl ⟨_, rfl, ?_⟩
    refine ⟨?_, TF.refl μ⟩
    unfold ordV
    rw [if_neg hno]
  · have c8 := (hd_5.resolve_right (fun q => c_8 q.1)).2
    refine g_aload_n (pc := 11) dX7_order_11 rfl ?_
    refine g_iload_n (pc := 12) dX7_order_12 rfl ?_
    refine a_cv1i (pc := 13) (c_X7_isOfOrder v vk tc P μ hX w) m_X7_isOfOrder ml_X7_151 (by omega) (by first | rfl | assumption) rfl rfl (Nat.le_of_ble_eq_true rfl) dX7_order_13 (fun x_13 μ_13 h_13 => ?_)
    obtain ⟨hm_13, hd_13⟩ := h_13
    have hm_13 := hm_13.symm
    subst hm_13
    refine g_if_ne (pc := 16) (tgt := 22) dX7_order_16 (by decide) (fun c_16 => ?_) (fun c_16 => ?_)
    · have c16 := (hd_13.resolve_right (fun q => c_16 q.1)).2
      have hyes : nx s < 4 ∧ okW (v 0 3) w := ⟨c8, c16⟩
      unfold okW at c16
      have e_a := nx_lt c8 (by omega)
      generalize j_a : nx s = a at e_a c8 hyes
      subst e_a
      have e_j := nx_lt (x := w) (n := 30) (by omega) (by decide)
      generalize j_j : nx w = j at e_j c16
      subst e_j
      have h40 := (hz.1 a c8).2.2
      refine g_aload_n (pc := 22) dX7_order_22 rfl ?_
      refine a_getr (pc := 23) (q := 49) fl_X7_57 dX7_order_23 (by first | rfl | assumption) rfl rfl ?_
      refine g_iload_n (pc := 26) dX7_order_26 rfl ?_
      refine a_cv1i (pc := 27) (c_X4_isMissing μ zs zn hz.1 a c8) m_X4_isMissing ml_X7_159 (by omega) (by first | rfl | assumption) rfl rfl (Nat.le_of_ble_eq_true rfl) dX7_order_27 (fun x_27 μ_27 h_27 => ?_)
      obtain ⟨hm_27, hd_27⟩ := h_27
      have hm_27 := hm_27.symm
      subst hm_27
      refine g_if_eq (pc := 30) (tgt := 36) dX7_order_30 (by decide) (fun c_30 => ?_) (fun c_30 => ?_)
      · have c30 := (hd_27.resolve_left (fun q => absurd (q.1.symm.trans c_30) (by decide))).2
        refine g_aload_n (pc := 36) dX7_order_36 rfl ?_
        refine g_iload_n (pc := 37) dX7_order_37 rfl ?_
        refine a_cv1i (pc := 38) (c_X7_takesOrder v vk tc P μ hX zs zn zi hz a c8) m_X7_takesOrder ml_X7_162 (by omega) (by first | rfl | assumption) rfl rfl (Nat.le_of_ble_eq_true rfl) dX7_order_38 (fun x_38 μ_38 h_38 => ?_)
        obtain ⟨d38, f38⟩ := h_38
        have c38 := hc.moved f38.tf2 f38.2.1
        refine g_if_ne (pc := 41) (tgt := 47) dX7_order_41 (by decide) (fun c_41 => ?_) (fun c_41 => ?_)
        · obtain ⟨l, hl, ho⟩ : ∃ l, tkO (v 0 3) (zi a) (zn a) = some l ∧ OR μ_38 l := by
            rcases d38 with ⟨-, h⟩ | ⟨h, -⟩
            · exact h
            · exact absurd h c_41
          have hlo := tkO_lo _ _ hl
          refine g_aload_n (pc := 47) dX7_order_47 rfl ?_
          refine a_getr (pc := 48) (q := 35) fl_X7_41 dX7_order_48 (by first | rfl | assumption) rfl rfl ?_
          refine g_aload_n (pc := 51) dX7_order_51 rfl ?_
          refine a_getr (pc := 52) (q := 1) fl_X7_10 dX7_order_52 (by first | rfl | assumption) rfl rfl ?_
          refine a_cv1v (pc := 55) (c_X0_run 1 hsb v (P (v 0 2)) μ_38 c38.2.1 c38.2.2.1 9 (Or.inl ⟨f38.2.2.trans hsp, rfl⟩) _ ho hlo c38.2.2.2) m_X0_run ml_X7_117 (by omega) (by first | rfl | assumption) rfl rfl (Nat.le_of_ble_eq_true rfl) dX7_order_55 (fun x_55 μ_55 h_55 => ?_)
          obtain ⟨c55, o55, f55, w55, p55, r55⟩ := CW.ran c38 ho hlo h_55
          refine g_aload_n (pc := 58) dX7_order_58 rfl ?_
          refine a_getr (pc := 59) (q := 35) fl_X7_41 dX7_order_59 (by first | rfl | assumption) rfl rfl ?_
          refine g_aload_n (pc := 62) dX7_order_62 rfl ?_
          refine a_getr (pc := 63) (q := 1) fl_X7_10 dX7_order_63 (by first | rfl | assumption) rfl rfl ?_
          refine g_iload_n (pc := 66) dX7_order_66 rfl ?_
          refine a_cv2i (pc := 67) (c_X0_answer 1 hsb v μ_55 c55.2.1 _ o55 _ r55 (stM v (P (v 0 2)) 9 l) (fun j hj => (h_55.2.1 j hj).2) (hlo.le hn7) j (by omega) (by omega)) m_X0_answer ml_X7_154 (by omega) (by first | rfl | assumption) rfl rfl (Nat.le_of_ble_eq_true rfl) dX7_order_67 (fun x_67 μ_67 h_67 => ?_)
          obtain ⟨rfl, hm_67⟩ := h_67
          have hm_67 := hm_67.symm
          subst hm_67
          refine g_ireturn (pc := 70) dX7_order_70 rfl (by first | rfl | decide) rfl ⟨_, rfl, ?_⟩
          refine ⟨?_, (f38.trans f55).tf⟩
          unfold ordV
          rw [j_a, if_pos hyes, if_neg c30, hl, j_j]
        · have hl : tkO (v 0 3) (zi a) (zn a) = none := by
            rcases d38 with ⟨h, -⟩ | ⟨-, h⟩
            · rw [h] at c_41
              exact absurd c_41 (by decide)
            · exact h
          refine g_bipush (pc := 44) (v := (-2)) dX7_order_44 (by decide) ?_
          refine g_ireturn (pc := 46) dX7_order_46 rfl (by first | rfl | decide) rfl ⟨_, rfl, ?_⟩
          refine ⟨?_, f38.tf⟩
          unfold ordV
          rw [j_a, if_pos hyes, if_neg c30, hl]
      · have c30 := (hd_27.resolve_right (fun q => c_30 q.1)).2
        refine g_bipush (pc := 33) (v := (-11)) dX7_order_33 (by decide) ?_
        refine g_ireturn (pc := 35) dX7_order_35 rfl (by first | rfl | decide) rfl ⟨_, rfl, ?_⟩
        refine ⟨?_, TF.refl μ⟩
        unfold ordV
        rw [j_a, if_pos hyes, if_pos c30]
    · have c16 := (hd_13.resolve_left (fun q => absurd (q.1.symm.trans c_16) (by decide))).2
      have hno : ¬ (nx s < 4 ∧ okW (v 0 3) w) := fun h => c16 h.2
      refine g_bipush (pc := 19) (v := (-2)) dX7_order_19 (by decide) ?_
      refine g_ireturn (pc := 21) dX7_order_21 rfl (by first | rfl | decide) rfl ⟨_, rfl, ?_⟩
      refine ⟨?_, TF.refl μ⟩
      unfold ordV
      rw [if_neg hno]
def enV (v : View) (Q : Nat → List Nat) (w : Int32) : Int32 := if nx w ≤ 9999 then (feS v Q (nx w) (2 ^ v 0 3)).1 else -2
def howV (v : View) (Q : Nat → List Nat) (w : Int32) : Int32 := if nx w ≤ 3 then (if nx w % 2 = 0 then (seS v Q (if nx w < 2 then 1 else 0) (moW (if nx w < 2 then 1 else 0) + 1)).1 else nI (seS v Q (if nx w < 2 then 1 else 0) (moW (if nx w < 2 then 1 else 0) + 1)).2) else -2
theorem c_X7_enough (v vk : View) (tc : Nat) (P : Nat → Nat → List Nat) (μ : Mem) (hX : XW μ v vk tc P) (w : Int32) : CA eI yX7_enough cX7_enough 2 (some .int) 6 [.ref 0, .int w] μ (fun r μ1 => r = enV v (P (v 0 2)) w ∧ TF μ μ1) := by
  have hc := hX.cw
  have hv := hc.2.1
  have hsb : SB 1 := Or.inl rfl
  have hvb := hc.2.1.vb
  have hn7 := hvb.1
  have hsp := hX.2.2.2.2.2.2.1
  have h127 := chs_lo 127 (v 0 3)
  refine CT.of false (by decide) (by decide) (L := [some (.ref 0), some (.int w)]) rfl (Nat.le_of_ble_eq_true rfl) ?_
  refine g_iload_n (pc := 0) dX7_enough_0 rfl ?_
  refine g_if_lt (pc := 1) (tgt := 11) dX7_enough_1 (by decide) (fun c_1 => ?_) (fun c_1 => ?_)
  · have hno : ¬ nx w ≤ 9999 := by
      rw [nx_neg c_1]
      decide
    refine g_bipush (pc := 11) (v := (-2)) dX7_enough_11 (by decide) ?_
    refine g_ireturn (pc := 13) dX7_enough_13 rfl (by first | rfl | decide) rfl ⟨_, rfl, ?_⟩
    refine ⟨?_, TF.refl μ⟩
    unfold enV
    rw [if_neg hno]
  · obtain ⟨hwe, hwb⟩ := nx_of c_1
    generalize hj : nx w = j at hwe hwb
    subst hwe
    refine g_iload_n (pc := 4) dX7_enough_4 rfl ?_
    refine g_sipush (pc := 5) (v := (nI 9999)) dX7_enough_5 (by decide) ?_
    refine g_icmp_le (pc := 8) (tgt := 14) dX7_enough_8 (by decide) (fun c_8 => ?_) (fun c_8 => ?_)
    · have c6 := nI_le' (by omega) (by omega) c_8
      refine g_aload_n (pc := 14) dX7_enough_14 rfl ?_
      refine a_getr (pc := 15) (q := 48) fl_X7_50 dX7_enough_15 (by first | rfl | assumption) rfl rfl ?_
      refine g_aload_n (pc := 18) dX7_enough_18 rfl ?_
      refine a_getr (pc := 19) (q := 1) fl_X7_10 dX7_enough_19 (by first | rfl | assumption) rfl rfl ?_
      refine g_iload_n (pc := 22) dX7_enough_22 rfl ?_
      refine a_cv2i (pc := 23) (c_X3_fewest 1 v (P (v 0 2)) μ hc hsp j (by omega)) m_X3_fewest ml_X7_197 (by omega) (by first | rfl | assumption) rfl rfl (Nat.le_of_ble_eq_true rfl) dX7_enough_23 (fun x_23 μ_23 h_23 => ?_)
      obtain ⟨rfl, f9⟩ := h_23
      refine g_ireturn (pc := 26) dX7_enough_26 rfl (by first | rfl | decide) rfl ⟨_, rfl, ?_⟩
      refine ⟨?_, f9.tf⟩
      unfold enV
      rw [hj, if_pos c6]
    · have c6 := nI_gt' (by omega) (by omega) c_8
      have hno : ¬ nx (nI j) ≤ 9999 := by
        rw [hj]
        omega
      refine g_bipush (pc := 11) (v := (-2)) dX7_enough_11 (by decide) ?_
      refine g_ireturn (pc := 13) dX7_enough_13 rfl (by first | rfl | decide) rfl ⟨_, rfl, ?_⟩
      refine ⟨?_, TF.refl μ⟩
      unfold enV
      rw [if_neg hno]
theorem c_X7_how (v vk : View) (tc : Nat) (P : Nat → Nat → List Nat) (μ : Mem) (hX : XW μ v vk tc P) (w : Int32) : CA eI yX7_how cX7_how 2 (some .int) 6 [.ref 0, .int w] μ (fun r μ1 => r = howV v (P (v 0 2)) w ∧ TF μ μ1) := by
  have hc := hX.cw
  have hv := hc.2.1
  have hsb : SB 1 := Or.inl rfl
  have hvb := hc.2.1.vb
  have hn7 := hvb.1
  have hsp := hX.2.2.2.2.2.2.1
  have h127 := chs_lo 127 (v 0 3)
  refine CT.of false (by decide) (by decide) (L := [some (.ref 0), some (.int w)]) rfl (Nat.le_of_ble_eq_true rfl) ?_
  refine g_iload_n (pc := 0) dX7_how_0 rfl ?_
  refine g_if_lt (pc := 1) (tgt := 9) dX7_how_1 (by decide) (fun c_1 => ?_) (fun c_1 => ?_)
  · have hno : ¬ nx w ≤ 3 := by
      rw [nx_neg c_1]
      decide
    refine g_bipush (pc := 9) (v := (-2)) dX7_how_9 (by decide) ?_
    refine g_ireturn (pc := 11) dX7_how_11 rfl (by first | rfl | decide) rfl ⟨_, rfl, ?_⟩
    refine ⟨?_, TF.refl μ⟩
    unfold howV
    rw [if_neg hno]
  · obtain ⟨hwe, hwb⟩ := nx_of c_1
    generalize hj : nx w = j at hwe hwb
    subst hwe
    refine g_iload_n (pc := 4) dX7_how_4 rfl ?_
    refine g_iconst (pc := 5) (v := (nI 3)) dX7_how_5 (by decide) ?_
    refine g_icmp_le (pc := 6) (tgt := 12) dX7_how_6 (by decide) (fun c_6 => ?_) (fun c_6 => ?_)
    · have c6 := nI_le' (by omega) (by omega) c_6
      refine g_aload_n (pc := 12) dX7_how_12 rfl ?_
      refine a_getr (pc := 13) (q := 48) fl_X7_50 dX7_how_13 (by first | rfl | assumption) rfl rfl ?_
      refine g_aload_n (pc := 16) dX7_how_16 rfl ?_
      refine a_getr (pc := 17) (q := 1) fl_X7_10 dX7_how_17 (by first | rfl | assumption) rfl rfl ?_
      refine g_iload_n (pc := 20) dX7_how_20 rfl ?_
      refine g_iconst (pc := 21) (v := (nI 2)) dX7_how_21 (by decide) ?_
      refine g_icmp_ge (pc := 22) (tgt := 29) dX7_how_22 (by decide) (fun c_22 => ?_) (fun c_22 => ?_)
      · have cj : ¬ j < 2 := Nat.not_lt.mpr (nI_le' (by omega) (by omega) c_22)
        refine g_iconst (pc := 29) (v := (nI 0)) dX7_how_29 (by decide) ?_
        refine a_cv2v (pc := 30) (c_X3_setting 1 hsb (by decide) v (P (v 0 2)) μ hv hc.2.2.1 hc.2.2.2 hsp _ (by decide)) m_X3_setting ml_X7_194 (by omega) (by first | rfl | assumption) rfl rfl (Nat.le_of_ble_eq_true rfl) dX7_how_30 (fun x_30 μ_30 h_30 => ?_)
        obtain ⟨s9, f9⟩ := h_30
        refine g_iload_n (pc := 33) dX7_how_33 rfl ?_
        refine g_iconst (pc := 34) (v := (nI 2)) dX7_how_34 (by decide) ?_
        refine v_irem (pc := 35) dX7_how_35 (by decide) (pk_rem (by omega) (by decide) (by decide)) ?_
        refine g_if_ne (pc := 36) (tgt := 49) dX7_how_36 (by decide) (fun c_36 => ?_) (fun c_36 => ?_)
        · have cq : ¬ j % 2 = 0 := fun h => c_36 (by rw [h]; rfl)
          refine g_aload_n (pc := 49) dX7_how_49 rfl ?_
          refine a_getr (pc := 50) (q := 48) fl_X7_50 dX7_how_50 (by first | rfl | assumption) rfl rfl ?_
          refine v_geti (pc := 53) fl_X7_168 dX7_how_53 (by first | rfl | assumption) rfl s9.2.1 ?_
          refine g_ireturn (pc := 56) dX7_how_56 rfl (by first | rfl | decide) rfl ⟨_, rfl, ?_⟩
          refine ⟨?_, f9⟩
          unfold howV
          rw [hj, if_pos c6]
          first | rw [if_pos cj] | rw [if_neg cj]
          first | rw [if_pos cq] | rw [if_neg cq]
        · have cq : j % 2 = 0 := nI_eq' (b := 0) (by omega) (by omega) c_36
          refine g_aload_n (pc := 39) dX7_how_39 rfl ?_
          refine a_getr (pc := 40) (q := 48) fl_X7_50 dX7_how_40 (by first | rfl | assumption) rfl rfl ?_
          refine v_geti (pc := 43) fl_X7_171 dX7_how_43 (by first | rfl | assumption) rfl s9.1 ?_
          refine g_goto (pc := 46) (tgt := 56) dX7_how_46 (by decide) ?_
          refine g_ireturn (pc := 56) dX7_how_56 rfl (by first | rfl | decide) rfl ⟨_, rfl, ?_⟩
          refine ⟨?_, f9⟩
          unfold howV
          rw [hj, if_pos c6]
          first | rw [if_pos cj] | rw [if_neg cj]
          first | rw [if_pos cq] | rw [if_neg cq]
      · have cj : j < 2 := nI_gt' (by omega) (by omega) c_22
        refine g_iconst (pc := 25) (v := (nI 1)) dX7_how_25 (by decide) ?_
        refine g_goto (pc := 26) (tgt := 30) dX7_how_26 (by decide) ?_
        refine a_cv2v (pc := 30) (c_X3_setting 1 hsb (by decide) v (P (v 0 2)) μ hv hc.2.2.1 hc.2.2.2 hsp _ (by decide)) m_X3_setting ml_X7_194 (by omega) (by first | rfl | assumption) rfl rfl (Nat.le_of_ble_eq_true rfl) dX7_how_30 (fun x_30 μ_30 h_30 => ?_)
        obtain ⟨s9, f9⟩ := h_30
        refine g_iload_n (pc := 33) dX7_how_33 rfl ?_
        refine g_iconst (pc := 34) (v := (nI 2)) dX7_how_34 (by decide) ?_
        refine v_irem (pc := 35) dX7_how_35 (by decide) (pk_rem (by omega) (by decide) (by decide)) ?_
        refine g_if_ne (pc := 36) (tgt := 49) dX7_how_36 (by decide) (fun c_36 => ?_) (fun c_36 => ?_)
        · have cq : ¬ j % 2 = 0 := fun h => c_36 (by rw [h]; rfl)
          refine g_aload_n (pc := 49) dX7_how_49 rfl ?_
          refine a_getr (pc := 50) (q := 48) fl_X7_50 dX7_how_50 (by first | rfl | assumption) rfl rfl ?_
          refine v_geti (pc := 53) fl_X7_168 dX7_how_53 (by first | rfl | assumption) rfl s9.2.1 ?_
          refine g_ireturn (pc := 56) dX7_how_56 rfl (by first | rfl | decide) rfl ⟨_, rfl, ?_⟩
          refine ⟨?_, f9⟩
          unfold howV
          rw [hj, if_pos c6]
          first | rw [if_pos cj] | rw [if_neg cj]
          first | rw [if_pos cq] | rw [if_neg cq]
        · have cq : j % 2 = 0 := nI_eq' (b := 0) (by omega) (by omega) c_36
          refine g_aload_n (pc := 39) dX7_how_39 rfl ?_
          refine a_getr (pc := 40) (q := 48) fl_X7_50 dX7_how_40 (by first | rfl | assumption) rfl rfl ?_
          refine v_geti (pc := 43) fl_X7_171 dX7_how_43 (by first | rfl | assumption) rfl s9.1 ?_
          refine g_goto (pc := 46) (tgt := 56) dX7_how_46 (by decide) ?_
          refine g_ireturn (pc := 56) dX7_how_56 rfl (by first | rfl | decide) rfl ⟨_, rfl, ?_⟩
          refine ⟨?_, f9⟩
          unfold howV
          rw [hj, if_pos c6]
          first | rw [if_pos cj] | rw [if_neg cj]
          first | rw [if_pos cq] | rw [if_neg cq]
    · have c6 := nI_gt' (by omega) (by omega) c_6
      have hno : ¬ nx (nI j) ≤ 3 := by
        rw [hj]
        omega
      refine g_bipush (pc := 9) (v := (-2)) dX7_how_9 (by decide) ?_
      refine g_ireturn (pc := 11) dX7_how_11 rfl (by first | rfl | decide) rfl ⟨_, rfl, ?_⟩
      refine ⟨?_, TF.refl μ⟩
      unfold howV
      rw [if_neg hno]
/-- the tape -/
def TP (μ : Mem) (tn : Nat) (tp : Nat → Nat) : Prop := μ 33 1 = nI tn ∧ tn ≤ 160 ∧ ∀ j, j < tn → μ 34 j = nI (tp j) ∧ tp j ≤ 255
theorem TP.moved {μ μ1 : Mem} {tn : Nat} {tp : Nat → Nat} (h : TP μ tn tp) (h1 : μ1 33 = μ 33) (h2 : μ1 34 = μ 34) : TP μ1 tn tp := ⟨by rw [h1]; exact h.1, h.2.1, fun j hj => by rw [h2]; exact h.2.2 j hj⟩
theorem TP.put {μ : Mem} {tn : Nat} {tp : Nat → Nat} (h : TP μ tn tp) (hn : tn < 160) {a : Nat} (ha : a ≤ 255) : TP (mset (mset μ 33 1 (nI (tn + 1))) 34 tn (nI a)) (tn + 1) (updN tp tn a) := by
  refine ⟨?_, by omega, fun j hj => ?_⟩
  · rw [mset_ne (by omega), mset_eq]
  · by_cases hjn : j = tn
    · subst hjn
      rw [mset_eq, updN_eq]
      exact ⟨rfl, ha⟩
    · rw [mset_nj hjn, updN_ne _ _ hjn, mset_ne (by omega)]
      exact h.2.2 j (by omega)
theorem c_X2_takeIn (μ : Mem) (tn : Nat) (tp : Nat → Nat) (ht : TP μ tn tp) (a : Nat) : CA eI yX2_takeIn cX2_takeIn 2 (some .boolean) 0 [.ref 33, .int (nI a)] μ (fun r μ1 => (tn = 160 ∧ r = nI 0 ∧ μ1 = μ) ∨ (tn < 160 ∧ r = nI 1 ∧ μ1 = mset (mset μ 33 1 (nI (tn + 1))) 34 tn (nI a))) := by
  obtain ⟨t1, t2, t3⟩ := ht
  refine CT.of false (by decide) (by decide) (L := [some (.ref 33), some (.int (nI a))]) rfl (Nat.le_of_ble_eq_true rfl) ?_
  refine g_aload_n (pc := 0) dX2_takeIn_0 rfl ?_
  refine v_geti (pc := 1) fl_X2_15 dX2_takeIn_1 (by first | rfl | assumption) rfl t1 ?_
  refine g_sipush (pc := 4) (v := (nI 160)) dX2_takeIn_4 (by decide) ?_
  refine g_icmp_lt (pc := 7) (tgt := 12) dX2_takeIn_7 (by decide) (fun c_7 => ?_) (fun c_7 => ?_)
  · have c7 := nI_lt' (by omega) (by omega) c_7
    refine g_aload_n (pc := 12) dX2_takeIn_12 rfl ?_
    refine a_getr (pc := 13) (q := 34) fl_X2_9 dX2_takeIn_13 (by first | rfl | assumption) rfl rfl ?_
    refine g_aload_n (pc := 16) dX2_takeIn_16 rfl ?_
    refine g_dup (pc := 17) dX2_takeIn_17 rfl ?_
    refine v_geti (pc := 18) fl_X2_15 dX2_takeIn_18 (by first | rfl | assumption) rfl t1 ?_
    refine g_dup_x1 (pc := 21) dX2_takeIn_21 rfl rfl ?_
    refine g_iconst (pc := 22) (v := (nI 1)) dX2_takeIn_22 (by decide) ?_
    refine v_iadd (pc := 23) dX2_takeIn_23 (nI_succ tn).symm ?_
    refine a_puti (pc := 24) fw_X2_15 dX2_takeIn_24 (by first | rfl | assumption) rfl ?_
    refine g_iload_n (pc := 27) dX2_takeIn_27 rfl ?_
    refine a_iast (pc := 28) dX2_takeIn_28 (by first | rfl | assumption) rfl (by omega) ?_
    refine g_iconst (pc := 29) (v := (nI 1)) dX2_takeIn_29 (by decide) ?_
    refine g_ireturn (pc := 30) dX2_takeIn_30 rfl (by first | rfl | decide) rfl ⟨_, rfl, ?_⟩
    exact Or.inr ⟨c7, rfl, rfl⟩
  · have c7 := nI_ge' (by omega) (by omega) c_7
    refine g_iconst (pc := 10) (v := (nI 0)) dX2_takeIn_10 (by decide) ?_
    refine g_ireturn (pc := 11) dX2_takeIn_11 rfl (by first | rfl | decide) rfl ⟨_, rfl, ?_⟩
    exact Or.inl ⟨by omega, rfl, rfl⟩
theorem c_X7_feed (μ : Mem) (tn : Nat) (tp : Nat → Nat) (ht : TP μ tn tp) (w : Int32) : CA eI yX7_feed cX7_feed 2 (some .int) 1 [.ref 0, .int w] μ (fun r μ1 => (¬ nx w ≤ 255 ∧ r = -2 ∧ μ1 = μ) ∨ (nx w ≤ 255 ∧ tn = 160 ∧ r = -4 ∧ μ1 = μ) ∨ (nx w ≤ 255 ∧ tn < 160 ∧ r = nI (tn + 1) ∧ μ1 = mset (mset μ 33 1 (nI (tn + 1))) 34 tn (nI (nx w)))) := by
  refine CT.of false (by decide) (by decide) (L := [some (.ref 0), some (.int w)]) rfl (Nat.le_of_ble_eq_true rfl) ?_
  refine g_iload_n (pc := 0) dX7_feed_0 rfl ?_
  refine g_if_lt (pc := 1) (tgt := 11) dX7_feed_1 (by decide) (fun c_1 => ?_) (fun c_1 => ?_)
  · have hno : ¬ nx w ≤ 255 := by
      rw [nx_neg c_1]
      decide
    refine g_bipush (pc := 11) (v := (-2)) dX7_feed_11 (by decide) ?_
    refine g_ireturn (pc := 13) dX7_feed_13 rfl (by first | rfl | decide) rfl ⟨_, rfl, ?_⟩
    exact Or.inl ⟨by first | exact hno | omega, rfl, rfl⟩
  · obtain ⟨hwe, hwb⟩ := nx_of c_1
    generalize hj : nx w = j at hwe hwb
    subst hwe
    refine g_iload_n (pc := 4) dX7_feed_4 rfl ?_
    refine g_sipush (pc := 5) (v := (nI 255)) dX7_feed_5 (by decide) ?_
    refine g_icmp_le (pc := 8) (tgt := 14) dX7_feed_8 (by decide) (fun c_8 => ?_) (fun c_8 => ?_)
    · have c6 := nI_le' (by omega) (by omega) c_8
      refine g_aload_n (pc := 14) dX7_feed_14 rfl ?_
      refine a_getr (pc := 15) (q := 33) fl_X7_32 dX7_feed_15 (by first | rfl | assumption) rfl rfl ?_
      refine g_iload_n (pc := 18) dX7_feed_18 rfl ?_
      refine a_cv1i (pc := 19) (c_X2_takeIn μ tn tp ht j) m_X2_takeIn ml_X7_130 (by omega) (by first | rfl | assumption) rfl rfl (Nat.le_of_ble_eq_true rfl) dX7_feed_19 (fun x_19 μ_19 h_19 => ?_)
      have hd := (show _ ∨ _ from h_19)
      refine g_if_eq (pc := 22) (tgt := 35) dX7_feed_22 (by decide) (fun c_22 => ?_) (fun c_22 => ?_)
      · have hd := hd.resolve_right (fun h => by
          rw [h.2.1] at c_22
          exact absurd c_22 (by decide))
        obtain ⟨e1, -, hm⟩ := hd
        have hm := hm.symm
        subst hm
        refine g_bipush (pc := 35) (v := (-4)) dX7_feed_35 (by decide) ?_
        refine g_ireturn (pc := 37) dX7_feed_37 rfl (by first | rfl | decide) rfl ⟨_, rfl, ?_⟩
        first | exact Or.inr (Or.inl ⟨c6, e1, rfl, rfl⟩) | exact Or.inr (Or.inr ⟨c6, e1, rfl, rfl⟩)
      · have hd := hd.resolve_left (fun h => c_22 h.2.1)
        obtain ⟨e1, -, hm⟩ := hd
        have hm := hm.symm
        subst hm
        refine g_aload_n (pc := 25) dX7_feed_25 rfl ?_
        refine a_getr (pc := 26) (q := 33) fl_X7_32 dX7_feed_26 (by first | rfl | assumption) rfl rfl ?_
        refine v_geti (pc := 29) fl_X7_133 dX7_feed_29 (by first | rfl | assumption) rfl ((congrFun (mset_ne (by omega)) 1).trans mset_eq) ?_
        refine g_goto (pc := 32) (tgt := 37) dX7_feed_32 (by decide) ?_
        refine g_ireturn (pc := 37) dX7_feed_37 rfl (by first | rfl | decide) rfl ⟨_, rfl, ?_⟩
        first | exact Or.inr (Or.inl ⟨c6, e1, rfl, rfl⟩) | exact Or.inr (Or.inr ⟨c6, e1, rfl, rfl⟩)
    · have c6 := nI_gt' (by omega) (by omega) c_8
      have hno : ¬ nx (nI j) ≤ 255 := by
        rw [hj]
        omega
      refine g_bipush (pc := 11) (v := (-2)) dX7_feed_11 (by decide) ?_
      refine g_ireturn (pc := 13) dX7_feed_13 rfl (by first | rfl | decide) rfl ⟨_, rfl, ?_⟩
      exact Or.inl ⟨by first | exact hno | omega, rfl, rfl⟩
