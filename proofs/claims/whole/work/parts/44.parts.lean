/-! ===== the class: parts, the iron, sheets ===== -/
theorem has_nx {x : Int32} {n : Nat} (hn : n ≤ 1000000) : (∃ p, p < n ∧ x = nI p) ↔ nx x < n := by
  constructor
  · intro ⟨p, h1, h2⟩
    rw [h2, nx_nI (by omega)]
    exact h1
  · intro h
    exact ⟨_, h, nx_lt h hn⟩
def updN {α : Type} (f : Nat → α) (j : Nat) (x : α) : Nat → α := fun i => if i = j then x else f i
theorem updN_eq {α : Type} (f : Nat → α) (j : Nat) (x : α) : updN f j x j = x := if_pos rfl
theorem updN_ne {α : Type} (f : Nat → α) {j i : Nat} (x : α) (h : i ≠ j) : updN f j x i = f i := if_neg h
/-- the most that may be set -/
def moA (w : Nat) : Nat := if w = 0 then 9 else if w = 1 then 99 else if w = 2 then 9 else if w = 3 then 99 else if w = 4 then 127 else 5
theorem moA_le (w : Nat) : moA w ≤ 127 := by
  unfold moA
  repeat (first | omega | split)
theorem moA_s : ∀ w, w < 6 → s_V 0 w = nI (moA w) := by decide
theorem nI_inv {a b : Nat} (h : nI a = nI b) (ha : a < 2 ^ 31) (hb : b < 2 ^ 31) : a = b := nI_eq' ha hb h
/-- one number of a shirt is set: ahead of its parts -/
theorem SV.set0 {μ : Mem} {sb : Nat} {v : View} {j x : Nat} (h : SV μ sb v) (hj : j < 3) (h0 : j = 0 → x ≤ 9) (h1 : j = 1 → x ≤ 99) (h2 : j = 2 → x ≤ 5) : SV (mset μ sb j (nI x)) sb (vset v 0 j x) := by
  obtain ⟨⟨e0, b0⟩, ⟨e1, b1⟩, ⟨e2, b2⟩, ⟨e3, b3⟩, hp⟩ := h
  have hk : ∀ i, i < 3 → mset μ sb j (nI x) sb i = nI (vset v 0 j x 0 i) ∧ (i = 0 → vset v 0 j x 0 i ≤ 9) ∧ (i = 1 → vset v 0 j x 0 i ≤ 99) ∧ (i = 2 → vset v 0 j x 0 i ≤ 5) := by
    intro i hi
    by_cases hij : i = j
    · subst hij
      rw [mset_eq, vset_eq]
      exact ⟨rfl, h0, h1, h2⟩
    · rw [mset_nj hij, vset_ne (by omega)]
      rcases (show i = 0 ∨ i = 1 ∨ i = 2 by omega) with rfl | rfl | rfl
      · exact ⟨e0, fun _ => b0, fun h => by omega, fun h => by omega⟩
      · exact ⟨e1, fun h => by omega, fun _ => b1, fun h => by omega⟩
      · exact ⟨e2, fun h => by omega, fun h => by omega, fun _ => b2⟩
  have hn : vset v 0 j x 0 3 = v 0 3 := vset_ne (by omega)
  refine ⟨⟨(hk 0 (by omega)).1, (hk 0 (by omega)).2.1 rfl⟩, ⟨(hk 1 (by omega)).1, (hk 1 (by omega)).2.2.1 rfl⟩, ⟨(hk 2 (by omega)).1, (hk 2 (by omega)).2.2.2 rfl⟩, ?_, fun p hpn => ?_⟩
  · rw [hn, mset_nj (by omega)]
    exact ⟨e3, b3⟩
  · rw [hn] at hpn
    rw [vset_ne (by omega), vset_ne (by omega), vset_ne (by omega), vset_ne (by omega), mset_ne (by omega), mset_ne (by omega), mset_ne (by omega), mset_ne (by omega)]
    exact hp p hpn
/-- a number of a part -/
theorem SV.setR {μ : Mem} {sb : Nat} {v : View} {a p x : Nat} (h : SV μ sb v) (ha : 1 ≤ a ∧ a ≤ 4) (h1 : a = 1 → x ≤ 5) (h2 : a = 2 → x ≤ 9) (h3 : a = 3 → x ≤ 99) (h4 : a = 4 → x ≤ 127) : SV (mset μ (sb + a) p (nI x)) sb (vset v a p x) := by
  obtain ⟨⟨e0, b0⟩, ⟨e1, b1⟩, ⟨e2, b2⟩, ⟨e3, b3⟩, hp⟩ := h
  have hz : ∀ j, vset v a p x 0 j = v 0 j := fun j => vset_ne (by omega)
  have hm : mset μ (sb + a) p (nI x) sb = μ sb := mset_ne (by omega)
  refine ⟨by rw [hz, hm]; exact ⟨e0, b0⟩, by rw [hz, hm]; exact ⟨e1, b1⟩, by rw [hz, hm]; exact ⟨e2, b2⟩, by rw [hz, hm]; exact ⟨e3, b3⟩, fun q hq => ?_⟩
  rw [hz] at hq
  obtain ⟨q1, q2, q3, q4⟩ := hp q hq
  have hk : ∀ i B, 1 ≤ i → i ≤ 4 → (a = i → x ≤ B) → (μ (sb + i) q = nI (v i q) ∧ v i q ≤ B) → mset μ (sb + a) p (nI x) (sb + i) q = nI (vset v a p x i q) ∧ vset v a p x i q ≤ B := by
    intro i B hi1 hi4 hB ho
    by_cases hi : i = a
    · subst hi
      by_cases hqp : q = p
      · subst hqp
        rw [mset_eq, vset_eq]
        exact ⟨rfl, hB rfl⟩
      · rw [mset_nj hqp, vset_ne (by omega)]
        exact ho
    · rw [mset_ne (by omega), vset_ne (by omega)]
      exact ho
  exact ⟨hk 1 5 (by omega) (by omega) h1 q1, hk 2 9 (by omega) (by omega) h2 q2, hk 3 99 (by omega) (by omega) h3 q3, hk 4 127 (by omega) (by omega) h4 q4⟩
/-- what set() and the like set -/
abbrev setV (v : View) (w p x : Nat) : View := vset v (vS w p).1 (vS w p).2 x
theorem SV.setA {μ : Mem} {sb : Nat} {v : View} {w p x : Nat} (h : SV μ sb v) (hw : (w ≤ 1 ∨ w = 10) ∨ (2 ≤ w ∧ w ≤ 5)) (hx : x ≤ moA w) : SV (mset μ (sb + (vS w p).1) (vS w p).2 (nI x)) sb (setV v w p x) := by
  rcases (show w = 0 ∨ w = 1 ∨ w = 10 ∨ w = 2 ∨ w = 3 ∨ w = 4 ∨ w = 5 by omega) with rfl | rfl | rfl | rfl | rfl | rfl | rfl
  · exact h.set0 (j := 0) (by omega) (fun _ => hx) (fun q => absurd q (by decide)) (fun q => absurd q (by decide))
  · exact h.set0 (j := 1) (by omega) (fun q => absurd q (by decide)) (fun _ => hx) (fun q => absurd q (by decide))
  · exact h.set0 (j := 2) (by omega) (fun q => absurd q (by decide)) (fun q => absurd q (by decide)) (fun _ => hx)
  · exact h.setR (a := 2) (p := p) (by omega) (fun q => absurd q (by decide)) (fun _ => hx) (fun q => absurd q (by decide)) (fun q => absurd q (by decide))
  · exact h.setR (a := 3) (p := p) (by omega) (fun q => absurd q (by decide)) (fun q => absurd q (by decide)) (fun _ => hx) (fun q => absurd q (by decide))
  · exact h.setR (a := 4) (p := p) (by omega) (fun q => absurd q (by decide)) (fun q => absurd q (by decide)) (fun q => absurd q (by decide)) (fun _ => hx)
  · exact h.setR (a := 1) (p := p) (by omega) (fun _ => hx) (fun q => absurd q (by decide)) (fun q => absurd q (by decide)) (fun q => absurd q (by decide))
theorem vS_n {w : Nat} (hw : (w ≤ 1 ∨ w = 10) ∨ (2 ≤ w ∧ w ≤ 5)) (p : Nat) : ¬ (0 = (vS w p).1 ∧ 3 = (vS w p).2) := by
  rcases (show w = 0 ∨ w = 1 ∨ w = 10 ∨ w = 2 ∨ w = 3 ∨ w = 4 ∨ w = 5 by omega) with rfl | rfl | rfl | rfl | rfl | rfl | rfl
  · show ¬ (0 = 0 ∧ 3 = 0)
    omega
  · show ¬ (0 = 0 ∧ 3 = 1)
    omega
  · show ¬ (0 = 0 ∧ 3 = 2)
    omega
  · show ¬ (0 = 2 ∧ 3 = p)
    omega
  · show ¬ (0 = 3 ∧ 3 = p)
    omega
  · show ¬ (0 = 4 ∧ 3 = p)
    omega
  · show ¬ (0 = 1 ∧ 3 = p)
    omega
theorem setV_n {v : View} {w p x : Nat} (hw : (w ≤ 1 ∨ w = 10) ∨ (2 ≤ w ∧ w ≤ 5)) : setV v w p x 0 3 = v 0 3 := vset_ne (vS_n hw p)
/-- what a change of the shirt leaves as it is -/
def TN (μ μ1 : Mem) : Prop := (∀ c, c = 0 ∨ (5 < c ∧ c < 11) ∨ (15 < c ∧ c < 31) ∨ c = 33 ∨ c = 34 ∨ 48 < c → μ1 c = μ c) ∧ μ1 46 0 = μ 46 0 ∧ μ1 35 3 = μ 35 3
theorem TF.tn {μ μ1 : Mem} (h : TF μ μ1) : TN μ μ1 := ⟨fun c hc => h.1 c (by omega), h.2⟩
theorem TN.trans {μ μ1 μ2 : Mem} (h : TN μ μ1) (g : TN μ1 μ2) : TN μ μ2 := ⟨fun c hc => (g.1 c hc).trans (h.1 c hc), g.2.1.trans h.2.1, g.2.2.trans h.2.2⟩
theorem TN.refl (μ : Mem) : TN μ μ := ⟨fun _ _ => rfl, rfl, rfl⟩
theorem TF.refl (μ : Mem) : TF μ μ := ⟨fun _ _ => rfl, rfl, rfl⟩
theorem XW.tn {μ μ1 : Mem} {v v1 vk : View} {tc : Nat} {P : Nat → Nat → List Nat} (h : XW μ v vk tc P) (g : TN μ μ1) (g1 : SV μ1 1 v1) (g2 : v1 0 2 < tc) : XW μ1 v1 vk tc P := by
  obtain ⟨h1, h2, ⟨h3, h31, h32⟩, h4, h5, h6, h7, h8⟩ := h
  exact ⟨g1, h2.moved (fun k _ _ => g.1 k (by omega)), ⟨by rw [g.1 16 (by omega)]; exact h3, h31, h32⟩, fun t ht e he => ⟨(h4 t ht e he).1.moved (g.1 _ (by omega)) (g.1 _ (by omega)), (h4 t ht e he).2⟩, g2, h6, g.2.2.trans h7, g.2.1.trans h8⟩
theorem c_X7_isNoPart (v : View) (μ : Mem) (hv : SV μ 1 v) (w : Nat) (hw : w < 2 ^ 31) (o : Int32) : CA eI yX7_isNoPart cX7_isNoPart 3 (some .boolean) 1 [.ref 0, .int (nI w), .int o] μ (fun r μ1 => μ1 = μ ∧ ((r = nI 1 ∧ 1 < w ∧ ¬ nx o < v 0 3) ∨ (r = nI 0 ∧ ¬ (1 < w ∧ ¬ nx o < v 0 3)))) := by
  have hsb : SB 1 := Or.inl rfl
  have hn7 := hv.2.2.2.1.2
  refine CT.of false (by decide) (by decide) (L := [some (.ref 0), some (.int (nI w)), some (.int o)]) rfl (Nat.le_of_ble_eq_true rfl) ?_
  refine g_iload_n (pc := 0) dX7_isNoPart_0 rfl ?_
  refine g_iconst (pc := 1) (v := (nI 1)) dX7_isNoPart_1 (by decide) ?_
  refine g_icmp_le (pc := 2) (tgt := 20) dX7_isNoPart_2 (by decide) (fun c_2 => ?_) (fun c_2 => ?_)
  · have c2 := nI_le' (by omega) (by omega) c_2
    refine g_iconst (pc := 20) (v := (nI 0)) dX7_isNoPart_20 (by decide) ?_
    refine g_ireturn (pc := 21) dX7_isNoPart_21 rfl (by first | rfl | decide) rfl ⟨_, rfl, ?_⟩
    first | exact ⟨rfl, Or.inl ⟨rfl, c2, c13⟩⟩ | exact ⟨rfl, Or.inr ⟨rfl, fun ⟨a, b⟩ => by omega⟩⟩
  · have c2 := nI_gt' (by omega) (by omega) c_2
    refine g_aload_n (pc := 5) dX7_isNoPart_5 rfl ?_
    refine a_getr (pc := 6) (q := 1) fl_X7_10 dX7_isNoPart_6 (by first | rfl | assumption) rfl rfl ?_
    refine g_iload_n (pc := 9) dX7_isNoPart_9 rfl ?_
    refine a_cv1i (pc := 10) (c_X5_has 1 hsb v μ hv o) m_X5_has ml_X7_109 (by omega) (by first | rfl | assumption) rfl rfl (Nat.le_of_ble_eq_true rfl) dX7_isNoPart_10 (fun x_10 μ_10 h_10 => ?_)
    obtain ⟨hm_10, hd_10⟩ := h_10
    have hm_10 := hm_10.symm
    subst hm_10
    rw [has_nx (by omega)] at hd_10
    refine g_if_ne (pc := 13) (tgt := 20) dX7_isNoPart_13 (by decide) (fun c_13 => ?_) (fun c_13 => ?_)
    · have c13 := (hd_10.resolve_right (fun q => c_13 q.1)).2
      refine g_iconst (pc := 20) (v := (nI 0)) dX7_isNoPart_20 (by decide) ?_
      refine g_ireturn (pc := 21) dX7_isNoPart_21 rfl (by first | rfl | decide) rfl ⟨_, rfl, ?_⟩
      first | exact ⟨rfl, Or.inl ⟨rfl, c2, c13⟩⟩ | exact ⟨rfl, Or.inr ⟨rfl, fun ⟨a, b⟩ => by omega⟩⟩
    · have c13 := (hd_10.resolve_left (fun q => absurd (q.1.symm.trans c_13) (by decide))).2
      refine g_iconst (pc := 16) (v := (nI 1)) dX7_isNoPart_16 (by decide) ?_
      refine g_goto (pc := 17) (tgt := 21) dX7_isNoPart_17 (by decide) ?_
      refine g_ireturn (pc := 21) dX7_isNoPart_21 rfl (by first | rfl | decide) rfl ⟨_, rfl, ?_⟩
      first | exact ⟨rfl, Or.inl ⟨rfl, c2, c13⟩⟩ | exact ⟨rfl, Or.inr ⟨rfl, fun ⟨a, b⟩ => by omega⟩⟩
/-- what set() takes -/
abbrev setOK (v : View) (w p x : Int32) : Prop := nx w ≤ 4 ∧ (1 < nx w → nx p < v 0 3) ∧ nx x ≤ moA (nx w)
theorem c_X7_set (v : View) (μ : Mem) (hv : SV μ 1 v) (w p x : Int32) : CA eI yX7_set cX7_set 5 (some .int) 2 [.ref 0, .int w, .int p, .int x] μ (fun r μ1 => (¬ setOK v w p x ∧ r = -2 ∧ μ1 = μ) ∨ (setOK v w p x ∧ r = nI (v (vS (nx w) (nx p)).1 (vS (nx w) (nx p)).2) ∧ μ1 = mset μ (1 + (vS (nx w) (nx p)).1) (vS (nx w) (nx p)).2 (nI (nx x)))) := by
  have hsb : SB 1 := Or.inl rfl
  have hn7 := hv.2.2.2.1.2
  refine CT.of false (by decide) (by decide) (L := [some (.ref 0), some (.int w), some (.int p), some (.int x), none]) rfl (Nat.le_of_ble_eq_true rfl) ?_
  refine g_iload_n (pc := 0) dX7_set_0 rfl ?_
  refine g_if_lt (pc := 1) (tgt := 31) dX7_set_1 (by decide) (fun c_1 => ?_) (fun c_1 => ?_)
  · have hno : ¬ setOK v w p x := fun ⟨a, b, c⟩ => by
      have := nx_neg c_1
      omega
    refine g_bipush (pc := 31) (v := (-2)) dX7_set_31 (by decide) ?_
    refine g_ireturn (pc := 33) dX7_set_33 rfl (by first | rfl | decide) rfl ⟨_, rfl, ?_⟩
    first | exact Or.inl ⟨hno, rfl, rfl⟩ | exact Or.inr ⟨hok, rfl, rfl⟩
  · obtain ⟨e_j, b_j⟩ := nx_of c_1
    generalize j_j : nx w = j at e_j b_j
    subst e_j
    refine g_iload_n (pc := 4) dX7_set_4 rfl ?_
    refine g_iconst (pc := 5) (v := (nI 4)) dX7_set_5 (by decide) ?_
    refine g_icmp_gt (pc := 6) (tgt := 31) dX7_set_6 (by decide) (fun c_6 => ?_) (fun c_6 => ?_)
    · have c6 := nI_gt' (a := j) (b := 4) (by omega) (by omega) (Int32.not_le.mpr c_6)
      have hno : ¬ setOK v (nI j) p x := fun ⟨a, b, c⟩ => by omega
      refine g_bipush (pc := 31) (v := (-2)) dX7_set_31 (by decide) ?_
      refine g_ireturn (pc := 33) dX7_set_33 rfl (by first | rfl | decide) rfl ⟨_, rfl, ?_⟩
      first | exact Or.inl ⟨hno, rfl, rfl⟩ | exact Or.inr ⟨hok, rfl, rfl⟩
    · have c6 : j ≤ 4 := nI_le' (by omega) (by omega) (Int32.not_lt.mp c_6)
      refine g_aload_n (pc := 9) dX7_set_9 rfl ?_
      refine g_iload_n (pc := 10) dX7_set_10 rfl ?_
      refine g_iload_n (pc := 11) dX7_set_11 rfl ?_
      refine a_cv2i (pc := 12) (c_X7_isNoPart v μ hv j (by omega) p) m_X7_isNoPart ml_X7_61 (by omega) (by first | rfl | assumption) rfl rfl (Nat.le_of_ble_eq_true rfl) dX7_set_12 (fun x_12 μ_12 h_12 => ?_)
      obtain ⟨hm_12, hd_12⟩ := h_12
      have hm_12 := hm_12.symm
      subst hm_12
      refine g_if_ne (pc := 15) (tgt := 31) dX7_set_15 (by decide) (fun c_15 => ?_) (fun c_15 => ?_)
      · have c15 := (hd_12.resolve_right (fun q => c_15 q.1)).2
        have hno : ¬ setOK v (nI j) p x := fun ⟨a, b, c⟩ => by
          rw [j_j] at b
          exact c15.2 (b c15.1)
        refine g_bipush (pc := 31) (v := (-2)) dX7_set_31 (by decide) ?_
        refine g_ireturn (pc := 33) dX7_set_33 rfl (by first | rfl | decide) rfl ⟨_, rfl, ?_⟩
        first | exact Or.inl ⟨hno, rfl, rfl⟩ | exact Or.inr ⟨hok, rfl, rfl⟩
      · have c15 := (hd_12.resolve_left (fun q => absurd (q.1.symm.trans c_15) (by decide))).2
        have cp : 1 < j → nx p < v 0 3 := fun h => Decidable.of_not_not (fun q => c15 ⟨h, q⟩)
        refine g_iload_n (pc := 18) dX7_set_18 rfl ?_
        refine g_if_lt (pc := 19) (tgt := 31) dX7_set_19 (by decide) (fun c_19 => ?_) (fun c_19 => ?_)
        · have hno : ¬ setOK v (nI j) p x := fun ⟨a, b, c⟩ => by
            have := nx_neg c_19
            have := moA_le (nx (nI j))
            omega
          refine g_bipush (pc := 31) (v := (-2)) dX7_set_31 (by decide) ?_
          refine g_ireturn (pc := 33) dX7_set_33 rfl (by first | rfl | decide) rfl ⟨_, rfl, ?_⟩
          first | exact Or.inl ⟨hno, rfl, rfl⟩ | exact Or.inr ⟨hok, rfl, rfl⟩
        · obtain ⟨e_k, b_k⟩ := nx_of c_19
          generalize j_k : nx x = k at e_k b_k
          subst e_k
          refine g_iload_n (pc := 22) dX7_set_22 rfl ?_
          refine g_gets (pc := 23) (i := 0) (by decide) sl_X7_65 dX7_set_23 ?_
          refine g_iload_n (pc := 26) dX7_set_26 rfl ?_
          refine v_sald (pc := 27) (i := 0) (by decide) rfl (by show j < 6; omega) dX7_set_27 (moA_s j (by omega)) ?_
          refine g_icmp_le (pc := 28) (tgt := 34) dX7_set_28 (by decide) (fun c_28 => ?_) (fun c_28 => ?_)
          · have c28 : k ≤ moA j := nI_le' (by omega) (by have := moA_le j; omega) c_28
            have hok : setOK v (nI j) p (nI k) := by
              refine ⟨?_, ?_, ?_⟩
              · rw [j_j]
                exact c6
              · rw [j_j]
                exact cp
              · rw [j_j, j_k]
                exact c28
            have hpw : j = 0 ∨ j = 1 ∨ j = 10 ∨ (2 ≤ j ∧ j ≤ 5 ∧ nx p < v 0 3 ∧ p = nI (nx p)) := by
              by_cases h1 : 1 < j
              · exact Or.inr (Or.inr (Or.inr ⟨h1, by omega, cp h1, nx_lt (cp h1) (by omega)⟩))
              · omega
            refine g_aload_n (pc := 34) dX7_set_34 rfl ?_
            refine a_getr (pc := 35) (q := 1) fl_X7_10 dX7_set_35 (by first | rfl | assumption) rfl rfl ?_
            refine g_iload_n (pc := 38) dX7_set_38 rfl ?_
            refine g_iload_n (pc := 39) dX7_set_39 rfl ?_
            refine a_cv2i (pc := 40) (c_X5_item 1 hsb v μ hv j (nx p) p (by omega) hpw) m_X5_item ml_X7_69 (by omega) (by first | rfl | assumption) rfl rfl (Nat.le_of_ble_eq_true rfl) dX7_set_40 (fun x_40 μ_40 h_40 => ?_)
            obtain ⟨rfl, hm_40⟩ := h_40
            have hm_40 := hm_40.symm
            subst hm_40
            refine a_ist4 (pc := 43) dX7_set_43 (by decide) rfl ?_
            refine g_aload_n (pc := 45) dX7_set_45 rfl ?_
            refine a_getr (pc := 46) (q := 1) fl_X7_10 dX7_set_46 (by first | rfl | assumption) rfl rfl ?_
            refine g_iload_n (pc := 49) dX7_set_49 rfl ?_
            refine g_iload_n (pc := 50) dX7_set_50 rfl ?_
            refine g_iload_n (pc := 51) dX7_set_51 rfl ?_
            refine a_cv3v (pc := 52) (c_X5_put 1 hsb v μ hv j (nx p) p (nI k) (by omega) hpw) m_X5_put ml_X7_73 (by omega) (by first | rfl | assumption) rfl rfl (Nat.le_of_ble_eq_true rfl) dX7_set_52 (fun x_52 μ_52 h_52 => ?_)
            have hm_52 := (show μ_52 = _ from h_52).symm
            subst hm_52
            refine g_iload (pc := 55) dX7_set_55 rfl ?_
            refine g_ireturn (pc := 57) dX7_set_57 rfl (by first | rfl | decide) rfl ⟨_, rfl, ?_⟩
            first | exact Or.inl ⟨hno, rfl, rfl⟩ | exact Or.inr ⟨hok, rfl, rfl⟩
          · have c28 := nI_gt' (by omega) (by have := moA_le j; omega) c_28
            have hno : ¬ setOK v (nI j) p (nI k) := fun ⟨a, b, c⟩ => by
              rw [j_j, j_k] at c
              omega
            refine g_bipush (pc := 31) (v := (-2)) dX7_set_31 (by decide) ?_
            refine g_ireturn (pc := 33) dX7_set_33 rfl (by first | rfl | decide) rfl ⟨_, rfl, ?_⟩
            first | exact Or.inl ⟨hno, rfl, rfl⟩ | exact Or.inr ⟨hok, rfl, rfl⟩
def addV (v : View) (k n : Nat) : View := fun a b => if a = 0 ∧ b = 3 then v 0 3 + 1 else if b = v 0 3 ∧ a = 1 then k else if b = v 0 3 ∧ a = 2 then n else if b = v 0 3 ∧ a = 3 then 50 else if b = v 0 3 ∧ a = 4 then 0 else v a b
theorem addV_0 (v : View) (k n : Nat) : addV v k n 0 0 = v 0 0 ∧ addV v k n 0 1 = v 0 1 ∧ addV v k n 0 2 = v 0 2 ∧ addV v k n 0 3 = v 0 3 + 1 := by
  unfold addV
  refine ⟨?_, ?_, ?_, ?_⟩
  · rw [if_neg (by omega), if_neg (by omega), if_neg (by omega), if_neg (by omega), if_neg (by omega)]
  · rw [if_neg (by omega), if_neg (by omega), if_neg (by omega), if_neg (by omega), if_neg (by omega)]
  · rw [if_neg (by omega), if_neg (by omega), if_neg (by omega), if_neg (by omega), if_neg (by omega)]
  · rw [if_pos ⟨rfl, rfl⟩]
theorem addV_new (v : View) (k n : Nat) : addV v k n 1 (v 0 3) = k ∧ addV v k n 2 (v 0 3) = n ∧ addV v k n 3 (v 0 3) = 50 ∧ addV v k n 4 (v 0 3) = 0 := by
  unfold addV
  refine ⟨?_, ?_, ?_, ?_⟩
  · rw [if_neg (by omega), if_pos (by omega)]
  · rw [if_neg (by omega), if_neg (by omega), if_pos (by omega)]
  · rw [if_neg (by omega), if_neg (by omega), if_neg (by omega), if_pos (by omega)]
  · rw [if_neg (by omega), if_neg (by omega), if_neg (by omega), if_neg (by omega), if_pos (by omega)]
theorem addV_old (v : View) (k n : Nat) {a b : Nat} (ha : 1 ≤ a) (hb : b ≠ v 0 3) : addV v k n a b = v a b := by
  unfold addV
  rw [if_neg (by omega), if_neg (by omega), if_neg (by omega), if_neg (by omega), if_neg (by omega)]
theorem SV.added {μ μ1 : Mem} {sb : Nat} {v : View} {k n : Nat} (h : SV μ sb v) (hk : k ≤ 5) (hn : n ≤ 9) (hc : v 0 3 < 7)
    (h1 : μ1 = mset (mset (mset (mset (mset μ (sb + 1) (v 0 3) (nI k)) (sb + 2) (v 0 3) (nI n)) (sb + 3) (v 0 3) (nI 50)) (sb + 4) (v 0 3) (nI 0)) sb 3 (nI (v 0 3 + 1))) : SV μ1 sb (addV v k n) := by
  obtain ⟨⟨e0, b0⟩, ⟨e1, b1⟩, ⟨e2, b2⟩, ⟨e3, b3⟩, hp⟩ := h
  obtain ⟨a0, a1, a2, a3⟩ := addV_0 v k n
  obtain ⟨n1, n2, n3, n4⟩ := addV_new v k n
  have m0 : ∀ j, j ≠ 3 → μ1 sb j = μ sb j := fun j hj => by rw [h1, mset_nj hj, mset_ne (by omega), mset_ne (by omega), mset_ne (by omega), mset_ne (by omega)]
  have m3 : μ1 sb 3 = nI (v 0 3 + 1) := by rw [h1, mset_eq]
  refine ⟨⟨by rw [a0, m0 0 (by omega)]; exact e0, by rw [a0]; exact b0⟩, ⟨by rw [a1, m0 1 (by omega)]; exact e1, by rw [a1]; exact b1⟩, ⟨by rw [a2, m0 2 (by omega)]; exact e2, by rw [a2]; exact b2⟩, ⟨by rw [a3, m3], by rw [a3]; omega⟩, fun p hpn => ?_⟩
  rw [a3] at hpn
  by_cases hpe : p = v 0 3
  · subst hpe
    rw [n1, n2, n3, n4, h1]
    refine ⟨⟨?_, hk⟩, ⟨?_, hn⟩, ⟨?_, by omega⟩, ⟨?_, by omega⟩⟩
    · rw [mset_ne (by omega), mset_ne (by omega), mset_ne (by omega), mset_ne (by omega), mset_eq]
    · rw [mset_ne (by omega), mset_ne (by omega), mset_ne (by omega), mset_eq]
    · rw [mset_ne (by omega), mset_ne (by omega), mset_eq]
    · rw [mset_ne (by omega), mset_eq]
  · obtain ⟨q1, q2, q3, q4⟩ := hp p (by omega)
    rw [addV_old v k n (by omega) hpe, addV_old v k n (by omega) hpe, addV_old v k n (by omega) hpe, addV_old v k n (by omega) hpe, h1]
    refine ⟨?_, ?_, ?_, ?_⟩
    · rw [mset_ne (by omega), mset_ne (by omega), mset_ne (by omega), mset_ne (by omega), mset_nj hpe]
      exact q1
    · rw [mset_ne (by omega), mset_ne (by omega), mset_ne (by omega), mset_nj hpe, mset_ne (by omega)]
      exact q2
    · rw [mset_ne (by omega), mset_ne (by omega), mset_nj hpe, mset_ne (by omega), mset_ne (by omega)]
      exact q3
    · rw [mset_ne (by omega), mset_nj hpe, mset_ne (by omega), mset_ne (by omega), mset_ne (by omega)]
      exact q4
theorem c_X5_add (v : View) (μ : Mem) (hv : SV μ 1 v) (k n : Nat) : CA eI yX5_add cX5_add 3 (some .boolean) 0 [.ref 1, .int (nI k), .int (nI n)] μ (fun r μ1 => (v 0 3 = 7 ∧ r = nI 0 ∧ μ1 = μ) ∨ (v 0 3 < 7 ∧ r = nI 1 ∧ μ1 = mset (mset (mset (mset (mset μ 2 (v 0 3) (nI k)) 3 (v 0 3) (nI n)) 4 (v 0 3) (nI 50)) 5 (v 0 3) (nI 0)) 1 3 (nI (v 0 3 + 1)))) := by
  have hsb : SB 1 := Or.inl rfl
  have hn7 := hv.2.2.2.1.2
  have e3 := hv.2.2.2.1.1
  refine CT.of false (by decide) (by decide) (L := [some (.ref 1), some (.int (nI k)), some (.int (nI n))]) rfl (Nat.le_of_ble_eq_true rfl) ?_
  refine g_aload_n (pc := 0) dX5_add_0 rfl ?_
  refine v_geti (pc := 1) fl_X5_31 dX5_add_1 (by first | rfl | assumption) rfl e3 ?_
  refine g_bipush (pc := 4) (v := (nI 7)) dX5_add_4 (by decide) ?_
  refine g_icmp_lt (pc := 6) (tgt := 11) dX5_add_6 (by decide) (fun c_6 => ?_) (fun c_6 => ?_)
  · have c6 : v 0 3 < 7 := nI_lt' (by omega) (by omega) c_6
    refine g_aload_n (pc := 11) dX5_add_11 rfl ?_
    refine a_getr (pc := 12) (q := 2) fl_X5_18 dX5_add_12 (by first | rfl | assumption) rfl rfl ?_
    refine g_aload_n (pc := 15) dX5_add_15 rfl ?_
    refine v_geti (pc := 16) fl_X5_31 dX5_add_16 (by first | rfl | assumption) rfl (by first | exact e3 | (rw [mset_ne (by omega)]; exact e3) | (rw [mset_ne (by omega), mset_ne (by omega)]; exact e3) | (rw [mset_ne (by omega), mset_ne (by omega), mset_ne (by omega)]; exact e3) | (rw [mset_ne (by omega), mset_ne (by omega), mset_ne (by omega), mset_ne (by omega)]; exact e3)) ?_
    refine g_iload_n (pc := 19) dX5_add_19 rfl ?_
    refine a_iast (pc := 20) dX5_add_20 (by first | rfl | assumption) rfl (by omega) ?_
    refine g_aload_n (pc := 21) dX5_add_21 rfl ?_
    refine a_getr (pc := 22) (q := 3) fl_X5_22 dX5_add_22 (by first | rfl | assumption) rfl rfl ?_
    refine g_aload_n (pc := 25) dX5_add_25 rfl ?_
    refine v_geti (pc := 26) fl_X5_31 dX5_add_26 (by first | rfl | assumption) rfl (by first | exact e3 | (rw [mset_ne (by omega)]; exact e3) | (rw [mset_ne (by omega), mset_ne (by omega)]; exact e3) | (rw [mset_ne (by omega), mset_ne (by omega), mset_ne (by omega)]; exact e3) | (rw [mset_ne (by omega), mset_ne (by omega), mset_ne (by omega), mset_ne (by omega)]; exact e3)) ?_
    refine g_iload_n (pc := 29) dX5_add_29 rfl ?_
    refine a_iast (pc := 30) dX5_add_30 (by first | rfl | assumption) rfl (by omega) ?_
    refine g_aload_n (pc := 31) dX5_add_31 rfl ?_
    refine a_getr (pc := 32) (q := 4) fl_X5_25 dX5_add_32 (by first | rfl | assumption) rfl rfl ?_
    refine g_aload_n (pc := 35) dX5_add_35 rfl ?_
    refine v_geti (pc := 36) fl_X5_31 dX5_add_36 (by first | rfl | assumption) rfl (by first | exact e3 | (rw [mset_ne (by omega)]; exact e3) | (rw [mset_ne (by omega), mset_ne (by omega)]; exact e3) | (rw [mset_ne (by omega), mset_ne (by omega), mset_ne (by omega)]; exact e3) | (rw [mset_ne (by omega), mset_ne (by omega), mset_ne (by omega), mset_ne (by omega)]; exact e3)) ?_
    refine g_bipush (pc := 39) (v := (nI 50)) dX5_add_39 (by decide) ?_
    refine a_iast (pc := 41) dX5_add_41 (by first | rfl | assumption) rfl (by omega) ?_
    refine g_aload_n (pc := 42) dX5_add_42 rfl ?_
    refine a_getr (pc := 43) (q := 5) fl_X5_28 dX5_add_43 (by first | rfl | assumption) rfl rfl ?_
    refine g_aload_n (pc := 46) dX5_add_46 rfl ?_
    refine v_geti (pc := 47) fl_X5_31 dX5_add_47 (by first | rfl | assumption) rfl (by first | exact e3 | (rw [mset_ne (by omega)]; exact e3) | (rw [mset_ne (by omega), mset_ne (by omega)]; exact e3) | (rw [mset_ne (by omega), mset_ne (by omega), mset_ne (by omega)]; exact e3) | (rw [mset_ne (by omega), mset_ne (by omega), mset_ne (by omega), mset_ne (by omega)]; exact e3)) ?_
    refine g_iconst (pc := 50) (v := (nI 0)) dX5_add_50 (by decide) ?_
    refine a_iast (pc := 51) dX5_add_51 (by first | rfl | assumption) rfl (by omega) ?_
    refine g_aload_n (pc := 52) dX5_add_52 rfl ?_
    refine g_dup (pc := 53) dX5_add_53 rfl ?_
    refine v_geti (pc := 54) fl_X5_31 dX5_add_54 (by first | rfl | assumption) rfl (by first | exact e3 | (rw [mset_ne (by omega)]; exact e3) | (rw [mset_ne (by omega), mset_ne (by omega)]; exact e3) | (rw [mset_ne (by omega), mset_ne (by omega), mset_ne (by omega)]; exact e3) | (rw [mset_ne (by omega), mset_ne (by omega), mset_ne (by omega), mset_ne (by omega)]; exact e3)) ?_
    refine g_iconst (pc := 57) (v := (nI 1)) dX5_add_57 (by decide) ?_
    refine v_iadd (pc := 58) dX5_add_58 (inc1 _) ?_
    refine a_puti (pc := 59) fw_X5_31 dX5_add_59 (by first | rfl | assumption) rfl ?_
    refine g_iconst (pc := 62) (v := (nI 1)) dX5_add_62 (by decide) ?_
    refine g_ireturn (pc := 63) dX5_add_63 rfl (by first | rfl | decide) rfl ⟨_, rfl, ?_⟩
    first | exact Or.inl ⟨by omega, rfl, rfl⟩ | exact Or.inr ⟨c6, rfl, rfl⟩
  · have c6 : 7 ≤ v 0 3 := nI_ge' (by omega) (by omega) c_6
    refine g_iconst (pc := 9) (v := (nI 0)) dX5_add_9 (by decide) ?_
    refine g_ireturn (pc := 10) dX5_add_10 rfl (by first | rfl | decide) rfl ⟨_, rfl, ?_⟩
    first | exact Or.inl ⟨by omega, rfl, rfl⟩ | exact Or.inr ⟨c6, rfl, rfl⟩
abbrev partOK (k n : Int32) : Prop := nx k ≤ 5 ∧ nx n ≤ 9
theorem c_X7_part (v : View) (μ : Mem) (hv : SV μ 1 v) (k n : Int32) : CA eI yX7_part cX7_part 3 (some .int) 1 [.ref 0, .int k, .int n] μ (fun r μ1 => (¬ partOK k n ∧ r = -2 ∧ μ1 = μ) ∨ (partOK k n ∧ v 0 3 = 7 ∧ r = -4 ∧ μ1 = μ) ∨ (partOK k n ∧ v 0 3 < 7 ∧ r = nI (v 0 3) ∧ SV μ1 1 (addV v (nx k) (nx n)) ∧ ∀ c, c = 0 ∨ 5 < c → μ1 c = μ c)) := by
  have hsb : SB 1 := Or.inl rfl
  have hn7 := hv.2.2.2.1.2
  refine CT.of false (by decide) (by decide) (L := [some (.ref 0), some (.int k), some (.int n)]) rfl (Nat.le_of_ble_eq_true rfl) ?_
  refine g_iload_n (pc := 0) dX7_part_0 rfl ?_
  refine g_if_lt (pc := 1) (tgt := 23) dX7_part_1 (by decide) (fun c_1 => ?_) (fun c_1 => ?_)
  · have hno : ¬ partOK k n := fun ⟨a, b⟩ => by
      have := nx_neg c_1
      omega
    refine g_bipush (pc := 23) (v := (-2)) dX7_part_23 (by decide) ?_
    refine g_ireturn (pc := 25) dX7_part_25 rfl (by first | rfl | decide) rfl ⟨_, rfl, ?_⟩
    first | exact Or.inl ⟨hno, rfl, rfl⟩ | exact Or.inr (Or.inl ⟨hok, c35.1, rfl, c35.2⟩) | exact Or.inr (Or.inr ⟨hok, c35.1, rfl, c35.2.1, c35.2.2⟩)
  · obtain ⟨e_j, b_j⟩ := nx_of c_1
    generalize j_j : nx k = j at e_j b_j
    subst e_j
    refine g_iload_n (pc := 4) dX7_part_4 rfl ?_
    refine g_bipush (pc := 5) (v := (nI 6)) dX7_part_5 (by decide) ?_
    refine g_icmp_ge (pc := 7) (tgt := 23) dX7_part_7 (by decide) (fun c_7 => ?_) (fun c_7 => ?_)
    · have c7 : 6 ≤ j := nI_le' (by omega) (by omega) c_7
      have hno : ¬ partOK (nI j) n := fun ⟨a, b⟩ => by omega
      refine g_bipush (pc := 23) (v := (-2)) dX7_part_23 (by decide) ?_
      refine g_ireturn (pc := 25) dX7_part_25 rfl (by first | rfl | decide) rfl ⟨_, rfl, ?_⟩
      first | exact Or.inl ⟨hno, rfl, rfl⟩ | exact Or.inr (Or.inl ⟨hok, c35.1, rfl, c35.2⟩) | exact Or.inr (Or.inr ⟨hok, c35.1, rfl, c35.2.1, c35.2.2⟩)
    · have c7 : j < 6 := nI_gt' (by omega) (by omega) c_7
      refine g_iload_n (pc := 10) dX7_part_10 rfl ?_
      refine g_if_lt (pc := 11) (tgt := 23) dX7_part_11 (by decide) (fun c_11 => ?_) (fun c_11 => ?_)
      · have hno : ¬ partOK (nI j) n := fun ⟨a, b⟩ => by
          have := nx_neg c_11
          omega
        refine g_bipush (pc := 23) (v := (-2)) dX7_part_23 (by decide) ?_
        refine g_ireturn (pc := 25) dX7_part_25 rfl (by first | rfl | decide) rfl ⟨_, rfl, ?_⟩
        first | exact Or.inl ⟨hno, rfl, rfl⟩ | exact Or.inr (Or.inl ⟨hok, c35.1, rfl, c35.2⟩) | exact Or.inr (Or.inr ⟨hok, c35.1, rfl, c35.2.1, c35.2.2⟩)
      · obtain ⟨e_m, b_m⟩ := nx_of c_11
        generalize j_m : nx n = m at e_m b_m
        subst e_m
        refine g_iload_n (pc := 14) dX7_part_14 rfl ?_
        refine g_gets (pc := 15) (i := 0) (by decide) sl_X7_65 dX7_part_15 ?_
        refine g_iconst (pc := 18) (v := (nI 2)) dX7_part_18 (by decide) ?_
        refine v_sald (pc := 19) (i := 0) (by decide) rfl (by show 2 < 6; omega) dX7_part_19 (moA_s 2 (by omega)) ?_
        refine g_icmp_le (pc := 20) (tgt := 26) dX7_part_20 (by decide) (fun c_20 => ?_) (fun c_20 => ?_)
        · have c20 : m ≤ 9 := nI_le' (by omega) (by decide) c_20
          have hok : partOK (nI j) (nI m) := by
            refine ⟨?_, ?_⟩
            · rw [j_j]
              omega
            · rw [j_m]
              exact c20
          refine g_aload_n (pc := 26) dX7_part_26 rfl ?_
          refine a_getr (pc := 27) (q := 1) fl_X7_10 dX7_part_27 (by first | rfl | assumption) rfl rfl ?_
          refine g_iload_n (pc := 30) dX7_part_30 rfl ?_
          refine g_iload_n (pc := 31) dX7_part_31 rfl ?_
          refine a_cv2i (pc := 32) (c_X5_add v μ hv j m) m_X5_add ml_X7_79 (by omega) (by first | rfl | assumption) rfl rfl (Nat.le_of_ble_eq_true rfl) dX7_part_32 (fun x_32 μ_32 h_32 => ?_)
          have h32 : (x_32 = nI 1 ∧ v 0 3 < 7 ∧ SV μ_32 1 (addV v j m) ∧ ∀ c, c = 0 ∨ 5 < c → μ_32 c = μ c) ∨ (x_32 = nI 0 ∧ v 0 3 = 7 ∧ μ_32 = μ) := by
            rcases h_32 with ⟨a, b, c⟩ | ⟨a, b, c⟩
            · exact Or.inr ⟨b, a, c⟩
            · refine Or.inl ⟨b, a, hv.added (by omega) c20 a c, fun i hi => ?_⟩
              rw [c, mset_ne (by omega), mset_ne (by omega), mset_ne (by omega), mset_ne (by omega), mset_ne (by omega)]
          refine g_if_eq (pc := 35) (tgt := 50) dX7_part_35 (by decide) (fun c_35 => ?_) (fun c_35 => ?_)
          · have c35 := (h32.resolve_left (fun q => absurd (q.1.symm.trans c_35) (by decide))).2
            refine g_bipush (pc := 50) (v := (-4)) dX7_part_50 (by decide) ?_
            refine g_ireturn (pc := 52) dX7_part_52 rfl (by first | rfl | decide) rfl ⟨_, rfl, ?_⟩
            first | exact Or.inl ⟨hno, rfl, rfl⟩ | exact Or.inr (Or.inl ⟨hok, c35.1, rfl, c35.2⟩) | exact Or.inr (Or.inr ⟨hok, c35.1, rfl, c35.2.1, c35.2.2⟩)
          · have c35 := (h32.resolve_right (fun q => c_35 q.1)).2
            refine g_aload_n (pc := 38) dX7_part_38 rfl ?_
            refine a_getr (pc := 39) (q := 1) fl_X7_10 dX7_part_39 (by first | rfl | assumption) rfl rfl ?_
            refine v_geti (pc := 42) fl_X7_82 dX7_part_42 (by first | rfl | assumption) rfl (c35.2.1.2.2.2.1.1.trans (by rw [(addV_0 v j m).2.2.2])) ?_
            refine g_iconst (pc := 45) (v := (nI 1)) dX7_part_45 (by decide) ?_
            refine v_isub (pc := 46) dX7_part_46 (pk_sub (by omega)) ?_
            refine g_goto (pc := 47) (tgt := 52) dX7_part_47 (by decide) ?_
            refine g_ireturn (pc := 52) dX7_part_52 rfl (by first | rfl | decide) rfl ⟨_, rfl, ?_⟩
            first | exact Or.inl ⟨hno, rfl, rfl⟩ | exact Or.inr (Or.inl ⟨hok, c35.1, rfl, c35.2⟩) | exact Or.inr (Or.inr ⟨hok, c35.1, rfl, c35.2.1, c35.2.2⟩)
        · have c20 : 9 < m := nI_gt' (by omega) (by decide) c_20
          have hno : ¬ partOK (nI j) (nI m) := fun ⟨a, b⟩ => by
            rw [j_m] at b
            omega
          refine g_bipush (pc := 23) (v := (-2)) dX7_part_23 (by decide) ?_
          refine g_ireturn (pc := 25) dX7_part_25 rfl (by first | rfl | decide) rfl ⟨_, rfl, ?_⟩
          first | exact Or.inl ⟨hno, rfl, rfl⟩ | exact Or.inr (Or.inl ⟨hok, c35.1, rfl, c35.2⟩) | exact Or.inr (Or.inr ⟨hok, c35.1, rfl, c35.2.1, c35.2.2⟩)
theorem c_X7_force (v vk : View) (tc : Nat) (P : Nat → Nat → List Nat) (μ : Mem) (hX : XW μ v vk tc P) (t : Int32) : CA eI yX7_force cX7_force 3 (some .int) 0 [.ref 0, .int t] μ (fun r μ1 => (¬ nx t < tc ∧ r = -2 ∧ μ1 = μ) ∨ (nx t < tc ∧ r = nI (v 0 2) ∧ μ1 = mset μ 1 2 (nI (nx t)))) := by
  have hc := hX.cw
  have hv := hc.2.1
  have hsb : SB 1 := Or.inl rfl
  have hvb := hc.2.1.vb
  have hn7 := hvb.1
  have hsp := hX.2.2.2.2.2.2.1
  have h127 := chs_lo 127 (v 0 3)
  obtain ⟨t1, t2, t3⟩ := hX.2.2.1
  refine CT.of false (by decide) (by decide) (L := [some (.ref 0), some (.int t), none]) rfl (Nat.le_of_ble_eq_true rfl) ?_
  refine g_iload_n (pc := 0) dX7_force_0 rfl ?_
  refine g_if_lt (pc := 1) (tgt := 15) dX7_force_1 (by decide) (fun c_1 => ?_) (fun c_1 => ?_)
  · have hno : ¬ nx t < tc := by
      have := nx_neg c_1
      omega
    refine g_bipush (pc := 15) (v := (-2)) dX7_force_15 (by decide) ?_
    refine g_ireturn (pc := 17) dX7_force_17 rfl (by first | rfl | decide) rfl ⟨_, rfl, ?_⟩
    first | exact Or.inl ⟨hno, rfl, rfl⟩ | exact Or.inr ⟨c12, rfl, rfl⟩
  · obtain ⟨e_j, b_j⟩ := nx_of c_1
    generalize j_j : nx t = j at e_j b_j
    subst e_j
    refine g_iload_n (pc := 4) dX7_force_4 rfl ?_
    refine g_aload_n (pc := 5) dX7_force_5 rfl ?_
    refine a_getr (pc := 6) (q := 16) fl_X7_25 dX7_force_6 (by first | rfl | assumption) rfl rfl ?_
    refine v_geti (pc := 9) fl_X7_136 dX7_force_9 (by first | rfl | assumption) rfl t1 ?_
    refine g_icmp_lt (pc := 12) (tgt := 18) dX7_force_12 (by decide) (fun c_12 => ?_) (fun c_12 => ?_)
    · have c12 : j < tc := nI_lt' (by omega) (by omega) c_12
      refine g_aload_n (pc := 18) dX7_force_18 rfl ?_
      refine a_getr (pc := 19) (q := 1) fl_X7_10 dX7_force_19 (by first | rfl | assumption) rfl rfl ?_
      refine v_geti (pc := 22) fl_X7_148 dX7_force_22 (by first | rfl | assumption) rfl hv.2.2.1.1 ?_
      refine a_ist2 (pc := 25) dX7_force_25 (by decide) rfl ?_
      refine g_aload_n (pc := 26) dX7_force_26 rfl ?_
      refine a_getr (pc := 27) (q := 1) fl_X7_10 dX7_force_27 (by first | rfl | assumption) rfl rfl ?_
      refine g_iload_n (pc := 30) dX7_force_30 rfl ?_
      refine a_puti (pc := 31) fw_X7_148 dX7_force_31 (by first | rfl | assumption) rfl ?_
      refine g_iload_n (pc := 34) dX7_force_34 rfl ?_
      refine g_ireturn (pc := 35) dX7_force_35 rfl (by first | rfl | decide) rfl ⟨_, rfl, ?_⟩
      first | exact Or.inl ⟨hno, rfl, rfl⟩ | exact Or.inr ⟨c12, rfl, rfl⟩
    · have c12 : tc ≤ j := nI_ge' (by omega) (by omega) c_12
      have hno : ¬ j < tc := by omega
      refine g_bipush (pc := 15) (v := (-2)) dX7_force_15 (by decide) ?_
      refine g_ireturn (pc := 17) dX7_force_17 rfl (by first | rfl | decide) rfl ⟨_, rfl, ?_⟩
      first | exact Or.inl ⟨hno, rfl, rfl⟩ | exact Or.inr ⟨c12, rfl, rfl⟩
