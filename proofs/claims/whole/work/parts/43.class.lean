/-! ===== the class: its world ===== -/
/-- an int as an index: one below 0 is beyond all -/
def nx (x : Int32) : Nat := if x < 0 then 1000000 else x.toNatClampNeg
theorem nx_nI {n : Nat} (h : n < 2 ^ 31) : nx (nI n) = n := by
  unfold nx
  rw [if_neg (nI_pos h), nI_clamp h]
theorem nx_lt {x : Int32} {n : Nat} (h : nx x < n) (hn : n ≤ 1000000) : x = nI (nx x) := by
  unfold nx at h ⊢
  split at h
  · omega
  · rename_i hx
    rw [if_neg hx]
    exact (nI_at hx).1
theorem nx_neg {x : Int32} (h : x < 0) : nx x = 1000000 := by
  unfold nx
  rw [if_pos h]
theorem nx_of {x : Int32} (h : ¬ x < 0) : x = nI (nx x) ∧ nx x < 2 ^ 31 := by
  unfold nx
  rw [if_neg h]
  exact nI_at h
/-- the class's world: its shirt v, the image vk, its tc texts by their steps P -/
def XW (μ : Mem) (v vk : View) (tc : Nat) (P : Nat → Nat → List Nat) : Prop :=
  SV μ 1 v ∧ SV μ 6 vk ∧ (μ 16 4 = nI tc ∧ 1 ≤ tc ∧ tc ≤ 6) ∧ (∀ t, t < tc → ∀ e, e < 3 → CodeOK μ t e (P t e) ∧ Pure1 (P t e)) ∧ v 0 2 < tc ∧ vk 0 2 < tc ∧ μ 35 3 = -1 ∧ μ 46 0 = nI 0
theorem XW.tf {μ μ1 : Mem} {v vk : View} {tc : Nat} {P : Nat → Nat → List Nat} (h : XW μ v vk tc P) (g : TF μ μ1) : XW μ1 v vk tc P := by
  obtain ⟨h1, h2, ⟨h3, h31, h32⟩, h4, h5, h6, h7, h8⟩ := h
  refine ⟨h1.moved (fun k _ _ => g.1 k (by omega)), h2.moved (fun k _ _ => g.1 k (by omega)), ⟨by rw [g.1 16 (by omega)]; exact h3, h31, h32⟩, fun t ht e he => ⟨(h4 t ht e he).1.moved (g.1 _ (by omega)) (g.1 _ (by omega)), (h4 t ht e he).2⟩, h5, h6, g.2.2.trans h7, g.2.1.trans h8⟩
theorem XW.cw {μ : Mem} {v vk : View} {tc : Nat} {P : Nat → Nat → List Nat} (h : XW μ v vk tc P) : CW μ 1 v (P (v 0 2)) := ⟨Or.inl rfl, h.1, fun e he => h.2.2.2.1 _ h.2.2.2.2.1 e he, h.2.2.2.2.2.2.2⟩
/-- what plain() and the like may be asked -/
abbrev okW (n : Nat) (w : Int32) : Prop := nx w = 0 ∨ nx w = 1 ∨ (10 ≤ nx w ∧ nx w ≤ 29 ∧ nx w % 10 < n)
theorem c_X7_isOfOrder (v vk : View) (tc : Nat) (P : Nat → Nat → List Nat) (μ : Mem) (hX : XW μ v vk tc P) (w : Int32) : CA eI yX7_isOfOrder cX7_isOfOrder 2 (some .boolean) 1 [.ref 0, .int w] μ (fun r μ1 => μ1 = μ ∧ ((r = nI 1 ∧ okW (v 0 3) w) ∨ (r = nI 0 ∧ ¬ okW (v 0 3) w))) := by
  have hc := hX.cw
  have hsb : SB 1 := Or.inl rfl
  have hvb := hc.2.1.vb
  have hn7 := hvb.1
  have hsp := hX.2.2.2.2.2.2.1
  have h127 := chs_lo 127 (v 0 3)
  refine CT.of false (by decide) (by decide) (L := [some (.ref 0), some (.int w)]) rfl (Nat.le_of_ble_eq_true rfl) ?_
  refine g_iload_n (pc := 0) dX7_isOfOrder_0 rfl ?_
  refine g_if_eq (pc := 1) (tgt := 35) dX7_isOfOrder_1 (by decide) (fun c_1 => ?_) (fun c_1 => ?_)
  · have hok : okW (v 0 3) w := Or.inl (by rw [c_1]; decide)
    refine g_iconst (pc := 35) (v := (nI 1)) dX7_isOfOrder_35 (by decide) ?_
    refine g_goto (pc := 36) (tgt := 40) dX7_isOfOrder_36 (by decide) ?_
    refine g_ireturn (pc := 40) dX7_isOfOrder_40 rfl (by first | rfl | decide) rfl ⟨_, rfl, ?_⟩
    first | exact ⟨rfl, Or.inl ⟨rfl, hok⟩⟩ | exact ⟨rfl, Or.inr ⟨rfl, hok⟩⟩
  · refine g_iload_n (pc := 4) dX7_isOfOrder_4 rfl ?_
    refine g_iconst (pc := 5) (v := (nI 1)) dX7_isOfOrder_5 (by decide) ?_
    refine g_icmp_eq (pc := 6) (tgt := 35) dX7_isOfOrder_6 (by decide) (fun c_6 => ?_) (fun c_6 => ?_)
    · have hok : okW (v 0 3) w := Or.inr (Or.inl (by rw [c_6]; decide))
      refine g_iconst (pc := 35) (v := (nI 1)) dX7_isOfOrder_35 (by decide) ?_
      refine g_goto (pc := 36) (tgt := 40) dX7_isOfOrder_36 (by decide) ?_
      refine g_ireturn (pc := 40) dX7_isOfOrder_40 rfl (by first | rfl | decide) rfl ⟨_, rfl, ?_⟩
      first | exact ⟨rfl, Or.inl ⟨rfl, hok⟩⟩ | exact ⟨rfl, Or.inr ⟨rfl, hok⟩⟩
    · refine g_iload_n (pc := 9) dX7_isOfOrder_9 rfl ?_
      refine g_bipush (pc := 10) (v := (nI 10)) dX7_isOfOrder_10 (by decide) ?_
      refine g_icmp_lt (pc := 12) (tgt := 39) dX7_isOfOrder_12 (by decide) (fun c_12 => ?_) (fun c_12 => ?_)
      · have hok : ¬ okW (v 0 3) w := fun h => by
          rcases h with h | h | ⟨h1, h2, h3⟩
          · have := nx_lt (x := w) (n := 1) (by omega) (by decide)
            rw [h] at this
            exact c_1 this
          · have := nx_lt (x := w) (n := 2) (by omega) (by decide)
            rw [h] at this
            exact c_6 this
          · have := nx_lt (x := w) (n := 30) (by omega) (by decide)
            rw [this] at c_12
            have := nI_lt' (by omega) (by omega) c_12
            omega
        refine g_iconst (pc := 39) (v := (nI 0)) dX7_isOfOrder_39 (by decide) ?_
        refine g_ireturn (pc := 40) dX7_isOfOrder_40 rfl (by first | rfl | decide) rfl ⟨_, rfl, ?_⟩
        first | exact ⟨rfl, Or.inl ⟨rfl, hok⟩⟩ | exact ⟨rfl, Or.inr ⟨rfl, hok⟩⟩
      · have hw0 : ¬ w < 0 := fun h => c_12 (Int32.lt_of_lt_of_le h (by decide))
        obtain ⟨hwe, hwb⟩ := nx_of hw0
        generalize hj : nx w = j at hwe hwb
        subst hwe
        have c12 := nI_ge' (by omega) (by omega) c_12
        refine g_iload_n (pc := 15) dX7_isOfOrder_15 rfl ?_
        refine g_bipush (pc := 16) (v := (nI 29)) dX7_isOfOrder_16 (by decide) ?_
        refine g_icmp_gt (pc := 18) (tgt := 39) dX7_isOfOrder_18 (by decide) (fun c_18 => ?_) (fun c_18 => ?_)
        · have c18 := nI_lt' (by omega) (by omega) c_18
          have hok : ¬ okW (v 0 3) (nI j) := fun h => by
            unfold okW at h
            rw [hj] at h
            omega
          refine g_iconst (pc := 39) (v := (nI 0)) dX7_isOfOrder_39 (by decide) ?_
          refine g_ireturn (pc := 40) dX7_isOfOrder_40 rfl (by first | rfl | decide) rfl ⟨_, rfl, ?_⟩
          first | exact ⟨rfl, Or.inl ⟨rfl, hok⟩⟩ | exact ⟨rfl, Or.inr ⟨rfl, hok⟩⟩
        · have c18 := nI_ge' (by omega) (by omega) c_18
          refine g_aload_n (pc := 21) dX7_isOfOrder_21 rfl ?_
          refine a_getr (pc := 22) (q := 1) fl_X7_10 dX7_isOfOrder_22 (by first | rfl | assumption) rfl rfl ?_
          refine g_iload_n (pc := 25) dX7_isOfOrder_25 rfl ?_
          refine g_bipush (pc := 26) (v := (nI 10)) dX7_isOfOrder_26 (by decide) ?_
          refine v_irem (pc := 28) dX7_isOfOrder_28 (by decide) (pk_rem (by omega) (by decide) (by decide)) ?_
          refine a_cv1i (pc := 29) (c_X5_has 1 hsb v μ hc.2.1 _) m_X5_has ml_X7_109 (by omega) (by first | rfl | assumption) rfl rfl (Nat.le_of_ble_eq_true rfl) dX7_isOfOrder_29 (fun x_29 μ_29 h_29 => ?_)
          obtain ⟨hm, hd⟩ := h_29
          have hm := hm.symm
          subst hm
          have hiff : okW (v 0 3) (nI j) ↔ j % 10 < v 0 3 := by
            unfold okW
            rw [hj]
            omega
          refine g_if_eq (pc := 32) (tgt := 39) dX7_isOfOrder_32 (by decide) (fun c_32 => ?_) (fun c_32 => ?_)
          · have hok : ¬ okW (v 0 3) (nI j) := fun h => by
              rw [hiff] at h
              rcases hd with ⟨h1, -⟩ | ⟨-, h1⟩
              · rw [h1] at c_32
                exact absurd c_32 (by decide)
              · exact h1 ⟨_, h, rfl⟩
            refine g_iconst (pc := 39) (v := (nI 0)) dX7_isOfOrder_39 (by decide) ?_
            refine g_ireturn (pc := 40) dX7_isOfOrder_40 rfl (by first | rfl | decide) rfl ⟨_, rfl, ?_⟩
            first | exact ⟨rfl, Or.inl ⟨rfl, hok⟩⟩ | exact ⟨rfl, Or.inr ⟨rfl, hok⟩⟩
          · have hok : okW (v 0 3) (nI j) := by
              rw [hiff]
              rcases hd with ⟨-, p, hp, he⟩ | ⟨h1, -⟩
              · have := nI_eq' (by omega) (by omega) he
                omega
              · rw [h1] at c_32
                exact absurd rfl c_32
            refine g_iconst (pc := 35) (v := (nI 1)) dX7_isOfOrder_35 (by decide) ?_
            refine g_goto (pc := 36) (tgt := 40) dX7_isOfOrder_36 (by decide) ?_
            refine g_ireturn (pc := 40) dX7_isOfOrder_40 rfl (by first | rfl | decide) rfl ⟨_, rfl, ?_⟩
            first | exact ⟨rfl, Or.inl ⟨rfl, hok⟩⟩ | exact ⟨rfl, Or.inr ⟨rfl, hok⟩⟩
/-- plain()'s answer -/
def plainV (v : View) (Q : Nat → List Nat) (w : Int32) : Int32 := if okW (v 0 3) w then ansV v (stF v Q 9 (chs 127 (v 0 3)) (chs 127 (v 0 3)).length) (stM v Q 9 (chs 127 (v 0 3))) (chs 127 (v 0 3)) (nx w) else -2
/-- an answer of those that can be asked two things -/
def twoV (w a b : Int32) : Int32 := if nx w < 2 then (if nx w = 0 then a else b) else -2
theorem c_X7_plain (v vk : View) (tc : Nat) (P : Nat → Nat → List Nat) (μ : Mem) (hX : XW μ v vk tc P) (w : Int32) : CA eI yX7_plain cX7_plain 2 (some .int) 5 [.ref 0, .int w] μ (fun r μ1 => r = plainV v (P (v 0 2)) w ∧ TF μ μ1) := by
  have hc := hX.cw
  have hsb : SB 1 := Or.inl rfl
  have hvb := hc.2.1.vb
  have hn7 := hvb.1
  have hsp := hX.2.2.2.2.2.2.1
  have h127 := chs_lo 127 (v 0 3)
  refine CT.of false (by decide) (by decide) (L := [some (.ref 0), some (.int w)]) rfl (Nat.le_of_ble_eq_true rfl) ?_
  refine g_aload_n (pc := 0) dX7_plain_0 rfl ?_
  refine g_iload_n (pc := 1) dX7_plain_1 rfl ?_
  refine a_cv1i (pc := 2) (c_X7_isOfOrder v vk tc P μ hX w) m_X7_isOfOrder ml_X7_151 (by omega) (by first | rfl | assumption) rfl rfl (Nat.le_of_ble_eq_true rfl) dX7_plain_2 (fun x_2 μ_2 h_2 => ?_)
  obtain ⟨hm, hd⟩ := h_2
  have hm := hm.symm
  subst hm
  refine g_if_ne (pc := 5) (tgt := 11) dX7_plain_5 (by decide) (fun c_5 => ?_) (fun c_5 => ?_)
  · have hok : okW (v 0 3) w := by
      rcases hd with ⟨-, h⟩ | ⟨h, -⟩
      · exact h
      · exact absurd h c_5
    have hwe := nx_lt (x := w) (n := 30) (by omega) (by decide)
    generalize hj : nx w = j at hwe
    subst hwe
    have hok2 := hok
    unfold okW at hok2
    rw [hj] at hok2
    refine g_aload_n (pc := 11) dX7_plain_11 rfl ?_
    refine a_getr (pc := 12) (q := 35) fl_X7_41 dX7_plain_12 (by first | rfl | assumption) rfl rfl ?_
    refine g_aload_n (pc := 15) dX7_plain_15 rfl ?_
    refine a_getr (pc := 16) (q := 1) fl_X7_10 dX7_plain_16 (by first | rfl | assumption) rfl rfl ?_
    refine g_bipush (pc := 19) (v := (nI 127)) dX7_plain_19 (by decide) ?_
    refine a_cv2v (pc := 21) (c_X0_choose 1 hsb v μ hc.2.1 127 (by decide)) m_X0_choose ml_X7_113 (by omega) (by first | rfl | assumption) rfl rfl (Nat.le_of_ble_eq_true rfl) dX7_plain_21 (fun x_21 μ_21 h_21 => ?_)
    obtain ⟨c21, o21, f21, w21, p21⟩ := hc.cho h_21
    refine g_aload_n (pc := 24) dX7_plain_24 rfl ?_
    refine a_getr (pc := 25) (q := 35) fl_X7_41 dX7_plain_25 (by first | rfl | assumption) rfl rfl ?_
    refine g_aload_n (pc := 28) dX7_plain_28 rfl ?_
    refine a_getr (pc := 29) (q := 1) fl_X7_10 dX7_plain_29 (by first | rfl | assumption) rfl rfl ?_
    refine a_cv1v (pc := 32) (c_X0_run 1 hsb v (P (v 0 2)) μ_21 c21.2.1 c21.2.2.1 9 (Or.inl ⟨p21.trans hsp, rfl⟩) _ o21 h127 c21.2.2.2) m_X0_run ml_X7_117 (by omega) (by first | rfl | assumption) rfl rfl (Nat.le_of_ble_eq_true rfl) dX7_plain_32 (fun x_32 μ_32 h_32 => ?_)
    obtain ⟨c32, o32, f32, w32, p32, r32⟩ := CW.ran c21 o21 h127 h_32
    refine g_aload_n (pc := 35) dX7_plain_35 rfl ?_
    refine a_getr (pc := 36) (q := 35) fl_X7_41 dX7_plain_36 (by first | rfl | assumption) rfl rfl ?_
    refine g_aload_n (pc := 39) dX7_plain_39 rfl ?_
    refine a_getr (pc := 40) (q := 1) fl_X7_10 dX7_plain_40 (by first | rfl | assumption) rfl rfl ?_
    refine g_iload_n (pc := 43) dX7_plain_43 rfl ?_
    refine a_cv2i (pc := 44) (c_X0_answer 1 hsb v μ_32 c32.2.1 _ o32 _ r32 (stM v (P (v 0 2)) 9 (chs 127 (v 0 3))) (fun j hj => (h_32.2.1 j hj).2) (h127.le hn7) j (by omega) (by omega)) m_X0_answer ml_X7_154 (by omega) (by first | rfl | assumption) rfl rfl (Nat.le_of_ble_eq_true rfl) dX7_plain_44 (fun x_44 μ_44 h_44 => ?_)
    obtain ⟨rfl, hm_44⟩ := h_44
    have hm_44 := hm_44.symm
    subst hm_44
    refine g_ireturn (pc := 47) dX7_plain_47 rfl (by first | rfl | decide) rfl ⟨_, rfl, ?_⟩
    refine ⟨?_, (f21.trans f32).tf⟩
    unfold plainV
    rw [if_pos hok, hj]
  · have hok : ¬ okW (v 0 3) w := by
      rcases hd with ⟨h, -⟩ | ⟨-, h⟩
      · rw [h] at c_5
        exact absurd c_5 (by decide)
      · exact h
    refine g_bipush (pc := 8) (v := (-2)) dX7_plain_8 (by decide) ?_
    refine g_ireturn (pc := 10) dX7_plain_10 rfl (by first | rfl | decide) rfl ⟨_, rfl, ?_⟩
    refine ⟨?_, (SF.refl μ).tf⟩
    unfold plainV
    rw [if_neg hok]
theorem c_X7_best (v vk : View) (tc : Nat) (P : Nat → Nat → List Nat) (μ : Mem) (hX : XW μ v vk tc P) (w : Int32) : CA eI yX7_best cX7_best 2 (some .int) 6 [.ref 0, .int w] μ (fun r μ1 => r = twoV w (nI (bsS v (P (v 0 2)) 5040 (chs 127 (v 0 3)) (nI (dg (chs 127 (v 0 3))), CR v (P (v 0 2)) 9 (chs 127 (v 0 3)))).2) ((bsS v (P (v 0 2)) 5040 (chs 127 (v 0 3)) (nI (dg (chs 127 (v 0 3))), CR v (P (v 0 2)) 9 (chs 127 (v 0 3)))).1) ∧ TF μ μ1) := by
  have hc := hX.cw
  have hsb : SB 1 := Or.inl rfl
  have hvb := hc.2.1.vb
  have hn7 := hvb.1
  have hsp := hX.2.2.2.2.2.2.1
  have h127 := chs_lo 127 (v 0 3)
  refine CT.of false (by decide) (by decide) (L := [some (.ref 0), some (.int w)]) rfl (Nat.le_of_ble_eq_true rfl) ?_
  refine g_iload_n (pc := 0) dX7_best_0 rfl ?_
  refine g_if_lt (pc := 1) (tgt := 9) dX7_best_1 (by decide) (fun c_1 => ?_) (fun c_1 => ?_)
  · have hno : ¬ nx w < 2 := by
      rw [nx_neg c_1]
      decide
    refine g_bipush (pc := 9) (v := (-2)) dX7_best_9 (by decide) ?_
    refine g_ireturn (pc := 11) dX7_best_11 rfl rfl rfl ⟨_, rfl, ?_⟩
    refine ⟨?_, (SF.refl μ).tf⟩
    unfold twoV
    rw [if_neg hno]
  · obtain ⟨hwe, hwb⟩ := nx_of c_1
    generalize hj : nx w = j at hwe hwb
    subst hwe
    refine g_iload_n (pc := 4) dX7_best_4 rfl ?_
    refine g_iconst (pc := 5) (v := (nI 1)) dX7_best_5 (by decide) ?_
    refine g_icmp_le (pc := 6) (tgt := 12) dX7_best_6 (by decide) (fun c_6 => ?_) (fun c_6 => ?_)
    · have c6 := nI_le' (by omega) (by omega) c_6
      refine g_aload_n (pc := 12) dX7_best_12 rfl ?_
      refine a_getr (pc := 13) (q := 48) fl_X7_50 dX7_best_13 (by first | rfl | assumption) rfl rfl ?_
      refine g_aload_n (pc := 16) dX7_best_16 rfl ?_
      refine a_getr (pc := 17) (q := 1) fl_X7_10 dX7_best_17 (by first | rfl | assumption) rfl rfl ?_
      refine a_cv1v (pc := 20) (c_X3_bestOrder 1 v (P (v 0 2)) μ hc hsp) m_X3_bestOrder ml_X7_165 (by omega) (by first | rfl | assumption) rfl rfl (Nat.le_of_ble_eq_true rfl) dX7_best_20 (fun x_20 μ_20 h_20 => ?_)
      obtain ⟨s9, f9⟩ := h_20
      refine g_iload_n (pc := 23) dX7_best_23 rfl ?_
      refine g_if_ne (pc := 24) (tgt := 37) dX7_best_24 (by decide) (fun c_24 => ?_) (fun c_24 => ?_)
      · have cj : ¬ j = 0 := fun h => c_24 (by rw [h]; rfl)
        refine g_aload_n (pc := 37) dX7_best_37 rfl ?_
        refine a_getr (pc := 38) (q := 48) fl_X7_50 dX7_best_38 (by first | rfl | assumption) rfl rfl ?_
        refine v_geti (pc := 41) fl_X7_171 dX7_best_41 (by first | rfl | assumption) rfl s9.1 ?_
        refine g_ireturn (pc := 44) dX7_best_44 rfl (by first | rfl | decide) rfl ⟨_, rfl, ?_⟩
        refine ⟨?_, f9.tf⟩
        unfold twoV
        rw [if_pos (by rw [hj]; omega), hj]
        first | exact (if_pos cj).symm | exact (if_neg cj).symm
      · have cj : j = 0 := nI_eq' (b := 0) (by omega) (by omega) c_24
        refine g_aload_n (pc := 27) dX7_best_27 rfl ?_
        refine a_getr (pc := 28) (q := 48) fl_X7_50 dX7_best_28 (by first | rfl | assumption) rfl rfl ?_
        refine v_geti (pc := 31) fl_X7_168 dX7_best_31 (by first | rfl | assumption) rfl s9.2.1 ?_
        refine g_goto (pc := 34) (tgt := 44) dX7_best_34 (by decide) ?_
        refine g_ireturn (pc := 44) dX7_best_44 rfl (by first | rfl | decide) rfl ⟨_, rfl, ?_⟩
        refine ⟨?_, f9.tf⟩
        unfold twoV
        rw [if_pos (by rw [hj]; omega), hj]
        first | exact (if_pos cj).symm | exact (if_neg cj).symm
    · have c6 := nI_gt' (by omega) (by omega) c_6
      have hno : ¬ nx (nI j) < 2 := by
        rw [hj]
        omega
      refine g_bipush (pc := 9) (v := (-2)) dX7_best_9 (by decide) ?_
      refine g_ireturn (pc := 11) dX7_best_11 rfl (by first | rfl | decide) rfl ⟨_, rfl, ?_⟩
      refine ⟨?_, (SF.refl μ).tf⟩
      unfold twoV
      rw [if_neg hno]
theorem c_X7_change (v vk : View) (tc : Nat) (P : Nat → Nat → List Nat) (μ : Mem) (hX : XW μ v vk tc P) (w : Int32) : CA eI yX7_change cX7_change 2 (some .int) 6 [.ref 0, .int w] μ (fun r μ1 => r = twoV w ((sw1 v (P (v 0 2)) (v 0 3)).1) (nI (sw1 v (P (v 0 2)) (v 0 3)).2) ∧ TF μ μ1) := by
  have hc := hX.cw
  have hsb : SB 1 := Or.inl rfl
  have hvb := hc.2.1.vb
  have hn7 := hvb.1
  have hsp := hX.2.2.2.2.2.2.1
  have h127 := chs_lo 127 (v 0 3)
  refine CT.of false (by decide) (by decide) (L := [some (.ref 0), some (.int w)]) rfl (Nat.le_of_ble_eq_true rfl) ?_
  refine g_iload_n (pc := 0) dX7_change_0 rfl ?_
  refine g_if_lt (pc := 1) (tgt := 9) dX7_change_1 (by decide) (fun c_1 => ?_) (fun c_1 => ?_)
  · have hno : ¬ nx w < 2 := by
      rw [nx_neg c_1]
      decide
    refine g_bipush (pc := 9) (v := (-2)) dX7_change_9 (by decide) ?_
    refine g_ireturn (pc := 11) dX7_change_11 rfl rfl rfl ⟨_, rfl, ?_⟩
    refine ⟨?_, (SF.refl μ).tf⟩
    unfold twoV
    rw [if_neg hno]
  · obtain ⟨hwe, hwb⟩ := nx_of c_1
    generalize hj : nx w = j at hwe hwb
    subst hwe
    refine g_iload_n (pc := 4) dX7_change_4 rfl ?_
    refine g_iconst (pc := 5) (v := (nI 1)) dX7_change_5 (by decide) ?_
    refine g_icmp_le (pc := 6) (tgt := 12) dX7_change_6 (by decide) (fun c_6 => ?_) (fun c_6 => ?_)
    · have c6 := nI_le' (by omega) (by omega) c_6
      refine g_aload_n (pc := 12) dX7_change_12 rfl ?_
      refine a_getr (pc := 13) (q := 48) fl_X7_50 dX7_change_13 (by first | rfl | assumption) rfl rfl ?_
      refine g_aload_n (pc := 16) dX7_change_16 rfl ?_
      refine a_getr (pc := 17) (q := 1) fl_X7_10 dX7_change_17 (by first | rfl | assumption) rfl rfl ?_
      refine a_cv1v (pc := 20) (c_X3_swap 1 v (P (v 0 2)) μ hc hsp) m_X3_swap ml_X7_185 (by omega) (by first | rfl | assumption) rfl rfl (Nat.le_of_ble_eq_true rfl) dX7_change_20 (fun x_20 μ_20 h_20 => ?_)
      obtain ⟨s9, f9⟩ := h_20
      refine g_iload_n (pc := 23) dX7_change_23 rfl ?_
      refine g_if_ne (pc := 24) (tgt := 37) dX7_change_24 (by decide) (fun c_24 => ?_) (fun c_24 => ?_)
      · have cj : ¬ j = 0 := fun h => c_24 (by rw [h]; rfl)
        refine g_aload_n (pc := 37) dX7_change_37 rfl ?_
        refine a_getr (pc := 38) (q := 48) fl_X7_50 dX7_change_38 (by first | rfl | assumption) rfl rfl ?_
        refine v_geti (pc := 41) fl_X7_168 dX7_change_41 (by first | rfl | assumption) rfl s9.2.1 ?_
        refine g_ireturn (pc := 44) dX7_change_44 rfl (by first | rfl | decide) rfl ⟨_, rfl, ?_⟩
        refine ⟨?_, f9.tf⟩
        unfold twoV
        rw [if_pos (by rw [hj]; omega), hj]
        first | exact (if_pos cj).symm | exact (if_neg cj).symm
      · have cj : j = 0 := nI_eq' (b := 0) (by omega) (by omega) c_24
        refine g_aload_n (pc := 27) dX7_change_27 rfl ?_
        refine a_getr (pc := 28) (q := 48) fl_X7_50 dX7_change_28 (by first | rfl | assumption) rfl rfl ?_
        refine v_geti (pc := 31) fl_X7_171 dX7_change_31 (by first | rfl | assumption) rfl s9.1 ?_
        refine g_goto (pc := 34) (tgt := 44) dX7_change_34 (by decide) ?_
        refine g_ireturn (pc := 44) dX7_change_44 rfl (by first | rfl | decide) rfl ⟨_, rfl, ?_⟩
        refine ⟨?_, f9.tf⟩
        unfold twoV
        rw [if_pos (by rw [hj]; omega), hj]
        first | exact (if_pos cj).symm | exact (if_neg cj).symm
    · have c6 := nI_gt' (by omega) (by omega) c_6
      have hno : ¬ nx (nI j) < 2 := by
        rw [hj]
        omega
      refine g_bipush (pc := 9) (v := (-2)) dX7_change_9 (by decide) ?_
      refine g_ireturn (pc := 11) dX7_change_11 rfl (by first | rfl | decide) rfl ⟨_, rfl, ?_⟩
      refine ⟨?_, (SF.refl μ).tf⟩
      unfold twoV
      rw [if_neg hno]
theorem c_X7_leave (v vk : View) (tc : Nat) (P : Nat → Nat → List Nat) (μ : Mem) (hX : XW μ v vk tc P) (w : Int32) : CA eI yX7_leave cX7_leave 2 (some .int) 6 [.ref 0, .int w] μ (fun r μ1 => r = twoV w ((woS v (P (v 0 2)) (v 0 3)).1) (nI (woS v (P (v 0 2)) (v 0 3)).2) ∧ TF μ μ1) := by
  have hc := hX.cw
  have hsb : SB 1 := Or.inl rfl
  have hvb := hc.2.1.vb
  have hn7 := hvb.1
  have hsp := hX.2.2.2.2.2.2.1
  have h127 := chs_lo 127 (v 0 3)
  refine CT.of false (by decide) (by decide) (L := [some (.ref 0), some (.int w)]) rfl (Nat.le_of_ble_eq_true rfl) ?_
  refine g_iload_n (pc := 0) dX7_leave_0 rfl ?_
  refine g_if_lt (pc := 1) (tgt := 9) dX7_leave_1 (by decide) (fun c_1 => ?_) (fun c_1 => ?_)
  · have hno : ¬ nx w < 2 := by
      rw [nx_neg c_1]
      decide
    refine g_bipush (pc := 9) (v := (-2)) dX7_leave_9 (by decide) ?_
    refine g_ireturn (pc := 11) dX7_leave_11 rfl rfl rfl ⟨_, rfl, ?_⟩
    refine ⟨?_, (SF.refl μ).tf⟩
    unfold twoV
    rw [if_neg hno]
  · obtain ⟨hwe, hwb⟩ := nx_of c_1
    generalize hj : nx w = j at hwe hwb
    subst hwe
    refine g_iload_n (pc := 4) dX7_leave_4 rfl ?_
    refine g_iconst (pc := 5) (v := (nI 1)) dX7_leave_5 (by decide) ?_
    refine g_icmp_le (pc := 6) (tgt := 12) dX7_leave_6 (by decide) (fun c_6 => ?_) (fun c_6 => ?_)
    · have c6 := nI_le' (by omega) (by omega) c_6
      refine g_aload_n (pc := 12) dX7_leave_12 rfl ?_
      refine a_getr (pc := 13) (q := 48) fl_X7_50 dX7_leave_13 (by first | rfl | assumption) rfl rfl ?_
      refine g_aload_n (pc := 16) dX7_leave_16 rfl ?_
      refine a_getr (pc := 17) (q := 1) fl_X7_10 dX7_leave_17 (by first | rfl | assumption) rfl rfl ?_
      refine a_cv1v (pc := 20) (c_X3_without 1 v (P (v 0 2)) μ hc hsp) m_X3_without ml_X7_188 (by omega) (by first | rfl | assumption) rfl rfl (Nat.le_of_ble_eq_true rfl) dX7_leave_20 (fun x_20 μ_20 h_20 => ?_)
      obtain ⟨s9, f9⟩ := h_20
      refine g_iload_n (pc := 23) dX7_leave_23 rfl ?_
      refine g_if_ne (pc := 24) (tgt := 37) dX7_leave_24 (by decide) (fun c_24 => ?_) (fun c_24 => ?_)
      · have cj : ¬ j = 0 := fun h => c_24 (by rw [h]; rfl)
        refine g_aload_n (pc := 37) dX7_leave_37 rfl ?_
        refine a_getr (pc := 38) (q := 48) fl_X7_50 dX7_leave_38 (by first | rfl | assumption) rfl rfl ?_
        refine v_geti (pc := 41) fl_X7_168 dX7_leave_41 (by first | rfl | assumption) rfl s9.2.1 ?_
        refine g_ireturn (pc := 44) dX7_leave_44 rfl (by first | rfl | decide) rfl ⟨_, rfl, ?_⟩
        refine ⟨?_, f9.tf⟩
        unfold twoV
        rw [if_pos (by rw [hj]; omega), hj]
        first | exact (if_pos cj).symm | exact (if_neg cj).symm
      · have cj : j = 0 := nI_eq' (b := 0) (by omega) (by omega) c_24
        refine g_aload_n (pc := 27) dX7_leave_27 rfl ?_
        refine a_getr (pc := 28) (q := 48) fl_X7_50 dX7_leave_28 (by first | rfl | assumption) rfl rfl ?_
        refine v_geti (pc := 31) fl_X7_171 dX7_leave_31 (by first | rfl | assumption) rfl s9.1 ?_
        refine g_goto (pc := 34) (tgt := 44) dX7_leave_34 (by decide) ?_
        refine g_ireturn (pc := 44) dX7_leave_44 rfl (by first | rfl | decide) rfl ⟨_, rfl, ?_⟩
        refine ⟨?_, f9.tf⟩
        unfold twoV
        rw [if_pos (by rw [hj]; omega), hj]
        first | exact (if_pos cj).symm | exact (if_neg cj).symm
    · have c6 := nI_gt' (by omega) (by omega) c_6
      have hno : ¬ nx (nI j) < 2 := by
        rw [hj]
        omega
      refine g_bipush (pc := 9) (v := (-2)) dX7_leave_9 (by decide) ?_
      refine g_ireturn (pc := 11) dX7_leave_11 rfl (by first | rfl | decide) rfl ⟨_, rfl, ?_⟩
      refine ⟨?_, (SF.refl μ).tf⟩
      unfold twoV
      rw [if_neg hno]
theorem c_X7_spray (v vk : View) (tc : Nat) (P : Nat → Nat → List Nat) (μ : Mem) (hX : XW μ v vk tc P) (w : Int32) : CA eI yX7_spray cX7_spray 2 (some .int) 6 [.ref 0, .int w] μ (fun r μ1 => r = twoV w ((spS v (P (v 0 2)) (v 0 3)).1) (nI (spS v (P (v 0 2)) (v 0 3)).2) ∧ TF μ μ1) := by
  have hc := hX.cw
  have hsb : SB 1 := Or.inl rfl
  have hvb := hc.2.1.vb
  have hn7 := hvb.1
  have hsp := hX.2.2.2.2.2.2.1
  have h127 := chs_lo 127 (v 0 3)
  refine CT.of false (by decide) (by decide) (L := [some (.ref 0), some (.int w)]) rfl (Nat.le_of_ble_eq_true rfl) ?_
  refine g_iload_n (pc := 0) dX7_spray_0 rfl ?_
  refine g_if_lt (pc := 1) (tgt := 9) dX7_spray_1 (by decide) (fun c_1 => ?_) (fun c_1 => ?_)
  · have hno : ¬ nx w < 2 := by
      rw [nx_neg c_1]
      decide
    refine g_bipush (pc := 9) (v := (-2)) dX7_spray_9 (by decide) ?_
    refine g_ireturn (pc := 11) dX7_spray_11 rfl rfl rfl ⟨_, rfl, ?_⟩
    refine ⟨?_, (SF.refl μ).tf⟩
    unfold twoV
    rw [if_neg hno]
  · obtain ⟨hwe, hwb⟩ := nx_of c_1
    generalize hj : nx w = j at hwe hwb
    subst hwe
    refine g_iload_n (pc := 4) dX7_spray_4 rfl ?_
    refine g_iconst (pc := 5) (v := (nI 1)) dX7_spray_5 (by decide) ?_
    refine g_icmp_le (pc := 6) (tgt := 12) dX7_spray_6 (by decide) (fun c_6 => ?_) (fun c_6 => ?_)
    · have c6 := nI_le' (by omega) (by omega) c_6
      refine g_aload_n (pc := 12) dX7_spray_12 rfl ?_
      refine a_getr (pc := 13) (q := 48) fl_X7_50 dX7_spray_13 (by first | rfl | assumption) rfl rfl ?_
      refine g_aload_n (pc := 16) dX7_spray_16 rfl ?_
      refine a_getr (pc := 17) (q := 1) fl_X7_10 dX7_spray_17 (by first | rfl | assumption) rfl rfl ?_
      refine a_cv1v (pc := 20) (c_X3_sprayed 1 v (P (v 0 2)) μ hc hsp) m_X3_sprayed ml_X7_191 (by omega) (by first | rfl | assumption) rfl rfl (Nat.le_of_ble_eq_true rfl) dX7_spray_20 (fun x_20 μ_20 h_20 => ?_)
      obtain ⟨s9, f9⟩ := h_20
      refine g_iload_n (pc := 23) dX7_spray_23 rfl ?_
      refine g_if_ne (pc := 24) (tgt := 37) dX7_spray_24 (by decide) (fun c_24 => ?_) (fun c_24 => ?_)
      · have cj : ¬ j = 0 := fun h => c_24 (by rw [h]; rfl)
        refine g_aload_n (pc := 37) dX7_spray_37 rfl ?_
        refine a_getr (pc := 38) (q := 48) fl_X7_50 dX7_spray_38 (by first | rfl | assumption) rfl rfl ?_
        refine v_geti (pc := 41) fl_X7_168 dX7_spray_41 (by first | rfl | assumption) rfl s9.2.1 ?_
        refine g_ireturn (pc := 44) dX7_spray_44 rfl (by first | rfl | decide) rfl ⟨_, rfl, ?_⟩
        refine ⟨?_, f9.tf⟩
        unfold twoV
        rw [if_pos (by rw [hj]; omega), hj]
        first | exact (if_pos cj).symm | exact (if_neg cj).symm
      · have cj : j = 0 := nI_eq' (b := 0) (by omega) (by omega) c_24
        refine g_aload_n (pc := 27) dX7_spray_27 rfl ?_
        refine a_getr (pc := 28) (q := 48) fl_X7_50 dX7_spray_28 (by first | rfl | assumption) rfl rfl ?_
        refine v_geti (pc := 31) fl_X7_171 dX7_spray_31 (by first | rfl | assumption) rfl s9.1 ?_
        refine g_goto (pc := 34) (tgt := 44) dX7_spray_34 (by decide) ?_
        refine g_ireturn (pc := 44) dX7_spray_44 rfl (by first | rfl | decide) rfl ⟨_, rfl, ?_⟩
        refine ⟨?_, f9.tf⟩
        unfold twoV
        rw [if_pos (by rw [hj]; omega), hj]
        first | exact (if_pos cj).symm | exact (if_neg cj).symm
    · have c6 := nI_gt' (by omega) (by omega) c_6
      have hno : ¬ nx (nI j) < 2 := by
        rw [hj]
        omega
      refine g_bipush (pc := 9) (v := (-2)) dX7_spray_9 (by decide) ?_
      refine g_ireturn (pc := 11) dX7_spray_11 rfl (by first | rfl | decide) rfl ⟨_, rfl, ?_⟩
      refine ⟨?_, (SF.refl μ).tf⟩
      unfold twoV
      rw [if_neg hno]
theorem c_X7_worst (v vk : View) (tc : Nat) (P : Nat → Nat → List Nat) (μ : Mem) (hX : XW μ v vk tc P) (w : Int32) : CA eI yX7_worst cX7_worst 2 (some .int) 6 [.ref 0, .int w] μ (fun r μ1 => r = twoV w (nI (CR v (P (v 0 2)) 9 (wfL v (v 0 3)))) (nI (dg (wfL v (v 0 3)))) ∧ TF μ μ1) := by
  have hc := hX.cw
  have hsb : SB 1 := Or.inl rfl
  have hvb := hc.2.1.vb
  have hn7 := hvb.1
  have hsp := hX.2.2.2.2.2.2.1
  have h127 := chs_lo 127 (v 0 3)
  refine CT.of false (by decide) (by decide) (L := [some (.ref 0), some (.int w)]) rfl (Nat.le_of_ble_eq_true rfl) ?_
  refine g_iload_n (pc := 0) dX7_worst_0 rfl ?_
  refine g_if_lt (pc := 1) (tgt := 9) dX7_worst_1 (by decide) (fun c_1 => ?_) (fun c_1 => ?_)
  · have hno : ¬ nx w < 2 := by
      rw [nx_neg c_1]
      decide
    refine g_bipush (pc := 9) (v := (-2)) dX7_worst_9 (by decide) ?_
    refine g_ireturn (pc := 11) dX7_worst_11 rfl rfl rfl ⟨_, rfl, ?_⟩
    refine ⟨?_, (SF.refl μ).tf⟩
    unfold twoV
    rw [if_neg hno]
  · obtain ⟨hwe, hwb⟩ := nx_of c_1
    generalize hj : nx w = j at hwe hwb
    subst hwe
    refine g_iload_n (pc := 4) dX7_worst_4 rfl ?_
    refine g_iconst (pc := 5) (v := (nI 1)) dX7_worst_5 (by decide) ?_
    refine g_icmp_le (pc := 6) (tgt := 12) dX7_worst_6 (by decide) (fun c_6 => ?_) (fun c_6 => ?_)
    · have c6 := nI_le' (by omega) (by omega) c_6
      refine g_aload_n (pc := 12) dX7_worst_12 rfl ?_
      refine a_getr (pc := 13) (q := 35) fl_X7_41 dX7_worst_13 (by first | rfl | assumption) rfl rfl ?_
      refine g_aload_n (pc := 16) dX7_worst_16 rfl ?_
      refine a_getr (pc := 17) (q := 1) fl_X7_10 dX7_worst_17 (by first | rfl | assumption) rfl rfl ?_
      refine a_cv1v (pc := 20) (c_X0_chooseWorstFirst 1 hsb v μ hc.2.1) m_X0_chooseWorstFirst ml_X7_174 (by omega) (by first | rfl | assumption) rfl rfl (Nat.le_of_ble_eq_true rfl) dX7_worst_20 (fun x_20 μ_20 h_20 => ?_)
      obtain ⟨o20, g20, g20b⟩ := h_20
      have c20 : CW μ_20 1 v (P (v 0 2)) := hc.moved (fun k hk => g20 k (by omega) (by omega) (by omega)) (congrFun (g20 46 (by omega) (by omega) (by omega)) 0)
      have f20 : SF μ μ_20 := ⟨fun c hc => g20 c (by omega) (by omega) (by omega), congrFun (g20 46 (by omega) (by omega) (by omega)) 0, g20b 3 (by omega)⟩
      have hwl := wfL_lo v (v 0 3)
      refine g_aload_n (pc := 23) dX7_worst_23 rfl ?_
      refine a_getr (pc := 24) (q := 35) fl_X7_41 dX7_worst_24 (by first | rfl | assumption) rfl rfl ?_
      refine g_aload_n (pc := 27) dX7_worst_27 rfl ?_
      refine a_getr (pc := 28) (q := 1) fl_X7_10 dX7_worst_28 (by first | rfl | assumption) rfl rfl ?_
      refine a_cv1v (pc := 31) (c_X0_run 1 hsb v (P (v 0 2)) μ_20 c20.2.1 c20.2.2.1 9 (Or.inl ⟨f20.2.2.trans hsp, rfl⟩) _ o20 hwl c20.2.2.2) m_X0_run ml_X7_117 (by omega) (by first | rfl | assumption) rfl rfl (Nat.le_of_ble_eq_true rfl) dX7_worst_31 (fun x_31 μ_31 h_31 => ?_)
      obtain ⟨c31, o31, f31, w31, p31, r31⟩ := CW.ran c20 o20 hwl h_31
      refine g_iload_n (pc := 34) dX7_worst_34 rfl ?_
      refine g_if_ne (pc := 35) (tgt := 52) dX7_worst_35 (by decide) (fun c_35 => ?_) (fun c_35 => ?_)
      · have cj : ¬ j = 0 := fun h => c_35 (by rw [h]; rfl)
        refine g_aload_n (pc := 52) dX7_worst_52 rfl ?_
        refine a_getr (pc := 53) (q := 35) fl_X7_41 dX7_worst_53 (by first | rfl | assumption) rfl rfl ?_
        refine a_cv0i (pc := 56) (c_X0_digits μ_31 _ o31) m_X0_digits ml_X7_181 (by omega) (by first | rfl | assumption) rfl rfl (Nat.le_of_ble_eq_true rfl) dX7_worst_56 (fun x_56 μ_56 h_56 => ?_)
        obtain ⟨rfl, hm_56⟩ := h_56
        have hm_56 := hm_56.symm
        subst hm_56
        refine g_ireturn (pc := 59) dX7_worst_59 rfl (by first | rfl | decide) rfl ⟨_, rfl, ?_⟩
        refine ⟨?_, (f20.trans f31).tf⟩
        unfold twoV
        rw [if_pos (by rw [hj]; omega), hj]
        first | exact (if_pos cj).symm | exact (if_neg cj).symm
      · have cj : j = 0 := nI_eq' (b := 0) (by omega) (by omega) c_35
        refine g_aload_n (pc := 38) dX7_worst_38 rfl ?_
        refine a_getr (pc := 39) (q := 35) fl_X7_41 dX7_worst_39 (by first | rfl | assumption) rfl rfl ?_
        refine g_aload_n (pc := 42) dX7_worst_42 rfl ?_
        refine a_getr (pc := 43) (q := 1) fl_X7_10 dX7_worst_43 (by first | rfl | assumption) rfl rfl ?_
        refine a_cv1i (pc := 46) (c_X0_creased 1 hsb v μ_31 c31.2.1 _ o31 _ r31) m_X0_creased ml_X7_177 (by omega) (by first | rfl | assumption) rfl rfl (Nat.le_of_ble_eq_true rfl) dX7_worst_46 (fun x_46 μ_46 h_46 => ?_)
        obtain ⟨rfl, hm_46⟩ := h_46
        have hm_46 := hm_46.symm
        subst hm_46
        refine g_goto (pc := 49) (tgt := 59) dX7_worst_49 (by decide) ?_
        refine g_ireturn (pc := 59) dX7_worst_59 rfl (by first | rfl | decide) rfl ⟨_, rfl, ?_⟩
        refine ⟨?_, (f20.trans f31).tf⟩
        unfold twoV
        rw [if_pos (by rw [hj]; omega), hj]
        first | exact (if_pos cj).symm | exact (if_neg cj).symm
    · have c6 := nI_gt' (by omega) (by omega) c_6
      have hno : ¬ nx (nI j) < 2 := by
        rw [hj]
        omega
      refine g_bipush (pc := 9) (v := (-2)) dX7_worst_9 (by decide) ?_
      refine g_ireturn (pc := 11) dX7_worst_11 rfl (by first | rfl | decide) rfl ⟨_, rfl, ?_⟩
      refine ⟨?_, (SF.refl μ).tf⟩
      unfold twoV
      rw [if_neg hno]
