/-! ===== a shirt: its object at sb, kind, number, creases, lies behind it; v 0 0 heat, 0 1 damp, 0 2 rule, 0 3 count, v 1 kinds, v 2 numbers, v 3 creases, v 4 lies ===== -/
abbrev View : Type := Nat → Nat → Nat
def vset (v : View) (i j x : Nat) : View := fun a b => if a = i ∧ b = j then x else v a b
def SB (sb : Nat) : Prop := sb = 1 ∨ sb = 6 ∨ sb = 11
theorem SB.f {sb : Nat} (h : SB sb) : sh sb = (3, 4) ∧ sh (sb + 1) = (0, 7) ∧ sh (sb + 2) = (0, 7) ∧ sh (sb + 3) = (0, 7) ∧ sh (sb + 4) = (0, 7) ∧ rf sb 4 = sb + 1 ∧ rf sb 5 = sb + 2 ∧ rf sb 6 = sb + 3 ∧ rf sb 7 = sb + 4 ∧ sb < 12 := by
  rcases h with rfl | rfl | rfl <;> decide
def SV (μ : Mem) (sb : Nat) (v : View) : Prop :=
  (μ sb 0 = nI (v 0 0) ∧ v 0 0 ≤ 9) ∧ (μ sb 1 = nI (v 0 1) ∧ v 0 1 ≤ 99) ∧ (μ sb 2 = nI (v 0 2) ∧ v 0 2 ≤ 5) ∧ (μ sb 3 = nI (v 0 3) ∧ v 0 3 ≤ 7) ∧
  ∀ p, p < v 0 3 → (μ (sb + 1) p = nI (v 1 p) ∧ v 1 p ≤ 5) ∧ (μ (sb + 2) p = nI (v 2 p) ∧ v 2 p ≤ 9) ∧ (μ (sb + 3) p = nI (v 3 p) ∧ v 3 p ≤ 99) ∧ (μ (sb + 4) p = nI (v 4 p) ∧ v 4 p ≤ 127)
/-- what set(), told() and the like speak of: 0 heat, 1 damp, 2 number, 3 creases, 4 lies, 5 kind, 10 rule: where it lies -/
def vS (w p : Nat) : Nat × Nat := if w = 0 then (0, 0) else if w = 1 then (0, 1) else if w = 10 then (0, 2) else if w = 2 then (2, p) else if w = 3 then (3, p) else if w = 4 then (4, p) else (1, p)
theorem nI_lt0 {n : Nat} (h : n < 2 ^ 31) : ¬ nI n < 0 := nI_pos h
theorem c_X5_has (sb : Nat) (hsb : SB sb) (v : View) (μ : Mem) (hv : SV μ sb v) (x : Int32) : CA eI yX5_has cX5_has 2 (some .boolean) 0 [.ref sb, .int x] μ (fun r μ1 => μ1 = μ ∧ ((r = nI 1 ∧ ∃ p, p < v 0 3 ∧ x = nI p) ∨ (r = nI 0 ∧ ¬ ∃ p, p < v 0 3 ∧ x = nI p))) := by
  obtain ⟨hs0, hs1, hs2, hs3, hs4, hr4, hr5, hr6, hr7, hs9⟩ := hsb.f
  obtain ⟨⟨e0, b0⟩, ⟨e1, b1⟩, ⟨e2, b2⟩, ⟨e3, b3⟩, hp⟩ := id hv
  refine CT.of false (by decide) (by decide) (L := [some (.ref sb), some (.int x)]) rfl (Nat.le_of_ble_eq_true rfl) ?_
  refine g_iload_n (pc := 0) dX5_has_0 rfl ?_
  refine g_if_lt (pc := 1) (tgt := 16) dX5_has_1 (by decide) (fun c_1 => ?_) (fun c_1 => ?_)
  · refine g_iconst (pc := 16) (v := (nI 0)) dX5_has_16 (by decide) ?_
    refine g_ireturn (pc := 17) dX5_has_17 rfl (by first | rfl | decide) rfl ⟨_, rfl, ?_⟩
    refine ⟨rfl, Or.inr ⟨rfl, fun ⟨p, h1, h2⟩ => ?_⟩⟩
    rw [h2] at c_1
    exact nI_pos (by omega) c_1
  · obtain ⟨j, hj, rfl⟩ := nI_of c_1
    refine g_iload_n (pc := 4) dX5_has_4 rfl ?_
    refine g_aload_n (pc := 5) dX5_has_5 rfl ?_
    refine v_geti (pc := 6) fl_X5_31 dX5_has_6 (by assumption) rfl e3 ?_
    refine g_icmp_ge (pc := 9) (tgt := 16) dX5_has_9 (by decide) (fun c_9 => ?_) (fun c_9 => ?_)
    · have c9 := nI_le' (by omega) (by omega) c_9
      refine g_iconst (pc := 16) (v := (nI 0)) dX5_has_16 (by decide) ?_
      refine g_ireturn (pc := 17) dX5_has_17 rfl (by first | rfl | decide) rfl ⟨_, rfl, ?_⟩
      first | exact ⟨rfl, Or.inl ⟨rfl, j, by omega, rfl⟩⟩ | exact ⟨rfl, Or.inr ⟨rfl, fun ⟨p, h1, h2⟩ => by have := (nI_inj (by omega) (by omega)).mp h2; omega⟩⟩
    · have c9 := nI_gt' (by omega) (by omega) c_9
      refine g_iconst (pc := 12) (v := (nI 1)) dX5_has_12 (by decide) ?_
      refine g_goto (pc := 13) (tgt := 17) dX5_has_13 (by decide) ?_
      refine g_ireturn (pc := 17) dX5_has_17 rfl (by first | rfl | decide) rfl ⟨_, rfl, ?_⟩
      first | exact ⟨rfl, Or.inl ⟨rfl, j, by omega, rfl⟩⟩ | exact ⟨rfl, Or.inr ⟨rfl, fun ⟨p, h1, h2⟩ => by have := (nI_inj (by omega) (by omega)).mp h2; omega⟩⟩
theorem c_X5_itemOf (sb : Nat) (hsb : SB sb) (v : View) (μ : Mem) (hv : SV μ sb v) (w p : Nat) (hw : 2 ≤ w ∧ w ≤ 5) (hpn : p < v 0 3) : CA eI yX5_itemOf cX5_itemOf 3 (some .int) 0 [.ref sb, .int (nI w), .int (nI p)] μ (fun r μ1 => r = nI (v (vS w p).1 (vS w p).2) ∧ μ1 = μ) := by
  obtain ⟨hs0, hs1, hs2, hs3, hs4, hr4, hr5, hr6, hr7, hs9⟩ := hsb.f
  obtain ⟨⟨e0, b0⟩, ⟨e1, b1⟩, ⟨e2, b2⟩, ⟨e3, b3⟩, hp⟩ := id hv
  refine CT.of false (by decide) (by decide) (L := [some (.ref sb), some (.int (nI w)), some (.int (nI p))]) rfl (Nat.le_of_ble_eq_true rfl) ?_
  refine g_iload_n (pc := 0) dX5_itemOf_0 rfl ?_
  by_cases k_1_2 : nI w = nI 2
  · refine g_tableIn (pc := 1) (off := 27) (tgt := 28) dX5_itemOf_1 (by rw [k_1_2]; decide) (by rw [k_1_2]; decide) (by rw [k_1_2]; decide) (by decide) ?_
    obtain rfl := (nI_eq (by omega) (by omega)).mp k_1_2
    refine g_aload_n (pc := 28) dX5_itemOf_28 rfl ?_
    refine a_getr (pc := 29) (q := sb + 2) fl_X5_22 dX5_itemOf_29 (by assumption) rfl (by assumption) ?_
    refine g_iload_n (pc := 32) dX5_itemOf_32 rfl ?_
    refine v_iald (pc := 33) dX5_itemOf_33 (by assumption) rfl (by first | decide | assumption | omega) (hp p hpn).2.1.1 ?_
    refine g_ireturn (pc := 34) dX5_itemOf_34 rfl (by first | rfl | decide) rfl ⟨_, rfl, ?_⟩
    exact ⟨rfl, rfl⟩
  have n_1_2 : ¬ w = 2 := fun h => k_1_2 (by rw [h])
  by_cases k_1_3 : nI w = nI 3
  · refine g_tableIn (pc := 1) (off := 34) (tgt := 35) dX5_itemOf_1 (by rw [k_1_3]; decide) (by rw [k_1_3]; decide) (by rw [k_1_3]; decide) (by decide) ?_
    obtain rfl := (nI_eq (by omega) (by omega)).mp k_1_3
    refine g_aload_n (pc := 35) dX5_itemOf_35 rfl ?_
    refine a_getr (pc := 36) (q := sb + 3) fl_X5_25 dX5_itemOf_36 (by assumption) rfl (by assumption) ?_
    refine g_iload_n (pc := 39) dX5_itemOf_39 rfl ?_
    refine v_iald (pc := 40) dX5_itemOf_40 (by assumption) rfl (by first | decide | assumption | omega) (hp p hpn).2.2.1.1 ?_
    refine g_ireturn (pc := 41) dX5_itemOf_41 rfl (by first | rfl | decide) rfl ⟨_, rfl, ?_⟩
    exact ⟨rfl, rfl⟩
  have n_1_3 : ¬ w = 3 := fun h => k_1_3 (by rw [h])
  by_cases k_1_4 : nI w = nI 4
  · refine g_tableIn (pc := 1) (off := 41) (tgt := 42) dX5_itemOf_1 (by rw [k_1_4]; decide) (by rw [k_1_4]; decide) (by rw [k_1_4]; decide) (by decide) ?_
    obtain rfl := (nI_eq (by omega) (by omega)).mp k_1_4
    refine g_aload_n (pc := 42) dX5_itemOf_42 rfl ?_
    refine a_getr (pc := 43) (q := sb + 4) fl_X5_28 dX5_itemOf_43 (by assumption) rfl (by assumption) ?_
    refine g_iload_n (pc := 46) dX5_itemOf_46 rfl ?_
    refine v_iald (pc := 47) dX5_itemOf_47 (by assumption) rfl (by first | decide | assumption | omega) (hp p hpn).2.2.2.1 ?_
    refine g_ireturn (pc := 48) dX5_itemOf_48 rfl (by first | rfl | decide) rfl ⟨_, rfl, ?_⟩
    exact ⟨rfl, rfl⟩
  have n_1_4 : ¬ w = 4 := fun h => k_1_4 (by rw [h])
  have kd_1 : (nI w).toInt < 2 ∨ 4 < (nI w).toInt := by
    have w_2 := lv_neT (a := 2) k_1_2 (by decide)
    have w_3 := lv_neT (a := 3) k_1_3 (by decide)
    have w_4 := lv_neT (a := 4) k_1_4 (by decide)
    omega
  refine g_tableOut (pc := 1) (tgt := 49) dX5_itemOf_1 kd_1 (by decide) ?_
  obtain rfl : w = 5 := by omega
  refine g_aload_n (pc := 49) dX5_itemOf_49 rfl ?_
  refine a_getr (pc := 50) (q := sb + 1) fl_X5_18 dX5_itemOf_50 (by assumption) rfl (by assumption) ?_
  refine g_iload_n (pc := 53) dX5_itemOf_53 rfl ?_
  refine v_iald (pc := 54) dX5_itemOf_54 (by assumption) rfl (by first | decide | assumption | omega) (hp p hpn).1.1 ?_
  refine g_ireturn (pc := 55) dX5_itemOf_55 rfl (by first | rfl | decide) rfl ⟨_, rfl, ?_⟩
  exact ⟨rfl, rfl⟩
theorem c_X5_item (sb : Nat) (hsb : SB sb) (v : View) (μ : Mem) (hv : SV μ sb v) (w p : Nat) (o : Int32) (hw : w ≤ 10) (ho : w = 0 ∨ w = 1 ∨ w = 10 ∨ (2 ≤ w ∧ w ≤ 5 ∧ p < v 0 3 ∧ o = nI p)) : CA eI yX5_item cX5_item 3 (some .int) 1 [.ref sb, .int (nI w), .int o] μ (fun r μ1 => r = nI (v (vS w p).1 (vS w p).2) ∧ μ1 = μ) := by
  obtain ⟨hs0, hs1, hs2, hs3, hs4, hr4, hr5, hr6, hr7, hs9⟩ := hsb.f
  obtain ⟨⟨e0, b0⟩, ⟨e1, b1⟩, ⟨e2, b2⟩, ⟨e3, b3⟩, hp⟩ := id hv
  refine CT.of false (by decide) (by decide) (L := [some (.ref sb), some (.int (nI w)), some (.int o)]) rfl (Nat.le_of_ble_eq_true rfl) ?_
  refine g_iload_n (pc := 0) dX5_item_0 rfl ?_
  by_cases k_1_0 : nI w = nI 0
  · refine g_lookup (pc := 1) (off := 35) (tgt := 36) dX5_item_1 (by decide) (by rw [k_1_0]; decide) (by decide) ?_
    obtain rfl := (nI_eq (by omega) (by omega)).mp k_1_0
    refine g_aload_n (pc := 36) dX5_item_36 rfl ?_
    refine v_geti (pc := 37) fl_X5_9 dX5_item_37 (by assumption) rfl e0 ?_
    refine g_ireturn (pc := 40) dX5_item_40 rfl (by first | rfl | decide) rfl ⟨_, rfl, ?_⟩
    exact ⟨rfl, rfl⟩
  have n_1_0 : ¬ w = 0 := fun h => k_1_0 (by rw [h])
  by_cases k_1_1 : nI w = nI 1
  · refine g_lookup (pc := 1) (off := 40) (tgt := 41) dX5_item_1 (by decide) (by rw [k_1_1]; decide) (by decide) ?_
    obtain rfl := (nI_eq (by omega) (by omega)).mp k_1_1
    refine g_aload_n (pc := 41) dX5_item_41 rfl ?_
    refine v_geti (pc := 42) fl_X5_15 dX5_item_42 (by assumption) rfl e1 ?_
    refine g_ireturn (pc := 45) dX5_item_45 rfl (by first | rfl | decide) rfl ⟨_, rfl, ?_⟩
    exact ⟨rfl, rfl⟩
  have n_1_1 : ¬ w = 1 := fun h => k_1_1 (by rw [h])
  by_cases k_1_10 : nI w = nI 10
  · refine g_lookup (pc := 1) (off := 45) (tgt := 46) dX5_item_1 (by decide) (by rw [k_1_10]; decide) (by decide) ?_
    obtain rfl := (nI_eq (by omega) (by omega)).mp k_1_10
    refine g_aload_n (pc := 46) dX5_item_46 rfl ?_
    refine v_geti (pc := 47) fl_X5_34 dX5_item_47 (by assumption) rfl e2 ?_
    refine g_ireturn (pc := 50) dX5_item_50 rfl (by first | rfl | decide) rfl ⟨_, rfl, ?_⟩
    exact ⟨rfl, rfl⟩
  have n_1_10 : ¬ w = 10 := fun h => k_1_10 (by rw [h])
  refine g_lookup (pc := 1) (off := 50) (tgt := 51) dX5_item_1 (by decide) (by rw [lv_osw k_1_0 (by decide), lv_osw k_1_1 (by decide), lv_osw k_1_10 (by decide)]; rfl) (by decide) ?_
  obtain ⟨hw2, hw5, hpn, rfl⟩ : 2 ≤ w ∧ w ≤ 5 ∧ p < v 0 3 ∧ o = nI p := by
    rcases ho with h | h | h | h
    · exact absurd h n_1_0
    · exact absurd h n_1_1
    · exact absurd h n_1_10
    · exact h
  refine g_aload_n (pc := 51) dX5_item_51 rfl ?_
  refine g_iload_n (pc := 52) dX5_item_52 rfl ?_
  refine a_cv1i (pc := 53) (c_X5_has sb hsb v μ hv _) m_X5_has ml_X5_37 (by omega) (by assumption) rfl rfl (Nat.le_of_ble_eq_true rfl) dX5_item_53 (fun x_53 μ_53 h_53 => ?_)
  obtain ⟨hm, hd⟩ := h_53
  have hm := hm.symm
  subst hm
  have h1 : x_53 = nI 1 := by
    rcases hd with ⟨h, -⟩ | ⟨-, hn⟩
    · exact h
    · exact absurd ⟨p, hpn, rfl⟩ hn
  subst h1
  refine g_if_eq (pc := 56) (tgt := 68) dX5_item_56 (by decide) (fun c_56 => absurd c_56 (by decide)) (fun c_56 => ?_)
  refine g_aload_n (pc := 59) dX5_item_59 rfl ?_
  refine g_iload_n (pc := 60) dX5_item_60 rfl ?_
  refine g_iload_n (pc := 61) dX5_item_61 rfl ?_
  refine a_cv2i (pc := 62) (c_X5_itemOf sb hsb v μ hv w p ⟨hw2, hw5⟩ hpn) m_X5_itemOf ml_X5_41 (by omega) (by assumption) rfl rfl (Nat.le_of_ble_eq_true rfl) dX5_item_62 (fun x_62 μ_62 h_62 => ?_)
  obtain ⟨rfl, hm_62⟩ := h_62
  have hm_62 := hm_62.symm
  subst hm_62
  refine g_goto (pc := 65) (tgt := 69) dX5_item_65 (by decide) ?_
  refine g_ireturn (pc := 69) dX5_item_69 rfl (by first | rfl | decide) rfl ⟨_, rfl, ?_⟩
  exact ⟨rfl, rfl⟩
theorem c_X5_putOf (sb : Nat) (hsb : SB sb) (v : View) (μ : Mem) (hv : SV μ sb v) (w p : Nat) (x : Int32) (hw : 2 ≤ w ∧ w ≤ 5) (hpn : p < v 0 3) : CA eV yX5_putOf cX5_putOf 4 none 0 [.ref sb, .int (nI w), .int (nI p), .int x] μ (fun _ μ1 => μ1 = mset μ (sb + (vS w p).1) (vS w p).2 x) := by
  obtain ⟨hs0, hs1, hs2, hs3, hs4, hr4, hr5, hr6, hr7, hs9⟩ := hsb.f
  obtain ⟨⟨e0, b0⟩, ⟨e1, b1⟩, ⟨e2, b2⟩, ⟨e3, b3⟩, hp⟩ := id hv
  refine CT.of false (by decide) (by decide) (L := [some (.ref sb), some (.int (nI w)), some (.int (nI p)), some (.int x)]) rfl (Nat.le_of_ble_eq_true rfl) ?_
  refine g_iload_n (pc := 0) dX5_putOf_0 rfl ?_
  by_cases k_1_2 : nI w = nI 2
  · refine g_tableIn (pc := 1) (off := 27) (tgt := 28) dX5_putOf_1 (by rw [k_1_2]; decide) (by rw [k_1_2]; decide) (by rw [k_1_2]; decide) (by decide) ?_
    obtain rfl := (nI_eq (by omega) (by omega)).mp k_1_2
    refine g_aload_n (pc := 28) dX5_putOf_28 rfl ?_
    refine a_getr (pc := 29) (q := sb + 2) fl_X5_22 dX5_putOf_29 (by assumption) rfl (by assumption) ?_
    refine g_iload_n (pc := 32) dX5_putOf_32 rfl ?_
    refine g_iload_n (pc := 33) dX5_putOf_33 rfl ?_
    refine a_iast (pc := 34) dX5_putOf_34 (by assumption) rfl (by first | decide | assumption | omega) ?_
    refine g_goto (pc := 35) (tgt := 65) dX5_putOf_35 (by decide) ?_
    refine g_return (pc := 65) (x := ()) dX5_putOf_65 rfl rfl ⟨_, rfl, ?_⟩
    rfl
  have n_1_2 : ¬ w = 2 := fun h => k_1_2 (by rw [h])
  by_cases k_1_3 : nI w = nI 3
  · refine g_tableIn (pc := 1) (off := 37) (tgt := 38) dX5_putOf_1 (by rw [k_1_3]; decide) (by rw [k_1_3]; decide) (by rw [k_1_3]; decide) (by decide) ?_
    obtain rfl := (nI_eq (by omega) (by omega)).mp k_1_3
    refine g_aload_n (pc := 38) dX5_putOf_38 rfl ?_
    refine a_getr (pc := 39) (q := sb + 3) fl_X5_25 dX5_putOf_39 (by assumption) rfl (by assumption) ?_
    refine g_iload_n (pc := 42) dX5_putOf_42 rfl ?_
    refine g_iload_n (pc := 43) dX5_putOf_43 rfl ?_
    refine a_iast (pc := 44) dX5_putOf_44 (by assumption) rfl (by first | decide | assumption | omega) ?_
    refine g_goto (pc := 45) (tgt := 65) dX5_putOf_45 (by decide) ?_
    refine g_return (pc := 65) (x := ()) dX5_putOf_65 rfl rfl ⟨_, rfl, ?_⟩
    rfl
  have n_1_3 : ¬ w = 3 := fun h => k_1_3 (by rw [h])
  by_cases k_1_4 : nI w = nI 4
  · refine g_tableIn (pc := 1) (off := 47) (tgt := 48) dX5_putOf_1 (by rw [k_1_4]; decide) (by rw [k_1_4]; decide) (by rw [k_1_4]; decide) (by decide) ?_
    obtain rfl := (nI_eq (by omega) (by omega)).mp k_1_4
    refine g_aload_n (pc := 48) dX5_putOf_48 rfl ?_
    refine a_getr (pc := 49) (q := sb + 4) fl_X5_28 dX5_putOf_49 (by assumption) rfl (by assumption) ?_
    refine g_iload_n (pc := 52) dX5_putOf_52 rfl ?_
    refine g_iload_n (pc := 53) dX5_putOf_53 rfl ?_
    refine a_iast (pc := 54) dX5_putOf_54 (by assumption) rfl (by first | decide | assumption | omega) ?_
    refine g_goto (pc := 55) (tgt := 65) dX5_putOf_55 (by decide) ?_
    refine g_return (pc := 65) (x := ()) dX5_putOf_65 rfl rfl ⟨_, rfl, ?_⟩
    rfl
  have n_1_4 : ¬ w = 4 := fun h => k_1_4 (by rw [h])
  have kd_1 : (nI w).toInt < 2 ∨ 4 < (nI w).toInt := by
    have w_2 := lv_neT (a := 2) k_1_2 (by decide)
    have w_3 := lv_neT (a := 3) k_1_3 (by decide)
    have w_4 := lv_neT (a := 4) k_1_4 (by decide)
    omega
  refine g_tableOut (pc := 1) (tgt := 58) dX5_putOf_1 kd_1 (by decide) ?_
  obtain rfl : w = 5 := by omega
  refine g_aload_n (pc := 58) dX5_putOf_58 rfl ?_
  refine a_getr (pc := 59) (q := sb + 1) fl_X5_18 dX5_putOf_59 (by assumption) rfl (by assumption) ?_
  refine g_iload_n (pc := 62) dX5_putOf_62 rfl ?_
  refine g_iload_n (pc := 63) dX5_putOf_63 rfl ?_
  refine a_iast (pc := 64) dX5_putOf_64 (by assumption) rfl (by first | decide | assumption | omega) ?_
  refine g_return (pc := 65) (x := ()) dX5_putOf_65 rfl rfl ⟨_, rfl, ?_⟩
  rfl
theorem c_X5_put (sb : Nat) (hsb : SB sb) (v : View) (μ : Mem) (hv : SV μ sb v) (w p : Nat) (o x : Int32) (hw : w ≤ 10) (ho : w = 0 ∨ w = 1 ∨ w = 10 ∨ (2 ≤ w ∧ w ≤ 5 ∧ p < v 0 3 ∧ o = nI p)) : CA eV yX5_put cX5_put 4 none 1 [.ref sb, .int (nI w), .int o, .int x] μ (fun _ μ1 => μ1 = mset μ (sb + (vS w p).1) (vS w p).2 x) := by
  obtain ⟨hs0, hs1, hs2, hs3, hs4, hr4, hr5, hr6, hr7, hs9⟩ := hsb.f
  obtain ⟨⟨e0, b0⟩, ⟨e1, b1⟩, ⟨e2, b2⟩, ⟨e3, b3⟩, hp⟩ := id hv
  refine CT.of false (by decide) (by decide) (L := [some (.ref sb), some (.int (nI w)), some (.int o), some (.int x)]) rfl (Nat.le_of_ble_eq_true rfl) ?_
  refine g_iload_n (pc := 0) dX5_put_0 rfl ?_
  by_cases k_1_0 : nI w = nI 0
  · refine g_lookup (pc := 1) (off := 35) (tgt := 36) dX5_put_1 (by decide) (by rw [k_1_0]; decide) (by decide) ?_
    obtain rfl := (nI_eq (by omega) (by omega)).mp k_1_0
    refine g_aload_n (pc := 36) dX5_put_36 rfl ?_
    refine g_iload_n (pc := 37) dX5_put_37 rfl ?_
    refine a_puti (pc := 38) fw_X5_9 dX5_put_38 (by assumption) rfl ?_
    refine g_goto (pc := 41) (tgt := 75) dX5_put_41 (by decide) ?_
    refine g_return (pc := 75) (x := ()) dX5_put_75 rfl rfl ⟨_, rfl, ?_⟩
    rfl
  have n_1_0 : ¬ w = 0 := fun h => k_1_0 (by rw [h])
  by_cases k_1_1 : nI w = nI 1
  · refine g_lookup (pc := 1) (off := 43) (tgt := 44) dX5_put_1 (by decide) (by rw [k_1_1]; decide) (by decide) ?_
    obtain rfl := (nI_eq (by omega) (by omega)).mp k_1_1
    refine g_aload_n (pc := 44) dX5_put_44 rfl ?_
    refine g_iload_n (pc := 45) dX5_put_45 rfl ?_
    refine a_puti (pc := 46) fw_X5_15 dX5_put_46 (by assumption) rfl ?_
    refine g_goto (pc := 49) (tgt := 75) dX5_put_49 (by decide) ?_
    refine g_return (pc := 75) (x := ()) dX5_put_75 rfl rfl ⟨_, rfl, ?_⟩
    rfl
  have n_1_1 : ¬ w = 1 := fun h => k_1_1 (by rw [h])
  by_cases k_1_10 : nI w = nI 10
  · refine g_lookup (pc := 1) (off := 51) (tgt := 52) dX5_put_1 (by decide) (by rw [k_1_10]; decide) (by decide) ?_
    obtain rfl := (nI_eq (by omega) (by omega)).mp k_1_10
    refine g_aload_n (pc := 52) dX5_put_52 rfl ?_
    refine g_iload_n (pc := 53) dX5_put_53 rfl ?_
    refine a_puti (pc := 54) fw_X5_34 dX5_put_54 (by assumption) rfl ?_
    refine g_goto (pc := 57) (tgt := 75) dX5_put_57 (by decide) ?_
    refine g_return (pc := 75) (x := ()) dX5_put_75 rfl rfl ⟨_, rfl, ?_⟩
    rfl
  have n_1_10 : ¬ w = 10 := fun h => k_1_10 (by rw [h])
  refine g_lookup (pc := 1) (off := 59) (tgt := 60) dX5_put_1 (by decide) (by rw [lv_osw k_1_0 (by decide), lv_osw k_1_1 (by decide), lv_osw k_1_10 (by decide)]; rfl) (by decide) ?_
  obtain ⟨hw2, hw5, hpn, rfl⟩ : 2 ≤ w ∧ w ≤ 5 ∧ p < v 0 3 ∧ o = nI p := by
    rcases ho with h | h | h | h
    · exact absurd h n_1_0
    · exact absurd h n_1_1
    · exact absurd h n_1_10
    · exact h
  refine g_aload_n (pc := 60) dX5_put_60 rfl ?_
  refine g_iload_n (pc := 61) dX5_put_61 rfl ?_
  refine a_cv1i (pc := 62) (c_X5_has sb hsb v μ hv _) m_X5_has ml_X5_37 (by omega) (by assumption) rfl rfl (Nat.le_of_ble_eq_true rfl) dX5_put_62 (fun x_62 μ_62 h_62 => ?_)
  obtain ⟨hm, hd⟩ := h_62
  have hm := hm.symm
  subst hm
  have h1 : x_62 = nI 1 := by
    rcases hd with ⟨h, -⟩ | ⟨-, hn⟩
    · exact h
    · exact absurd ⟨p, hpn, rfl⟩ hn
  subst h1
  refine g_if_eq (pc := 65) (tgt := 75) dX5_put_65 (by decide) (fun c_65 => absurd c_65 (by decide)) (fun c_65 => ?_)
  refine g_aload_n (pc := 68) dX5_put_68 rfl ?_
  refine g_iload_n (pc := 69) dX5_put_69 rfl ?_
  refine g_iload_n (pc := 70) dX5_put_70 rfl ?_
  refine g_iload_n (pc := 71) dX5_put_71 rfl ?_
  refine a_cv3v (pc := 72) (c_X5_putOf sb hsb v μ hv w p _ ⟨hw2, hw5⟩ hpn) m_X5_putOf ml_X5_45 (by omega) (by assumption) rfl rfl (Nat.le_of_ble_eq_true rfl) dX5_put_72 (fun x_72 μ_72 h_72 => ?_)
  have hm_72 := (show μ_72 = _ from h_72).symm
  subst hm_72
  refine g_return (pc := 75) (x := ()) dX5_put_75 rfl rfl ⟨_, rfl, ?_⟩
  rfl
/-- sb is as ob -/
def BEC (μ μ1 : Mem) (sb ob : Nat) : Prop := (∀ j, j < 4 → μ1 sb j = μ ob j) ∧ (∀ i j, 1 ≤ i → i ≤ 4 → j < 7 → μ1 (sb + i) j = μ (ob + i) j) ∧ ∀ k, k < sb ∨ sb + 4 < k → μ1 k = μ k
theorem SV.bec {μ μ1 : Mem} {sb ob : Nat} {v : View} (h : BEC μ μ1 sb ob) (hv : SV μ ob v) : SV μ1 sb v := by
  obtain ⟨h1, h2, h3⟩ := h
  obtain ⟨⟨e0, b0⟩, ⟨e1, b1⟩, ⟨e2, b2⟩, ⟨e3, b3⟩, hp⟩ := hv
  refine ⟨⟨(h1 0 (by omega)).trans e0, b0⟩, ⟨(h1 1 (by omega)).trans e1, b1⟩, ⟨(h1 2 (by omega)).trans e2, b2⟩, ⟨(h1 3 (by omega)).trans e3, b3⟩, fun p hpn => ?_⟩
  obtain ⟨⟨q1, r1⟩, ⟨q2, r2⟩, ⟨q3, r3⟩, ⟨q4, r4⟩⟩ := hp p hpn
  exact ⟨⟨(h2 1 p (by omega) (by omega) (by omega)).trans q1, r1⟩, ⟨(h2 2 p (by omega) (by omega) (by omega)).trans q2, r2⟩, ⟨(h2 3 p (by omega) (by omega) (by omega)).trans q3, r3⟩, ⟨(h2 4 p (by omega) (by omega) (by omega)).trans q4, r4⟩⟩
theorem SB.apart {sb ob : Nat} (h : SB sb) (g : SB ob) (hne : sb ≠ ob) : sb + 4 < ob ∨ ob + 4 < sb := by
  rcases h with rfl | rfl | rfl <;> rcases g with rfl | rfl | rfl <;> omega
theorem c_X5_become (sb ob : Nat) (hsb : SB sb) (hob : SB ob) (hne : sb ≠ ob) (μ : Mem) : CA eV yX5_become cX5_become 2 none 1 [.ref sb, .ref ob] μ (fun _ μ1 => BEC μ μ1 sb ob) := by
  obtain ⟨hs0, hs1, hs2, hs3, hs4, hr4, hr5, hr6, hr7, hs9⟩ := hsb.f
  obtain ⟨os0, os1, os2, os3, os4, or4, or5, or6, or7, os9⟩ := hob.f
  have hap := hsb.apart hob hne
  refine CT.of false (by decide) (by decide) (L := [some (.ref sb), some (.ref ob)]) rfl (Nat.le_of_ble_eq_true rfl) ?_
  refine g_aload_n (pc := 0) dX5_become_0 rfl ?_
  refine g_aload_n (pc := 1) dX5_become_1 rfl ?_
  refine v_geti (pc := 2) fl_X5_9 dX5_become_2 (by assumption) rfl (by rfl) ?_
  refine a_puti (pc := 5) fw_X5_9 dX5_become_5 (by assumption) rfl ?_
  refine g_aload_n (pc := 8) dX5_become_8 rfl ?_
  refine g_aload_n (pc := 9) dX5_become_9 rfl ?_
  refine v_geti (pc := 10) fl_X5_15 dX5_become_10 (by assumption) rfl (by rw [mset_ne (by omega)]) ?_
  refine a_puti (pc := 13) fw_X5_15 dX5_become_13 (by assumption) rfl ?_
  refine g_aload_n (pc := 16) dX5_become_16 rfl ?_
  refine g_aload_n (pc := 17) dX5_become_17 rfl ?_
  refine v_geti (pc := 18) fl_X5_34 dX5_become_18 (by assumption) rfl (by rw [mset_ne (by omega), mset_ne (by omega)]) ?_
  refine a_puti (pc := 21) fw_X5_34 dX5_become_21 (by assumption) rfl ?_
  refine g_aload_n (pc := 24) dX5_become_24 rfl ?_
  refine g_aload_n (pc := 25) dX5_become_25 rfl ?_
  refine v_geti (pc := 26) fl_X5_31 dX5_become_26 (by assumption) rfl (by rw [mset_ne (by omega), mset_ne (by omega), mset_ne (by omega)]) ?_
  refine a_puti (pc := 29) fw_X5_31 dX5_become_29 (by assumption) rfl ?_
  refine g_aload_n (pc := 32) dX5_become_32 rfl ?_
  refine a_getr (pc := 33) (q := ob + 1) fl_X5_18 dX5_become_33 (by assumption) rfl (by assumption) ?_
  refine g_iconst (pc := 36) (v := (nI 0)) dX5_become_36 (by decide) ?_
  refine g_aload_n (pc := 37) dX5_become_37 rfl ?_
  refine a_getr (pc := 38) (q := sb + 1) fl_X5_18 dX5_become_38 (by assumption) rfl (by assumption) ?_
  refine g_iconst (pc := 41) (v := (nI 0)) dX5_become_41 (by decide) ?_
  refine g_bipush (pc := 42) (v := (nI 7)) dX5_become_42 (by decide) ?_
  refine a_copy (pc := 44) (sp := 0) (dp := 0) (n := 7) ml_X5_49 (by omega) (Nat.le_of_ble_eq_true rfl) dX5_become_44 (by assumption) (by assumption) rfl rfl rfl (by omega) (by omega) ?_
  refine g_aload_n (pc := 47) dX5_become_47 rfl ?_
  refine a_getr (pc := 48) (q := ob + 2) fl_X5_22 dX5_become_48 (by assumption) rfl (by assumption) ?_
  refine g_iconst (pc := 51) (v := (nI 0)) dX5_become_51 (by decide) ?_
  refine g_aload_n (pc := 52) dX5_become_52 rfl ?_
  refine a_getr (pc := 53) (q := sb + 2) fl_X5_22 dX5_become_53 (by assumption) rfl (by assumption) ?_
  refine g_iconst (pc := 56) (v := (nI 0)) dX5_become_56 (by decide) ?_
  refine g_bipush (pc := 57) (v := (nI 7)) dX5_become_57 (by decide) ?_
  refine a_copy (pc := 59) (sp := 0) (dp := 0) (n := 7) ml_X5_49 (by omega) (Nat.le_of_ble_eq_true rfl) dX5_become_59 (by assumption) (by assumption) rfl rfl rfl (by omega) (by omega) ?_
  refine g_aload_n (pc := 62) dX5_become_62 rfl ?_
  refine a_getr (pc := 63) (q := ob + 3) fl_X5_25 dX5_become_63 (by assumption) rfl (by assumption) ?_
  refine g_iconst (pc := 66) (v := (nI 0)) dX5_become_66 (by decide) ?_
  refine g_aload_n (pc := 67) dX5_become_67 rfl ?_
  refine a_getr (pc := 68) (q := sb + 3) fl_X5_25 dX5_become_68 (by assumption) rfl (by assumption) ?_
  refine g_iconst (pc := 71) (v := (nI 0)) dX5_become_71 (by decide) ?_
  refine g_bipush (pc := 72) (v := (nI 7)) dX5_become_72 (by decide) ?_
  refine a_copy (pc := 74) (sp := 0) (dp := 0) (n := 7) ml_X5_49 (by omega) (Nat.le_of_ble_eq_true rfl) dX5_become_74 (by assumption) (by assumption) rfl rfl rfl (by omega) (by omega) ?_
  refine g_aload_n (pc := 77) dX5_become_77 rfl ?_
  refine a_getr (pc := 78) (q := ob + 4) fl_X5_28 dX5_become_78 (by assumption) rfl (by assumption) ?_
  refine g_iconst (pc := 81) (v := (nI 0)) dX5_become_81 (by decide) ?_
  refine g_aload_n (pc := 82) dX5_become_82 rfl ?_
  refine a_getr (pc := 83) (q := sb + 4) fl_X5_28 dX5_become_83 (by assumption) rfl (by assumption) ?_
  refine g_iconst (pc := 86) (v := (nI 0)) dX5_become_86 (by decide) ?_
  refine g_bipush (pc := 87) (v := (nI 7)) dX5_become_87 (by decide) ?_
  refine a_copy (pc := 89) (sp := 0) (dp := 0) (n := 7) ml_X5_49 (by omega) (Nat.le_of_ble_eq_true rfl) dX5_become_89 (by assumption) (by assumption) rfl rfl rfl (by omega) (by omega) ?_
  refine g_return (pc := 92) (x := ()) dX5_become_92 rfl rfl ⟨_, rfl, ?_⟩
  refine ⟨fun j hj => ?_, fun i j hi1 hi4 hj => ?_, fun k hk => ?_⟩
  · rw [mcopy_ne (by omega), mcopy_ne (by omega), mcopy_ne (by omega), mcopy_ne (by omega)]
    obtain rfl | rfl | rfl | rfl : j = 0 ∨ j = 1 ∨ j = 2 ∨ j = 3 := by omega
    · rw [mset_nj (by omega), mset_nj (by omega), mset_nj (by omega), mset_eq]
    · rw [mset_nj (by omega), mset_nj (by omega), mset_eq]
    · rw [mset_nj (by omega), mset_eq]
    · rw [mset_eq]
  · obtain rfl | rfl | rfl | rfl : i = 1 ∨ i = 2 ∨ i = 3 ∨ i = 4 := by omega
    · rw [mcopy_ne (by omega), mcopy_ne (by omega), mcopy_ne (by omega), mcopy_eq hj, mset_ne (by omega), mset_ne (by omega), mset_ne (by omega), mset_ne (by omega)]
    · rw [mcopy_ne (by omega), mcopy_ne (by omega), mcopy_eq hj, mcopy_ne (by omega), mset_ne (by omega), mset_ne (by omega), mset_ne (by omega), mset_ne (by omega)]
    · rw [mcopy_ne (by omega), mcopy_eq hj, mcopy_ne (by omega), mcopy_ne (by omega), mset_ne (by omega), mset_ne (by omega), mset_ne (by omega), mset_ne (by omega)]
    · rw [mcopy_eq hj, mcopy_ne (by omega), mcopy_ne (by omega), mcopy_ne (by omega), mset_ne (by omega), mset_ne (by omega), mset_ne (by omega), mset_ne (by omega)]
  · rw [mcopy_ne (by omega), mcopy_ne (by omega), mcopy_ne (by omega), mcopy_ne (by omega), mset_ne (by omega), mset_ne (by omega), mset_ne (by omega), mset_ne (by omega)]
/-- what a row comes to, each times what it shows -/
def csum (v : View) (f : Nat → Nat) : Nat → Nat
  | 0 => 0
  | n + 1 => csum v f n + f n * kShows (v 1 n)
theorem kShows_le (k : Nat) : kShows k ≤ 3 := by
  unfold kShows
  split
  · omega
  · split
    · omega
    · split <;> omega
theorem csum_le {v : View} {f : Nat → Nat} : ∀ n, (∀ p, p < n → f p ≤ 99) → csum v f n ≤ 297 * n
  | 0, _ => Nat.le_refl _
  | n + 1, h => by
    have h1 := csum_le (v := v) n (fun p hp => h p (by omega))
    have h2 : f n * kShows (v 1 n) ≤ 99 * 3 := Nat.mul_le_mul (h n (by omega)) (kShows_le _)
    show csum v f n + f n * kShows (v 1 n) ≤ 297 * (n + 1)
    omega
theorem c_X5_creasedBy (sb : Nat) (hsb : SB sb) (v : View) (μ : Mem) (hv : SV μ sb v) (rb : Nat) (hr : sh rb = (0, 7)) (f : Nat → Nat) (hf : ∀ p, p < v 0 3 → μ rb p = nI (f p) ∧ f p ≤ 99) : CA eI yX5_creasedBy cX5_creasedBy 4 (some .int) 1 [.ref sb, .ref rb] μ (fun r μ1 => r = nI (csum v f (v 0 3)) ∧ μ1 = μ) := by
  obtain ⟨hs0, hs1, hs2, hs3, hs4, hr4, hr5, hr6, hr7, hs9⟩ := hsb.f
  obtain ⟨⟨e0, b0⟩, ⟨e1, b1⟩, ⟨e2, b2⟩, ⟨e3, b3⟩, hp⟩ := id hv
  refine CT.of false (by decide) (by decide) (L := [some (.ref sb), some (.ref rb), none, none]) rfl (Nat.le_of_ble_eq_true rfl) ?_
  refine g_iconst (pc := 0) (v := (nI 0)) dX5_creasedBy_0 (by decide) ?_
  refine a_ist2 (pc := 1) dX5_creasedBy_1 (by decide) rfl ?_
  refine g_iconst (pc := 2) (v := (nI 0)) dX5_creasedBy_2 (by decide) ?_
  refine a_ist3 (pc := 3) dX5_creasedBy_3 (by decide) rfl ?_
  have lp4 : ∀ (zz : Nat) (i : Nat) (hi : i ≤ v 0 3), v 0 3 - i = zz → WG eI yX5_creasedBy.cls cX5_creasedBy 4 (some .int) false (fun _ _ => True) 1 (mpost (fun r μ1 => r = nI (csum v f (v 0 3)) ∧ μ1 = μ)) 0 0 4 [some (.ref sb), some (.ref rb), some (.int (nI (csum v f i))), some (.int (nI i))] [] (mk μ) := by
    intro zz
    induction zz using Nat.strongRecOn with
    | ind zz ih =>
      intro i hi hzz
      have hcs := csum_le (v := v) (f := f) i (fun p hq => (hf p (by omega)).2)
      refine g_iload_n (pc := 4) dX5_creasedBy_4 rfl ?_
      refine g_aload_n (pc := 5) dX5_creasedBy_5 rfl ?_
      refine v_geti (pc := 6) fl_X5_31 dX5_creasedBy_6 (by assumption) rfl e3 ?_
      refine g_icmp_ge (pc := 9) (tgt := 34) dX5_creasedBy_9 (by decide) (fun c_9 => ?_) (fun c_9 => ?_)
      · have c9 := nI_le' (by omega) (by omega) c_9
        obtain rfl : i = v 0 3 := by omega
        refine g_iload_n (pc := 34) dX5_creasedBy_34 rfl ?_
        refine g_ireturn (pc := 35) dX5_creasedBy_35 rfl (by first | rfl | decide) rfl ⟨_, rfl, ?_⟩
        exact ⟨rfl, rfl⟩
      · have c9 := nI_gt' (by omega) (by omega) c_9
        refine g_iload_n (pc := 12) dX5_creasedBy_12 rfl ?_
        refine g_aload_n (pc := 13) dX5_creasedBy_13 rfl ?_
        refine g_iload_n (pc := 14) dX5_creasedBy_14 rfl ?_
        refine v_iald (pc := 15) dX5_creasedBy_15 (by assumption) rfl (by first | decide | assumption | omega) (hf i c9).1 ?_
        refine g_aload_n (pc := 16) dX5_creasedBy_16 rfl ?_
        refine a_getr (pc := 17) (q := sb + 1) fl_X5_18 dX5_creasedBy_17 (by assumption) rfl (by assumption) ?_
        refine g_iload_n (pc := 20) dX5_creasedBy_20 rfl ?_
        refine v_iald (pc := 21) dX5_creasedBy_21 (by assumption) rfl (by first | decide | assumption | omega) (hp i c9).1.1 ?_
        refine a_cs1i (pc := 22) (c_X1_shows _ (hp i c9).1.2 μ) m_X1_shows ml_X5_56 (by omega) (Nat.le_of_ble_eq_true rfl) dX5_creasedBy_22 (fun x_22 μ_22 h_22 => ?_)
        obtain ⟨rfl, hm_22⟩ := h_22
        have hm_22 := hm_22.symm
        subst hm_22
        refine v_imul (pc := 25) dX5_creasedBy_25 (nI_mul _ _) ?_
        refine v_iadd (pc := 26) dX5_creasedBy_26 (nI_add _ _) ?_
        refine a_ist2 (pc := 27) dX5_creasedBy_27 (by decide) rfl ?_
        refine a_iinc3 (pc := 28) dX5_creasedBy_28 (inc1 i) (by decide) rfl ?_
        refine g_goto (pc := 31) (tgt := 4) dX5_creasedBy_31 (by decide) ?_
        exact ih (v 0 3 - (i + 1)) (by omega) (i + 1) (by omega) rfl
  exact lp4 _ 0 (Nat.zero_le _) rfl
