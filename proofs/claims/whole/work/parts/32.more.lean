/-! ===== kinds, rows, sheets: the rest of the leaves ===== -/
theorem c_X1_takes (k v n : Nat) (hk : k ≤ 5) (hv : v ≤ 99) (hn : n ≤ 9) (μ : Mem) : CA eI yX1_takes cX1_takes 4 (some .int) 1 [.int (nI k), .int (nI v), .int (nI n)] μ (fun x μ1 => x = nI (kTakes k v n) ∧ μ1 = μ) := by
  refine CT.of false (by decide) (by decide) (L := [some (.int (nI k)), some (.int (nI v)), some (.int (nI n)), none]) rfl (Nat.le_of_ble_eq_true rfl) ?_
  refine g_iconst (pc := 0) (v := (nI 1)) dX1_takes_0 (by decide) ?_
  refine a_ist3 (pc := 1) dX1_takes_1 (by decide) rfl ?_
  refine g_iload_n (pc := 2) dX1_takes_2 rfl ?_
  by_cases k_3_1 : nI k = nI 1
  · refine g_tableIn (pc := 3) (off := 33) (tgt := 36) dX1_takes_3 (by rw [k_3_1]; decide) (by rw [k_3_1]; decide) (by rw [k_3_1]; decide) (by decide) ?_
    obtain rfl := (nI_eq (by omega) (by omega)).mp k_3_1
    refine g_iload_n (pc := 36) dX1_takes_36 rfl ?_
    refine g_iconst (pc := 37) (v := (nI 2)) dX1_takes_37 (by decide) ?_
    refine g_iload_n (pc := 38) dX1_takes_38 rfl ?_
    refine v_imul (pc := 39) dX1_takes_39 (nI_mul _ _) ?_
    refine v_max (pc := 40) ml_X1_15 (by omega) (Nat.le_of_ble_eq_true rfl) dX1_takes_40 (nI_max (by decide) (by omega)) ?_
    refine g_ireturn (pc := 43) dX1_takes_43 rfl (by first | rfl | decide) rfl ⟨_, rfl, ?_⟩
    exact ⟨congrArg nI (by unfold kTakes; first | rfl | (repeat (first | rfl | omega | split))), rfl⟩
  have n_3_1 : ¬ k = 1 := fun h => k_3_1 (by rw [h])
  by_cases k_3_2 : nI k = nI 2
  · refine g_tableIn (pc := 3) (off := 61) (tgt := 64) dX1_takes_3 (by rw [k_3_2]; decide) (by rw [k_3_2]; decide) (by rw [k_3_2]; decide) (by decide) ?_
    obtain rfl := (nI_eq (by omega) (by omega)).mp k_3_2
    refine g_iload_n (pc := 64) dX1_takes_64 rfl ?_
    refine g_iload_n (pc := 65) dX1_takes_65 rfl ?_
    refine v_max (pc := 66) ml_X1_15 (by omega) (Nat.le_of_ble_eq_true rfl) dX1_takes_66 (nI_max (by decide) (by omega)) ?_
    refine g_ireturn (pc := 69) dX1_takes_69 rfl (by first | rfl | decide) rfl ⟨_, rfl, ?_⟩
    exact ⟨congrArg nI (by unfold kTakes; first | rfl | (repeat (first | rfl | omega | split))), rfl⟩
  have n_3_2 : ¬ k = 2 := fun h => k_3_2 (by rw [h])
  by_cases k_3_3 : nI k = nI 3
  · refine g_tableIn (pc := 3) (off := 41) (tgt := 44) dX1_takes_3 (by rw [k_3_3]; decide) (by rw [k_3_3]; decide) (by rw [k_3_3]; decide) (by decide) ?_
    obtain rfl := (nI_eq (by omega) (by omega)).mp k_3_3
    refine g_iload_n (pc := 44) dX1_takes_44 rfl ?_
    refine g_iconst (pc := 45) (v := (nI 2)) dX1_takes_45 (by decide) ?_
    refine g_iload_n (pc := 46) dX1_takes_46 rfl ?_
    refine v_imul (pc := 47) dX1_takes_47 (nI_mul _ _) ?_
    refine g_iload_n (pc := 48) dX1_takes_48 rfl ?_
    refine v_iadd (pc := 49) dX1_takes_49 (nI_add _ _) ?_
    refine v_max (pc := 50) ml_X1_15 (by omega) (Nat.le_of_ble_eq_true rfl) dX1_takes_50 (nI_max (by decide) (by omega)) ?_
    refine g_ireturn (pc := 53) dX1_takes_53 rfl (by first | rfl | decide) rfl ⟨_, rfl, ?_⟩
    exact ⟨congrArg nI (by unfold kTakes; first | rfl | (repeat (first | rfl | omega | split))), rfl⟩
  have n_3_3 : ¬ k = 3 := fun h => k_3_3 (by rw [h])
  by_cases k_3_4 : nI k = nI 4
  · refine g_tableIn (pc := 3) (off := 51) (tgt := 54) dX1_takes_3 (by rw [k_3_4]; decide) (by rw [k_3_4]; decide) (by rw [k_3_4]; decide) (by decide) ?_
    obtain rfl := (nI_eq (by omega) (by omega)).mp k_3_4
    refine g_iload_n (pc := 54) dX1_takes_54 rfl ?_
    refine g_iload_n (pc := 55) dX1_takes_55 rfl ?_
    refine g_iconst (pc := 56) (v := (nI 2)) dX1_takes_56 (by decide) ?_
    refine v_idiv (pc := 57) dX1_takes_57 (by decide) (pk_div (by omega) (by decide) (by decide)) ?_
    refine v_max (pc := 58) ml_X1_15 (by omega) (Nat.le_of_ble_eq_true rfl) dX1_takes_58 (nI_max (by decide) (by omega)) ?_
    refine g_ireturn (pc := 61) dX1_takes_61 rfl (by first | rfl | decide) rfl ⟨_, rfl, ?_⟩
    exact ⟨congrArg nI (by unfold kTakes; first | rfl | (repeat (first | rfl | omega | split))), rfl⟩
  have n_3_4 : ¬ k = 4 := fun h => k_3_4 (by rw [h])
  by_cases k_3_5 : nI k = nI 5
  · refine g_tableIn (pc := 3) (off := 59) (tgt := 62) dX1_takes_3 (by rw [k_3_5]; decide) (by rw [k_3_5]; decide) (by rw [k_3_5]; decide) (by decide) ?_
    obtain rfl := (nI_eq (by omega) (by omega)).mp k_3_5
    refine g_iload_n (pc := 62) dX1_takes_62 rfl ?_
    refine g_ireturn (pc := 63) dX1_takes_63 rfl (by first | rfl | decide) rfl ⟨_, rfl, ?_⟩
    exact ⟨congrArg nI (by unfold kTakes; first | rfl | (repeat (first | rfl | omega | split))), rfl⟩
  have n_3_5 : ¬ k = 5 := fun h => k_3_5 (by rw [h])
  have kd_3 : (nI k).toInt < 1 ∨ 5 < (nI k).toInt := by
    have w_1 := lv_neT (a := 1) k_3_1 (by decide)
    have w_2 := lv_neT (a := 2) k_3_2 (by decide)
    have w_3 := lv_neT (a := 3) k_3_3 (by decide)
    have w_4 := lv_neT (a := 4) k_3_4 (by decide)
    have w_5 := lv_neT (a := 5) k_3_5 (by decide)
    omega
  refine g_tableOut (pc := 3) (tgt := 64) dX1_takes_3 kd_3 (by decide) ?_
  refine g_iload_n (pc := 64) dX1_takes_64 rfl ?_
  refine g_iload_n (pc := 65) dX1_takes_65 rfl ?_
  refine v_max (pc := 66) ml_X1_15 (by omega) (Nat.le_of_ble_eq_true rfl) dX1_takes_66 (nI_max (by decide) (by omega)) ?_
  refine g_ireturn (pc := 69) dX1_takes_69 rfl (by first | rfl | decide) rfl ⟨_, rfl, ?_⟩
  exact ⟨congrArg nI (by unfold kTakes; first | rfl | (repeat (first | rfl | omega | split))), rfl⟩
theorem crump_lem : ∀ v, v < 100 → (if nI 0 < nI v - nI 2 then nI v - nI 2 else nI 0) = nI (v - 2) := by decide +kernel
theorem c_X1_crumples (k v : Nat) (hk : k ≤ 5) (hv : v ≤ 99) (μ : Mem) : CA eI yX1_crumples cX1_crumples 2 (some .int) 1 [.int (nI k), .int (nI v)] μ (fun x μ1 => x = nI (kCrumples k v) ∧ μ1 = μ) := by
  refine CT.of false (by decide) (by decide) (L := [some (.int (nI k)), some (.int (nI v))]) rfl (Nat.le_of_ble_eq_true rfl) ?_
  refine g_iload_n (pc := 0) dX1_crumples_0 rfl ?_
  by_cases k_1_1 : nI k = nI 1
  · refine g_tableIn (pc := 1) (off := 35) (tgt := 36) dX1_crumples_1 (by rw [k_1_1]; decide) (by rw [k_1_1]; decide) (by rw [k_1_1]; decide) (by decide) ?_
    obtain rfl := (nI_eq (by omega) (by omega)).mp k_1_1
    refine g_iconst (pc := 36) (v := (nI 0)) dX1_crumples_36 (by decide) ?_
    refine g_iload_n (pc := 37) dX1_crumples_37 rfl ?_
    refine g_iconst (pc := 38) (v := (nI 2)) dX1_crumples_38 (by decide) ?_
    refine v_isub (pc := 39) dX1_crumples_39 rfl ?_
    refine v_max (pc := 40) ml_X1_15 (by omega) (Nat.le_of_ble_eq_true rfl) dX1_crumples_40 (crump_lem v (by omega)) ?_
    refine g_ireturn (pc := 43) dX1_crumples_43 rfl (by first | rfl | decide) rfl ⟨_, rfl, ?_⟩
    exact ⟨congrArg nI (by unfold kCrumples; first | rfl | (repeat (first | rfl | omega | split))), rfl⟩
  have n_1_1 : ¬ k = 1 := fun h => k_1_1 (by rw [h])
  by_cases k_1_2 : nI k = nI 2
  · refine g_tableIn (pc := 1) (off := 43) (tgt := 44) dX1_crumples_1 (by rw [k_1_2]; decide) (by rw [k_1_2]; decide) (by rw [k_1_2]; decide) (by decide) ?_
    obtain rfl := (nI_eq (by omega) (by omega)).mp k_1_2
    refine g_iconst (pc := 44) (v := (nI 2)) dX1_crumples_44 (by decide) ?_
    refine g_iload_n (pc := 45) dX1_crumples_45 rfl ?_
    refine v_imul (pc := 46) dX1_crumples_46 (nI_mul _ _) ?_
    refine g_ireturn (pc := 47) dX1_crumples_47 rfl (by first | rfl | decide) rfl ⟨_, rfl, ?_⟩
    exact ⟨congrArg nI (by unfold kCrumples; first | rfl | (repeat (first | rfl | omega | split))), rfl⟩
  have n_1_2 : ¬ k = 2 := fun h => k_1_2 (by rw [h])
  by_cases k_1_3 : nI k = nI 3
  · refine g_tableIn (pc := 1) (off := 35) (tgt := 36) dX1_crumples_1 (by rw [k_1_3]; decide) (by rw [k_1_3]; decide) (by rw [k_1_3]; decide) (by decide) ?_
    obtain rfl := (nI_eq (by omega) (by omega)).mp k_1_3
    refine g_iconst (pc := 36) (v := (nI 0)) dX1_crumples_36 (by decide) ?_
    refine g_iload_n (pc := 37) dX1_crumples_37 rfl ?_
    refine g_iconst (pc := 38) (v := (nI 2)) dX1_crumples_38 (by decide) ?_
    refine v_isub (pc := 39) dX1_crumples_39 rfl ?_
    refine v_max (pc := 40) ml_X1_15 (by omega) (Nat.le_of_ble_eq_true rfl) dX1_crumples_40 (crump_lem v (by omega)) ?_
    refine g_ireturn (pc := 43) dX1_crumples_43 rfl (by first | rfl | decide) rfl ⟨_, rfl, ?_⟩
    exact ⟨congrArg nI (by unfold kCrumples; first | rfl | (repeat (first | rfl | omega | split))), rfl⟩
  have n_1_3 : ¬ k = 3 := fun h => k_1_3 (by rw [h])
  by_cases k_1_4 : nI k = nI 4
  · refine g_tableIn (pc := 1) (off := 43) (tgt := 44) dX1_crumples_1 (by rw [k_1_4]; decide) (by rw [k_1_4]; decide) (by rw [k_1_4]; decide) (by decide) ?_
    obtain rfl := (nI_eq (by omega) (by omega)).mp k_1_4
    refine g_iconst (pc := 44) (v := (nI 2)) dX1_crumples_44 (by decide) ?_
    refine g_iload_n (pc := 45) dX1_crumples_45 rfl ?_
    refine v_imul (pc := 46) dX1_crumples_46 (nI_mul _ _) ?_
    refine g_ireturn (pc := 47) dX1_crumples_47 rfl (by first | rfl | decide) rfl ⟨_, rfl, ?_⟩
    exact ⟨congrArg nI (by unfold kCrumples; first | rfl | (repeat (first | rfl | omega | split))), rfl⟩
  have n_1_4 : ¬ k = 4 := fun h => k_1_4 (by rw [h])
  by_cases k_1_5 : nI k = nI 5
  · refine g_tableIn (pc := 1) (off := 47) (tgt := 48) dX1_crumples_1 (by rw [k_1_5]; decide) (by rw [k_1_5]; decide) (by rw [k_1_5]; decide) (by decide) ?_
    obtain rfl := (nI_eq (by omega) (by omega)).mp k_1_5
    refine g_iconst (pc := 48) (v := (nI 0)) dX1_crumples_48 (by decide) ?_
    refine g_ireturn (pc := 49) dX1_crumples_49 rfl (by first | rfl | decide) rfl ⟨_, rfl, ?_⟩
    exact ⟨congrArg nI (by unfold kCrumples; first | rfl | (repeat (first | rfl | omega | split))), rfl⟩
  have n_1_5 : ¬ k = 5 := fun h => k_1_5 (by rw [h])
  have kd_1 : (nI k).toInt < 1 ∨ 5 < (nI k).toInt := by
    have w_1 := lv_neT (a := 1) k_1_1 (by decide)
    have w_2 := lv_neT (a := 2) k_1_2 (by decide)
    have w_3 := lv_neT (a := 3) k_1_3 (by decide)
    have w_4 := lv_neT (a := 4) k_1_4 (by decide)
    have w_5 := lv_neT (a := 5) k_1_5 (by decide)
    omega
  refine g_tableOut (pc := 1) (tgt := 50) dX1_crumples_1 kd_1 (by decide) ?_
  refine g_iload_n (pc := 50) dX1_crumples_50 rfl ?_
  refine g_ireturn (pc := 51) dX1_crumples_51 rfl (by first | rfl | decide) rfl ⟨_, rfl, ?_⟩
  exact ⟨congrArg nI (by unfold kCrumples; first | rfl | (repeat (first | rfl | omega | split))), rfl⟩
def kUp (o : Nat) : Nat := if o = 3 then 1 else if o = 4 then 2 else if o = 0 then 6 else if o = 6 then 6 else 0
def kDp (o : Nat) : Nat := if o = 6 then 0 else if o = 0 then 1 else if o = 3 then 3 else if o = 4 then 3 else 2
def kUnd (o b : Nat) : Bool := o == b || kUp o == b || kUp (kUp o) == b
def kV (o : Nat) : Int32 := if o = 6 then -1 else nI o
theorem kDp_up : ∀ o, o < 6 → kDp (kUp o) + 1 = kDp o ∧ kUp o ≤ 6 ∧ s_V 1 o = kV (kUp o) := by decide +kernel
theorem kDp_le : ∀ o, o < 7 → kDp o ≤ 3 := by decide
theorem kUnd_up : ∀ o, o < 6 → ∀ b, b < 6 → ¬ o = b → kUnd (kUp o) b = kUnd o b := by decide +kernel
theorem kV6 : kV 6 = -1 := by decide
theorem kVn {o : Nat} (h : ¬ o = 6) : kV o = nI o := by unfold kV; rw [if_neg h]
theorem kUnd6 : ∀ b, b < 6 → kUnd 6 b = false := by decide
theorem c_X1_isUnder (a b : Nat) (ha : a ≤ 5) (hb : b ≤ 5) (μ : Mem) : CA eI yX1_isUnder cX1_isUnder 4 (some .boolean) 0 [.int (nI a), .int (nI b)] μ (fun x μ1 => x = nI (if kUnd a b then 1 else 0) ∧ μ1 = μ) := by
  refine CT.of false (by decide) (by decide) (L := [some (.int (nI a)), some (.int (nI b)), none, none]) rfl (Nat.le_of_ble_eq_true rfl) ?_
  refine g_iload_n (pc := 0) dX1_isUnder_0 rfl ?_
  refine a_ist2 (pc := 1) dX1_isUnder_1 (by decide) rfl ?_
  refine g_iconst (pc := 2) (v := (nI 0)) dX1_isUnder_2 (by decide) ?_
  refine a_ist3 (pc := 3) dX1_isUnder_3 (by decide) rfl ?_
  have ea : nI a = kV a := (kVn (by omega)).symm
  rw [ea]
  have lp4 : ∀ (zz : Nat) (o i : Nat) (ho : o ≤ 6) (hi : i + kDp o ≤ 3) (hu : kUnd o b = kUnd a b), 3 - i = zz → WG eI yX1_isUnder.cls cX1_isUnder 4 (some .boolean) false (fun _ _ => True) 0 (mpost (fun x μ1 => x = nI (if kUnd a b then 1 else 0) ∧ μ1 = μ)) 0 0 4 [some (.int (kV a)), some (.int (nI b)), some (.int (kV o)), some (.int (nI i))] [] (mk μ) := by
    intro zz
    induction zz using Nat.strongRecOn with
    | ind zz ih =>
      intro o i ho hi hu hzz
      refine g_iload_n (pc := 4) dX1_isUnder_4 rfl ?_
      refine g_bipush (pc := 5) (v := (nI 6)) dX1_isUnder_5 (by decide) ?_
      refine g_icmp_ge (pc := 7) (tgt := 37) dX1_isUnder_7 (by decide) (fun c_7 => absurd c_7 (fun h => absurd (nI_le' (by omega) (by omega) h) (by omega))) (fun c_7 => ?_)
      refine g_iload_n (pc := 10) dX1_isUnder_10 rfl ?_
      refine g_if_lt (pc := 11) (tgt := 37) dX1_isUnder_11 (by decide) (fun c_11 => ?_) (fun c_11 => ?_)
      · have ho6 : o = 6 := by
          rcases Nat.lt_or_ge o 6 with q | q
          · rw [kVn (by omega)] at c_11
            exact absurd c_11 (nI_pos (by omega))
          · omega
        subst ho6
        refine g_iload_n (pc := 37) dX1_isUnder_37 rfl ?_
        refine g_iload_n (pc := 38) dX1_isUnder_38 rfl ?_
        refine g_icmp_ne (pc := 39) (tgt := 46) dX1_isUnder_39 (by decide) (fun _ => ?_) (fun h => ?_)
        · refine g_iconst (pc := 46) (v := (nI 0)) dX1_isUnder_46 (by decide) ?_
          refine g_ireturn (pc := 47) dX1_isUnder_47 rfl (by first | rfl | decide) rfl ⟨_, rfl, ?_⟩
          rw [← hu, kUnd6 b (by omega)]
          exact ⟨rfl, rfl⟩
        · exfalso
          rw [kV6] at h
          exact nI_m1' (by omega) h
      · have ho6 : ¬ o = 6 := fun q => by
          rw [q, kV6] at c_11
          exact c_11 (by decide)
        rw [kVn ho6]
        have hup := kDp_up o (by omega)
        refine g_iload_n (pc := 14) dX1_isUnder_14 rfl ?_
        refine g_bipush (pc := 15) (v := (nI 6)) dX1_isUnder_15 (by decide) ?_
        refine g_icmp_ge (pc := 17) (tgt := 37) dX1_isUnder_17 (by decide) (fun c_17 => absurd c_17 (fun h => absurd (nI_le' (by omega) (by omega) h) (by omega))) (fun c_17 => ?_)
        refine g_iload_n (pc := 20) dX1_isUnder_20 rfl ?_
        refine g_iload_n (pc := 21) dX1_isUnder_21 rfl ?_
        refine g_icmp_eq (pc := 22) (tgt := 37) dX1_isUnder_22 (by decide) (fun c_22 => ?_) (fun c_22 => ?_)
        · have hob := nI_eq' (by omega) (by omega) c_22
          refine g_iload_n (pc := 37) dX1_isUnder_37 rfl ?_
          refine g_iload_n (pc := 38) dX1_isUnder_38 rfl ?_
          refine g_icmp_ne (pc := 39) (tgt := 46) dX1_isUnder_39 (by decide) (fun c_39 => absurd c_39 (fun h => h c_22)) (fun c_39 => ?_)
          subst hob
          refine g_iconst (pc := 42) (v := (nI 1)) dX1_isUnder_42 (by decide) ?_
          refine g_goto (pc := 43) (tgt := 47) dX1_isUnder_43 (by decide) ?_
          refine g_ireturn (pc := 47) dX1_isUnder_47 rfl (by first | rfl | decide) rfl ⟨_, rfl, ?_⟩
          rw [← hu, show kUnd o o = true from by unfold kUnd; simp]
          exact ⟨rfl, rfl⟩
        · have hob := nI_ne' (by omega) (by omega) c_22
          refine g_gets (pc := 25) (i := 1) (by decide) sl_X1_20 dX1_isUnder_25 ?_
          refine g_iload_n (pc := 28) dX1_isUnder_28 rfl ?_
          refine v_sald (pc := 29) (by decide) rfl (by show o < 6; omega) dX1_isUnder_29 hup.2.2 ?_
          refine a_ist2 (pc := 30) dX1_isUnder_30 (by decide) rfl ?_
          refine a_iinc3 (pc := 31) dX1_isUnder_31 (inc1 i) (by decide) rfl ?_
          refine g_goto (pc := 34) (tgt := 4) dX1_isUnder_34 (by decide) ?_
          exact ih (3 - (i + 1)) (by omega) (kUp o) (i + 1) hup.2.1 (by omega) ((kUnd_up o (by omega) b (by omega) hob).trans hu) rfl
  exact lp4 _ a 0 (by omega) (by have := kDp_le a (by omega); omega) rfl rfl
theorem nI_bv (y : Int32) : y = nI y.toBitVec.toNat := Int32.toBitVec_inj.mp (by show y.toBitVec = BitVec.ofNat 32 y.toBitVec.toNat; simp)
def zD (z : Int32) : Nat → Int32
  | 0 => z
  | n + 1 => zD z n * 1103515245 + nI 12345
def drawU (z : Int32) : Nat := ((z.toUInt32 >>> ((nI 9).toUInt32 &&& Int32.toUInt32 31)).toInt32).toBitVec.toNat
theorem drawU_lt (z : Int32) : drawU z < 2 ^ 31 := by
  unfold drawU
  rw [pk_ushr z (nI 9) 9 (by decide +kernel)]
  have := z.toBitVec.isLt
  omega
def drawN (z : Int32) (p : Nat) : Nat := drawU (zD z (p + 1)) % 100
theorem drawN_le (z : Int32) (p : Nat) : drawN z p ≤ 99 := by
  have := Nat.mod_lt (drawU (zD z (p + 1))) (show 0 < 100 by decide)
  unfold drawN
  omega
theorem drawN_eq (z : Int32) : nI (drawU z) - nI (drawU z) / nI 100 * nI 100 = nI (drawU z % 100) := pk_rem (drawU_lt z) (by decide) (by decide)
theorem c_X5_draw (sb : Nat) (hsb : SB sb) (v : View) (μ : Mem) (hv : SV μ sb v) (z : Int32) : CA eV yX5_draw cX5_draw 4 none 0 [.ref sb, .int z] μ (fun _ μ1 => (∀ p, p < v 0 3 → μ1 (sb + 3) p = nI (drawN z p)) ∧ ∀ k, k ≠ sb + 3 → μ1 k = μ k) := by
  obtain ⟨hs0, hs1, hs2, hs3, hs4, hr4, hr5, hr6, hr7, hs9⟩ := hsb.f
  obtain ⟨⟨e0, b0⟩, ⟨e1, b1⟩, ⟨e2, b2⟩, ⟨e3, b3⟩, hp⟩ := id hv
  refine CT.of false (by decide) (by decide) (L := [some (.ref sb), some (.int z), none, none]) rfl (Nat.le_of_ble_eq_true rfl) ?_
  refine g_iload_n (pc := 0) dX5_draw_0 rfl ?_
  refine a_ist2 (pc := 1) dX5_draw_1 (by decide) rfl ?_
  refine g_iconst (pc := 2) (v := (nI 0)) dX5_draw_2 (by decide) ?_
  refine a_ist3 (pc := 3) dX5_draw_3 (by decide) rfl ?_
  have lp4 : ∀ (zz : Nat) (i : Nat) (hi : i ≤ v 0 3) (ν : Mem) (hν : (∀ p, p < i → ν (sb + 3) p = nI (drawN z p)) ∧ ∀ k, k ≠ sb + 3 → ν k = μ k), v 0 3 - i = zz → WG eV yX5_draw.cls cX5_draw 4 none false (fun _ _ => True) 0 (mpost (fun _ μ1 => (∀ p, p < v 0 3 → μ1 (sb + 3) p = nI (drawN z p)) ∧ ∀ k, k ≠ sb + 3 → μ1 k = μ k)) 0 0 4 [some (.ref sb), some (.int z), some (.int (zD z i)), some (.int (nI i))] [] (mk ν) := by
    intro zz
    induction zz using Nat.strongRecOn with
    | ind zz ih =>
      intro i hi ν hν hzz
      refine g_iload_n (pc := 4) dX5_draw_4 rfl ?_
      refine g_aload_n (pc := 5) dX5_draw_5 rfl ?_
      refine v_geti (pc := 6) fl_X5_31 dX5_draw_6 (by assumption) rfl ((congrFun (hν.2 sb (by omega)) 3).trans e3) ?_
      refine g_icmp_ge (pc := 9) (tgt := 40) dX5_draw_9 (by decide) (fun c_9 => ?_) (fun c_9 => ?_)
      · have c9 := nI_le' (by omega) (by omega) c_9
        obtain rfl : i = v 0 3 := by omega
        refine g_return (pc := 40) (x := ()) dX5_draw_40 rfl rfl ⟨_, rfl, ?_⟩
        exact hν
      · have c9 := nI_gt' (by omega) (by omega) c_9
        refine g_iload_n (pc := 12) dX5_draw_12 rfl ?_
        refine g_ldc (pc := 13) dX5_draw_13 kc_X5_55 ?_
        refine v_imul (pc := 15) dX5_draw_15 rfl ?_
        refine g_sipush (pc := 16) (v := (nI 12345)) dX5_draw_16 (by decide) ?_
        refine v_iadd (pc := 19) dX5_draw_19 rfl ?_
        refine a_ist2 (pc := 20) dX5_draw_20 (by decide) rfl ?_
        refine g_aload_n (pc := 21) dX5_draw_21 rfl ?_
        refine a_getr (pc := 22) (q := sb + 3) fl_X5_25 dX5_draw_22 (by assumption) rfl (by assumption) ?_
        refine g_iload_n (pc := 25) dX5_draw_25 rfl ?_
        refine g_iload_n (pc := 26) dX5_draw_26 rfl ?_
        refine g_bipush (pc := 27) (v := (nI 9)) dX5_draw_27 (by decide) ?_
        refine g_iushr (pc := 29) dX5_draw_29 (nI_bv _) ?_
        refine g_bipush (pc := 30) (v := (nI 100)) dX5_draw_30 (by decide) ?_
        refine v_irem (pc := 32) dX5_draw_32 (by decide) (drawN_eq _) ?_
        refine a_iast (pc := 33) dX5_draw_33 (by assumption) rfl (by first | decide | assumption | omega) ?_
        refine a_iinc3 (pc := 34) dX5_draw_34 (inc1 i) (by decide) rfl ?_
        refine g_goto (pc := 37) (tgt := 4) dX5_draw_37 (by decide) ?_
        refine ih (v 0 3 - (i + 1)) (by omega) (i + 1) (by omega) _ ⟨fun p hq => ?_, fun k hk => ?_⟩ rfl
        · by_cases hpi : p = i
          · subst hpi
            rw [mset_eq]
            rfl
          · rw [mset_nj hpi]
            exact hν.1 p (by omega)
        · rw [mset_ne hk]
          exact hν.2 k hk
  exact lp4 _ 0 (Nat.zero_le _) μ ⟨fun p h => absurd h (Nat.not_lt_zero _), fun _ _ => rfl⟩ rfl
theorem c_J7_fill (k n : Nat) (hk : sh k = (0, n)) (x : Int32) (μ : Mem) : CA eV yJ7_fill_53178 cJ7_fill_53178 4 none 0 [.ref k, .int x] μ (fun _ μ1 => (∀ p, p < n → μ1 k p = x) ∧ ∀ q, q ≠ k → μ1 q = μ q) := by
  have hn := sh_n hk
  refine CT.of false (by decide) (by decide) (L := [some (.ref k), some (.int x), none, none]) rfl (Nat.le_of_ble_eq_true rfl) ?_
  refine g_iconst (pc := 0) (v := (nI 0)) dJ7_fill_53178_0 (by decide) ?_
  refine a_ist2 (pc := 1) dJ7_fill_53178_1 (by decide) rfl ?_
  refine g_aload_n (pc := 2) dJ7_fill_53178_2 rfl ?_
  refine a_alen (pc := 3) dJ7_fill_53178_3 (by assumption) rfl ?_
  refine a_ist3 (pc := 4) dJ7_fill_53178_4 (by decide) rfl ?_
  have lp : ∀ (zz : Nat) (i : Nat) (hi : i ≤ n) (ν : Mem) (hν : (∀ p, p < i → ν k p = x) ∧ ∀ q, q ≠ k → ν q = μ q), n - i = zz → WG eV yJ7_fill_53178.cls cJ7_fill_53178 4 none false (fun _ _ => True) 0 (mpost (fun _ μ1 => (∀ p, p < n → μ1 k p = x) ∧ ∀ q, q ≠ k → μ1 q = μ q)) 0 0 5 [some (.ref k), some (.int x), some (.int (nI i)), some (.int (nI n))] [] (mk ν) := by
    intro zz
    induction zz using Nat.strongRecOn with
    | ind zz ih =>
      intro i hi ν hν hzz
      refine g_iload_n (pc := 5) dJ7_fill_53178_5 rfl ?_
      refine g_iload_n (pc := 6) dJ7_fill_53178_6 rfl ?_
      refine g_icmp_ge (pc := 7) (tgt := 20) dJ7_fill_53178_7 (by decide) (fun c_7 => ?_) (fun c_7 => ?_)
      · have c7 := nI_le' (by omega) (by omega) c_7
        obtain rfl : i = n := by omega
        refine g_return (pc := 20) (x := ()) dJ7_fill_53178_20 rfl rfl ⟨_, rfl, ?_⟩
        exact hν
      · have c7 := nI_gt' (by omega) (by omega) c_7
        refine g_aload_n (pc := 10) dJ7_fill_53178_10 rfl ?_
        refine g_iload_n (pc := 11) dJ7_fill_53178_11 rfl ?_
        refine g_iload_n (pc := 12) dJ7_fill_53178_12 rfl ?_
        refine a_iast (pc := 13) dJ7_fill_53178_13 (by assumption) rfl (by first | decide | assumption | omega) ?_
        refine a_iinc2 (pc := 14) dJ7_fill_53178_14 (inc1 i) (by decide) rfl ?_
        refine g_goto (pc := 17) (tgt := 5) dJ7_fill_53178_17 (by decide) ?_
        refine ih (n - (i + 1)) (by omega) (i + 1) (by omega) _ ⟨fun p hq => ?_, fun q hq => ?_⟩ rfl
        · by_cases hpi : p = i
          · subst hpi
            rw [mset_eq]
          · rw [mset_nj hpi]
            exact hν.1 p (by omega)
        · rw [mset_ne hq]
          exact hν.2 q hq
  exact lp _ 0 (Nat.zero_le _) μ ⟨fun p h => absurd h (Nat.not_lt_zero _), fun _ _ => rfl⟩ rfl
def popc (b : Nat) : Nat := b % 2 + b / 2 % 2 + b / 4 % 2 + b / 8 % 2 + b / 16 % 2 + b / 32 % 2 + b / 64 % 2
theorem c_J6_bitCount (b : Nat) (hb : b < 128) (μ : Mem) : CA eI yJ6_bitCount_0f7a4 cJ6_bitCount_0f7a4 1 (some .int) 0 [.int (nI b)] μ (fun x μ1 => x = nI (popc b) ∧ μ1 = μ) := by
  refine CT.of false (by decide) (by decide) (L := [some (.int (nI b))]) rfl (Nat.le_of_ble_eq_true rfl) ?_
  refine g_iload_n (pc := 0) dJ6_bitCount_0f7a4_0 rfl ?_
  refine g_iload_n (pc := 1) dJ6_bitCount_0f7a4_1 rfl ?_
  refine g_iconst (pc := 2) (v := (nI 1)) dJ6_bitCount_0f7a4_2 (by decide) ?_
  refine g_iushr (pc := 3) dJ6_bitCount_0f7a4_3 rfl ?_
  refine g_ldcw (pc := 4) dJ6_bitCount_0f7a4_4 kc_J6_265 ?_
  refine v_iand (pc := 7) dJ6_bitCount_0f7a4_7 rfl ?_
  refine v_isub (pc := 8) dJ6_bitCount_0f7a4_8 rfl ?_
  refine a_ist0 (pc := 9) dJ6_bitCount_0f7a4_9 (by decide) ?_
  refine g_iload_n (pc := 10) dJ6_bitCount_0f7a4_10 rfl ?_
  refine g_ldcw (pc := 11) dJ6_bitCount_0f7a4_11 kc_J6_266 ?_
  refine v_iand (pc := 14) dJ6_bitCount_0f7a4_14 rfl ?_
  refine g_iload_n (pc := 15) dJ6_bitCount_0f7a4_15 rfl ?_
  refine g_iconst (pc := 16) (v := (nI 2)) dJ6_bitCount_0f7a4_16 (by decide) ?_
  refine g_iushr (pc := 17) dJ6_bitCount_0f7a4_17 rfl ?_
  refine g_ldcw (pc := 18) dJ6_bitCount_0f7a4_18 kc_J6_266 ?_
  refine v_iand (pc := 21) dJ6_bitCount_0f7a4_21 rfl ?_
  refine v_iadd (pc := 22) dJ6_bitCount_0f7a4_22 rfl ?_
  refine a_ist0 (pc := 23) dJ6_bitCount_0f7a4_23 (by decide) ?_
  refine g_iload_n (pc := 24) dJ6_bitCount_0f7a4_24 rfl ?_
  refine g_iload_n (pc := 25) dJ6_bitCount_0f7a4_25 rfl ?_
  refine g_iconst (pc := 26) (v := (nI 4)) dJ6_bitCount_0f7a4_26 (by decide) ?_
  refine g_iushr (pc := 27) dJ6_bitCount_0f7a4_27 rfl ?_
  refine v_iadd (pc := 28) dJ6_bitCount_0f7a4_28 rfl ?_
  refine g_ldcw (pc := 29) dJ6_bitCount_0f7a4_29 kc_J6_267 ?_
  refine v_iand (pc := 32) dJ6_bitCount_0f7a4_32 rfl ?_
  refine a_ist0 (pc := 33) dJ6_bitCount_0f7a4_33 (by decide) ?_
  refine g_iload_n (pc := 34) dJ6_bitCount_0f7a4_34 rfl ?_
  refine g_iload_n (pc := 35) dJ6_bitCount_0f7a4_35 rfl ?_
  refine g_bipush (pc := 36) (v := (nI 8)) dJ6_bitCount_0f7a4_36 (by decide) ?_
  refine g_iushr (pc := 38) dJ6_bitCount_0f7a4_38 rfl ?_
  refine v_iadd (pc := 39) dJ6_bitCount_0f7a4_39 rfl ?_
  refine a_ist0 (pc := 40) dJ6_bitCount_0f7a4_40 (by decide) ?_
  refine g_iload_n (pc := 41) dJ6_bitCount_0f7a4_41 rfl ?_
  refine g_iload_n (pc := 42) dJ6_bitCount_0f7a4_42 rfl ?_
  refine g_bipush (pc := 43) (v := (nI 16)) dJ6_bitCount_0f7a4_43 (by decide) ?_
  refine g_iushr (pc := 45) dJ6_bitCount_0f7a4_45 rfl ?_
  refine v_iadd (pc := 46) dJ6_bitCount_0f7a4_46 rfl ?_
  refine a_ist0 (pc := 47) dJ6_bitCount_0f7a4_47 (by decide) ?_
  refine g_iload_n (pc := 48) dJ6_bitCount_0f7a4_48 rfl ?_
  refine g_bipush (pc := 49) (v := (nI 63)) dJ6_bitCount_0f7a4_49 (by decide) ?_
  refine v_iand (pc := 51) dJ6_bitCount_0f7a4_51 rfl ?_
  refine g_ireturn (pc := 52) dJ6_bitCount_0f7a4_52 rfl (by first | rfl | decide) rfl ⟨_, rfl, ?_⟩
  refine ⟨?_, rfl⟩
  clear μ
  revert b
  decide +kernel
