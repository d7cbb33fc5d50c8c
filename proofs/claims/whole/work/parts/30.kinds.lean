/-! ===== the kinds ===== -/
/-- a number of 0 .. m -/
def RB (x : Int32) (m : Nat) : Prop := ∃ n : Nat, n ≤ m ∧ x = nI n
def kShows (k : Nat) : Nat := if k = 1 then 3 else if k = 3 then 2 else if k = 4 then 2 else 1
def kKeeps (k v c n : Nat) : Nat := if k = 1 then v / 2 else if k = 2 then min 99 (v + n) else if k = 3 then v / 2 else if k = 4 then min 99 (min v (c / 2) + n) else if k = 5 then c / 3 else v
def kTakes (k v n : Nat) : Nat := if k = 1 then max 1 (2 * v) else if k = 3 then max 1 (2 * v + n) else if k = 4 then max 1 (v / 2) else if k = 5 then 1 else max 1 v
def kCrumples (k v : Nat) : Nat := if k = 1 then v - 2 else if k = 2 then 2 * v else if k = 3 then v - 2 else if k = 4 then 2 * v else if k = 5 then 0 else v
theorem nI_min {a b : Nat} (ha : a < 2 ^ 31) (hb : b < 2 ^ 31) : (if nI b < nI a then nI b else nI a) = nI (min a b) := by
  by_cases h : b < a
  · rw [if_pos (nI_lt h ha), Nat.min_eq_right (by omega)]
  · rw [if_neg (nI_nlt (by omega) hb), Nat.min_eq_left (by omega)]
theorem nI_max {a b : Nat} (ha : a < 2 ^ 31) (hb : b < 2 ^ 31) : (if nI a < nI b then nI b else nI a) = nI (max a b) := by
  by_cases h : a < b
  · rw [if_pos (nI_lt h hb), Nat.max_eq_right (by omega)]
  · rw [if_neg (nI_nlt (by omega) ha), Nat.max_eq_left (by omega)]
theorem c_X1_shows (k : Nat) (hk : k ≤ 5) (μ : Mem) : CA eI yX1_shows cX1_shows 1 (some .int) 0 [.int (nI k)] μ (fun x μ1 => x = nI (kShows k) ∧ μ1 = μ) := by
  refine CT.of false (by decide) (by decide) (L := [some (.int (nI k))]) rfl (Nat.le_of_ble_eq_true rfl) ?_
  refine g_iload_n (pc := 0) dX1_shows_0 rfl ?_
  by_cases k_1_1 : nI k = nI 1
  · refine g_tableIn (pc := 1) (off := 31) (tgt := 32) dX1_shows_1 (by rw [k_1_1]; decide) (by rw [k_1_1]; decide) (by rw [k_1_1]; decide) (by decide) ?_
    obtain rfl := (nI_eq (by omega) (by omega)).mp k_1_1
    refine g_iconst (pc := 32) (v := (nI 3)) dX1_shows_32 (by decide) ?_
    refine g_ireturn (pc := 33) dX1_shows_33 rfl (by first | rfl | decide) rfl ⟨_, rfl, ?_⟩
    exact ⟨congrArg nI (by unfold kShows; first | rfl | (repeat (first | rfl | omega | split))), rfl⟩
  have n_1_1 : ¬ k = 1 := fun h => k_1_1 (by rw [h])
  by_cases k_1_2 : nI k = nI 2
  · refine g_tableIn (pc := 1) (off := 35) (tgt := 36) dX1_shows_1 (by rw [k_1_2]; decide) (by rw [k_1_2]; decide) (by rw [k_1_2]; decide) (by decide) ?_
    obtain rfl := (nI_eq (by omega) (by omega)).mp k_1_2
    refine g_iconst (pc := 36) (v := (nI 1)) dX1_shows_36 (by decide) ?_
    refine g_ireturn (pc := 37) dX1_shows_37 rfl (by first | rfl | decide) rfl ⟨_, rfl, ?_⟩
    exact ⟨congrArg nI (by unfold kShows; first | rfl | (repeat (first | rfl | omega | split))), rfl⟩
  have n_1_2 : ¬ k = 2 := fun h => k_1_2 (by rw [h])
  by_cases k_1_3 : nI k = nI 3
  · refine g_tableIn (pc := 1) (off := 33) (tgt := 34) dX1_shows_1 (by rw [k_1_3]; decide) (by rw [k_1_3]; decide) (by rw [k_1_3]; decide) (by decide) ?_
    obtain rfl := (nI_eq (by omega) (by omega)).mp k_1_3
    refine g_iconst (pc := 34) (v := (nI 2)) dX1_shows_34 (by decide) ?_
    refine g_ireturn (pc := 35) dX1_shows_35 rfl (by first | rfl | decide) rfl ⟨_, rfl, ?_⟩
    exact ⟨congrArg nI (by unfold kShows; first | rfl | (repeat (first | rfl | omega | split))), rfl⟩
  have n_1_3 : ¬ k = 3 := fun h => k_1_3 (by rw [h])
  by_cases k_1_4 : nI k = nI 4
  · refine g_tableIn (pc := 1) (off := 33) (tgt := 34) dX1_shows_1 (by rw [k_1_4]; decide) (by rw [k_1_4]; decide) (by rw [k_1_4]; decide) (by decide) ?_
    obtain rfl := (nI_eq (by omega) (by omega)).mp k_1_4
    refine g_iconst (pc := 34) (v := (nI 2)) dX1_shows_34 (by decide) ?_
    refine g_ireturn (pc := 35) dX1_shows_35 rfl (by first | rfl | decide) rfl ⟨_, rfl, ?_⟩
    exact ⟨congrArg nI (by unfold kShows; first | rfl | (repeat (first | rfl | omega | split))), rfl⟩
  have n_1_4 : ¬ k = 4 := fun h => k_1_4 (by rw [h])
  have kd_1 : (nI k).toInt < 1 ∨ 4 < (nI k).toInt := by
    have w_1 := lv_neT (a := 1) k_1_1 (by decide)
    have w_2 := lv_neT (a := 2) k_1_2 (by decide)
    have w_3 := lv_neT (a := 3) k_1_3 (by decide)
    have w_4 := lv_neT (a := 4) k_1_4 (by decide)
    omega
  refine g_tableOut (pc := 1) (tgt := 36) dX1_shows_1 kd_1 (by decide) ?_
  refine g_iconst (pc := 36) (v := (nI 1)) dX1_shows_36 (by decide) ?_
  refine g_ireturn (pc := 37) dX1_shows_37 rfl (by first | rfl | decide) rfl ⟨_, rfl, ?_⟩
  exact ⟨congrArg nI (by unfold kShows; first | rfl | (repeat (first | rfl | omega | split))), rfl⟩
theorem c_X1_keeps (k v c n : Nat) (hk : k ≤ 5) (hv : v ≤ 99) (hc : c ≤ 99) (hn : n ≤ 9) (μ : Mem) : CA eI yX1_keeps cX1_keeps 5 (some .int) 1 [.int (nI k), .int (nI v), .int (nI c), .int (nI n)] μ (fun x μ1 => x = nI (kKeeps k v c n) ∧ μ1 = μ) := by
  refine CT.of false (by decide) (by decide) (L := [some (.int (nI k)), some (.int (nI v)), some (.int (nI c)), some (.int (nI n)), none]) rfl (Nat.le_of_ble_eq_true rfl) ?_
  refine g_bipush (pc := 0) (v := (nI 99)) dX1_keeps_0 (by decide) ?_
  refine a_ist4 (pc := 2) dX1_keeps_2 (by decide) rfl ?_
  refine g_iload_n (pc := 4) dX1_keeps_4 rfl ?_
  by_cases k_5_1 : nI k = nI 1
  · refine g_tableIn (pc := 5) (off := 35) (tgt := 40) dX1_keeps_5 (by rw [k_5_1]; decide) (by rw [k_5_1]; decide) (by rw [k_5_1]; decide) (by decide) ?_
    obtain rfl := (nI_eq (by omega) (by omega)).mp k_5_1
    refine g_iload_n (pc := 40) dX1_keeps_40 rfl ?_
    refine g_iconst (pc := 41) (v := (nI 2)) dX1_keeps_41 (by decide) ?_
    refine v_idiv (pc := 42) dX1_keeps_42 (by decide) (pk_div (by omega) (by decide) (by decide)) ?_
    refine g_ireturn (pc := 43) dX1_keeps_43 rfl (by first | rfl | decide) rfl ⟨_, rfl, ?_⟩
    exact ⟨congrArg nI (by unfold kKeeps; first | rfl | (repeat (first | rfl | omega | split))), rfl⟩
  have n_5_1 : ¬ k = 1 := fun h => k_5_1 (by rw [h])
  by_cases k_5_2 : nI k = nI 2
  · refine g_tableIn (pc := 5) (off := 39) (tgt := 44) dX1_keeps_5 (by rw [k_5_2]; decide) (by rw [k_5_2]; decide) (by rw [k_5_2]; decide) (by decide) ?_
    obtain rfl := (nI_eq (by omega) (by omega)).mp k_5_2
    refine g_iload (pc := 44) dX1_keeps_44 rfl ?_
    refine g_iload_n (pc := 46) dX1_keeps_46 rfl ?_
    refine g_iload_n (pc := 47) dX1_keeps_47 rfl ?_
    refine v_iadd (pc := 48) dX1_keeps_48 (nI_add _ _) ?_
    refine v_min (pc := 49) ml_X1_9 (by omega) (Nat.le_of_ble_eq_true rfl) dX1_keeps_49 (nI_min (by decide) (by omega)) ?_
    refine g_ireturn (pc := 52) dX1_keeps_52 rfl (by first | rfl | decide) rfl ⟨_, rfl, ?_⟩
    exact ⟨congrArg nI (by unfold kKeeps; first | rfl | (repeat (first | rfl | omega | split))), rfl⟩
  have n_5_2 : ¬ k = 2 := fun h => k_5_2 (by rw [h])
  by_cases k_5_3 : nI k = nI 3
  · refine g_tableIn (pc := 5) (off := 35) (tgt := 40) dX1_keeps_5 (by rw [k_5_3]; decide) (by rw [k_5_3]; decide) (by rw [k_5_3]; decide) (by decide) ?_
    obtain rfl := (nI_eq (by omega) (by omega)).mp k_5_3
    refine g_iload_n (pc := 40) dX1_keeps_40 rfl ?_
    refine g_iconst (pc := 41) (v := (nI 2)) dX1_keeps_41 (by decide) ?_
    refine v_idiv (pc := 42) dX1_keeps_42 (by decide) (pk_div (by omega) (by decide) (by decide)) ?_
    refine g_ireturn (pc := 43) dX1_keeps_43 rfl (by first | rfl | decide) rfl ⟨_, rfl, ?_⟩
    exact ⟨congrArg nI (by unfold kKeeps; first | rfl | (repeat (first | rfl | omega | split))), rfl⟩
  have n_5_3 : ¬ k = 3 := fun h => k_5_3 (by rw [h])
  by_cases k_5_4 : nI k = nI 4
  · refine g_tableIn (pc := 5) (off := 48) (tgt := 53) dX1_keeps_5 (by rw [k_5_4]; decide) (by rw [k_5_4]; decide) (by rw [k_5_4]; decide) (by decide) ?_
    obtain rfl := (nI_eq (by omega) (by omega)).mp k_5_4
    refine g_iload (pc := 53) dX1_keeps_53 rfl ?_
    refine g_iload_n (pc := 55) dX1_keeps_55 rfl ?_
    refine g_iload_n (pc := 56) dX1_keeps_56 rfl ?_
    refine g_iconst (pc := 57) (v := (nI 2)) dX1_keeps_57 (by decide) ?_
    refine v_idiv (pc := 58) dX1_keeps_58 (by decide) (pk_div (by omega) (by decide) (by decide)) ?_
    refine v_min (pc := 59) ml_X1_9 (by omega) (Nat.le_of_ble_eq_true rfl) dX1_keeps_59 (nI_min (by omega) (by omega)) ?_
    refine g_iload_n (pc := 62) dX1_keeps_62 rfl ?_
    refine v_iadd (pc := 63) dX1_keeps_63 (nI_add _ _) ?_
    refine v_min (pc := 64) ml_X1_9 (by omega) (Nat.le_of_ble_eq_true rfl) dX1_keeps_64 (nI_min (by decide) (by omega)) ?_
    refine g_ireturn (pc := 67) dX1_keeps_67 rfl (by first | rfl | decide) rfl ⟨_, rfl, ?_⟩
    exact ⟨congrArg nI (by unfold kKeeps; first | rfl | (repeat (first | rfl | omega | split))), rfl⟩
  have n_5_4 : ¬ k = 4 := fun h => k_5_4 (by rw [h])
  by_cases k_5_5 : nI k = nI 5
  · refine g_tableIn (pc := 5) (off := 63) (tgt := 68) dX1_keeps_5 (by rw [k_5_5]; decide) (by rw [k_5_5]; decide) (by rw [k_5_5]; decide) (by decide) ?_
    obtain rfl := (nI_eq (by omega) (by omega)).mp k_5_5
    refine g_iload_n (pc := 68) dX1_keeps_68 rfl ?_
    refine g_iconst (pc := 69) (v := (nI 3)) dX1_keeps_69 (by decide) ?_
    refine v_idiv (pc := 70) dX1_keeps_70 (by decide) (pk_div (by omega) (by decide) (by decide)) ?_
    refine g_ireturn (pc := 71) dX1_keeps_71 rfl (by first | rfl | decide) rfl ⟨_, rfl, ?_⟩
    exact ⟨congrArg nI (by unfold kKeeps; first | rfl | (repeat (first | rfl | omega | split))), rfl⟩
  have n_5_5 : ¬ k = 5 := fun h => k_5_5 (by rw [h])
  have kd_5 : (nI k).toInt < 1 ∨ 5 < (nI k).toInt := by
    have w_1 := lv_neT (a := 1) k_5_1 (by decide)
    have w_2 := lv_neT (a := 2) k_5_2 (by decide)
    have w_3 := lv_neT (a := 3) k_5_3 (by decide)
    have w_4 := lv_neT (a := 4) k_5_4 (by decide)
    have w_5 := lv_neT (a := 5) k_5_5 (by decide)
    omega
  refine g_tableOut (pc := 5) (tgt := 72) dX1_keeps_5 kd_5 (by decide) ?_
  refine g_iload_n (pc := 72) dX1_keeps_72 rfl ?_
  refine g_ireturn (pc := 73) dX1_keeps_73 rfl (by first | rfl | decide) rfl ⟨_, rfl, ?_⟩
  exact ⟨congrArg nI (by unfold kKeeps; first | rfl | (repeat (first | rfl | omega | split))), rfl⟩
