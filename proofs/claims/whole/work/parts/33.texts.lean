/-! ===== texts: what a row of steps comes to ===== -/
def joinV (c : Nat) (a b : Int32) : Int32 := if c = 10012 then a + b else if c = 10013 then a - b else if c = 10014 then a * b else if c = 10015 then (if a < b then nI 1 else nI 0) else if c = 10016 then (if a = b then nI 1 else nI 0) else if c = 10017 then (if a = 0 ∨ b = 0 then nI 0 else nI 1) else (if a = 0 ∧ b = 0 then nI 0 else nI 1)
def unV (c : Nat) (x : Int32) : Int32 := if c = 10010 then -x else if x = 0 then nI 1 else nI 0
abbrev Stk : Type := Nat × (Nat → Int32)
def stpF (nm : Nat → Int32) (S : Stk) (c : Nat) : Stk :=
  if c < 10000 then (S.1 + 1, upd S.2 S.1 (nI c)) else if c < 10006 then (S.1 + 1, upd S.2 S.1 (nm (c - 10000)))
  else if c ≤ 10011 then (if 0 < S.1 then (S.1, upd S.2 (S.1 - 1) (unV c (S.2 (S.1 - 1)))) else S)
  else if 1 < S.1 then (S.1 - 1, upd S.2 (S.1 - 1 - 1) (joinV c (S.2 (S.1 - 1 - 1)) (S.2 (S.1 - 1)))) else S
def runF (nm : Nat → Int32) (S : Stk) (cs : List Nat) : Stk := cs.foldl (stpF nm) S
def tMost (e : Nat) : Nat := if e = 1 then 30 else 99
def tclip (e : Nat) (x : Int32) : Nat := if x < 0 then 0 else min (tMost e) x.toNatClampNeg
theorem tMost_s : ∀ e, e < 3 → s_V 4 e = nI (tMost e) := by decide
theorem tMost_le (e : Nat) : tMost e ≤ 99 := by unfold tMost; split <;> omega
theorem tclip_le (e : Nat) (x : Int32) : tclip e x ≤ 99 := by
  have := tMost_le e
  unfold tclip
  split <;> omega
theorem tclip_eq (e : Nat) (x : Int32) : (if nI 0 < (if x < nI (tMost e) then x else nI (tMost e)) then (if x < nI (tMost e) then x else nI (tMost e)) else nI 0) = nI (tclip e x) := by
  have hm := tMost_le e
  unfold tclip
  by_cases h0 : x < 0
  · rw [if_pos h0]
    have h1 : x < nI (tMost e) := by
      have a := Int32.lt_iff_toInt_lt.mp h0
      have b := nI_toInt (n := tMost e) (by omega)
      refine Int32.lt_iff_toInt_lt.mpr ?_
      rw [b]
      have c : (0 : Int32).toInt = 0 := by decide
      omega
    rw [if_pos h1, if_neg]
    intro q
    have a := Int32.lt_iff_toInt_lt.mp h0
    have b := Int32.lt_iff_toInt_lt.mp q
    have c : (0 : Int32).toInt = 0 := by decide
    have d : (nI 0).toInt = 0 := by decide
    omega
  · rw [if_neg h0]
    obtain ⟨hx, hb⟩ := nI_at h0
    generalize x.toNatClampNeg = n at hx hb
    subst hx
    by_cases h1 : n < tMost e
    · rw [if_pos (nI_lt h1 (by omega)), Nat.min_eq_right (by omega)]
      by_cases h2 : 0 < n
      · rw [if_pos (nI_lt h2 hb)]
      · rw [if_neg (nI_nlt (by omega) (by omega)), show n = 0 by omega]
    · rw [if_neg (nI_nlt (by omega) hb), Nat.min_eq_left (by omega)]
      by_cases h2 : 0 < tMost e
      · rw [if_pos (nI_lt h2 (by omega))]
      · rw [if_neg (nI_nlt (by omega) (by omega)), show tMost e = 0 by omega]
/-- expression e of text t stands in the cells as the steps cs -/
def CodeOK (μ : Mem) (t e : Nat) (cs : List Nat) : Prop := ∃ s0 : Nat, μ (25 + t) e = nI s0 ∧ s0 + cs.length < 160 ∧ (∀ (j c : Nat), cs[j]? = some c → μ (18 + t) (s0 + j) = nI c ∧ c ≤ 10018) ∧ μ (18 + t) (s0 + cs.length) = nI 10019
theorem shCode : ∀ t, t < 6 → sh (18 + t) = (0, 160) ∧ sh (25 + t) = (0, 3) := by decide
theorem runF_take {nm : Nat → Int32} {S : Stk} {cs : List Nat} {j c : Nat} (h : cs[j]? = some c) : runF nm S (cs.take (j + 1)) = stpF nm (runF nm S (cs.take j)) c := by
  unfold runF
  rw [List.take_add_one, h]
  simp
theorem stpF_le (nm : Nat → Int32) (S : Stk) (c : Nat) : (stpF nm S c).1 ≤ S.1 + 1 := by
  unfold stpF
  split
  · exact Nat.le_refl _
  · split
    · exact Nat.le_refl _
    · split
      · split <;> (show _ ≤ _; omega)
      · split <;> (show _ ≤ _; omega)
theorem runF_le (nm : Nat → Int32) (g : Nat → Int32) (cs : List Nat) : ∀ j, (runF nm (0, g) (cs.take j)).1 ≤ j
  | 0 => by
    show (runF nm (0, g) (cs.take 0)).1 ≤ 0
    rw [List.take_zero]
    exact Nat.le_refl _
  | j + 1 => by
    have ih := runF_le nm g cs j
    cases h : cs[j]? with
    | none =>
      rw [List.take_add_one, h]
      simp
      omega
    | some c =>
      rw [runF_take h]
      have := stpF_le nm (runF nm (0, g) (cs.take j)) c
      omega
theorem c_X6_joined (c : Nat) (hc : c ≤ 10018) (a b : Int32) (μ : Mem) : CA eI yX6_joined cX6_joined 3 (some .int) 0 [.int (nI c), .int a, .int b] μ (fun x μ1 => x = joinV c a b ∧ μ1 = μ) := by
  refine CT.of false (by decide) (by decide) (L := [some (.int (nI c)), some (.int a), some (.int b)]) rfl (Nat.le_of_ble_eq_true rfl) ?_
  refine g_iload_n (pc := 0) dX6_joined_0 rfl ?_
  by_cases k_1_10012 : nI c = nI 10012
  · refine g_tableIn (pc := 1) (off := 39) (tgt := 40) dX6_joined_1 (by rw [k_1_10012]; decide) (by rw [k_1_10012]; decide) (by rw [k_1_10012]; decide) (by decide) ?_
    obtain rfl := (nI_eq (by omega) (by omega)).mp k_1_10012
    refine g_iload_n (pc := 40) dX6_joined_40 rfl ?_
    refine g_iload_n (pc := 41) dX6_joined_41 rfl ?_
    refine v_iadd (pc := 42) dX6_joined_42 rfl ?_
    refine g_ireturn (pc := 43) dX6_joined_43 rfl (by first | rfl | decide) rfl ⟨_, rfl, ?_⟩
    refine ⟨?_, rfl⟩
    unfold joinV
    first | rfl | (simp [*]; done) | (simp_all; done)
  have n_1_10012 : ¬ c = 10012 := fun h => k_1_10012 (by rw [h])
  by_cases k_1_10013 : nI c = nI 10013
  · refine g_tableIn (pc := 1) (off := 43) (tgt := 44) dX6_joined_1 (by rw [k_1_10013]; decide) (by rw [k_1_10013]; decide) (by rw [k_1_10013]; decide) (by decide) ?_
    obtain rfl := (nI_eq (by omega) (by omega)).mp k_1_10013
    refine g_iload_n (pc := 44) dX6_joined_44 rfl ?_
    refine g_iload_n (pc := 45) dX6_joined_45 rfl ?_
    refine v_isub (pc := 46) dX6_joined_46 rfl ?_
    refine g_ireturn (pc := 47) dX6_joined_47 rfl (by first | rfl | decide) rfl ⟨_, rfl, ?_⟩
    refine ⟨?_, rfl⟩
    unfold joinV
    first | rfl | (simp [*]; done) | (simp_all; done)
  have n_1_10013 : ¬ c = 10013 := fun h => k_1_10013 (by rw [h])
  by_cases k_1_10014 : nI c = nI 10014
  · refine g_tableIn (pc := 1) (off := 47) (tgt := 48) dX6_joined_1 (by rw [k_1_10014]; decide) (by rw [k_1_10014]; decide) (by rw [k_1_10014]; decide) (by decide) ?_
    obtain rfl := (nI_eq (by omega) (by omega)).mp k_1_10014
    refine g_iload_n (pc := 48) dX6_joined_48 rfl ?_
    refine g_iload_n (pc := 49) dX6_joined_49 rfl ?_
    refine v_imul (pc := 50) dX6_joined_50 rfl ?_
    refine g_ireturn (pc := 51) dX6_joined_51 rfl (by first | rfl | decide) rfl ⟨_, rfl, ?_⟩
    refine ⟨?_, rfl⟩
    unfold joinV
    first | rfl | (simp [*]; done) | (simp_all; done)
  have n_1_10014 : ¬ c = 10014 := fun h => k_1_10014 (by rw [h])
  by_cases k_1_10015 : nI c = nI 10015
  · refine g_tableIn (pc := 1) (off := 51) (tgt := 52) dX6_joined_1 (by rw [k_1_10015]; decide) (by rw [k_1_10015]; decide) (by rw [k_1_10015]; decide) (by decide) ?_
    obtain rfl := (nI_eq (by omega) (by omega)).mp k_1_10015
    refine g_iload_n (pc := 52) dX6_joined_52 rfl ?_
    refine g_iload_n (pc := 53) dX6_joined_53 rfl ?_
    refine g_icmp_ge (pc := 54) (tgt := 61) dX6_joined_54 (by decide) (fun c_54 => ?_) (fun c_54 => ?_)
    · have w54 := Int32.not_lt.mpr c_54
      refine g_iconst (pc := 61) (v := (nI 0)) dX6_joined_61 (by decide) ?_
      refine g_ireturn (pc := 62) dX6_joined_62 rfl (by first | rfl | decide) rfl ⟨_, rfl, ?_⟩
      refine ⟨?_, rfl⟩
      unfold joinV
      first | rfl | (simp [*]; done) | (simp_all; done)
    · refine g_iconst (pc := 57) (v := (nI 1)) dX6_joined_57 (by decide) ?_
      refine g_goto (pc := 58) (tgt := 62) dX6_joined_58 (by decide) ?_
      refine g_ireturn (pc := 62) dX6_joined_62 rfl (by first | rfl | decide) rfl ⟨_, rfl, ?_⟩
      refine ⟨?_, rfl⟩
      unfold joinV
      first | rfl | (simp [*]; done) | (simp_all; done)
  have n_1_10015 : ¬ c = 10015 := fun h => k_1_10015 (by rw [h])
  by_cases k_1_10016 : nI c = nI 10016
  · refine g_tableIn (pc := 1) (off := 62) (tgt := 63) dX6_joined_1 (by rw [k_1_10016]; decide) (by rw [k_1_10016]; decide) (by rw [k_1_10016]; decide) (by decide) ?_
    obtain rfl := (nI_eq (by omega) (by omega)).mp k_1_10016
    refine g_iload_n (pc := 63) dX6_joined_63 rfl ?_
    refine g_iload_n (pc := 64) dX6_joined_64 rfl ?_
    refine g_icmp_ne (pc := 65) (tgt := 72) dX6_joined_65 (by decide) (fun c_65 => ?_) (fun c_65 => ?_)
    · refine g_iconst (pc := 72) (v := (nI 0)) dX6_joined_72 (by decide) ?_
      refine g_ireturn (pc := 73) dX6_joined_73 rfl (by first | rfl | decide) rfl ⟨_, rfl, ?_⟩
      refine ⟨?_, rfl⟩
      unfold joinV
      first | rfl | (simp [*]; done) | (simp_all; done)
    · refine g_iconst (pc := 68) (v := (nI 1)) dX6_joined_68 (by decide) ?_
      refine g_goto (pc := 69) (tgt := 73) dX6_joined_69 (by decide) ?_
      refine g_ireturn (pc := 73) dX6_joined_73 rfl (by first | rfl | decide) rfl ⟨_, rfl, ?_⟩
      refine ⟨?_, rfl⟩
      unfold joinV
      first | rfl | (simp [*]; done) | (simp_all; done)
  have n_1_10016 : ¬ c = 10016 := fun h => k_1_10016 (by rw [h])
  by_cases k_1_10017 : nI c = nI 10017
  · refine g_tableIn (pc := 1) (off := 73) (tgt := 74) dX6_joined_1 (by rw [k_1_10017]; decide) (by rw [k_1_10017]; decide) (by rw [k_1_10017]; decide) (by decide) ?_
    obtain rfl := (nI_eq (by omega) (by omega)).mp k_1_10017
    refine g_iload_n (pc := 74) dX6_joined_74 rfl ?_
    refine g_if_eq (pc := 75) (tgt := 86) dX6_joined_75 (by decide) (fun c_75 => ?_) (fun c_75 => ?_)
    · refine g_iconst (pc := 86) (v := (nI 0)) dX6_joined_86 (by decide) ?_
      refine g_ireturn (pc := 87) dX6_joined_87 rfl (by first | rfl | decide) rfl ⟨_, rfl, ?_⟩
      refine ⟨?_, rfl⟩
      unfold joinV
      first | rfl | (simp [*]; done) | (simp_all; done)
    · refine g_iload_n (pc := 78) dX6_joined_78 rfl ?_
      refine g_if_eq (pc := 79) (tgt := 86) dX6_joined_79 (by decide) (fun c_79 => ?_) (fun c_79 => ?_)
      · refine g_iconst (pc := 86) (v := (nI 0)) dX6_joined_86 (by decide) ?_
        refine g_ireturn (pc := 87) dX6_joined_87 rfl (by first | rfl | decide) rfl ⟨_, rfl, ?_⟩
        refine ⟨?_, rfl⟩
        unfold joinV
        first | rfl | (simp [*]; done) | (simp_all; done)
      · refine g_iconst (pc := 82) (v := (nI 1)) dX6_joined_82 (by decide) ?_
        refine g_goto (pc := 83) (tgt := 87) dX6_joined_83 (by decide) ?_
        refine g_ireturn (pc := 87) dX6_joined_87 rfl (by first | rfl | decide) rfl ⟨_, rfl, ?_⟩
        refine ⟨?_, rfl⟩
        unfold joinV
        first | rfl | (simp [*]; done) | (simp_all; done)
  have n_1_10017 : ¬ c = 10017 := fun h => k_1_10017 (by rw [h])
  have kd_1 : (nI c).toInt < 10012 ∨ 10017 < (nI c).toInt := by
    have w_10012 := lv_neT (a := 10012) k_1_10012 (by decide)
    have w_10013 := lv_neT (a := 10013) k_1_10013 (by decide)
    have w_10014 := lv_neT (a := 10014) k_1_10014 (by decide)
    have w_10015 := lv_neT (a := 10015) k_1_10015 (by decide)
    have w_10016 := lv_neT (a := 10016) k_1_10016 (by decide)
    have w_10017 := lv_neT (a := 10017) k_1_10017 (by decide)
    omega
  refine g_tableOut (pc := 1) (tgt := 88) dX6_joined_1 kd_1 (by decide) ?_
  refine g_iload_n (pc := 88) dX6_joined_88 rfl ?_
  refine g_if_ne (pc := 89) (tgt := 96) dX6_joined_89 (by decide) (fun c_89 => ?_) (fun c_89 => ?_)
  · refine g_iconst (pc := 96) (v := (nI 1)) dX6_joined_96 (by decide) ?_
    refine g_goto (pc := 97) (tgt := 101) dX6_joined_97 (by decide) ?_
    refine g_ireturn (pc := 101) dX6_joined_101 rfl (by first | rfl | decide) rfl ⟨_, rfl, ?_⟩
    refine ⟨?_, rfl⟩
    unfold joinV
    first | rfl | (simp [*]; done) | (simp_all; done)
  · refine g_iload_n (pc := 92) dX6_joined_92 rfl ?_
    refine g_if_eq (pc := 93) (tgt := 100) dX6_joined_93 (by decide) (fun c_93 => ?_) (fun c_93 => ?_)
    · refine g_iconst (pc := 100) (v := (nI 0)) dX6_joined_100 (by decide) ?_
      refine g_ireturn (pc := 101) dX6_joined_101 rfl (by first | rfl | decide) rfl ⟨_, rfl, ?_⟩
      refine ⟨?_, rfl⟩
      unfold joinV
      first | rfl | (simp [*]; done) | (simp_all; done)
    · refine g_iconst (pc := 96) (v := (nI 1)) dX6_joined_96 (by decide) ?_
      refine g_goto (pc := 97) (tgt := 101) dX6_joined_97 (by decide) ?_
      refine g_ireturn (pc := 101) dX6_joined_101 rfl (by first | rfl | decide) rfl ⟨_, rfl, ?_⟩
      refine ⟨?_, rfl⟩
      unfold joinV
      first | rfl | (simp [*]; done) | (simp_all; done)
theorem c_X6_bounded (t e : Nat) (ht : t < 6) (he : e < 3) (cs : List Nat) (μ : Mem) (hc : CodeOK μ t e cs) : CA eI yX6_bounded cX6_bounded 8 (some .int) 1 [.ref 16, .int (nI t), .int (nI e)] μ (fun x μ1 => x = nI (tclip e ((runF (fun j => μ 31 j) (0, μ 32) cs).2 0)) ∧ ∀ q, q ≠ 32 → μ1 q = μ q) := by
  obtain ⟨s0, q1, q2, q3, q4⟩ := hc
  obtain ⟨hsc, hss⟩ := shCode t ht
  refine CT.of false (by decide) (by decide) (L := [some (.ref 16), some (.int (nI t)), some (.int (nI e)), none, none, none, none, none]) rfl (Nat.le_of_ble_eq_true rfl) ?_
  refine g_aload_n (pc := 0) dX6_bounded_0 rfl ?_
  refine a_getr (pc := 1) (q := 17) fl_X6_11 dX6_bounded_1 (by first | rfl | assumption) rfl rfl ?_
  refine g_iload_n (pc := 4) dX6_bounded_4 rfl ?_
  refine v_aald (pc := 5) dX6_bounded_5 (by first | rfl | assumption) rfl ht (show 17 + 1 + t = 18 + t by omega) ?_
  refine a_ast3 (pc := 6) dX6_bounded_6 (by decide) rfl ?_
  refine g_iconst (pc := 7) (v := (nI 0)) dX6_bounded_7 (by decide) ?_
  refine a_ist4 (pc := 8) dX6_bounded_8 (by decide) rfl ?_
  refine g_aload_n (pc := 10) dX6_bounded_10 rfl ?_
  refine a_getr (pc := 11) (q := 24) fl_X6_16 dX6_bounded_11 (by first | rfl | assumption) rfl rfl ?_
  refine g_iload_n (pc := 14) dX6_bounded_14 rfl ?_
  refine v_aald (pc := 15) dX6_bounded_15 (by first | rfl | assumption) rfl ht (show 24 + 1 + t = 25 + t by omega) ?_
  refine g_iload_n (pc := 16) dX6_bounded_16 rfl ?_
  refine v_iald (pc := 17) dX6_bounded_17 (by first | rfl | assumption) rfl he q1 ?_
  refine a_ist5 (pc := 18) dX6_bounded_18 (by decide) rfl ?_
  have lp20 : ∀ (zz : Nat) (j : Nat) (hj : j ≤ cs.length) (S : Stk) (hS : S = runF (fun j => μ 31 j) (0, μ 32) (cs.take j)) (ν : Mem) (hν : ∀ q, q ≠ 32 → ν q = μ q) (h32 : ν 32 = S.2) (l6 l7 : Option Value), cs.length - j = zz → WG eI yX6_bounded.cls cX6_bounded 8 (some .int) false (fun _ _ => True) 1 (mpost (fun x μ1 => x = nI (tclip e ((runF (fun j => μ 31 j) (0, μ 32) cs).2 0)) ∧ ∀ q, q ≠ 32 → μ1 q = μ q)) 0 0 20 [some (.ref 16), some (.int (nI t)), some (.int (nI e)), some (.ref (18 + t)), some (.int (nI S.1)), some (.int (nI (s0 + j))), l6, l7] [] (mk ν) := by
    intro zz
    induction zz using Nat.strongRecOn with
    | ind zz ih =>
      intro j hj S hS ν hν h32 l6 l7 hzz
      have hl1 : S.1 ≤ j := by rw [hS]; exact runF_le _ _ _ _
      have hrow : ν (18 + t) = μ (18 + t) := hν _ (by omega)
      refine g_iload (pc := 20) dX6_bounded_20 rfl ?_
      refine g_aload_n (pc := 22) dX6_bounded_22 rfl ?_
      refine a_alen (pc := 23) dX6_bounded_23 (by first | rfl | assumption) rfl ?_
      refine g_icmp_ge (pc := 24) (tgt := 211) dX6_bounded_24 (by decide) (fun c_24 => absurd c_24 (fun h => absurd (nI_le' (by omega) (by omega) h) (by omega))) (fun c_24 => ?_)
      refine g_aload_n (pc := 27) dX6_bounded_27 rfl ?_
      refine g_iload (pc := 28) dX6_bounded_28 rfl ?_
      refine v_iald (pc := 30) dX6_bounded_30 (by first | rfl | assumption) rfl (by omega) (congrFun hrow _) ?_
      refine g_sipush (pc := 31) (v := (nI 10019)) dX6_bounded_31 (by decide) ?_
      refine g_icmp_eq (pc := 34) (tgt := 211) dX6_bounded_34 (by decide) (fun c_34 => ?_) (fun c_34 => ?_)
      · have hj9 : j = cs.length := by
          rcases Nat.lt_or_ge j cs.length with q | q
          · have hget : cs[j]? = some cs[j] := List.getElem?_eq_getElem q
            have := q3 j _ hget
            rw [this.1] at c_34
            have h9 := nI_eq' (by omega) (by omega) c_34
            omega
          · omega
        subst hj9
        rw [List.take_length] at hS
        refine g_iconst (pc := 211) (v := (nI 0)) dX6_bounded_211 (by decide) ?_
        refine g_gets (pc := 212) (i := 4) (by decide) sl_X6_46 dX6_bounded_212 ?_
        refine g_iload_n (pc := 215) dX6_bounded_215 rfl ?_
        refine v_sald (pc := 216) (by decide) rfl (by show e < 3; omega) dX6_bounded_216 (tMost_s e he) ?_
        refine g_aload_n (pc := 217) dX6_bounded_217 rfl ?_
        refine a_getr (pc := 218) (q := 32) fl_X6_23 dX6_bounded_218 (by first | rfl | assumption) rfl rfl ?_
        refine g_iconst (pc := 221) (v := (nI 0)) dX6_bounded_221 (by decide) ?_
        refine v_iald (pc := 222) dX6_bounded_222 (by first | rfl | assumption) rfl (by first | decide | assumption | omega) (congrFun h32 _) ?_
        refine v_min (pc := 223) ml_X6_49 (by omega) (Nat.le_of_ble_eq_true rfl) dX6_bounded_223 rfl ?_
        refine v_max (pc := 226) ml_X6_55 (by omega) (Nat.le_of_ble_eq_true rfl) dX6_bounded_226 (tclip_eq e _) ?_
        refine g_ireturn (pc := 229) dX6_bounded_229 rfl (by first | rfl | decide) rfl ⟨_, rfl, ?_⟩
        refine ⟨?_, hν⟩
        rw [← hS]
      · have hjl : j < cs.length := by
          rcases Nat.lt_or_ge j cs.length with q | q
          · exact q
          · have : j = cs.length := by omega
            rw [this, q4] at c_34
            exact absurd rfl c_34
        obtain ⟨c, hget⟩ : ∃ c, cs[j]? = some c := ⟨_, List.getElem?_eq_getElem hjl⟩
        obtain ⟨hcv, hcb⟩ := q3 j c hget
        have hst : stpF (fun j => μ 31 j) S c = runF (fun j => μ 31 j) (0, μ 32) (cs.take (j + 1)) := by rw [runF_take hget, hS]
        refine g_iload (pc := 37) dX6_bounded_37 rfl ?_
        refine g_sipush (pc := 39) (v := (nI 160)) dX6_bounded_39 (by decide) ?_
        refine g_icmp_ge (pc := 42) (tgt := 211) dX6_bounded_42 (by decide) (fun c_42 => absurd c_42 (fun h => absurd (nI_le' (by omega) (by omega) h) (by omega))) (fun c_42 => ?_)
        refine g_aload_n (pc := 45) dX6_bounded_45 rfl ?_
        refine g_iload (pc := 46) dX6_bounded_46 rfl ?_
        refine v_iald (pc := 48) dX6_bounded_48 (by first | rfl | assumption) rfl (by omega) ((congrFun hrow _).trans hcv) ?_
        refine a_ist6 (pc := 49) dX6_bounded_49 (by decide) rfl ?_
        refine g_iload (pc := 51) dX6_bounded_51 rfl ?_
        refine g_sipush (pc := 53) (v := (nI 10000)) dX6_bounded_53 (by decide) ?_
        refine g_icmp_ge (pc := 56) (tgt := 74) dX6_bounded_56 (by decide) (fun c_56 => ?_) (fun c_56 => ?_)
        · have c56 := nI_le' (by omega) (by omega) c_56
          refine g_iload (pc := 74) dX6_bounded_74 rfl ?_
          refine g_sipush (pc := 76) (v := (nI 10006)) dX6_bounded_76 (by decide) ?_
          refine g_icmp_ge (pc := 79) (tgt := 106) dX6_bounded_79 (by decide) (fun c_79 => ?_) (fun c_79 => ?_)
          · have c79 := nI_le' (by omega) (by omega) c_79
            refine g_iload (pc := 106) dX6_bounded_106 rfl ?_
            refine g_sipush (pc := 108) (v := (nI 10011)) dX6_bounded_108 (by decide) ?_
            refine g_icmp_gt (pc := 111) (tgt := 166) dX6_bounded_111 (by decide) (fun c_111 => ?_) (fun c_111 => ?_)
            · have c111 : 10011 < c := by
                have := nI_lt' (by omega) (by omega) c_111
                omega
              refine g_iload (pc := 166) dX6_bounded_166 rfl ?_
              refine g_iconst (pc := 168) (v := (nI 1)) dX6_bounded_168 (by decide) ?_
              refine g_icmp_le (pc := 169) (tgt := 205) dX6_bounded_169 (by decide) (fun c_169 => ?_) (fun c_169 => ?_)
              · have c169 : S.1 ≤ 1 := nI_le' (by omega) (by omega) c_169
                have hnx : S = runF (fun j => μ 31 j) (0, μ 32) (cs.take (j + 1)) := by
                  rw [← hst]
                  unfold stpF
                  rw [if_neg (by omega), if_neg (by omega), if_neg (by omega), if_neg (by omega)]
                have hν1 := hν
                have h321 := h32
                refine a_iinc5 (pc := 205) dX6_bounded_205 (inc1 _) (by decide) rfl ?_
                refine g_goto (pc := 208) (tgt := 20) dX6_bounded_208 (by decide) ?_
                exact ih (cs.length - (j + 1)) (by omega) (j + 1) (by omega) _ hnx _ hν1 h321 _ _ rfl
              · have c169 : 1 < S.1 := nI_gt' (by omega) (by omega) c_169
                refine a_iinc4 (pc := 172) dX6_bounded_172 (show nI S.1 + Int32.ofInt (-1) = nI (S.1 - 1) from sb_m1 (by omega)) (by decide) rfl ?_
                refine g_aload_n (pc := 175) dX6_bounded_175 rfl ?_
                refine a_getr (pc := 176) (q := 32) fl_X6_23 dX6_bounded_176 (by first | rfl | assumption) rfl rfl ?_
                refine g_iload (pc := 179) dX6_bounded_179 rfl ?_
                refine g_iconst (pc := 181) (v := (nI 1)) dX6_bounded_181 (by decide) ?_
                refine v_isub (pc := 182) dX6_bounded_182 (pk_sub (by omega)) ?_
                refine g_iload (pc := 183) dX6_bounded_183 rfl ?_
                refine g_aload_n (pc := 185) dX6_bounded_185 rfl ?_
                refine a_getr (pc := 186) (q := 32) fl_X6_23 dX6_bounded_186 (by first | rfl | assumption) rfl rfl ?_
                refine g_iload (pc := 189) dX6_bounded_189 rfl ?_
                refine g_iconst (pc := 191) (v := (nI 1)) dX6_bounded_191 (by decide) ?_
                refine v_isub (pc := 192) dX6_bounded_192 (pk_sub (by omega)) ?_
                refine v_iald (pc := 193) dX6_bounded_193 (by first | rfl | assumption) rfl (by omega) (congrFun h32 _) ?_
                refine g_aload_n (pc := 194) dX6_bounded_194 rfl ?_
                refine a_getr (pc := 195) (q := 32) fl_X6_23 dX6_bounded_195 (by first | rfl | assumption) rfl rfl ?_
                refine g_iload (pc := 198) dX6_bounded_198 rfl ?_
                refine v_iald (pc := 200) dX6_bounded_200 (by first | rfl | assumption) rfl (by omega) (congrFun h32 _) ?_
                refine a_cs3i (pc := 201) (c_X6_joined c hcb _ _ ν) m_X6_joined ml_X6_42 (by omega) (Nat.le_of_ble_eq_true rfl) dX6_bounded_201 (fun x_201 μ_201 h_201 => ?_)
                obtain ⟨rfl, hm_201⟩ := h_201
                have hm_201 := hm_201.symm
                subst hm_201
                have hnx : (S.1 - 1, upd S.2 (S.1 - 1 - 1) (joinV c (S.2 (S.1 - 1 - 1)) (S.2 (S.1 - 1)))) = runF (fun j => μ 31 j) (0, μ 32) (cs.take (j + 1)) := by
                  rw [← hst]
                  unfold stpF
                  rw [if_neg (by omega), if_neg (by omega), if_neg (by omega), if_pos c169]
                have hν1 : ∀ q, q ≠ 32 → mset ν 32 (S.1 - 1 - 1) (joinV c (S.2 (S.1 - 1 - 1)) (S.2 (S.1 - 1))) q = μ q := fun q hq => (mset_ne hq).trans (hν q hq)
                have h321 : mset ν 32 (S.1 - 1 - 1) (joinV c (S.2 (S.1 - 1 - 1)) (S.2 (S.1 - 1))) 32 = (S.1 - 1, upd S.2 (S.1 - 1 - 1) (joinV c (S.2 (S.1 - 1 - 1)) (S.2 (S.1 - 1)))).2 := by
                  funext m
                  show (if 32 = 32 ∧ m = S.1 - 1 - 1 then joinV c (S.2 (S.1 - 1 - 1)) (S.2 (S.1 - 1)) else ν 32 m) = upd S.2 (S.1 - 1 - 1) (joinV c (S.2 (S.1 - 1 - 1)) (S.2 (S.1 - 1))) m
                  rw [h32]
                  unfold upd
                  simp only [true_and]
                refine a_iast (pc := 204) dX6_bounded_204 (by first | rfl | assumption) rfl (by omega) ?_
                refine a_iinc5 (pc := 205) dX6_bounded_205 (inc1 _) (by decide) rfl ?_
                refine g_goto (pc := 208) (tgt := 20) dX6_bounded_208 (by decide) ?_
                exact ih (cs.length - (j + 1)) (by omega) (j + 1) (by omega) _ hnx _ hν1 h321 _ _ rfl
            · have c111 : c ≤ 10011 := by
                have := nI_ge' (by omega) (by omega) c_111
                omega
              refine g_iload (pc := 114) dX6_bounded_114 rfl ?_
              refine g_if_le (pc := 116) (tgt := 166) dX6_bounded_116 (by decide) (fun c_116 => ?_) (fun c_116 => ?_)
              · have c116 : S.1 = 0 := by
                  have := nI_le' (b := 0) (by omega) (by omega) c_116
                  omega
                have hnx : S = runF (fun j => μ 31 j) (0, μ 32) (cs.take (j + 1)) := by
                  rw [← hst]
                  unfold stpF
                  rw [if_neg (by omega), if_neg (by omega), if_pos c111, if_neg (by omega)]
                refine g_iload (pc := 166) dX6_bounded_166 rfl ?_
                refine g_iconst (pc := 168) (v := (nI 1)) dX6_bounded_168 (by decide) ?_
                refine g_icmp_le (pc := 169) (tgt := 205) dX6_bounded_169 (by decide) (fun _ => ?_) (fun h => absurd (nI_le (by omega) (by omega)) h)
                refine a_iinc5 (pc := 205) dX6_bounded_205 (inc1 _) (by decide) rfl ?_
                refine g_goto (pc := 208) (tgt := 20) dX6_bounded_208 (by decide) ?_
                exact ih (cs.length - (j + 1)) (by omega) (j + 1) (by omega) _ hnx _ hν h32 _ _ rfl
              · have c116 : 0 < S.1 := by
                  have := nI_gt' (b := 0) (by omega) (by omega) c_116
                  omega
                refine g_aload_n (pc := 119) dX6_bounded_119 rfl ?_
                refine a_getr (pc := 120) (q := 32) fl_X6_23 dX6_bounded_120 (by first | rfl | assumption) rfl rfl ?_
                refine g_iload (pc := 123) dX6_bounded_123 rfl ?_
                refine g_iconst (pc := 125) (v := (nI 1)) dX6_bounded_125 (by decide) ?_
                refine v_isub (pc := 126) dX6_bounded_126 (pk_sub (by omega)) ?_
                refine v_iald (pc := 127) dX6_bounded_127 (by first | rfl | assumption) rfl (by omega) (congrFun h32 _) ?_
                refine a_ist7 (pc := 128) dX6_bounded_128 (by decide) rfl ?_
                refine g_aload_n (pc := 130) dX6_bounded_130 rfl ?_
                refine a_getr (pc := 131) (q := 32) fl_X6_23 dX6_bounded_131 (by first | rfl | assumption) rfl rfl ?_
                refine g_iload (pc := 134) dX6_bounded_134 rfl ?_
                refine g_iconst (pc := 136) (v := (nI 1)) dX6_bounded_136 (by decide) ?_
                refine v_isub (pc := 137) dX6_bounded_137 (pk_sub (by omega)) ?_
                refine g_iload (pc := 138) dX6_bounded_138 rfl ?_
                refine g_sipush (pc := 140) (v := (nI 10010)) dX6_bounded_140 (by decide) ?_
                refine g_icmp_ne (pc := 143) (tgt := 152) dX6_bounded_143 (by decide) (fun c_143 => ?_) (fun c_143 => ?_)
                · have c143 := nI_ne' (by omega) (by omega) c_143
                  refine g_iload (pc := 152) dX6_bounded_152 rfl ?_
                  refine g_if_ne (pc := 154) (tgt := 161) dX6_bounded_154 (by decide) (fun c_154 => ?_) (fun c_154 => ?_)
                  · refine g_iconst (pc := 161) (v := (nI 0)) dX6_bounded_161 (by decide) ?_
                    refine a_iast (pc := 162) dX6_bounded_162 (by first | rfl | assumption) rfl (by omega) ?_
                    have hnx : (S.1, upd S.2 (S.1 - 1) (unV c (S.2 (S.1 - 1)))) = runF (fun j => μ 31 j) (0, μ 32) (cs.take (j + 1)) := by
                      rw [← hst]
                      unfold stpF
                      rw [if_neg (by omega), if_neg (by omega), if_pos c111, if_pos c116]
                    have hν1 : ∀ q, q ≠ 32 → mset ν 32 (S.1 - 1) (unV c (S.2 (S.1 - 1))) q = μ q := fun q hq => (mset_ne hq).trans (hν q hq)
                    have h321 : mset ν 32 (S.1 - 1) (unV c (S.2 (S.1 - 1))) 32 = (S.1, upd S.2 (S.1 - 1) (unV c (S.2 (S.1 - 1)))).2 := by
                      funext m
                      show (if 32 = 32 ∧ m = S.1 - 1 then unV c (S.2 (S.1 - 1)) else ν 32 m) = upd S.2 (S.1 - 1) (unV c (S.2 (S.1 - 1))) m
                      rw [h32]
                      unfold upd
                      simp only [true_and]
                    first | rw [show (-(S.2 (S.1 - 1))) = unV c (S.2 (S.1 - 1)) from by unfold unV; rw [if_pos c143]] | rw [show nI 1 = unV c (S.2 (S.1 - 1)) from by unfold unV; rw [if_neg c143, if_pos c_154]] | rw [show nI 0 = unV c (S.2 (S.1 - 1)) from by unfold unV; rw [if_neg c143, if_neg c_154]]
                    refine g_goto (pc := 163) (tgt := 205) dX6_bounded_163 (by decide) ?_
                    refine a_iinc5 (pc := 205) dX6_bounded_205 (inc1 _) (by decide) rfl ?_
                    refine g_goto (pc := 208) (tgt := 20) dX6_bounded_208 (by decide) ?_
                    exact ih (cs.length - (j + 1)) (by omega) (j + 1) (by omega) _ hnx _ hν1 h321 _ _ rfl
                  · refine g_iconst (pc := 157) (v := (nI 1)) dX6_bounded_157 (by decide) ?_
                    refine g_goto (pc := 158) (tgt := 162) dX6_bounded_158 (by decide) ?_
                    refine a_iast (pc := 162) dX6_bounded_162 (by first | rfl | assumption) rfl (by omega) ?_
                    have hnx : (S.1, upd S.2 (S.1 - 1) (unV c (S.2 (S.1 - 1)))) = runF (fun j => μ 31 j) (0, μ 32) (cs.take (j + 1)) := by
                      rw [← hst]
                      unfold stpF
                      rw [if_neg (by omega), if_neg (by omega), if_pos c111, if_pos c116]
                    have hν1 : ∀ q, q ≠ 32 → mset ν 32 (S.1 - 1) (unV c (S.2 (S.1 - 1))) q = μ q := fun q hq => (mset_ne hq).trans (hν q hq)
                    have h321 : mset ν 32 (S.1 - 1) (unV c (S.2 (S.1 - 1))) 32 = (S.1, upd S.2 (S.1 - 1) (unV c (S.2 (S.1 - 1)))).2 := by
                      funext m
                      show (if 32 = 32 ∧ m = S.1 - 1 then unV c (S.2 (S.1 - 1)) else ν 32 m) = upd S.2 (S.1 - 1) (unV c (S.2 (S.1 - 1))) m
                      rw [h32]
                      unfold upd
                      simp only [true_and]
                    first | rw [show (-(S.2 (S.1 - 1))) = unV c (S.2 (S.1 - 1)) from by unfold unV; rw [if_pos c143]] | rw [show nI 1 = unV c (S.2 (S.1 - 1)) from by unfold unV; rw [if_neg c143, if_pos c_154]] | rw [show nI 0 = unV c (S.2 (S.1 - 1)) from by unfold unV; rw [if_neg c143, if_neg c_154]]
                    refine g_goto (pc := 163) (tgt := 205) dX6_bounded_163 (by decide) ?_
                    refine a_iinc5 (pc := 205) dX6_bounded_205 (inc1 _) (by decide) rfl ?_
                    refine g_goto (pc := 208) (tgt := 20) dX6_bounded_208 (by decide) ?_
                    exact ih (cs.length - (j + 1)) (by omega) (j + 1) (by omega) _ hnx _ hν1 h321 _ _ rfl
                · have c143 := nI_eq' (by omega) (by omega) c_143
                  refine g_iload (pc := 146) dX6_bounded_146 rfl ?_
                  refine v_ineg (pc := 148) dX6_bounded_148 rfl ?_
                  refine g_goto (pc := 149) (tgt := 162) dX6_bounded_149 (by decide) ?_
                  refine a_iast (pc := 162) dX6_bounded_162 (by first | rfl | assumption) rfl (by omega) ?_
                  have hnx : (S.1, upd S.2 (S.1 - 1) (unV c (S.2 (S.1 - 1)))) = runF (fun j => μ 31 j) (0, μ 32) (cs.take (j + 1)) := by
                    rw [← hst]
                    unfold stpF
                    rw [if_neg (by omega), if_neg (by omega), if_pos c111, if_pos c116]
                  have hν1 : ∀ q, q ≠ 32 → mset ν 32 (S.1 - 1) (unV c (S.2 (S.1 - 1))) q = μ q := fun q hq => (mset_ne hq).trans (hν q hq)
                  have h321 : mset ν 32 (S.1 - 1) (unV c (S.2 (S.1 - 1))) 32 = (S.1, upd S.2 (S.1 - 1) (unV c (S.2 (S.1 - 1)))).2 := by
                    funext m
                    show (if 32 = 32 ∧ m = S.1 - 1 then unV c (S.2 (S.1 - 1)) else ν 32 m) = upd S.2 (S.1 - 1) (unV c (S.2 (S.1 - 1))) m
                    rw [h32]
                    unfold upd
                    simp only [true_and]
                  first | rw [show (-(S.2 (S.1 - 1))) = unV c (S.2 (S.1 - 1)) from by unfold unV; rw [if_pos c143]] | rw [show nI 1 = unV c (S.2 (S.1 - 1)) from by unfold unV; rw [if_neg c143, if_pos c_154]] | rw [show nI 0 = unV c (S.2 (S.1 - 1)) from by unfold unV; rw [if_neg c143, if_neg c_154]]
                  refine g_goto (pc := 163) (tgt := 205) dX6_bounded_163 (by decide) ?_
                  refine a_iinc5 (pc := 205) dX6_bounded_205 (inc1 _) (by decide) rfl ?_
                  refine g_goto (pc := 208) (tgt := 20) dX6_bounded_208 (by decide) ?_
                  exact ih (cs.length - (j + 1)) (by omega) (j + 1) (by omega) _ hnx _ hν1 h321 _ _ rfl
          · have c79 := nI_gt' (by omega) (by omega) c_79
            refine g_aload_n (pc := 82) dX6_bounded_82 rfl ?_
            refine a_getr (pc := 83) (q := 32) fl_X6_23 dX6_bounded_83 (by first | rfl | assumption) rfl rfl ?_
            refine g_iload (pc := 86) dX6_bounded_86 rfl ?_
            refine a_iinc4 (pc := 88) dX6_bounded_88 (inc1 _) (by decide) rfl ?_
            refine g_aload_n (pc := 91) dX6_bounded_91 rfl ?_
            refine a_getr (pc := 92) (q := 31) fl_X6_19 dX6_bounded_92 (by first | rfl | assumption) rfl rfl ?_
            refine g_iload (pc := 95) dX6_bounded_95 rfl ?_
            refine g_sipush (pc := 97) (v := (nI 10000)) dX6_bounded_97 (by decide) ?_
            refine v_isub (pc := 100) dX6_bounded_100 (pk_sub (by omega)) ?_
            refine v_iald (pc := 101) dX6_bounded_101 (by first | rfl | assumption) rfl (by omega) (congrFun (hν 31 (by omega)) _) ?_
            refine a_iast (pc := 102) dX6_bounded_102 (by first | rfl | assumption) rfl (by omega) ?_
            have hnx : (S.1 + 1, upd S.2 S.1 (μ 31 (c - 10000))) = runF (fun j => μ 31 j) (0, μ 32) (cs.take (j + 1)) := by
              rw [← hst]
              unfold stpF
              rw [if_neg (by omega), if_pos c79]
            have hν1 : ∀ q, q ≠ 32 → mset ν 32 S.1 (μ 31 (c - 10000)) q = μ q := fun q hq => (mset_ne hq).trans (hν q hq)
            have h321 : mset ν 32 S.1 (μ 31 (c - 10000)) 32 = (S.1 + 1, upd S.2 S.1 (μ 31 (c - 10000))).2 := by
              funext m
              show (if 32 = 32 ∧ m = S.1 then μ 31 (c - 10000) else ν 32 m) = upd S.2 S.1 (μ 31 (c - 10000)) m
              rw [h32]
              unfold upd
              simp only [true_and]
            refine g_goto (pc := 103) (tgt := 205) dX6_bounded_103 (by decide) ?_
            refine a_iinc5 (pc := 205) dX6_bounded_205 (inc1 _) (by decide) rfl ?_
            refine g_goto (pc := 208) (tgt := 20) dX6_bounded_208 (by decide) ?_
            exact ih (cs.length - (j + 1)) (by omega) (j + 1) (by omega) _ hnx _ hν1 h321 _ _ rfl
        · have c56 := nI_gt' (by omega) (by omega) c_56
          refine g_aload_n (pc := 59) dX6_bounded_59 rfl ?_
          refine a_getr (pc := 60) (q := 32) fl_X6_23 dX6_bounded_60 (by first | rfl | assumption) rfl rfl ?_
          refine g_iload (pc := 63) dX6_bounded_63 rfl ?_
          refine a_iinc4 (pc := 65) dX6_bounded_65 (inc1 _) (by decide) rfl ?_
          refine g_iload (pc := 68) dX6_bounded_68 rfl ?_
          refine a_iast (pc := 70) dX6_bounded_70 (by first | rfl | assumption) rfl (by omega) ?_
          have hnx : (S.1 + 1, upd S.2 S.1 (nI c)) = runF (fun j => μ 31 j) (0, μ 32) (cs.take (j + 1)) := by
            rw [← hst]
            unfold stpF
            rw [if_pos c56]
          have hν1 : ∀ q, q ≠ 32 → mset ν 32 S.1 (nI c) q = μ q := fun q hq => (mset_ne hq).trans (hν q hq)
          have h321 : mset ν 32 S.1 (nI c) 32 = (S.1 + 1, upd S.2 S.1 (nI c)).2 := by
            funext m
            show (if 32 = 32 ∧ m = S.1 then nI c else ν 32 m) = upd S.2 S.1 (nI c) m
            rw [h32]
            unfold upd
            simp only [true_and]
          refine g_goto (pc := 71) (tgt := 205) dX6_bounded_71 (by decide) ?_
          refine a_iinc5 (pc := 205) dX6_bounded_205 (inc1 _) (by decide) rfl ?_
          refine g_goto (pc := 208) (tgt := 20) dX6_bounded_208 (by decide) ?_
          exact ih (cs.length - (j + 1)) (by omega) (j + 1) (by omega) _ hnx _ hν1 h321 _ _ rfl
  exact lp20 _ 0 (Nat.zero_le _) _ rfl μ (fun _ _ => rfl) (by rw [List.take_zero]; rfl) _ _ rfl
