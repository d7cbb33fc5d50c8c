/-! ===== the next order; the worst first ===== -/
def pvL (l : List Nat) : Nat → Option Nat
  | 0 => none
  | k + 1 => if l.getD (k + 1) 0 < l.getD k 0 then pvL l k else some k
def jjL (l : List Nat) (i : Nat) : Nat → Nat
  | 0 => 0
  | j + 1 => if i + 1 < j + 1 ∧ l.getD (j + 1) 0 < l.getD i 0 then jjL l i j else j + 1
def rvL : List Nat → Nat → Nat → List Nat
  | l, _, 0 => l
  | l, a, b + 1 => if a < b + 1 then rvL (swapL l a (b + 1)) (a + 1) b else l
def nxtL (l : List Nat) : Option (Nat × List Nat) := match pvL l (l.length - 1) with
  | none => none
  | some i => some (i, rvL (swapL l i (jjL l i (l.length - 1))) (i + 1) (l.length - 1))
theorem c_X0_next (μ : Mem) (l : List Nat) (ho : OR μ l) (hl : LO l 7) : CA eI yX0_next cX0_next 5 (some .int) 1 [.ref 35] μ (fun r μ1 => (∀ k, k ≠ 36 → μ1 k = μ k) ∧ ((nxtL l = none ∧ r = -1 ∧ OR μ1 l) ∨ ∃ i l9, nxtL l = some (i, l9) ∧ r = nI i ∧ OR μ1 l9)) := by
  have h7 := ho.2.1
  refine CT.of false (by decide) (by decide) (L := [some (.ref 35), none, none, none, none]) rfl (Nat.le_of_ble_eq_true rfl) ?_
  refine g_aload_n (pc := 0) dX0_next_0 rfl ?_
  refine v_geti (pc := 1) fl_X0_38 dX0_next_1 (by first | assumption | rfl) rfl ho.1 ?_
  refine g_iconst (pc := 4) (v := (nI 2)) dX0_next_4 (by decide) ?_
  refine v_isub (pc := 5) dX0_next_5 rfl ?_
  refine a_ist1 (pc := 6) dX0_next_6 (by decide) rfl ?_
  have lp7 : ∀ (zz : Nat) (k : Nat) (hk : k ≤ l.length - 1) (x : Int32) (hx : (k = 0 ∧ x < 0) ∨ ∃ i, k = i + 1 ∧ x = nI i) (hpv : pvL l (l.length - 1) = pvL l k), k = zz → WG eI yX0_next.cls cX0_next 5 (some .int) false (fun _ _ => True) 1 (mpost (fun r μ1 => (∀ k, k ≠ 36 → μ1 k = μ k) ∧ ((nxtL l = none ∧ r = -1 ∧ OR μ1 l) ∨ ∃ i l9, nxtL l = some (i, l9) ∧ r = nI i ∧ OR μ1 l9))) 0 0 7 [some (.ref 35), some (.int x), none, none, none] [] (mk μ) := by
    intro zz
    induction zz using Nat.strongRecOn with
    | ind zz ih =>
      intro k hk x hx hpv hzz
      refine g_iload_n (pc := 7) dX0_next_7 rfl ?_
      refine g_if_lt (pc := 8) (tgt := 34) dX0_next_8 (by decide) (fun c_8 => ?_) (fun c_8 => ?_)
      · refine g_iload_n (pc := 34) dX0_next_34 rfl ?_
        refine g_if_ge (pc := 35) (tgt := 40) dX0_next_35 (by decide) (fun h => absurd c_8 (Int32.not_lt.mpr h)) (fun _ => ?_)
        refine g_iconst (pc := 38) (v := (-1)) dX0_next_38 (by decide) ?_
        refine g_ireturn (pc := 39) dX0_next_39 rfl rfl rfl ⟨_, rfl, ?_⟩
        have hk0 : pvL l (l.length - 1) = none := by
          rcases hx with ⟨rfl, -⟩ | ⟨i, hki, rfl⟩
          · exact hpv
          · exact absurd c_8 (nI_pos (by omega))
        exact ⟨fun _ _ => rfl, Or.inl ⟨by unfold nxtL; rw [hk0], rfl, ho⟩⟩
      · obtain ⟨i, rfl, rfl⟩ : ∃ i, k = i + 1 ∧ x = nI i := by
          rcases hx with ⟨-, h⟩ | h
          · exact absurd h c_8
          · exact h
        have hgi := get_of (l := l) (i := i) (by omega)
        have hgi1 := get_of (l := l) (i := i + 1) (by omega)
        have hbi := hl i _ hgi
        have hbi1 := hl (i + 1) _ hgi1
        rw [pvL] at hpv
        refine g_aload_n (pc := 11) dX0_next_11 rfl ?_
        refine a_getr (pc := 12) (q := 36) fl_X0_9 dX0_next_12 (by first | assumption | rfl) rfl rfl ?_
        refine g_iload_n (pc := 15) dX0_next_15 rfl ?_
        refine v_iald (pc := 16) dX0_next_16 (by first | assumption | rfl) rfl (by omega) (ho.2.2 i _ hgi) ?_
        refine g_aload_n (pc := 17) dX0_next_17 rfl ?_
        refine a_getr (pc := 18) (q := 36) fl_X0_9 dX0_next_18 (by first | assumption | rfl) rfl rfl ?_
        refine g_iload_n (pc := 21) dX0_next_21 rfl ?_
        refine g_iconst (pc := 22) (v := (nI 1)) dX0_next_22 (by decide) ?_
        refine v_iadd (pc := 23) dX0_next_23 (nI_add _ _) ?_
        refine v_iald (pc := 24) dX0_next_24 (by first | assumption | rfl) rfl (by omega) (ho.2.2 (i + 1) _ hgi1) ?_
        refine g_icmp_le (pc := 25) (tgt := 34) dX0_next_25 (by decide) (fun c_25 => ?_) (fun c_25 => ?_)
        · have c25 := nI_le' (by omega) (by omega) c_25
          rw [if_neg (by omega)] at hpv
          refine g_iload_n (pc := 34) dX0_next_34 rfl ?_
          refine g_if_ge (pc := 35) (tgt := 40) dX0_next_35 (by decide) (fun c_35 => ?_) (fun c_35 => absurd (nI_pos' (by omega)) c_35)
          refine g_aload_n (pc := 40) dX0_next_40 rfl ?_
          refine v_geti (pc := 41) fl_X0_38 dX0_next_41 (by first | assumption | rfl) rfl ho.1 ?_
          refine g_iconst (pc := 44) (v := (nI 1)) dX0_next_44 (by decide) ?_
          refine v_isub (pc := 45) dX0_next_45 (pk_sub (by omega)) ?_
          refine a_ist2 (pc := 46) dX0_next_46 (by decide) rfl ?_
          have lp47 : ∀ (zz : Nat) (j : Nat) (hj1 : i + 1 ≤ j) (hj2 : j ≤ l.length - 1) (hjj : jjL l i (l.length - 1) = jjL l i j), j = zz → WG eI yX0_next.cls cX0_next 5 (some .int) false (fun _ _ => True) 1 (mpost (fun r μ1 => (∀ k, k ≠ 36 → μ1 k = μ k) ∧ ((nxtL l = none ∧ r = -1 ∧ OR μ1 l) ∨ ∃ i l9, nxtL l = some (i, l9) ∧ r = nI i ∧ OR μ1 l9))) 0 0 47 [some (.ref 35), some (.int (nI i)), some (.int (nI j)), none, none] [] (mk μ) := by
            intro zz
            induction zz using Nat.strongRecOn with
            | ind zz ih =>
              intro j hj1 hj2 hjj hzz
              obtain ⟨j9, rfl⟩ : ∃ j9, j = j9 + 1 := ⟨j - 1, by omega⟩
              rw [jjL] at hjj
              have hgj := get_of (l := l) (i := j9 + 1) (by omega)
              have hbj := hl (j9 + 1) _ hgj
              refine g_iload_n (pc := 47) dX0_next_47 rfl ?_
              refine g_iload_n (pc := 48) dX0_next_48 rfl ?_
              refine g_iconst (pc := 49) (v := (nI 1)) dX0_next_49 (by decide) ?_
              refine v_iadd (pc := 50) dX0_next_50 (nI_add _ _) ?_
              refine g_icmp_le (pc := 51) (tgt := 75) dX0_next_51 (by decide) (fun c_51 => ?_) (fun c_51 => ?_)
              · have c51 := nI_le' (by omega) (by omega) c_51
                rw [if_neg (by omega)] at hjj
                refine g_aload_n (pc := 75) dX0_next_75 rfl ?_
                refine g_iload_n (pc := 76) dX0_next_76 rfl ?_
                refine g_iload_n (pc := 77) dX0_next_77 rfl ?_
                refine a_cv2v (pc := 78) (c_X0_exchange μ l ho i (j9 + 1) (by omega) (by omega)) m_X0_exchange ml_X0_147 (by omega) (by first | assumption | rfl) rfl rfl (Nat.le_of_ble_eq_true rfl) dX0_next_78 (fun x_78 μ_78 h_78 => ?_)
                obtain ⟨ho1, hx1⟩ := h_78
                have hln := swapL_len l i (j9 + 1)
                refine g_iload_n (pc := 81) dX0_next_81 rfl ?_
                refine g_iconst (pc := 82) (v := (nI 1)) dX0_next_82 (by decide) ?_
                refine v_iadd (pc := 83) dX0_next_83 (nI_add _ _) ?_
                refine a_ist3 (pc := 84) dX0_next_84 (by decide) rfl ?_
                refine g_aload_n (pc := 85) dX0_next_85 rfl ?_
                refine v_geti (pc := 86) fl_X0_38 dX0_next_86 (by first | assumption | rfl) rfl (ho1.1.trans (congrArg nI hln)) ?_
                refine g_iconst (pc := 89) (v := (nI 1)) dX0_next_89 (by decide) ?_
                refine v_isub (pc := 90) dX0_next_90 (pk_sub (by omega)) ?_
                refine a_ist4 (pc := 91) dX0_next_91 (by decide) rfl ?_
                have lp93 : ∀ (zz : Nat) (l9 : List Nat) (a b : Nat) (hlen : l9.length = l.length) (ha : a ≤ l.length) (hb : b < l.length) (hrv : rvL (swapL l i (j9 + 1)) (i + 1) (l.length - 1) = rvL l9 a b) (ν : Mem) (hν : OR ν l9 ∧ ∀ k, k ≠ 36 → ν k = μ k), b = zz → WG eI yX0_next.cls cX0_next 5 (some .int) false (fun _ _ => True) 1 (mpost (fun r μ1 => (∀ k, k ≠ 36 → μ1 k = μ k) ∧ ((nxtL l = none ∧ r = -1 ∧ OR μ1 l) ∨ ∃ i l9, nxtL l = some (i, l9) ∧ r = nI i ∧ OR μ1 l9))) 0 0 93 [some (.ref 35), some (.int (nI i)), some (.int (nI (j9 + 1))), some (.int (nI a)), some (.int (nI b))] [] (mk ν) := by
                  intro zz
                  induction zz using Nat.strongRecOn with
                  | ind zz ih =>
                    intro l9 a b hlen ha hb hrv ν hν hzz
                    refine g_iload_n (pc := 93) dX0_next_93 rfl ?_
                    refine g_iload (pc := 94) dX0_next_94 rfl ?_
                    refine g_icmp_ge (pc := 96) (tgt := 115) dX0_next_96 (by decide) (fun c_96 => ?_) (fun c_96 => ?_)
                    · have c96 := nI_le' (by omega) (by omega) c_96
                      have hfin : rvL l9 a b = l9 := by
                        cases b with
                        | zero => rfl
                        | succ b => rw [rvL, if_neg (by omega)]
                      rw [hfin] at hrv
                      refine g_iload_n (pc := 115) dX0_next_115 rfl ?_
                      refine g_ireturn (pc := 116) dX0_next_116 rfl (by first | rfl | decide) rfl ⟨_, rfl, ?_⟩
                      refine ⟨hν.2, Or.inr ⟨i, l9, ?_, rfl, hν.1⟩⟩
                      unfold nxtL
                      rw [hpv]
                      show some (i, rvL (swapL l i (jjL l i (l.length - 1))) (i + 1) (l.length - 1)) = some (i, l9)
                      rw [hjj, hrv]
                    · have c96 := nI_gt' (by omega) (by omega) c_96
                      obtain ⟨b9, rfl⟩ : ∃ b9, b = b9 + 1 := ⟨b - 1, by omega⟩
                      rw [rvL, if_pos c96] at hrv
                      refine g_aload_n (pc := 99) dX0_next_99 rfl ?_
                      refine g_iload_n (pc := 100) dX0_next_100 rfl ?_
                      refine g_iload (pc := 101) dX0_next_101 rfl ?_
                      refine a_cv2v (pc := 103) (c_X0_exchange ν l9 hν.1 a (b9 + 1) (by omega) (by omega)) m_X0_exchange ml_X0_147 (by omega) (by first | assumption | rfl) rfl rfl (Nat.le_of_ble_eq_true rfl) dX0_next_103 (fun x_103 μ_103 h_103 => ?_)
                      skip
                      refine a_iinc3 (pc := 106) dX0_next_106 (inc1 a) (by decide) rfl ?_
                      refine a_iinc4 (pc := 109) dX0_next_109 (show nI (b9 + 1) + Int32.ofInt (-1) = nI b9 from sb_m1 (by omega)) (by decide) rfl ?_
                      refine g_goto (pc := 112) (tgt := 93) dX0_next_112 (by decide) ?_
                      exact ih b9 (by omega) _ (a + 1) b9 ((swapL_len _ _ _).trans hlen) (by omega) (by omega) hrv _ ⟨h_103.1, fun k hk => (h_103.2 k hk).trans (hν.2 k hk)⟩ rfl
                exact lp93 _ _ (i + 1) (l.length - 1) hln (by omega) (by omega) rfl _ ⟨ho1, hx1⟩ rfl
              · have c51 := nI_gt' (by omega) (by omega) c_51
                refine g_aload_n (pc := 54) dX0_next_54 rfl ?_
                refine a_getr (pc := 55) (q := 36) fl_X0_9 dX0_next_55 (by first | assumption | rfl) rfl rfl ?_
                refine g_iload_n (pc := 58) dX0_next_58 rfl ?_
                refine v_iald (pc := 59) dX0_next_59 (by first | assumption | rfl) rfl (by omega) (ho.2.2 _ _ hgj) ?_
                refine g_aload_n (pc := 60) dX0_next_60 rfl ?_
                refine a_getr (pc := 61) (q := 36) fl_X0_9 dX0_next_61 (by first | assumption | rfl) rfl rfl ?_
                refine g_iload_n (pc := 64) dX0_next_64 rfl ?_
                refine v_iald (pc := 65) dX0_next_65 (by first | assumption | rfl) rfl (by omega) (ho.2.2 i _ hgi) ?_
                refine g_icmp_ge (pc := 66) (tgt := 75) dX0_next_66 (by decide) (fun c_66 => ?_) (fun c_66 => ?_)
                · have c66 := nI_le' (by omega) (by omega) c_66
                  rw [if_neg (by omega)] at hjj
                  refine g_aload_n (pc := 75) dX0_next_75 rfl ?_
                  refine g_iload_n (pc := 76) dX0_next_76 rfl ?_
                  refine g_iload_n (pc := 77) dX0_next_77 rfl ?_
                  refine a_cv2v (pc := 78) (c_X0_exchange μ l ho i (j9 + 1) (by omega) (by omega)) m_X0_exchange ml_X0_147 (by omega) (by first | assumption | rfl) rfl rfl (Nat.le_of_ble_eq_true rfl) dX0_next_78 (fun x_78 μ_78 h_78 => ?_)
                  obtain ⟨ho1, hx1⟩ := h_78
                  have hln := swapL_len l i (j9 + 1)
                  refine g_iload_n (pc := 81) dX0_next_81 rfl ?_
                  refine g_iconst (pc := 82) (v := (nI 1)) dX0_next_82 (by decide) ?_
                  refine v_iadd (pc := 83) dX0_next_83 (nI_add _ _) ?_
                  refine a_ist3 (pc := 84) dX0_next_84 (by decide) rfl ?_
                  refine g_aload_n (pc := 85) dX0_next_85 rfl ?_
                  refine v_geti (pc := 86) fl_X0_38 dX0_next_86 (by first | assumption | rfl) rfl (ho1.1.trans (congrArg nI hln)) ?_
                  refine g_iconst (pc := 89) (v := (nI 1)) dX0_next_89 (by decide) ?_
                  refine v_isub (pc := 90) dX0_next_90 (pk_sub (by omega)) ?_
                  refine a_ist4 (pc := 91) dX0_next_91 (by decide) rfl ?_
                  have lp93 : ∀ (zz : Nat) (l9 : List Nat) (a b : Nat) (hlen : l9.length = l.length) (ha : a ≤ l.length) (hb : b < l.length) (hrv : rvL (swapL l i (j9 + 1)) (i + 1) (l.length - 1) = rvL l9 a b) (ν : Mem) (hν : OR ν l9 ∧ ∀ k, k ≠ 36 → ν k = μ k), b = zz → WG eI yX0_next.cls cX0_next 5 (some .int) false (fun _ _ => True) 1 (mpost (fun r μ1 => (∀ k, k ≠ 36 → μ1 k = μ k) ∧ ((nxtL l = none ∧ r = -1 ∧ OR μ1 l) ∨ ∃ i l9, nxtL l = some (i, l9) ∧ r = nI i ∧ OR μ1 l9))) 0 0 93 [some (.ref 35), some (.int (nI i)), some (.int (nI (j9 + 1))), some (.int (nI a)), some (.int (nI b))] [] (mk ν) := by
                    intro zz
                    induction zz using Nat.strongRecOn with
                    | ind zz ih =>
                      intro l9 a b hlen ha hb hrv ν hν hzz
                      refine g_iload_n (pc := 93) dX0_next_93 rfl ?_
                      refine g_iload (pc := 94) dX0_next_94 rfl ?_
                      refine g_icmp_ge (pc := 96) (tgt := 115) dX0_next_96 (by decide) (fun c_96 => ?_) (fun c_96 => ?_)
                      · have c96 := nI_le' (by omega) (by omega) c_96
                        have hfin : rvL l9 a b = l9 := by
                          cases b with
                          | zero => rfl
                          | succ b => rw [rvL, if_neg (by omega)]
                        rw [hfin] at hrv
                        refine g_iload_n (pc := 115) dX0_next_115 rfl ?_
                        refine g_ireturn (pc := 116) dX0_next_116 rfl (by first | rfl | decide) rfl ⟨_, rfl, ?_⟩
                        refine ⟨hν.2, Or.inr ⟨i, l9, ?_, rfl, hν.1⟩⟩
                        unfold nxtL
                        rw [hpv]
                        show some (i, rvL (swapL l i (jjL l i (l.length - 1))) (i + 1) (l.length - 1)) = some (i, l9)
                        rw [hjj, hrv]
                      · have c96 := nI_gt' (by omega) (by omega) c_96
                        obtain ⟨b9, rfl⟩ : ∃ b9, b = b9 + 1 := ⟨b - 1, by omega⟩
                        rw [rvL, if_pos c96] at hrv
                        refine g_aload_n (pc := 99) dX0_next_99 rfl ?_
                        refine g_iload_n (pc := 100) dX0_next_100 rfl ?_
                        refine g_iload (pc := 101) dX0_next_101 rfl ?_
                        refine a_cv2v (pc := 103) (c_X0_exchange ν l9 hν.1 a (b9 + 1) (by omega) (by omega)) m_X0_exchange ml_X0_147 (by omega) (by first | assumption | rfl) rfl rfl (Nat.le_of_ble_eq_true rfl) dX0_next_103 (fun x_103 μ_103 h_103 => ?_)
                        skip
                        refine a_iinc3 (pc := 106) dX0_next_106 (inc1 a) (by decide) rfl ?_
                        refine a_iinc4 (pc := 109) dX0_next_109 (show nI (b9 + 1) + Int32.ofInt (-1) = nI b9 from sb_m1 (by omega)) (by decide) rfl ?_
                        refine g_goto (pc := 112) (tgt := 93) dX0_next_112 (by decide) ?_
                        exact ih b9 (by omega) _ (a + 1) b9 ((swapL_len _ _ _).trans hlen) (by omega) (by omega) hrv _ ⟨h_103.1, fun k hk => (h_103.2 k hk).trans (hν.2 k hk)⟩ rfl
                  exact lp93 _ _ (i + 1) (l.length - 1) hln (by omega) (by omega) rfl _ ⟨ho1, hx1⟩ rfl
                · have c66 := nI_gt' (by omega) (by omega) c_66
                  rw [if_pos ⟨c51, c66⟩] at hjj
                  refine a_iinc2 (pc := 69) dX0_next_69 (show nI (j9 + 1) + Int32.ofInt (-1) = nI j9 from sb_m1 (by omega)) (by decide) rfl ?_
                  refine g_goto (pc := 72) (tgt := 47) dX0_next_72 (by decide) ?_
                  exact ih j9 (by omega) j9 (by omega) (by omega) hjj rfl
          exact lp47 _ (l.length - 1) (by omega) (Nat.le_refl _) rfl rfl
        · have c25 := nI_gt' (by omega) (by omega) c_25
          rw [if_pos c25] at hpv
          refine a_iinc1 (pc := 28) dX0_next_28 rfl (by decide) rfl ?_
          refine g_goto (pc := 31) (tgt := 7) dX0_next_31 (by decide) ?_
          refine ih i (by omega) i (by omega) _ ?_ hpv rfl
          rcases Nat.lt_or_ge 0 i with h | h
          · exact Or.inr ⟨i - 1, by omega, sb_m1 h⟩
          · obtain rfl : i = 0 := by omega
            exact Or.inl ⟨rfl, by decide⟩
  rcases Nat.lt_or_ge 1 l.length with hn | hn
  · exact lp7 _ (l.length - 1) (Nat.le_refl _) _ (Or.inr ⟨l.length - 2, by omega, pk_sub (by omega)⟩) rfl rfl
  · obtain h0 | h0 : l.length = 0 ∨ l.length = 1 := by omega
    · exact lp7 _ 0 (by omega) _ (Or.inl ⟨rfl, by rw [h0]; decide⟩) (by rw [h0]) rfl
    · exact lp7 _ 0 (by omega) _ (Or.inl ⟨rfl, by rw [h0]; decide⟩) (by rw [h0]) rfl
/-- how much a part weighs: creases times what it shows -/
def wtV (v : View) (p : Nat) : Nat := v 3 p * kShows (v 1 p)
def ipW (v : View) (l : List Nat) (p : Nat) : Nat → Nat
  | 0 => 0
  | k + 1 => if wtV v (l.getD k 0) < wtV v p then ipW v l p k else k + 1
def insW (v : View) (l : List Nat) (p : Nat) : List Nat := l.take (ipW v l p l.length) ++ p :: l.drop (ipW v l p l.length)
def wfL (v : View) : Nat → List Nat
  | 0 => []
  | n + 1 => insW v (wfL v n) n
theorem ipW_le (v : View) (l : List Nat) (p : Nat) : ∀ k, ipW v l p k ≤ k
  | 0 => Nat.le_refl _
  | k + 1 => by
    rw [ipW]
    split
    · have := ipW_le v l p k
      omega
    · exact Nat.le_refl _
theorem ins_at {l : List Nat} {p k j : Nat} (hk : k ≤ l.length) : (l.take k ++ p :: l.drop k)[j]? = if j < k then l[j]? else if j = k then some p else l[j - 1]? := by
  have hlen : (l.take k).length = k := by rw [List.length_take]; omega
  by_cases h : j < k
  · rw [if_pos h, List.getElem?_append_left (by omega), List.getElem?_take, if_pos h]
  · rw [if_neg h, List.getElem?_append_right (by omega), hlen]
    by_cases h2 : j = k
    · subst h2
      rw [if_pos rfl, Nat.sub_self]
      rfl
    · rw [if_neg h2]
      obtain ⟨m, hm⟩ : ∃ m, j - k = m + 1 := ⟨j - k - 1, by omega⟩
      rw [hm, List.getElem?_cons_succ, List.getElem?_drop]
      congr 1
      omega
theorem wfL_len (v : View) : ∀ n, (wfL v n).length = n
  | 0 => rfl
  | n + 1 => by
    have ih := wfL_len v n
    have hk := ipW_le v (wfL v n) n (wfL v n).length
    rw [wfL]
    unfold insW
    rw [List.length_append, List.length_take, List.length_cons, List.length_drop]
    omega
theorem wfL_lo (v : View) : ∀ n, LO (wfL v n) n
  | 0 => fun j x h => by simp [wfL] at h
  | n + 1 => fun j x h => by
    rw [wfL] at h
    unfold insW at h
    rw [ins_at (ipW_le _ _ _ _)] at h
    split at h
    · have := wfL_lo v n j x h
      omega
    · split at h
      · cases h
        omega
      · have := wfL_lo v n _ x h
        omega
theorem wtV_le {v : View} {p : Nat} (h : v 3 p ≤ 99) : wtV v p ≤ 297 := by
  have h2 : v 3 p * kShows (v 1 p) ≤ 99 * 3 := Nat.mul_le_mul h (kShows_le _)
  exact h2
theorem c_X0_chooseWorstFirst (sb : Nat) (hsb : SB sb) (v : View) (μ : Mem) (hv : SV μ sb v) : CA eV yX0_chooseWorstFirst cX0_chooseWorstFirst 4 none 1 [.ref 35, .ref sb] μ (fun _ μ1 => OR μ1 (wfL v (v 0 3)) ∧ (∀ k, k ≠ 35 → k ≠ 36 → k ≠ 47 → μ1 k = μ k) ∧ ∀ j, j ≠ 2 → μ1 35 j = μ 35 j) := by
  obtain ⟨hs0, hs1, hs2, hs3, hs4, hr4, hr5, hr6, hr7, hs9⟩ := hsb.f
  obtain ⟨⟨e0, b0⟩, ⟨e1, b1⟩, ⟨e2, b2⟩, ⟨e3, b3⟩, hp⟩ := id hv
  have hvb := hv.vb
  refine CT.of false (by decide) (by decide) (L := [some (.ref 35), some (.ref sb), none, none]) rfl (Nat.le_of_ble_eq_true rfl) ?_
  refine g_aload_n (pc := 0) dX0_chooseWorstFirst_0 rfl ?_
  refine a_cv0v (pc := 1) (c_X0_clear μ) m_X0_clear ml_X0_41 (by omega) (by first | assumption | rfl) rfl rfl (Nat.le_of_ble_eq_true rfl) dX0_chooseWorstFirst_1 (fun x_1 μ_1 h_1 => ?_)
  have hm_1 := (show μ_1 = _ from h_1).symm
  subst hm_1
  refine g_iconst (pc := 4) (v := (nI 0)) dX0_chooseWorstFirst_4 (by decide) ?_
  refine a_ist2 (pc := 5) dX0_chooseWorstFirst_5 (by decide) rfl ?_
  have lp6 : ∀ (zz : Nat) (i : Nat) (hi : i ≤ v 0 3) (ν : Mem) (hν : OR ν (wfL v i) ∧ (∀ q, q < i → ν 47 q = nI (wtV v q)) ∧ (∀ k, k ≠ 35 → k ≠ 36 → k ≠ 47 → ν k = μ k) ∧ ∀ j, j ≠ 2 → ν 35 j = μ 35 j) (l3 : Option Value), v 0 3 - i = zz → WG eV yX0_chooseWorstFirst.cls cX0_chooseWorstFirst 4 none false (fun _ _ => True) 1 (mpost (fun _ μ1 => OR μ1 (wfL v (v 0 3)) ∧ (∀ k, k ≠ 35 → k ≠ 36 → k ≠ 47 → μ1 k = μ k) ∧ ∀ j, j ≠ 2 → μ1 35 j = μ 35 j)) 0 0 6 [some (.ref 35), some (.ref sb), some (.int (nI i)), l3] [] (mk ν) := by
    intro zz
    induction zz using Nat.strongRecOn with
    | ind zz ihO =>
      intro i hi ν hν l3 hzz
      obtain ⟨ho, hw, hf1, hf2⟩ := hν
      have hln := wfL_len v i
      have hlo := wfL_lo v i
      refine g_iload_n (pc := 6) dX0_chooseWorstFirst_6 rfl ?_
      refine g_aload_n (pc := 7) dX0_chooseWorstFirst_7 rfl ?_
      refine v_geti (pc := 8) fl_X0_44 dX0_chooseWorstFirst_8 (by first | assumption | rfl) rfl ((congrFun (hf1 sb (by omega) (by omega) (by omega)) 3).trans e3) ?_
      refine g_icmp_ge (pc := 11) (tgt := 105) dX0_chooseWorstFirst_11 (by decide) (fun c_11 => ?_) (fun c_11 => ?_)
      · have c11 := nI_le' (by omega) (by omega) c_11
        obtain rfl : i = v 0 3 := by omega
        refine g_return (pc := 105) (x := ()) dX0_chooseWorstFirst_105 rfl rfl ⟨_, rfl, ?_⟩
        exact ⟨ho, hf1, hf2⟩
      · have c11 := nI_gt' (by omega) (by omega) c_11
        have hpi := hp i c11
        have hwi := wtV_le (v := v) (p := i) hpi.2.2.1.2
        refine g_aload_n (pc := 14) dX0_chooseWorstFirst_14 rfl ?_
        refine a_getr (pc := 15) (q := 47) fl_X0_27 dX0_chooseWorstFirst_15 (by first | assumption | rfl) rfl rfl ?_
        refine g_iload_n (pc := 18) dX0_chooseWorstFirst_18 rfl ?_
        refine g_aload_n (pc := 19) dX0_chooseWorstFirst_19 rfl ?_
        refine a_getr (pc := 20) (q := sb + 3) fl_X0_53 dX0_chooseWorstFirst_20 (by first | assumption | rfl) rfl (by assumption) ?_
        refine g_iload_n (pc := 23) dX0_chooseWorstFirst_23 rfl ?_
        refine v_iald (pc := 24) dX0_chooseWorstFirst_24 (by first | assumption | rfl) rfl (by omega) ((congrFun (hf1 (sb + 3) (by omega) (by omega) (by omega)) i).trans hpi.2.2.1.1) ?_
        refine g_aload_n (pc := 25) dX0_chooseWorstFirst_25 rfl ?_
        refine a_getr (pc := 26) (q := sb + 1) fl_X0_56 dX0_chooseWorstFirst_26 (by first | assumption | rfl) rfl (by assumption) ?_
        refine g_iload_n (pc := 29) dX0_chooseWorstFirst_29 rfl ?_
        refine v_iald (pc := 30) dX0_chooseWorstFirst_30 (by first | assumption | rfl) rfl (by omega) ((congrFun (hf1 (sb + 1) (by omega) (by omega) (by omega)) i).trans hpi.1.1) ?_
        refine a_cs1i (pc := 31) (c_X1_shows _ hpi.1.2 ν) m_X1_shows ml_X0_59 (by omega) (Nat.le_of_ble_eq_true rfl) dX0_chooseWorstFirst_31 (fun x_31 μ_31 h_31 => ?_)
        obtain ⟨rfl, hm_31⟩ := h_31
        have hm_31 := hm_31.symm
        subst hm_31
        refine v_imul (pc := 34) dX0_chooseWorstFirst_34 ((nI_mul _ _).trans (show nI (v 3 i * kShows (v 1 i)) = nI (wtV v i) from rfl)) ?_
        refine a_iast (pc := 35) dX0_chooseWorstFirst_35 (by first | assumption | rfl) rfl (by omega) ?_
        obtain ⟨ν1, ho1, hw1, hg1, hg2, hν1⟩ : ∃ ν1 : Mem, OR ν1 (wfL v i) ∧ (∀ q, q < i + 1 → ν1 47 q = nI (wtV v q)) ∧ (∀ k, k ≠ 35 → k ≠ 36 → k ≠ 47 → ν1 k = μ k) ∧ (∀ j, j ≠ 2 → ν1 35 j = μ 35 j) ∧ mset ν 47 i (nI (wtV v i)) = ν1 := by
          refine ⟨_, ho.moved (by rw [mset_ne (by omega)]) (mset_ne (by omega)), fun q hq => ?_, fun k h1 h2 h3 => (mset_ne h3).trans (hf1 k h1 h2 h3), fun j hj => (congrFun (mset_ne (by omega)) j).trans (hf2 j hj), rfl⟩
          by_cases hqi : q = i
          · subst hqi
            exact mset_eq
          · rw [mset_nj hqi]
            exact hw q (by omega)
        rw [hν1]
        clear hν1
        refine g_aload_n (pc := 36) dX0_chooseWorstFirst_36 rfl ?_
        refine v_geti (pc := 37) fl_X0_38 dX0_chooseWorstFirst_37 (by first | assumption | rfl) rfl (ho1.1.trans (congrArg nI hln)) ?_
        refine a_ist3 (pc := 40) dX0_chooseWorstFirst_40 (by decide) rfl ?_
        refine g_aload_n (pc := 41) dX0_chooseWorstFirst_41 rfl ?_
        refine g_iload_n (pc := 42) dX0_chooseWorstFirst_42 rfl ?_
        refine a_cv1v (pc := 43) (c_X0_append ν1 (wfL v i) i (by omega) ho1) m_X0_append ml_X0_49 (by omega) (by first | assumption | rfl) rfl rfl (Nat.le_of_ble_eq_true rfl) dX0_chooseWorstFirst_43 (fun x_43 μ_43 h_43 => ?_)
        have hm := (show μ_43 = _ from h_43).symm
        subst hm
        rw [hln]
        have lp46 : ∀ (zz : Nat) (k : Nat) (hk : k ≤ i) (ν2 : Mem) (hz : ν2 35 2 = nI (i + 1) ∧ (∀ j, j < k → ν2 36 j = nI ((wfL v i).getD j 0)) ∧ (∀ j, k < j → j ≤ i → ν2 36 j = nI ((wfL v i).getD (j - 1) 0)) ∧ (∀ q, q < i + 1 → ν2 47 q = nI (wtV v q)) ∧ (∀ k, k ≠ 35 → k ≠ 36 → k ≠ 47 → ν2 k = μ k) ∧ ∀ j, j ≠ 2 → ν2 35 j = μ 35 j) (hip : ipW v (wfL v i) i i = ipW v (wfL v i) i k), k = zz → WG eV yX0_chooseWorstFirst.cls cX0_chooseWorstFirst 4 none false (fun _ _ => True) 1 (mpost (fun _ μ1 => OR μ1 (wfL v (v 0 3)) ∧ (∀ k, k ≠ 35 → k ≠ 36 → k ≠ 47 → μ1 k = μ k) ∧ ∀ j, j ≠ 2 → μ1 35 j = μ 35 j)) 0 0 46 [some (.ref 35), some (.ref sb), some (.int (nI i)), some (.int (nI k))] [] (mk ν2) := by
          intro zz
          induction zz using Nat.strongRecOn with
          | ind zz ih =>
            intro k hk ν2 hz hip hzz
            obtain ⟨z1, z2, z3, z4, z5, z6⟩ := hz
            refine g_iload_n (pc := 46) dX0_chooseWorstFirst_46 rfl ?_
            refine g_if_le (pc := 47) (tgt := 92) dX0_chooseWorstFirst_47 (by decide) (fun c_47 => ?_) (fun c_47 => ?_)
            · have c47 : k = 0 := by
                have := nI_le' (b := 0) (by omega) (by omega) c_47
                omega
              have hkk : ipW v (wfL v i) i k = k := by
                subst c47
                rfl
              refine g_aload_n (pc := 92) dX0_chooseWorstFirst_92 rfl ?_
              refine a_getr (pc := 93) (q := 36) fl_X0_9 dX0_chooseWorstFirst_93 (by first | assumption | rfl) rfl rfl ?_
              refine g_iload_n (pc := 96) dX0_chooseWorstFirst_96 rfl ?_
              refine g_iload_n (pc := 97) dX0_chooseWorstFirst_97 rfl ?_
              obtain ⟨k8, hk8⟩ : ∃ k8, k8 = ipW v (wfL v i) i i := ⟨_, rfl⟩
              have hke := hip.trans hkk
              have hnx : ∀ k7, ipW v (wfL v i) i i = k7 → k7 ≤ i → (∀ j, j < k7 → ν2 36 j = nI ((wfL v i).getD j 0)) → (∀ j, k7 < j → j ≤ i → ν2 36 j = nI ((wfL v i).getD (j - 1) 0)) → OR (mset ν2 36 k7 (nI i)) (wfL v (i + 1)) ∧ (∀ q, q < i + 1 → mset ν2 36 k7 (nI i) 47 q = nI (wtV v q)) ∧ (∀ k, k ≠ 35 → k ≠ 36 → k ≠ 47 → mset ν2 36 k7 (nI i) k = μ k) ∧ ∀ j, j ≠ 2 → mset ν2 36 k7 (nI i) 35 j = μ 35 j := by
                intro k7 g1 g2 g3 g4
                refine ⟨⟨?_, by rw [wfL_len]; omega, fun j x hj => ?_⟩, fun q hq => ?_, fun c h1 h2 h3 => ?_, fun j hj => ?_⟩
                · rw [wfL_len, mset_ne (by omega)]
                  exact z1
                · rw [wfL] at hj
                  unfold insW at hj
                  rw [hln, ins_at (by omega), g1] at hj
                  split at hj
                  · rw [mset_nj (by omega), g3 j (by assumption), getD_of hj]
                  · split at hj
                    · cases hj
                      rename_i hh
                      rw [hh]
                      exact mset_eq
                    · have hji := (List.getElem?_eq_some_iff.mp hj).1
                      rw [mset_nj (by assumption), g4 j (by omega) (by omega), getD_of hj]
                · rw [mset_ne (by omega)]
                  exact z4 q hq
                · rw [mset_ne h2]
                  exact z5 c h1 h2 h3
                · rw [mset_ne (by omega)]
                  exact z6 j hj
              replace hnx := hnx _ hke (by omega) z2 z3
              refine a_iast (pc := 98) dX0_chooseWorstFirst_98 (by first | assumption | rfl) rfl (by omega) ?_
              refine a_iinc2 (pc := 99) dX0_chooseWorstFirst_99 (inc1 i) (by decide) rfl ?_
              refine g_goto (pc := 102) (tgt := 6) dX0_chooseWorstFirst_102 (by decide) ?_
              exact ihO (v 0 3 - (i + 1)) (by omega) (i + 1) (by omega) _ hnx _ rfl
            · have c47 := nI_gt' (b := 0) (by omega) (by omega) c_47
              obtain ⟨k9, rfl⟩ : ∃ k9, k = k9 + 1 := ⟨k - 1, by omega⟩
              have hgk := get_of (l := wfL v i) (i := k9) (by omega)
              have hbk := hlo k9 _ hgk
              have hwk := wtV_le (v := v) (p := (wfL v i).getD k9 0) (hp _ (by omega)).2.2.1.2
              refine g_aload_n (pc := 50) dX0_chooseWorstFirst_50 rfl ?_
              refine a_getr (pc := 51) (q := 47) fl_X0_27 dX0_chooseWorstFirst_51 (by first | assumption | rfl) rfl rfl ?_
              refine g_aload_n (pc := 54) dX0_chooseWorstFirst_54 rfl ?_
              refine a_getr (pc := 55) (q := 36) fl_X0_9 dX0_chooseWorstFirst_55 (by first | assumption | rfl) rfl rfl ?_
              refine g_iload_n (pc := 58) dX0_chooseWorstFirst_58 rfl ?_
              refine g_iconst (pc := 59) (v := (nI 1)) dX0_chooseWorstFirst_59 (by decide) ?_
              refine v_isub (pc := 60) dX0_chooseWorstFirst_60 ((pk_sub (by omega)).trans (show nI (k9 + 1 - 1) = nI k9 from rfl)) ?_
              refine v_iald (pc := 61) dX0_chooseWorstFirst_61 (by first | assumption | rfl) rfl (by omega) (z2 k9 (by omega)) ?_
              refine v_iald (pc := 62) dX0_chooseWorstFirst_62 (by first | assumption | rfl) rfl (by omega) (z4 _ (by omega)) ?_
              refine g_aload_n (pc := 63) dX0_chooseWorstFirst_63 rfl ?_
              refine a_getr (pc := 64) (q := 47) fl_X0_27 dX0_chooseWorstFirst_64 (by first | assumption | rfl) rfl rfl ?_
              refine g_iload_n (pc := 67) dX0_chooseWorstFirst_67 rfl ?_
              refine v_iald (pc := 68) dX0_chooseWorstFirst_68 (by first | assumption | rfl) rfl (by omega) (z4 i (by omega)) ?_
              refine g_icmp_ge (pc := 69) (tgt := 92) dX0_chooseWorstFirst_69 (by decide) (fun c_69 => ?_) (fun c_69 => ?_)
              · have c69 := nI_le' (by omega) (by omega) c_69
                have hkk : ipW v (wfL v i) i (k9 + 1) = k9 + 1 := by
                  rw [ipW, if_neg (by omega)]
                refine g_aload_n (pc := 92) dX0_chooseWorstFirst_92 rfl ?_
                refine a_getr (pc := 93) (q := 36) fl_X0_9 dX0_chooseWorstFirst_93 (by first | assumption | rfl) rfl rfl ?_
                refine g_iload_n (pc := 96) dX0_chooseWorstFirst_96 rfl ?_
                refine g_iload_n (pc := 97) dX0_chooseWorstFirst_97 rfl ?_
                obtain ⟨k8, hk8⟩ : ∃ k8, k8 = ipW v (wfL v i) i i := ⟨_, rfl⟩
                have hke := hip.trans hkk
                have hnx : ∀ k7, ipW v (wfL v i) i i = k7 → k7 ≤ i → (∀ j, j < k7 → ν2 36 j = nI ((wfL v i).getD j 0)) → (∀ j, k7 < j → j ≤ i → ν2 36 j = nI ((wfL v i).getD (j - 1) 0)) → OR (mset ν2 36 k7 (nI i)) (wfL v (i + 1)) ∧ (∀ q, q < i + 1 → mset ν2 36 k7 (nI i) 47 q = nI (wtV v q)) ∧ (∀ k, k ≠ 35 → k ≠ 36 → k ≠ 47 → mset ν2 36 k7 (nI i) k = μ k) ∧ ∀ j, j ≠ 2 → mset ν2 36 k7 (nI i) 35 j = μ 35 j := by
                  intro k7 g1 g2 g3 g4
                  refine ⟨⟨?_, by rw [wfL_len]; omega, fun j x hj => ?_⟩, fun q hq => ?_, fun c h1 h2 h3 => ?_, fun j hj => ?_⟩
                  · rw [wfL_len, mset_ne (by omega)]
                    exact z1
                  · rw [wfL] at hj
                    unfold insW at hj
                    rw [hln, ins_at (by omega), g1] at hj
                    split at hj
                    · rw [mset_nj (by omega), g3 j (by assumption), getD_of hj]
                    · split at hj
                      · cases hj
                        rename_i hh
                        rw [hh]
                        exact mset_eq
                      · have hji := (List.getElem?_eq_some_iff.mp hj).1
                        rw [mset_nj (by assumption), g4 j (by omega) (by omega), getD_of hj]
                  · rw [mset_ne (by omega)]
                    exact z4 q hq
                  · rw [mset_ne h2]
                    exact z5 c h1 h2 h3
                  · rw [mset_ne (by omega)]
                    exact z6 j hj
                replace hnx := hnx _ hke (by omega) z2 z3
                refine a_iast (pc := 98) dX0_chooseWorstFirst_98 (by first | assumption | rfl) rfl (by omega) ?_
                refine a_iinc2 (pc := 99) dX0_chooseWorstFirst_99 (inc1 i) (by decide) rfl ?_
                refine g_goto (pc := 102) (tgt := 6) dX0_chooseWorstFirst_102 (by decide) ?_
                exact ihO (v 0 3 - (i + 1)) (by omega) (i + 1) (by omega) _ hnx _ rfl
              · have c69 := nI_gt' (by omega) (by omega) c_69
                rw [ipW, if_pos c69] at hip
                refine g_aload_n (pc := 72) dX0_chooseWorstFirst_72 rfl ?_
                refine a_getr (pc := 73) (q := 36) fl_X0_9 dX0_chooseWorstFirst_73 (by first | assumption | rfl) rfl rfl ?_
                refine g_iload_n (pc := 76) dX0_chooseWorstFirst_76 rfl ?_
                refine g_aload_n (pc := 77) dX0_chooseWorstFirst_77 rfl ?_
                refine a_getr (pc := 78) (q := 36) fl_X0_9 dX0_chooseWorstFirst_78 (by first | assumption | rfl) rfl rfl ?_
                refine g_iload_n (pc := 81) dX0_chooseWorstFirst_81 rfl ?_
                refine g_iconst (pc := 82) (v := (nI 1)) dX0_chooseWorstFirst_82 (by decide) ?_
                refine v_isub (pc := 83) dX0_chooseWorstFirst_83 ((pk_sub (by omega)).trans (show nI (k9 + 1 - 1) = nI k9 from rfl)) ?_
                refine v_iald (pc := 84) dX0_chooseWorstFirst_84 (by first | assumption | rfl) rfl (by omega) (z2 k9 (by omega)) ?_
                refine a_iast (pc := 85) dX0_chooseWorstFirst_85 (by first | assumption | rfl) rfl (by omega) ?_
                refine a_iinc3 (pc := 86) dX0_chooseWorstFirst_86 (show nI (k9 + 1) + Int32.ofInt (-1) = nI k9 from sb_m1 (by omega)) (by decide) rfl ?_
                refine g_goto (pc := 89) (tgt := 46) dX0_chooseWorstFirst_89 (by decide) ?_
                refine ih k9 (by omega) k9 (by omega) _ ⟨?_, fun j hj => ?_, fun j h1 h2 => ?_, fun q hq => ?_, fun c h1 h2 h3 => ?_, fun j hj => ?_⟩ hip rfl
                · rw [mset_ne (by omega)]
                  exact z1
                · rw [mset_nj (by omega)]
                  exact z2 j (by omega)
                · by_cases hjk : j = k9 + 1
                  · subst hjk
                    rw [mset_eq]
                    rfl
                  · rw [mset_nj hjk]
                    exact z3 j (by omega) h2
                · rw [mset_ne (by omega)]
                  exact z4 q hq
                · rw [mset_ne h2]
                  exact z5 c h1 h2 h3
                · rw [mset_ne (by omega)]
                  exact z6 j hj
        refine lp46 _ i (Nat.le_refl _) _ ⟨by rw [mset_ne (by omega), mset_eq], fun j hj => ?_, fun j h1 h2 => absurd h2 (by omega), fun q hq => by rw [mset_ne (by omega), mset_ne (by omega)]; exact hw1 q hq, fun c h1 h2 h3 => by rw [mset_ne h2, mset_ne h1]; exact hg1 c h1 h2 h3, fun j hj => by rw [mset_ne (by omega), mset_nj hj]; exact hg2 j hj⟩ rfl rfl
        rw [mset_nj (by omega), mset_ne (by omega)]
        exact ho1.2.2 j _ (get_of (by omega))
  exact lp6 _ 0 (Nat.zero_le _) _ ⟨⟨mset_eq, Nat.zero_le 7, fun j x h => by simp [wfL] at h⟩, fun q h => absurd h (Nat.not_lt_zero _), fun k h1 _ _ => mset_ne h1, fun j h => mset_nj h⟩ _ rfl
