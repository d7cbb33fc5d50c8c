/-! ===== the search: settings, the best order ===== -/
theorem LO.le {l : List Nat} {n m : Nat} (h : LO l n) (hm : n ≤ m) : LO l m := fun j x hx => Nat.lt_of_lt_of_le (h j x hx) hm
theorem swapL_ne {l : List Nat} {i k j : Nat} (h1 : j ≠ i) (h2 : j ≠ k) : (swapL l i k).getD j 0 = l.getD j 0 := by
  unfold swapL
  rw [List.getD_eq_getElem?_getD, List.getElem?_set_ne (fun q => h2 q.symm), List.getElem?_set_ne (fun q => h1 q.symm), List.getD_eq_getElem?_getD]
theorem pvL_lt {l : List Nat} : ∀ {k i : Nat}, pvL l k = some i → i < k
  | 0, _, h => by cases h
  | k + 1, i, h => by
    rw [pvL] at h
    split at h
    · have := pvL_lt h
      omega
    · cases h
      omega
theorem jjL_in {l : List Nat} {i : Nat} : ∀ {j : Nat}, i + 1 ≤ j → i + 1 ≤ jjL l i j ∧ jjL l i j ≤ j
  | 0, h => by omega
  | j + 1, h => by
    rw [jjL]
    split
    · rename_i hh
      have := jjL_in (l := l) (i := i) (j := j) (by omega)
      omega
    · omega
theorem rvL_facts {n : Nat} : ∀ (b : Nat) (l : List Nat) (a : Nat), b < l.length → (rvL l a b).length = l.length ∧ (∀ j, j < a → (rvL l a b).getD j 0 = l.getD j 0) ∧ (LO l n → LO (rvL l a b) n)
  | 0, l, a, _ => by
    rw [rvL]
    exact ⟨rfl, fun _ _ => rfl, fun h => h⟩
  | b + 1, l, a, h => by
    rw [rvL]
    split
    · rename_i hh
      obtain ⟨g1, g2, g3⟩ := rvL_facts (n := n) b (swapL l a (b + 1)) (a + 1) (by rw [swapL_len]; omega)
      refine ⟨g1.trans (swapL_len _ _ _), fun j hj => ?_, fun hl => g3 (swapL_lo hl (by omega) h)⟩
      rw [g2 j (by omega)]
      exact swapL_ne (by omega) (by omega)
    · exact ⟨rfl, fun _ _ => rfl, fun h => h⟩
theorem nxt_facts {n : Nat} {l l9 : List Nat} {i : Nat} (h : nxtL l = some (i, l9)) : i + 1 < l.length ∧ l9.length = l.length ∧ (∀ j, j < i → l9.getD j 0 = l.getD j 0) ∧ (LO l n → LO l9 n) := by
  unfold nxtL at h
  cases hp : pvL l (l.length - 1) with
  | none =>
    rw [hp] at h
    cases h
  | some i9 =>
    rw [hp] at h
    have h1 := pvL_lt hp
    have h2 := jjL_in (l := l) (i := i9) (j := l.length - 1) (by omega)
    have h9 : (i9, rvL (swapL l i9 (jjL l i9 (l.length - 1))) (i9 + 1) (l.length - 1)) = (i, l9) := Option.some.inj h
    obtain ⟨rfl, rfl⟩ := Prod.mk.inj h9
    obtain ⟨g1, g2, g3⟩ := rvL_facts (n := n) (l.length - 1) (swapL l i9 (jjL l i9 (l.length - 1))) (i9 + 1) (by rw [swapL_len]; omega)
    refine ⟨by omega, g1.trans (swapL_len _ _ _), fun j hj => ?_, fun hl => g3 (swapL_lo hl (by omega) (by omega))⟩
    rw [g2 j (by omega)]
    exact swapL_ne (by omega) (by omega)
theorem stS_congr {v : View} {Q : Nat → List Nat} {sp : Nat} {l l9 : List Nat} : ∀ k, (∀ j, j < k → l9.getD j 0 = l.getD j 0) → stS v Q sp l9 k = stS v Q sp l k
  | 0, _ => rfl
  | k + 1, h => by
    have ih := stS_congr (v := v) (Q := Q) (sp := sp) k (fun j hj => h j (by omega))
    rw [stS, stS, ih, h k (by omega)]
theorem RS.congr {μ μ1 : Mem} {v : View} {Q : Nat → List Nat} {sp : Nat} {l l9 : List Nat} {k : Nat} (h : RS μ v Q sp l k) (hj : ∀ j, j < k → l9.getD j 0 = l.getD j 0) (h1 : μ1 (38 + k) = μ (38 + k)) (h2 : μ1 46 = μ 46) : RS μ1 v Q sp l9 k := by
  unfold RS stF stM
  rw [stS_congr k hj, h1, h2]
  exact h
def bsS (v : View) (Q : Nat → List Nat) : Nat → List Nat → Int32 × Nat → Int32 × Nat
  | 0, _, S => S
  | k + 1, l, S => match nxtL l with
    | none => S
    | some q => bsS v Q k q.2 (if CR v Q 9 q.2 < S.2 then (nI (dg q.2), CR v Q 9 q.2) else S)
theorem c_X3_bestOrder (sb : Nat) (v : View) (Q : Nat → List Nat) (μ : Mem) (hc : CW μ sb v Q) (hsp : μ 35 3 = -1) : CA eV yX3_bestOrder cX3_bestOrder 5 none 5 [.ref 48, .ref sb] μ (fun _ μ1 => SRW μ1 (bsS v Q 5040 (chs 127 (v 0 3)) (nI (dg (chs 127 (v 0 3))), CR v Q 9 (chs 127 (v 0 3)))) ∧ SF μ μ1) := by
  obtain ⟨hsb, hv, hQ, h46⟩ := id hc
  obtain ⟨hs0, hs1, hs2, hs3, hs4, hr4, hr5, hr6, hr7, hs9⟩ := hsb.f
  have hvb := hv.vb
  have hn7 := hvb.1
  have h127 := chs_lo 127 (v 0 3)
  have hln := chs127_len (v 0 3) hn7
  refine CT.of false (by decide) (by decide) (L := [some (.ref 48), some (.ref sb), none, none, none]) rfl (Nat.le_of_ble_eq_true rfl) ?_
  refine g_aload_n (pc := 0) dX3_bestOrder_0 rfl ?_
  refine a_getr (pc := 1) (q := 35) fl_X3_9 dX3_bestOrder_1 (by first | assumption | rfl) rfl rfl ?_
  refine g_aload_n (pc := 4) dX3_bestOrder_4 rfl ?_
  refine g_bipush (pc := 5) (v := (nI 127)) dX3_bestOrder_5 (by decide) ?_
  refine a_cv2v (pc := 7) (c_X0_choose sb hsb v μ hc.2.1 127 (by decide)) m_X0_choose ml_X3_26 (by omega) (by first | assumption | rfl) rfl rfl (Nat.le_of_ble_eq_true rfl) dX3_bestOrder_7 (fun x_7 μ_7 h_7 => ?_)
  obtain ⟨c7, o7, f7, w7, p7⟩ := hc.cho h_7
  refine g_aload_n (pc := 10) dX3_bestOrder_10 rfl ?_
  refine a_getr (pc := 11) (q := 35) fl_X3_9 dX3_bestOrder_11 (by first | assumption | rfl) rfl rfl ?_
  refine g_aload_n (pc := 14) dX3_bestOrder_14 rfl ?_
  refine a_cv1v (pc := 15) (c_X0_run sb hsb v Q μ_7 c7.2.1 c7.2.2.1 9 (Or.inl ⟨p7.trans hsp, rfl⟩) _ o7 h127 c7.2.2.2) m_X0_run ml_X3_32 (by omega) (by first | assumption | rfl) rfl rfl (Nat.le_of_ble_eq_true rfl) dX3_bestOrder_15 (fun x_15 μ_15 h_15 => ?_)
  obtain ⟨c15, o15, f15, w15, p15, r15⟩ := CW.ran c7 o7 h127 h_15
  refine g_aload_n (pc := 18) dX3_bestOrder_18 rfl ?_
  refine g_aload_n (pc := 19) dX3_bestOrder_19 rfl ?_
  refine a_getr (pc := 20) (q := 35) fl_X3_9 dX3_bestOrder_20 (by first | assumption | rfl) rfl rfl ?_
  refine a_cv0i (pc := 23) (c_X0_digits μ_15 _ o15) m_X0_digits ml_X3_36 (by omega) (by first | assumption | rfl) rfl rfl (Nat.le_of_ble_eq_true rfl) dX3_bestOrder_23 (fun x_23 μ_23 h_23 => ?_)
  obtain ⟨rfl, hm_23⟩ := h_23
  have hm_23 := hm_23.symm
  subst hm_23
  refine a_puti (pc := 26) fw_X3_19 dX3_bestOrder_26 (by first | assumption | rfl) rfl ?_
  obtain ⟨ν1, w1, x1, hν1⟩ : ∃ ν1 : Mem, ν1 48 3 = nI (dg (chs 127 (v 0 3))) ∧ (∀ c, c ≠ 48 → ν1 c = μ_15 c) ∧ mset μ_15 48 3 (nI (dg (chs 127 (v 0 3)))) = ν1 := ⟨_, mset_eq, fun c hc => mset_ne hc, rfl⟩
  rw [hν1]
  clear hν1
  have c29 : CW ν1 sb v Q := c15.moved (fun k hk => x1 k (by omega)) (congrFun (x1 46 (by omega)) 0)
  have o29 : OR ν1 (chs 127 (v 0 3)) := o15.moved (congrFun (x1 35 (by omega)) 2) (x1 36 (by omega))
  have r29 : ∀ p, p < v 0 3 → ν1 (38 + (chs 127 (v 0 3)).length) p = nI (stF v Q 9 (chs 127 (v 0 3)) (chs 127 (v 0 3)).length p) ∧ stF v Q 9 (chs 127 (v 0 3)) (chs 127 (v 0 3)).length p ≤ 99 := by
    rw [x1 _ (by omega)]
    exact r15
  refine g_aload_n (pc := 29) dX3_bestOrder_29 rfl ?_
  refine g_aload_n (pc := 30) dX3_bestOrder_30 rfl ?_
  refine a_getr (pc := 31) (q := 35) fl_X3_9 dX3_bestOrder_31 (by first | assumption | rfl) rfl rfl ?_
  refine g_aload_n (pc := 34) dX3_bestOrder_34 rfl ?_
  refine a_cv1i (pc := 35) (c_X0_creased sb hsb v ν1 c29.2.1 _ o29 _ r29) m_X0_creased ml_X3_40 (by omega) (by first | assumption | rfl) rfl rfl (Nat.le_of_ble_eq_true rfl) dX3_bestOrder_35 (fun x_35 μ_35 h_35 => ?_)
  obtain ⟨rfl, hm_35⟩ := h_35
  have hm_35 := hm_35.symm
  subst hm_35
  refine a_puti (pc := 38) fw_X3_23 dX3_bestOrder_38 (by first | assumption | rfl) rfl ?_
  obtain ⟨ν2, s2, x2, hν2⟩ : ∃ ν2 : Mem, SRW ν2 (nI (dg (chs 127 (v 0 3))), CR v Q 9 (chs 127 (v 0 3))) ∧ (∀ c, c ≠ 48 → ν2 c = μ_15 c) ∧ mset ν1 48 2 (nI (CR v Q 9 (chs 127 (v 0 3)))) = ν2 := ⟨_, ⟨(mset_nj (by omega)).trans w1, mset_eq, Nat.lt_of_le_of_lt (CR_lt hvb h127) (by decide)⟩, fun c hc => (mset_ne hc).trans (x1 c hc), rfl⟩
  rw [show mset ν1 48 2 (nI (csum v (stF v Q 9 (chs 127 (v 0 3)) (chs 127 (v 0 3)).length) (v 0 3))) = ν2 from hν2]
  clear hν2
  have o41 : OR ν2 (chs 127 (v 0 3)) := o15.moved (congrFun (x2 35 (by omega)) 2) (x2 36 (by omega))
  refine g_aload_n (pc := 41) dX3_bestOrder_41 rfl ?_
  refine a_getr (pc := 42) (q := 35) fl_X3_9 dX3_bestOrder_42 (by first | assumption | rfl) rfl rfl ?_
  refine a_cv0i (pc := 45) (c_X0_next ν2 _ o41 (h127.le hn7)) m_X0_next ml_X3_44 (by omega) (by first | assumption | rfl) rfl rfl (Nat.le_of_ble_eq_true rfl) dX3_bestOrder_45 (fun x_45 μ_45 h_45 => ?_)
  obtain ⟨x45, d45⟩ := h_45
  have y45 : ∀ c, c ≠ 48 → c ≠ 36 → μ_45 c = μ_15 c := fun c h1 h2 => (x45 c h2).trans (x2 c h1)
  refine a_ist2 (pc := 48) dX3_bestOrder_48 (by decide) rfl ?_
  refine g_iconst (pc := 49) (v := (nI 0)) dX3_bestOrder_49 (by decide) ?_
  refine a_ist3 (pc := 50) dX3_bestOrder_50 (by decide) rfl ?_
  have lp51 : ∀ (zz : Nat) (c : Nat) (hcn : c ≤ 5040) (lp : List Nat) (hlp : lp.length = v 0 3) (hlo : LO lp (v 0 3)) (S : Int32 × Nat) (x : Int32) (ν : Mem) (hν : CW ν sb v Q ∧ SRW ν S ∧ SF μ ν ∧ IW ν sb v Q ∧ ∀ j, j ≤ lp.length → RS ν v Q 9 lp j) (hx : (nxtL lp = none ∧ x = -1 ∧ OR ν lp) ∨ ∃ i l9, nxtL lp = some (i, l9) ∧ x = nI i ∧ OR ν l9) (hbs : bsS v Q 5040 (chs 127 (v 0 3)) (nI (dg (chs 127 (v 0 3))), CR v Q 9 (chs 127 (v 0 3))) = bsS v Q (5040 - c) lp S) (l4 : Option Value), 5040 - c = zz → WG eV yX3_bestOrder.cls cX3_bestOrder 5 none false (fun _ _ => True) 5 (mpost (fun _ μ1 => SRW μ1 (bsS v Q 5040 (chs 127 (v 0 3)) (nI (dg (chs 127 (v 0 3))), CR v Q 9 (chs 127 (v 0 3)))) ∧ SF μ μ1)) 0 0 51 [some (.ref 48), some (.ref sb), some (.int x), some (.int (nI c)), l4] [] (mk ν) := by
    intro zz
    induction zz using Nat.strongRecOn with
    | ind zz ih =>
      intro c hcn lp hlp hlo S x ν hν hx hbs l4 hzz
      obtain ⟨d1, s1, f1, i1, r1⟩ := hν
      refine g_iload_n (pc := 51) dX3_bestOrder_51 rfl ?_
      refine g_sipush (pc := 52) (v := (nI 5040)) dX3_bestOrder_52 (by decide) ?_
      refine g_icmp_ge (pc := 55) (tgt := 121) dX3_bestOrder_55 (by decide) (fun c_55 => ?_) (fun c_55 => ?_)
      · have c55 := nI_le' (by omega) (by omega) c_55
        have hfin : bsS v Q (5040 - c) lp S = S := by
          rw [show 5040 - c = 0 by omega]
          rfl
        refine g_return (pc := 121) (x := ()) dX3_bestOrder_121 rfl rfl ⟨_, rfl, ?_⟩
        rw [hbs, hfin]
        exact ⟨s1, f1⟩
      · have c55 := nI_gt' (by omega) (by omega) c_55
        obtain ⟨m9, hm9⟩ : ∃ m9, 5040 - c = m9 + 1 := ⟨5040 - c - 1, by omega⟩
        have hm8 : m9 = 5040 - (c + 1) := by omega
        refine g_iload_n (pc := 58) dX3_bestOrder_58 rfl ?_
        refine g_iconst (pc := 59) (v := (-1)) dX3_bestOrder_59 (by decide) ?_
        refine g_icmp_eq (pc := 60) (tgt := 121) dX3_bestOrder_60 (by decide) (fun c_60 => ?_) (fun c_60 => ?_)
        · have hnone : nxtL lp = none := by
            rcases hx with ⟨h, -, -⟩ | ⟨i, l9, h, hxi, -⟩
            · exact h
            · have := (nxt_facts (n := 7) h).1
              rw [hxi] at c_60
              exact absurd c_60 (nI_m1 (by omega))
          have hfin : bsS v Q (5040 - c) lp S = S := by
            rw [hm9, bsS, hnone]
          refine g_return (pc := 121) (x := ()) dX3_bestOrder_121 rfl rfl ⟨_, rfl, ?_⟩
          rw [hbs, hfin]
          exact ⟨s1, f1⟩
        · obtain ⟨i, l9, hnx, rfl, ho9⟩ : ∃ i l9, nxtL lp = some (i, l9) ∧ x = nI i ∧ OR ν l9 := by
            rcases hx with ⟨-, h, -⟩ | h
            · exact absurd h c_60
            · exact h
          obtain ⟨hf1, hf2, hf3, hf4⟩ := nxt_facts (n := v 0 3) hnx
          have hl9 := hf4 hlo
          have hspr : SPR ν 9 := Or.inl ⟨f1.2.2.trans hsp, rfl⟩
          refine g_aload_n (pc := 63) dX3_bestOrder_63 rfl ?_
          refine a_getr (pc := 64) (q := 35) fl_X3_9 dX3_bestOrder_64 (by first | assumption | rfl) rfl rfl ?_
          refine g_iload_n (pc := 67) dX3_bestOrder_67 rfl ?_
          refine a_cv1v (pc := 68) (c_X0_runFrom sb v Q ν i1 9 hspr l9 ho9 hl9 i (by omega) (fun j hj => (r1 j (by omega)).congr (fun a ha => hf3 a (by omega)) rfl rfl)) m_X0_runFrom ml_X3_47 (by omega) (by first | assumption | rfl) rfl rfl (Nat.le_of_ble_eq_true rfl) dX3_bestOrder_68 (fun x_68 μ_68 h_68 => ?_)
          obtain ⟨c68, o68, f68, w68, p68, r68⟩ := CW.ran d1 ho9 hl9 h_68
          have hcr := CR_lt (Q := Q) (sp := 9) hvb hl9
          refine g_aload_n (pc := 71) dX3_bestOrder_71 rfl ?_
          refine a_getr (pc := 72) (q := 35) fl_X3_9 dX3_bestOrder_72 (by first | assumption | rfl) rfl rfl ?_
          refine g_aload_n (pc := 75) dX3_bestOrder_75 rfl ?_
          refine a_cv1i (pc := 76) (c_X0_creased sb hsb v μ_68 c68.2.1 _ o68 _ r68) m_X0_creased ml_X3_40 (by omega) (by first | assumption | rfl) rfl rfl (Nat.le_of_ble_eq_true rfl) dX3_bestOrder_76 (fun x_76 μ_76 h_76 => ?_)
          obtain ⟨rfl, hm_76⟩ := h_76
          have hm_76 := hm_76.symm
          subst hm_76
          refine a_ist4 (pc := 79) dX3_bestOrder_79 (by decide) rfl ?_
          refine g_iload (pc := 81) dX3_bestOrder_81 rfl ?_
          refine g_aload_n (pc := 83) dX3_bestOrder_83 rfl ?_
          refine v_geti (pc := 84) fl_X3_23 dX3_bestOrder_84 (by first | assumption | rfl) rfl ((congrFun w68 2).trans s1.2.1) ?_
          have hs22 := s1.2.2
          refine g_icmp_ge (pc := 87) (tgt := 107) dX3_bestOrder_87 (by decide) (fun c_87 => ?_) (fun c_87 => ?_)
          · have c87 : S.2 ≤ CR v Q 9 l9 := nI_le' (by omega) (by omega) c_87
            have hrec : bsS v Q (5040 - c) lp S = bsS v Q (5040 - (c + 1)) l9 S := by
              rw [hm9, bsS, hnx]
              show bsS v Q m9 l9 (if CR v Q 9 l9 < S.2 then (nI (dg l9), CR v Q 9 l9) else S) = _
              rw [if_neg (by omega), hm8]
            have s9 := s1.moved w68
            have e9 := c68
            have o9 := o68
            have g9 : SF μ_68 μ_68 := SF.refl _
            have y9 : ∀ k, k ≠ 48 → μ_68 k = μ_68 k := fun _ _ => rfl
            refine g_aload_n (pc := 107) dX3_bestOrder_107 rfl ?_
            refine a_getr (pc := 108) (q := 35) fl_X3_9 dX3_bestOrder_108 (by first | assumption | rfl) rfl rfl ?_
            refine a_cv0i (pc := 111) (c_X0_next _ l9 o9 (hl9.le hn7)) m_X0_next ml_X3_44 (by omega) (by first | assumption | rfl) rfl rfl (Nat.le_of_ble_eq_true rfl) dX3_bestOrder_111 (fun x_111 μ_111 h_111 => ?_)
            obtain ⟨x111, d111⟩ := h_111
            refine a_ist2 (pc := 114) dX3_bestOrder_114 (by decide) rfl ?_
            refine a_iinc3 (pc := 115) dX3_bestOrder_115 (inc1 c) (by decide) rfl ?_
            refine g_goto (pc := 118) (tgt := 51) dX3_bestOrder_118 (by decide) ?_
            refine ih (5040 - (c + 1)) (by omega) (c + 1) (by omega) l9 (hf2.trans hlp) hl9 _ _ _ ⟨?_, s9.moved (x111 48 (by omega)), ?_, ?_, fun j hj => ?_⟩ d111 (hbs.trans hrec) _ rfl
            · exact e9.moved (fun k hk => x111 k (by omega)) (congrFun (x111 46 (by omega)) 0)
            · exact (f1.trans (h_68.2.2.sf.trans g9)).trans ⟨fun c hc => x111 c (by omega), congrFun (x111 46 (by omega)) 0, congrFun (x111 35 (by omega)) 3⟩
            · exact h_68.1.moved (fun k hk => (x111 k (by omega)).trans (y9 k (by omega))) ((congrFun (x111 31 (by omega)) 2).trans (congrFun (y9 31 (by omega)) 2)) ((congrFun (x111 35 (by omega)) 7).trans (congrFun (y9 35 (by omega)) 7))
            · exact (h_68.2.1 j hj).congr (fun _ _ => rfl) ((x111 _ (by omega)).trans (y9 _ (by omega))) ((x111 46 (by omega)).trans (y9 46 (by omega)))
          · have c87 : CR v Q 9 l9 < S.2 := nI_gt' (by omega) (by omega) c_87
            have hrec : bsS v Q (5040 - c) lp S = bsS v Q (5040 - (c + 1)) l9 (nI (dg l9), CR v Q 9 l9) := by
              rw [hm9, bsS, hnx]
              show bsS v Q m9 l9 (if CR v Q 9 l9 < S.2 then (nI (dg l9), CR v Q 9 l9) else S) = _
              rw [if_pos c87, hm8]
            refine g_aload_n (pc := 90) dX3_bestOrder_90 rfl ?_
            refine g_aload_n (pc := 91) dX3_bestOrder_91 rfl ?_
            refine a_getr (pc := 92) (q := 35) fl_X3_9 dX3_bestOrder_92 (by first | assumption | rfl) rfl rfl ?_
            refine a_cv0i (pc := 95) (c_X0_digits μ_68 _ o68) m_X0_digits ml_X3_36 (by omega) (by first | assumption | rfl) rfl rfl (Nat.le_of_ble_eq_true rfl) dX3_bestOrder_95 (fun x_95 μ_95 h_95 => ?_)
            obtain ⟨rfl, hm_95⟩ := h_95
            have hm_95 := hm_95.symm
            subst hm_95
            refine a_puti (pc := 98) fw_X3_19 dX3_bestOrder_98 (by first | assumption | rfl) rfl ?_
            refine g_aload_n (pc := 101) dX3_bestOrder_101 rfl ?_
            refine g_iload (pc := 102) dX3_bestOrder_102 rfl ?_
            have s9 : SRW (mset (mset μ_68 48 3 (nI (dg l9))) 48 2 (nI (CR v Q 9 l9))) (nI (dg l9), CR v Q 9 l9) := ⟨(mset_nj (by omega)).trans mset_eq, mset_eq, Nat.lt_of_le_of_lt hcr (by decide)⟩
            have y9 : ∀ k, k ≠ 48 → mset (mset μ_68 48 3 (nI (dg l9))) 48 2 (nI (CR v Q 9 l9)) k = μ_68 k := fun k hk => (mset_ne hk).trans (mset_ne hk)
            have e9 : CW (mset (mset μ_68 48 3 (nI (dg l9))) 48 2 (nI (CR v Q 9 l9))) sb v Q := c68.moved (fun k hk => y9 k (by omega)) (congrFun (y9 46 (by omega)) 0)
            have o9 : OR (mset (mset μ_68 48 3 (nI (dg l9))) 48 2 (nI (CR v Q 9 l9))) l9 := o68.moved (congrFun (y9 35 (by omega)) 2) (y9 36 (by omega))
            have g9 : SF μ_68 (mset (mset μ_68 48 3 (nI (dg l9))) 48 2 (nI (CR v Q 9 l9))) := ⟨fun c hc => y9 c (by omega), congrFun (y9 46 (by omega)) 0, congrFun (y9 35 (by omega)) 3⟩
            refine a_puti (pc := 104) fw_X3_23 dX3_bestOrder_104 (by first | assumption | rfl) rfl ?_
            refine g_aload_n (pc := 107) dX3_bestOrder_107 rfl ?_
            refine a_getr (pc := 108) (q := 35) fl_X3_9 dX3_bestOrder_108 (by first | assumption | rfl) rfl rfl ?_
            refine a_cv0i (pc := 111) (c_X0_next _ l9 o9 (hl9.le hn7)) m_X0_next ml_X3_44 (by omega) (by first | assumption | rfl) rfl rfl (Nat.le_of_ble_eq_true rfl) dX3_bestOrder_111 (fun x_111 μ_111 h_111 => ?_)
            obtain ⟨x111, d111⟩ := h_111
            refine a_ist2 (pc := 114) dX3_bestOrder_114 (by decide) rfl ?_
            refine a_iinc3 (pc := 115) dX3_bestOrder_115 (inc1 c) (by decide) rfl ?_
            refine g_goto (pc := 118) (tgt := 51) dX3_bestOrder_118 (by decide) ?_
            refine ih (5040 - (c + 1)) (by omega) (c + 1) (by omega) l9 (hf2.trans hlp) hl9 _ _ _ ⟨?_, s9.moved (x111 48 (by omega)), ?_, ?_, fun j hj => ?_⟩ d111 (hbs.trans hrec) _ rfl
            · exact e9.moved (fun k hk => x111 k (by omega)) (congrFun (x111 46 (by omega)) 0)
            · exact (f1.trans (h_68.2.2.sf.trans g9)).trans ⟨fun c hc => x111 c (by omega), congrFun (x111 46 (by omega)) 0, congrFun (x111 35 (by omega)) 3⟩
            · exact h_68.1.moved (fun k hk => (x111 k (by omega)).trans (y9 k (by omega))) ((congrFun (x111 31 (by omega)) 2).trans (congrFun (y9 31 (by omega)) 2)) ((congrFun (x111 35 (by omega)) 7).trans (congrFun (y9 35 (by omega)) 7))
            · exact (h_68.2.1 j hj).congr (fun _ _ => rfl) ((x111 _ (by omega)).trans (y9 _ (by omega))) ((x111 46 (by omega)).trans (y9 46 (by omega)))
  refine lp51 _ 0 (Nat.zero_le _) (chs 127 (v 0 3)) hln h127 _ _ _ ⟨c15.moved (fun k hk => y45 k (by omega) (by omega)) (congrFun (y45 46 (by omega) (by omega)) 0), s2.moved (x45 48 (by omega)), (f7.trans f15).trans ⟨fun c hc => y45 c (by omega) (by omega), congrFun (y45 46 (by omega) (by omega)) 0, congrFun (y45 35 (by omega) (by omega)) 3⟩, h_15.1.moved (fun k hk => y45 k (by omega) (by omega)) (congrFun (y45 31 (by omega) (by omega)) 2) (congrFun (y45 35 (by omega) (by omega)) 7), fun j hj => (h_15.2.1 j hj).congr (fun _ _ => rfl) (y45 _ (by omega) (by omega)) (y45 46 (by omega) (by omega))⟩ d45 rfl none rfl
