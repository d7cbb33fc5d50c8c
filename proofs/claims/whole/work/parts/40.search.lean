/-! ===== the search ===== -/
/-- a shirt that can be ironed -/
def CW (μ : Mem) (sb : Nat) (v : View) (Q : Nat → List Nat) : Prop := SB sb ∧ SV μ sb v ∧ (∀ e, e < 3 → CodeOK μ (v 0 2) e (Q e) ∧ Pure1 (Q e)) ∧ μ 46 0 = nI 0
theorem CW.moved {μ μ1 : Mem} {sb : Nat} {v : View} {Q : Nat → List Nat} (h : CW μ sb v Q) (h1 : ∀ k, k < 31 → μ1 k = μ k) (h2 : μ1 46 0 = μ 46 0) : CW μ1 sb v Q := by
  obtain ⟨q0, q1, q2, q3⟩ := h
  have hb : sb < 12 := q0.f.2.2.2.2.2.2.2.2.2
  have hr := q1.2.2.1.2
  exact ⟨q0, q1.moved (fun k _ _ => h1 k (by omega)), fun e he => ⟨(q2 e he).1.moved (h1 _ (by omega)) (h1 _ (by omega)), (q2 e he).2⟩, h2.trans q3⟩
/-- what a search leaves as it is -/
def SF (μ μ1 : Mem) : Prop := (∀ c, c < 31 ∨ c = 33 ∨ c = 34 ∨ 48 < c → μ1 c = μ c) ∧ μ1 46 0 = μ 46 0 ∧ μ1 35 3 = μ 35 3
theorem SF.refl (μ : Mem) : SF μ μ := ⟨fun _ _ => rfl, rfl, rfl⟩
theorem SF.trans {μ μ1 μ2 : Mem} (h : SF μ μ1) (g : SF μ1 μ2) : SF μ μ2 := ⟨fun c hc => (g.1 c hc).trans (h.1 c hc), g.2.1.trans h.2.1, g.2.2.trans h.2.2⟩
theorem FR.sf {μ μ1 : Mem} (h : FR μ μ1) : SF μ μ1 := ⟨fun c hc => h.1 c (by omega) (by omega) (by omega) (by omega) (by omega), h.2.2, h.2.1 3 (by omega) (by omega) (by omega)⟩
theorem SPR.moved {μ μ1 : Mem} {sp : Nat} (h : SPR μ sp) (h1 : μ1 35 3 = μ 35 3) : SPR μ1 sp := by
  unfold SPR
  rw [h1]
  exact h
theorem chs_lo (b : Nat) : ∀ n, LO (chs b n) n
  | 0 => fun j x h => by simp [chs] at h
  | n + 1 => fun j x h => by
    rw [chs_succ] at h
    split at h
    · by_cases hj : j < (chs b n).length
      · rw [List.getElem?_append_left hj] at h
        have := chs_lo b n j x h
        omega
      · rw [List.getElem?_append_right (by omega)] at h
        cases hk : j - (chs b n).length with
        | zero =>
          rw [hk] at h
          cases h
          omega
        | succ k =>
          rw [hk] at h
          cases h
    · have := chs_lo b n j x h
      omega
theorem CW.cho {μ μ1 : Mem} {sb : Nat} {v : View} {Q : Nat → List Nat} {l : List Nat} (h : CW μ sb v Q) (g : OR μ1 l ∧ (∀ k, k ≠ 35 → k ≠ 36 → μ1 k = μ k) ∧ ∀ j, j ≠ 2 → μ1 35 j = μ 35 j) : CW μ1 sb v Q ∧ OR μ1 l ∧ SF μ μ1 ∧ μ1 48 = μ 48 ∧ μ1 35 3 = μ 35 3 := by
  obtain ⟨g1, g2, g3⟩ := g
  have h46 : μ1 46 0 = μ 46 0 := congrFun (g2 46 (by omega) (by omega)) 0
  exact ⟨h.moved (fun k hk => g2 k (by omega) (by omega)) h46, g1, ⟨fun c hc => g2 c (by omega) (by omega), h46, g3 3 (by omega)⟩, g2 48 (by omega) (by omega), g3 3 (by omega)⟩
theorem CW.ran {μ μ1 : Mem} {sb : Nat} {v : View} {Q : Nat → List Nat} {sp : Nat} {l : List Nat} (h : CW μ sb v Q) (ho : OR μ l) (hl : LO l (v 0 3)) (g : IW μ1 sb v Q ∧ (∀ j, j ≤ l.length → RS μ1 v Q sp l j) ∧ FR μ μ1) : CW μ1 sb v Q ∧ OR μ1 l ∧ SF μ μ1 ∧ μ1 48 = μ 48 ∧ μ1 35 3 = μ 35 3 ∧ ∀ p, p < v 0 3 → μ1 (38 + l.length) p = nI (stF v Q sp l l.length p) ∧ stF v Q sp l l.length p ≤ 99 := by
  obtain ⟨g1, g2, g3⟩ := g
  obtain ⟨b1, -⟩ := st_bounds (sp := sp) (Q := Q) h.2.1.vb hl l.length (Nat.le_refl _)
  refine ⟨h.moved (fun k hk => g3.1 k (by omega) (by omega) (by omega) (by omega) (by omega)) g3.2.2, ho.moved (g3.2.1 2 (by omega) (by omega) (by omega)) (g3.1 36 (by omega) (by omega) (by omega) (by omega) (by omega)), g3.sf, g3.1 48 (by omega) (by omega) (by omega) (by omega) (by omega), g3.2.1 3 (by omega) (by omega) (by omega), fun p hp => ⟨(g2 _ (Nat.le_refl _)).1 p hp, b1 p hp⟩⟩
/-- what an order comes to -/
def CR (v : View) (Q : Nat → List Nat) (sp : Nat) (l : List Nat) : Nat := csum v (stF v Q sp l l.length) (v 0 3)
/-- which, and the least so far -/
def SRW (μ : Mem) (S : Int32 × Nat) : Prop := μ 48 3 = S.1 ∧ μ 48 2 = nI S.2 ∧ S.2 < 2 ^ 31
def offS (S : Int32 × Nat) (what : Int32) (b : Nat) : Int32 × Nat := if b < S.2 then (what, b) else S
theorem SRW.moved {μ μ1 : Mem} {S : Int32 × Nat} (h : SRW μ S) (h1 : μ1 48 = μ 48) : SRW μ1 S := by
  unfold SRW
  rw [h1]
  exact h
theorem CR_lt {v : View} {Q : Nat → List Nat} {sp : Nat} {l : List Nat} (hv : VB v) (hl : LO l (v 0 3)) : CR v Q sp l ≤ 2079 := by
  obtain ⟨b1, -⟩ := st_bounds (sp := sp) (Q := Q) hv hl l.length (Nat.le_refl _)
  have := csum_le (v := v) (f := stF v Q sp l l.length) (v 0 3) b1
  have := hv.1
  unfold CR
  omega
theorem c_X3_begin (μ : Mem) (a : Nat) (ha : a < 2 ^ 31) : CA eV yX3_begin cX3_begin 2 none 0 [.ref 48, .int (nI a)] μ (fun _ μ1 => SRW μ1 (-1, a) ∧ ∀ c, c ≠ 48 → μ1 c = μ c) := by
  refine CT.of false (by decide) (by decide) (L := [some (.ref 48), some (.int (nI a))]) rfl (Nat.le_of_ble_eq_true rfl) ?_
  refine g_aload_n (pc := 0) dX3_begin_0 rfl ?_
  refine g_iconst (pc := 1) (v := (-1)) dX3_begin_1 (by decide) ?_
  refine a_puti (pc := 2) fw_X3_19 dX3_begin_2 (by first | rfl | assumption) rfl ?_
  refine g_aload_n (pc := 5) dX3_begin_5 rfl ?_
  refine g_iload_n (pc := 6) dX3_begin_6 rfl ?_
  refine a_puti (pc := 7) fw_X3_23 dX3_begin_7 (by first | rfl | assumption) rfl ?_
  refine g_return (pc := 10) (x := ()) dX3_begin_10 rfl rfl ⟨_, rfl, ?_⟩
  exact ⟨⟨(mset_nj (by omega)).trans mset_eq, mset_eq, ha⟩, fun c hc => by rw [mset_ne hc, mset_ne hc]⟩
theorem c_X3_offer (μ : Mem) (S : Int32 × Nat) (hS : SRW μ S) (what : Int32) (b : Nat) (hb : b < 2 ^ 31) : CA eV yX3_offer cX3_offer 3 none 0 [.ref 48, .int what, .int (nI b)] μ (fun _ μ1 => SRW μ1 (offS S what b) ∧ ∀ c, c ≠ 48 → μ1 c = μ c) := by
  have hS2 := hS.2.2
  refine CT.of false (by decide) (by decide) (L := [some (.ref 48), some (.int what), some (.int (nI b))]) rfl (Nat.le_of_ble_eq_true rfl) ?_
  refine g_iload_n (pc := 0) dX3_offer_0 rfl ?_
  refine g_aload_n (pc := 1) dX3_offer_1 rfl ?_
  refine v_geti (pc := 2) fl_X3_23 dX3_offer_2 (by first | rfl | assumption) rfl hS.2.1 ?_
  refine g_icmp_ge (pc := 5) (tgt := 18) dX3_offer_5 (by decide) (fun c_5 => ?_) (fun c_5 => ?_)
  · have c5 := nI_le' hS2 hb c_5
    refine g_return (pc := 18) (x := ()) dX3_offer_18 rfl rfl ⟨_, rfl, ?_⟩
    unfold offS
    first | (rw [if_pos c5]; exact ⟨⟨(mset_nj (by omega)).trans mset_eq, mset_eq, hb⟩, fun c hc => by rw [mset_ne hc, mset_ne hc]⟩) | (rw [if_neg (by omega)]; exact ⟨hS, fun _ _ => rfl⟩)
  · have c5 := nI_gt' hS2 hb c_5
    refine g_aload_n (pc := 8) dX3_offer_8 rfl ?_
    refine g_iload_n (pc := 9) dX3_offer_9 rfl ?_
    refine a_puti (pc := 10) fw_X3_19 dX3_offer_10 (by first | rfl | assumption) rfl ?_
    refine g_aload_n (pc := 13) dX3_offer_13 rfl ?_
    refine g_iload_n (pc := 14) dX3_offer_14 rfl ?_
    refine a_puti (pc := 15) fw_X3_23 dX3_offer_15 (by first | rfl | assumption) rfl ?_
    refine g_return (pc := 18) (x := ()) dX3_offer_18 rfl rfl ⟨_, rfl, ?_⟩
    unfold offS
    first | (rw [if_pos c5]; exact ⟨⟨(mset_nj (by omega)).trans mset_eq, mset_eq, hb⟩, fun c hc => by rw [mset_ne hc, mset_ne hc]⟩) | (rw [if_neg (by omega)]; exact ⟨hS, fun _ _ => rfl⟩)
theorem wo_lem : ∀ i, i < 7 → nI 127 &&& ((nI 1 <<< (nI i &&& 31)) ^^^ (-1)) = nI (127 - 2 ^ i) := by decide +kernel
def woS (v : View) (Q : Nat → List Nat) : Nat → Int32 × Nat
  | 0 => (-1, CR v Q 9 (chs 127 (v 0 3)))
  | i + 1 => offS (woS v Q i) (nI i) (CR v Q 9 (chs (127 - 2 ^ i) (v 0 3)))
def spS (v : View) (Q : Nat → List Nat) : Nat → Int32 × Nat
  | 0 => (-1, CR v Q 9 (chs 127 (v 0 3)))
  | i + 1 => offS (spS v Q i) (nI i) (CR v Q i (chs 127 (v 0 3)))
theorem c_X3_without (sb : Nat) (v : View) (Q : Nat → List Nat) (μ : Mem) (hc : CW μ sb v Q) (hsp : μ 35 3 = -1) : CA eV yX3_without cX3_without 3 none 5 [.ref 48, .ref sb] μ (fun _ μ1 => SRW μ1 (woS v Q (v 0 3)) ∧ SF μ μ1) := by
  obtain ⟨hsb, hv, hQ, h46⟩ := id hc
  obtain ⟨hs0, hs1, hs2, hs3, hs4, hr4, hr5, hr6, hr7, hs9⟩ := hsb.f
  have hvb := hv.vb
  have hn7 := hvb.1
  have h127 := chs_lo 127 (v 0 3)
  refine CT.of false (by decide) (by decide) (L := [some (.ref 48), some (.ref sb), none]) rfl (Nat.le_of_ble_eq_true rfl) ?_
  refine g_aload_n (pc := 0) dX3_without_0 rfl ?_
  refine a_getr (pc := 1) (q := 35) fl_X3_9 dX3_without_1 (by first | assumption | rfl) rfl rfl ?_
  refine g_aload_n (pc := 4) dX3_without_4 rfl ?_
  refine g_bipush (pc := 5) (v := (nI 127)) dX3_without_5 (by decide) ?_
  refine a_cv2v (pc := 7) (c_X0_choose sb hsb v μ hc.2.1 127 (by decide)) m_X0_choose ml_X3_26 (by omega) (by first | assumption | rfl) rfl rfl (Nat.le_of_ble_eq_true rfl) dX3_without_7 (fun x_7 μ_7 h_7 => ?_)
  obtain ⟨c7, o7, f7, w7, p7⟩ := hc.cho h_7
  refine g_aload_n (pc := 10) dX3_without_10 rfl ?_
  refine a_getr (pc := 11) (q := 35) fl_X3_9 dX3_without_11 (by first | assumption | rfl) rfl rfl ?_
  refine g_aload_n (pc := 14) dX3_without_14 rfl ?_
  refine a_cv1v (pc := 15) (c_X0_run sb hsb v Q μ_7 c7.2.1 c7.2.2.1 9 (Or.inl ⟨p7.trans hsp, rfl⟩) _ o7 h127 c7.2.2.2) m_X0_run ml_X3_32 (by omega) (by first | assumption | rfl) rfl rfl (Nat.le_of_ble_eq_true rfl) dX3_without_15 (fun x_15 μ_15 h_15 => ?_)
  obtain ⟨c15, o15, f15, w15, p15, r15⟩ := CW.ran c7 o7 h127 h_15
  refine g_aload_n (pc := 18) dX3_without_18 rfl ?_
  refine g_aload_n (pc := 19) dX3_without_19 rfl ?_
  refine a_getr (pc := 20) (q := 35) fl_X3_9 dX3_without_20 (by first | assumption | rfl) rfl rfl ?_
  refine g_aload_n (pc := 23) dX3_without_23 rfl ?_
  refine a_cv1i (pc := 24) (c_X0_creased sb hsb v μ_15 c15.2.1 _ o15 _ r15) m_X0_creased ml_X3_40 (by omega) (by first | assumption | rfl) rfl rfl (Nat.le_of_ble_eq_true rfl) dX3_without_24 (fun x_24 μ_24 h_24 => ?_)
  obtain ⟨rfl, hm_24⟩ := h_24
  have hm_24 := hm_24.symm
  subst hm_24
  refine a_cv1v (pc := 27) (c_X3_begin μ_15 _ (show CR v Q 9 (chs 127 (v 0 3)) < 2 ^ 31 from Nat.lt_of_le_of_lt (CR_lt hvb h127) (by decide))) m_X3_begin ml_X3_51 (by omega) (by first | assumption | rfl) rfl rfl (Nat.le_of_ble_eq_true rfl) dX3_without_27 (fun x_27 μ_27 h_27 => ?_)
  obtain ⟨s0, x0⟩ := h_27
  have c0 : CW μ_27 sb v Q := c15.moved (fun k hk => x0 k (by omega)) (congrFun (x0 46 (by omega)) 0)
  have f0 : SF μ μ_27 := (f7.trans f15).trans ⟨fun c hc => x0 c (by omega), congrFun (x0 46 (by omega)) 0, congrFun (x0 35 (by omega)) 3⟩
  have o0 : OR μ_27 (chs 127 (v 0 3)) := o15.moved (congrFun (x0 35 (by omega)) 2) (x0 36 (by omega))
  refine g_iconst (pc := 30) (v := (nI 0)) dX3_without_30 (by decide) ?_
  refine a_ist2 (pc := 31) dX3_without_31 (by decide) rfl ?_
  have lp32 : ∀ (zz : Nat) (i : Nat) (hi : i ≤ v 0 3) (ν : Mem) (hν : CW ν sb v Q ∧ SRW ν (woS v Q i) ∧ SF μ ν), v 0 3 - i = zz → WG eV yX3_without.cls cX3_without 3 none false (fun _ _ => True) 5 (mpost (fun _ μ1 => SRW μ1 (woS v Q (v 0 3)) ∧ SF μ μ1)) 0 0 32 [some (.ref 48), some (.ref sb), some (.int (nI i))] [] (mk ν) := by
    intro zz
    induction zz using Nat.strongRecOn with
    | ind zz ih =>
      intro i hi ν hν hzz
      obtain ⟨d1, s1, f1⟩ := hν
      have hsp1 : ν 35 3 = -1 := f1.2.2.trans hsp
      refine g_iload_n (pc := 32) dX3_without_32 rfl ?_
      refine g_aload_n (pc := 33) dX3_without_33 rfl ?_
      refine v_geti (pc := 34) fl_X3_54 dX3_without_34 (by first | assumption | rfl) rfl d1.2.1.2.2.2.1.1 ?_
      refine g_icmp_ge (pc := 37) (tgt := 83) dX3_without_37 (by decide) (fun c_37 => ?_) (fun c_37 => ?_)
      · have c37 := nI_le' (by omega) (by omega) c_37
        obtain rfl : i = v 0 3 := by omega
        refine g_return (pc := 83) (x := ()) dX3_without_83 rfl rfl ⟨_, rfl, ?_⟩
        exact ⟨s1, f1⟩
      · have c37 := nI_gt' (by omega) (by omega) c_37
        refine g_aload_n (pc := 40) dX3_without_40 rfl ?_
        refine a_getr (pc := 41) (q := 35) fl_X3_9 dX3_without_41 (by first | assumption | rfl) rfl rfl ?_
        refine g_aload_n (pc := 44) dX3_without_44 rfl ?_
        refine g_bipush (pc := 45) (v := (nI 127)) dX3_without_45 (by decide) ?_
        refine g_iconst (pc := 47) (v := (nI 1)) dX3_without_47 (by decide) ?_
        refine g_iload_n (pc := 48) dX3_without_48 rfl ?_
        refine v_ishl (pc := 49) dX3_without_49 rfl ?_
        refine g_iconst (pc := 50) (v := (-1)) dX3_without_50 (by decide) ?_
        refine v_ixor (pc := 51) dX3_without_51 rfl ?_
        refine v_iand (pc := 52) dX3_without_52 (wo_lem i (by omega)) ?_
        refine a_cv2v (pc := 53) (c_X0_choose sb hsb v ν d1.2.1 (127 - 2 ^ i) (by have := Nat.two_pow_pos i; omega)) m_X0_choose ml_X3_26 (by omega) (by first | assumption | rfl) rfl rfl (Nat.le_of_ble_eq_true rfl) dX3_without_53 (fun x_53 μ_53 h_53 => ?_)
        obtain ⟨c53, o53, f53, w53, p53⟩ := d1.cho h_53
        refine g_aload_n (pc := 56) dX3_without_56 rfl ?_
        refine a_getr (pc := 57) (q := 35) fl_X3_9 dX3_without_57 (by first | assumption | rfl) rfl rfl ?_
        refine g_aload_n (pc := 60) dX3_without_60 rfl ?_
        refine a_cv1v (pc := 61) (c_X0_run sb hsb v Q μ_53 c53.2.1 c53.2.2.1 9 (Or.inl ⟨p53.trans hsp1, rfl⟩) _ o53 (chs_lo _ _) c53.2.2.2) m_X0_run ml_X3_32 (by omega) (by first | assumption | rfl) rfl rfl (Nat.le_of_ble_eq_true rfl) dX3_without_61 (fun x_61 μ_61 h_61 => ?_)
        obtain ⟨c61, o61, f61, w61, p61, r61⟩ := CW.ran c53 o53 (chs_lo _ _) h_61
        refine g_aload_n (pc := 64) dX3_without_64 rfl ?_
        refine g_iload_n (pc := 65) dX3_without_65 rfl ?_
        refine g_aload_n (pc := 66) dX3_without_66 rfl ?_
        refine a_getr (pc := 67) (q := 35) fl_X3_9 dX3_without_67 (by first | assumption | rfl) rfl rfl ?_
        refine g_aload_n (pc := 70) dX3_without_70 rfl ?_
        refine a_cv1i (pc := 71) (c_X0_creased sb hsb v μ_61 c61.2.1 _ o61 _ r61) m_X0_creased ml_X3_40 (by omega) (by first | assumption | rfl) rfl rfl (Nat.le_of_ble_eq_true rfl) dX3_without_71 (fun x_71 μ_71 h_71 => ?_)
        obtain ⟨rfl, hm_71⟩ := h_71
        have hm_71 := hm_71.symm
        subst hm_71
        refine a_cv2v (pc := 74) (c_X3_offer μ_61 _ (s1.moved (w61.trans w53)) (nI i) _ (show CR v Q 9 (chs (127 - 2 ^ i) (v 0 3)) < 2 ^ 31 from Nat.lt_of_le_of_lt (CR_lt hvb (chs_lo _ _)) (by decide))) m_X3_offer ml_X3_63 (by omega) (by first | assumption | rfl) rfl rfl (Nat.le_of_ble_eq_true rfl) dX3_without_74 (fun x_74 μ_74 h_74 => ?_)
        obtain ⟨s9, x9⟩ := h_74
        refine a_iinc2 (pc := 77) dX3_without_77 (inc1 i) (by decide) rfl ?_
        refine g_goto (pc := 80) (tgt := 32) dX3_without_80 (by decide) ?_
        exact ih (v 0 3 - (i + 1)) (by omega) (i + 1) (by omega) _ ⟨c61.moved (fun k hk => x9 k (by omega)) (congrFun (x9 46 (by omega)) 0), s9, ((f1.trans f53).trans f61).trans ⟨fun c hc => x9 c (by omega), congrFun (x9 46 (by omega)) 0, congrFun (x9 35 (by omega)) 3⟩⟩ rfl
  exact lp32 _ 0 (Nat.zero_le _) _ ⟨c0, s0, f0⟩ rfl
theorem c_X3_sprayed (sb : Nat) (v : View) (Q : Nat → List Nat) (μ : Mem) (hc : CW μ sb v Q) (hsp : μ 35 3 = -1) : CA eV yX3_sprayed cX3_sprayed 3 none 5 [.ref 48, .ref sb] μ (fun _ μ1 => SRW μ1 (spS v Q (v 0 3)) ∧ SF μ μ1) := by
  obtain ⟨hsb, hv, hQ, h46⟩ := id hc
  obtain ⟨hs0, hs1, hs2, hs3, hs4, hr4, hr5, hr6, hr7, hs9⟩ := hsb.f
  have hvb := hv.vb
  have hn7 := hvb.1
  have h127 := chs_lo 127 (v 0 3)
  refine CT.of false (by decide) (by decide) (L := [some (.ref 48), some (.ref sb), none]) rfl (Nat.le_of_ble_eq_true rfl) ?_
  refine g_aload_n (pc := 0) dX3_sprayed_0 rfl ?_
  refine a_getr (pc := 1) (q := 35) fl_X3_9 dX3_sprayed_1 (by first | assumption | rfl) rfl rfl ?_
  refine g_aload_n (pc := 4) dX3_sprayed_4 rfl ?_
  refine g_bipush (pc := 5) (v := (nI 127)) dX3_sprayed_5 (by decide) ?_
  refine a_cv2v (pc := 7) (c_X0_choose sb hsb v μ hc.2.1 127 (by decide)) m_X0_choose ml_X3_26 (by omega) (by first | assumption | rfl) rfl rfl (Nat.le_of_ble_eq_true rfl) dX3_sprayed_7 (fun x_7 μ_7 h_7 => ?_)
  obtain ⟨c7, o7, f7, w7, p7⟩ := hc.cho h_7
  refine g_aload_n (pc := 10) dX3_sprayed_10 rfl ?_
  refine a_getr (pc := 11) (q := 35) fl_X3_9 dX3_sprayed_11 (by first | assumption | rfl) rfl rfl ?_
  refine g_aload_n (pc := 14) dX3_sprayed_14 rfl ?_
  refine a_cv1v (pc := 15) (c_X0_run sb hsb v Q μ_7 c7.2.1 c7.2.2.1 9 (Or.inl ⟨p7.trans hsp, rfl⟩) _ o7 h127 c7.2.2.2) m_X0_run ml_X3_32 (by omega) (by first | assumption | rfl) rfl rfl (Nat.le_of_ble_eq_true rfl) dX3_sprayed_15 (fun x_15 μ_15 h_15 => ?_)
  obtain ⟨c15, o15, f15, w15, p15, r15⟩ := CW.ran c7 o7 h127 h_15
  refine g_aload_n (pc := 18) dX3_sprayed_18 rfl ?_
  refine g_aload_n (pc := 19) dX3_sprayed_19 rfl ?_
  refine a_getr (pc := 20) (q := 35) fl_X3_9 dX3_sprayed_20 (by first | assumption | rfl) rfl rfl ?_
  refine g_aload_n (pc := 23) dX3_sprayed_23 rfl ?_
  refine a_cv1i (pc := 24) (c_X0_creased sb hsb v μ_15 c15.2.1 _ o15 _ r15) m_X0_creased ml_X3_40 (by omega) (by first | assumption | rfl) rfl rfl (Nat.le_of_ble_eq_true rfl) dX3_sprayed_24 (fun x_24 μ_24 h_24 => ?_)
  obtain ⟨rfl, hm_24⟩ := h_24
  have hm_24 := hm_24.symm
  subst hm_24
  refine a_cv1v (pc := 27) (c_X3_begin μ_15 _ (show CR v Q 9 (chs 127 (v 0 3)) < 2 ^ 31 from Nat.lt_of_le_of_lt (CR_lt hvb h127) (by decide))) m_X3_begin ml_X3_51 (by omega) (by first | assumption | rfl) rfl rfl (Nat.le_of_ble_eq_true rfl) dX3_sprayed_27 (fun x_27 μ_27 h_27 => ?_)
  obtain ⟨s0, x0⟩ := h_27
  have c0 : CW μ_27 sb v Q := c15.moved (fun k hk => x0 k (by omega)) (congrFun (x0 46 (by omega)) 0)
  have f0 : SF μ μ_27 := (f7.trans f15).trans ⟨fun c hc => x0 c (by omega), congrFun (x0 46 (by omega)) 0, congrFun (x0 35 (by omega)) 3⟩
  have o0 : OR μ_27 (chs 127 (v 0 3)) := o15.moved (congrFun (x0 35 (by omega)) 2) (x0 36 (by omega))
  refine g_iconst (pc := 30) (v := (nI 0)) dX3_sprayed_30 (by decide) ?_
  refine a_ist2 (pc := 31) dX3_sprayed_31 (by decide) rfl ?_
  have lp32 : ∀ (zz : Nat) (i : Nat) (hi : i ≤ v 0 3) (ν : Mem) (hν : CW ν sb v Q ∧ SRW ν (spS v Q i) ∧ (∀ c, c < 31 ∨ c = 33 ∨ c = 34 ∨ 48 < c → ν c = μ c) ∧ ν 46 0 = μ 46 0 ∧ OR ν (chs 127 (v 0 3))), v 0 3 - i = zz → WG eV yX3_sprayed.cls cX3_sprayed 3 none false (fun _ _ => True) 5 (mpost (fun _ μ1 => SRW μ1 (spS v Q (v 0 3)) ∧ SF μ μ1)) 0 0 32 [some (.ref 48), some (.ref sb), some (.int (nI i))] [] (mk ν) := by
    intro zz
    induction zz using Nat.strongRecOn with
    | ind zz ih =>
      intro i hi ν hν hzz
      obtain ⟨d1, s1, f1, f2, o1⟩ := hν
      refine g_iload_n (pc := 32) dX3_sprayed_32 rfl ?_
      refine g_aload_n (pc := 33) dX3_sprayed_33 rfl ?_
      refine v_geti (pc := 34) fl_X3_54 dX3_sprayed_34 (by first | assumption | rfl) rfl d1.2.1.2.2.2.1.1 ?_
      refine g_icmp_ge (pc := 37) (tgt := 75) dX3_sprayed_37 (by decide) (fun c_37 => ?_) (fun c_37 => ?_)
      · have c37 := nI_le' (by omega) (by omega) c_37
        obtain rfl : i = v 0 3 := by omega
        refine g_aload_n (pc := 75) dX3_sprayed_75 rfl ?_
        refine a_getr (pc := 76) (q := 35) fl_X3_9 dX3_sprayed_76 (by first | assumption | rfl) rfl rfl ?_
        refine g_iconst (pc := 79) (v := (-1)) dX3_sprayed_79 (by decide) ?_
        refine a_puti (pc := 80) fw_X3_66 dX3_sprayed_80 (by first | assumption | rfl) rfl ?_
        refine g_return (pc := 83) (x := ()) dX3_sprayed_83 rfl rfl ⟨_, rfl, ?_⟩
        exact ⟨s1.moved (mset_ne (by omega)), fun c hc => (mset_ne (by omega)).trans (f1 c hc), (congrFun (mset_ne (by omega)) 0).trans f2, mset_eq.trans hsp.symm⟩
      · have c37 := nI_gt' (by omega) (by omega) c_37
        refine g_aload_n (pc := 40) dX3_sprayed_40 rfl ?_
        refine a_getr (pc := 41) (q := 35) fl_X3_9 dX3_sprayed_41 (by first | assumption | rfl) rfl rfl ?_
        refine g_iload_n (pc := 44) dX3_sprayed_44 rfl ?_
        refine a_puti (pc := 45) fw_X3_66 dX3_sprayed_45 (by first | assumption | rfl) rfl ?_
        obtain ⟨ν1, e1, e2, e3, e4, g1, hν1⟩ : ∃ ν1 : Mem, CW ν1 sb v Q ∧ OR ν1 (chs 127 (v 0 3)) ∧ SPR ν1 i ∧ SRW ν1 (spS v Q i) ∧ (∀ c, c ≠ 35 → ν1 c = ν c) ∧ mset ν 35 3 (nI i) = ν1 := ⟨_, d1.moved (fun k hk => mset_ne (by omega)) (congrFun (mset_ne (by omega)) 0), o1.moved (mset_nj (by omega)) (mset_ne (by omega)), Or.inr ⟨by omega, mset_eq⟩, s1.moved (mset_ne (by omega)), fun c hc => mset_ne hc, rfl⟩
        rw [hν1]
        clear hν1
        refine g_aload_n (pc := 48) dX3_sprayed_48 rfl ?_
        refine a_getr (pc := 49) (q := 35) fl_X3_9 dX3_sprayed_49 (by first | assumption | rfl) rfl rfl ?_
        refine g_aload_n (pc := 52) dX3_sprayed_52 rfl ?_
        refine a_cv1v (pc := 53) (c_X0_run sb hsb v Q ν1 e1.2.1 e1.2.2.1 i e3 _ e2 h127 e1.2.2.2) m_X0_run ml_X3_32 (by omega) (by first | assumption | rfl) rfl rfl (Nat.le_of_ble_eq_true rfl) dX3_sprayed_53 (fun x_53 μ_53 h_53 => ?_)
        obtain ⟨c53, o53, f53, w53, p53, r53⟩ := CW.ran e1 e2 h127 h_53
        refine g_aload_n (pc := 56) dX3_sprayed_56 rfl ?_
        refine g_iload_n (pc := 57) dX3_sprayed_57 rfl ?_
        refine g_aload_n (pc := 58) dX3_sprayed_58 rfl ?_
        refine a_getr (pc := 59) (q := 35) fl_X3_9 dX3_sprayed_59 (by first | assumption | rfl) rfl rfl ?_
        refine g_aload_n (pc := 62) dX3_sprayed_62 rfl ?_
        refine a_cv1i (pc := 63) (c_X0_creased sb hsb v μ_53 c53.2.1 _ o53 _ r53) m_X0_creased ml_X3_40 (by omega) (by first | assumption | rfl) rfl rfl (Nat.le_of_ble_eq_true rfl) dX3_sprayed_63 (fun x_63 μ_63 h_63 => ?_)
        obtain ⟨rfl, hm_63⟩ := h_63
        have hm_63 := hm_63.symm
        subst hm_63
        refine a_cv2v (pc := 66) (c_X3_offer μ_53 _ (e4.moved w53) (nI i) _ (show CR v Q i (chs 127 (v 0 3)) < 2 ^ 31 from Nat.lt_of_le_of_lt (CR_lt hvb h127) (by decide))) m_X3_offer ml_X3_63 (by omega) (by first | assumption | rfl) rfl rfl (Nat.le_of_ble_eq_true rfl) dX3_sprayed_66 (fun x_66 μ_66 h_66 => ?_)
        obtain ⟨s9, x9⟩ := h_66
        refine a_iinc2 (pc := 69) dX3_sprayed_69 (inc1 i) (by decide) rfl ?_
        refine g_goto (pc := 72) (tgt := 32) dX3_sprayed_72 (by decide) ?_
        exact ih (v 0 3 - (i + 1)) (by omega) (i + 1) (by omega) _ ⟨c53.moved (fun k hk => x9 k (by omega)) (congrFun (x9 46 (by omega)) 0), s9, fun c hc => (x9 c (by omega)).trans ((f53.1 c hc).trans ((g1 c (by omega)).trans (f1 c hc))), (congrFun (x9 46 (by omega)) 0).trans (f53.2.1.trans ((congrFun (g1 46 (by omega)) 0).trans f2)), o53.moved (congrFun (x9 35 (by omega)) 2) (x9 36 (by omega))⟩ rfl
  exact lp32 _ 0 (Nat.zero_le _) _ ⟨c0, s0, f0.1, f0.2.1, o0⟩ rfl
theorem swapL_back {l : List Nat} {i j : Nat} (hi : i < l.length) (hj : j < l.length) : swapL (swapL l i j) i j = l := by
  have h1 : (swapL l i j).getD j 0 = l.getD i 0 := by
    unfold swapL
    rw [List.getD_eq_getElem?_getD, List.getElem?_set_self (by rw [List.length_set]; exact hj)]
    rfl
  have h2 : (swapL l i j).getD i 0 = l.getD j 0 := by
    unfold swapL
    rw [List.getD_eq_getElem?_getD]
    by_cases e : j = i
    · subst e
      rw [List.getElem?_set_self (by rw [List.length_set]; exact hj)]
      rfl
    · rw [List.getElem?_set_ne e, List.getElem?_set_self hi]
      rfl
  apply List.ext_getElem?
  intro a
  rw [swapL, h1, h2]
  by_cases ej : j = a
  · subst ej
    rw [List.getElem?_set_self (by rw [List.length_set, swapL_len]; exact hj), get_of hj]
  · rw [List.getElem?_set_ne ej]
    by_cases ei : i = a
    · subst ei
      rw [List.getElem?_set_self (by rw [swapL_len]; exact hi), get_of hi]
    · rw [List.getElem?_set_ne ei]
      unfold swapL
      rw [List.getElem?_set_ne ej, List.getElem?_set_ne ei]
theorem swapL_lo {l : List Nat} {i j n : Nat} (h : LO l n) (hi : i < l.length) (hj : j < l.length) : LO (swapL l i j) n := by
  intro a x ha
  unfold swapL at ha
  rw [List.getElem?_set] at ha
  split at ha
  · split at ha
    · cases ha
      exact (h.at hi).1
    · cases ha
  · rw [List.getElem?_set] at ha
    split at ha
    · first
        | (cases ha; exact (h.at hj).1)
        | (split at ha
           · cases ha
             exact (h.at hj).1
           · cases ha)
    · exact h a x ha
def sw2 (v : View) (Q : Nat → List Nat) (i : Nat) (S : Int32 × Nat) : Nat → Int32 × Nat
  | 0 => S
  | k + 1 => offS (sw2 v Q i S k) (nI (10 * i + (i + 1 + k))) (CR v Q 9 (swapL (chs 127 (v 0 3)) i (i + 1 + k)))
def sw1 (v : View) (Q : Nat → List Nat) : Nat → Int32 × Nat
  | 0 => (-1, CR v Q 9 (chs 127 (v 0 3)))
  | i + 1 => sw2 v Q i (sw1 v Q i) (v 0 3 - (i + 1))
theorem chs127_len : ∀ n, n ≤ 7 → (chs 127 n).length = n := by decide
theorem c_X3_swap (sb : Nat) (v : View) (Q : Nat → List Nat) (μ : Mem) (hc : CW μ sb v Q) (hsp : μ 35 3 = -1) : CA eV yX3_swap cX3_swap 4 none 5 [.ref 48, .ref sb] μ (fun _ μ1 => SRW μ1 (sw1 v Q (v 0 3)) ∧ SF μ μ1) := by
  obtain ⟨hsb, hv, hQ, h46⟩ := id hc
  obtain ⟨hs0, hs1, hs2, hs3, hs4, hr4, hr5, hr6, hr7, hs9⟩ := hsb.f
  have hvb := hv.vb
  have hn7 := hvb.1
  have h127 := chs_lo 127 (v 0 3)
  refine CT.of false (by decide) (by decide) (L := [some (.ref 48), some (.ref sb), none, none]) rfl (Nat.le_of_ble_eq_true rfl) ?_
  refine g_aload_n (pc := 0) dX3_swap_0 rfl ?_
  refine a_getr (pc := 1) (q := 35) fl_X3_9 dX3_swap_1 (by first | assumption | rfl) rfl rfl ?_
  refine g_aload_n (pc := 4) dX3_swap_4 rfl ?_
  refine g_bipush (pc := 5) (v := (nI 127)) dX3_swap_5 (by decide) ?_
  refine a_cv2v (pc := 7) (c_X0_choose sb hsb v μ hc.2.1 127 (by decide)) m_X0_choose ml_X3_26 (by omega) (by first | assumption | rfl) rfl rfl (Nat.le_of_ble_eq_true rfl) dX3_swap_7 (fun x_7 μ_7 h_7 => ?_)
  obtain ⟨c7, o7, f7, w7, p7⟩ := hc.cho h_7
  refine g_aload_n (pc := 10) dX3_swap_10 rfl ?_
  refine a_getr (pc := 11) (q := 35) fl_X3_9 dX3_swap_11 (by first | assumption | rfl) rfl rfl ?_
  refine g_aload_n (pc := 14) dX3_swap_14 rfl ?_
  refine a_cv1v (pc := 15) (c_X0_run sb hsb v Q μ_7 c7.2.1 c7.2.2.1 9 (Or.inl ⟨p7.trans hsp, rfl⟩) _ o7 h127 c7.2.2.2) m_X0_run ml_X3_32 (by omega) (by first | assumption | rfl) rfl rfl (Nat.le_of_ble_eq_true rfl) dX3_swap_15 (fun x_15 μ_15 h_15 => ?_)
  obtain ⟨c15, o15, f15, w15, p15, r15⟩ := CW.ran c7 o7 h127 h_15
  refine g_aload_n (pc := 18) dX3_swap_18 rfl ?_
  refine g_aload_n (pc := 19) dX3_swap_19 rfl ?_
  refine a_getr (pc := 20) (q := 35) fl_X3_9 dX3_swap_20 (by first | assumption | rfl) rfl rfl ?_
  refine g_aload_n (pc := 23) dX3_swap_23 rfl ?_
  refine a_cv1i (pc := 24) (c_X0_creased sb hsb v μ_15 c15.2.1 _ o15 _ r15) m_X0_creased ml_X3_40 (by omega) (by first | assumption | rfl) rfl rfl (Nat.le_of_ble_eq_true rfl) dX3_swap_24 (fun x_24 μ_24 h_24 => ?_)
  obtain ⟨rfl, hm_24⟩ := h_24
  have hm_24 := hm_24.symm
  subst hm_24
  refine a_cv1v (pc := 27) (c_X3_begin μ_15 _ (show CR v Q 9 (chs 127 (v 0 3)) < 2 ^ 31 from Nat.lt_of_le_of_lt (CR_lt hvb h127) (by decide))) m_X3_begin ml_X3_51 (by omega) (by first | assumption | rfl) rfl rfl (Nat.le_of_ble_eq_true rfl) dX3_swap_27 (fun x_27 μ_27 h_27 => ?_)
  obtain ⟨s0, x0⟩ := h_27
  have c0 : CW μ_27 sb v Q := c15.moved (fun k hk => x0 k (by omega)) (congrFun (x0 46 (by omega)) 0)
  have f0 : SF μ μ_27 := (f7.trans f15).trans ⟨fun c hc => x0 c (by omega), congrFun (x0 46 (by omega)) 0, congrFun (x0 35 (by omega)) 3⟩
  have o0 : OR μ_27 (chs 127 (v 0 3)) := o15.moved (congrFun (x0 35 (by omega)) 2) (x0 36 (by omega))
  refine g_iconst (pc := 30) (v := (nI 0)) dX3_swap_30 (by decide) ?_
  refine a_ist2 (pc := 31) dX3_swap_31 (by decide) rfl ?_
  have lp32 : ∀ (zz : Nat) (i : Nat) (hi : i ≤ v 0 3) (ν : Mem) (hν : CW ν sb v Q ∧ SRW ν (sw1 v Q i) ∧ SF μ ν ∧ OR ν (chs 127 (v 0 3))) (l3 : Option Value), v 0 3 - i = zz → WG eV yX3_swap.cls cX3_swap 4 none false (fun _ _ => True) 5 (mpost (fun _ μ1 => SRW μ1 (sw1 v Q (v 0 3)) ∧ SF μ μ1)) 0 0 32 [some (.ref 48), some (.ref sb), some (.int (nI i)), l3] [] (mk ν) := by
    intro zz
    induction zz using Nat.strongRecOn with
    | ind zz ihO =>
      intro i hi ν hν l3 hzz
      obtain ⟨d1, s1, f1, o1⟩ := hν
      refine g_iload_n (pc := 32) dX3_swap_32 rfl ?_
      refine g_aload_n (pc := 33) dX3_swap_33 rfl ?_
      refine v_geti (pc := 34) fl_X3_54 dX3_swap_34 (by first | assumption | rfl) rfl d1.2.1.2.2.2.1.1 ?_
      refine g_icmp_ge (pc := 37) (tgt := 108) dX3_swap_37 (by decide) (fun c_37 => ?_) (fun c_37 => ?_)
      · have c37 := nI_le' (by omega) (by omega) c_37
        obtain rfl : i = v 0 3 := by omega
        refine g_return (pc := 108) (x := ()) dX3_swap_108 rfl rfl ⟨_, rfl, ?_⟩
        exact ⟨s1, f1⟩
      · have c37 := nI_gt' (by omega) (by omega) c_37
        refine g_iload_n (pc := 40) dX3_swap_40 rfl ?_
        refine g_iconst (pc := 41) (v := (nI 1)) dX3_swap_41 (by decide) ?_
        refine v_iadd (pc := 42) dX3_swap_42 (nI_add _ _) ?_
        refine a_ist3 (pc := 43) dX3_swap_43 (by decide) rfl ?_
        have lp44 : ∀ (zz : Nat) (k : Nat) (hk : i + 1 + k ≤ v 0 3) (ν2 : Mem) (hν2 : CW ν2 sb v Q ∧ SRW ν2 (sw2 v Q i (sw1 v Q i) k) ∧ SF μ ν2 ∧ OR ν2 (chs 127 (v 0 3))), v 0 3 - (i + 1 + k) = zz → WG eV yX3_swap.cls cX3_swap 4 none false (fun _ _ => True) 5 (mpost (fun _ μ1 => SRW μ1 (sw1 v Q (v 0 3)) ∧ SF μ μ1)) 0 0 44 [some (.ref 48), some (.ref sb), some (.int (nI i)), some (.int (nI (i + 1 + k)))] [] (mk ν2) := by
          intro zz
          induction zz using Nat.strongRecOn with
          | ind zz ih =>
            intro k hk ν2 hν2 hzz
            obtain ⟨d2, s2, f2, o2⟩ := hν2
            have hsp2 : ν2 35 3 = -1 := f2.2.2.trans hsp
            have hcl := chs127_len (v 0 3) hn7
            refine g_iload_n (pc := 44) dX3_swap_44 rfl ?_
            refine g_aload_n (pc := 45) dX3_swap_45 rfl ?_
            refine v_geti (pc := 46) fl_X3_54 dX3_swap_46 (by first | assumption | rfl) rfl d2.2.1.2.2.2.1.1 ?_
            refine g_icmp_ge (pc := 49) (tgt := 102) dX3_swap_49 (by decide) (fun c_49 => ?_) (fun c_49 => ?_)
            · have c49 := nI_le' (by omega) (by omega) c_49
              have hke : k = v 0 3 - (i + 1) := by omega
              have hs2 : SRW ν2 (sw1 v Q (i + 1)) := by
                rw [sw1, ← hke]
                exact s2
              refine a_iinc2 (pc := 102) dX3_swap_102 (inc1 i) (by decide) rfl ?_
              refine g_goto (pc := 105) (tgt := 32) dX3_swap_105 (by decide) ?_
              exact ihO (v 0 3 - (i + 1)) (by omega) (i + 1) (by omega) _ ⟨d2, hs2, f2, o2⟩ _ rfl
            · have c49 := nI_gt' (by omega) (by omega) c_49
              refine g_aload_n (pc := 52) dX3_swap_52 rfl ?_
              refine a_getr (pc := 53) (q := 35) fl_X3_9 dX3_swap_53 (by first | assumption | rfl) rfl rfl ?_
              refine g_iload_n (pc := 56) dX3_swap_56 rfl ?_
              refine g_iload_n (pc := 57) dX3_swap_57 rfl ?_
              refine a_cv2v (pc := 58) (c_X0_exchange ν2 _ o2 i (i + 1 + k) (by omega) (by omega)) m_X0_exchange ml_X3_59 (by omega) (by first | assumption | rfl) rfl rfl (Nat.le_of_ble_eq_true rfl) dX3_swap_58 (fun x_58 μ_58 h_58 => ?_)
              obtain ⟨o58, x58⟩ := h_58
              have c58 : CW μ_58 sb v Q := d2.moved (fun k hk => x58 k (by omega)) (congrFun (x58 46 (by omega)) 0)
              have f58 : SF ν2 μ_58 := ⟨fun c hc => x58 c (by omega), congrFun (x58 46 (by omega)) 0, congrFun (x58 35 (by omega)) 3⟩
              have hlo := swapL_lo (i := i) (j := i + 1 + k) h127 (by omega) (by omega)
              refine g_aload_n (pc := 61) dX3_swap_61 rfl ?_
              refine a_getr (pc := 62) (q := 35) fl_X3_9 dX3_swap_62 (by first | assumption | rfl) rfl rfl ?_
              refine g_aload_n (pc := 65) dX3_swap_65 rfl ?_
              refine a_cv1v (pc := 66) (c_X0_run sb hsb v Q μ_58 c58.2.1 c58.2.2.1 9 (Or.inl ⟨f58.2.2.trans hsp2, rfl⟩) _ o58 hlo c58.2.2.2) m_X0_run ml_X3_32 (by omega) (by first | assumption | rfl) rfl rfl (Nat.le_of_ble_eq_true rfl) dX3_swap_66 (fun x_66 μ_66 h_66 => ?_)
              obtain ⟨c66, o66, f66, w66, p66, r66⟩ := CW.ran c58 o58 hlo h_66
              refine g_aload_n (pc := 69) dX3_swap_69 rfl ?_
              refine g_bipush (pc := 70) (v := (nI 10)) dX3_swap_70 (by decide) ?_
              refine g_iload_n (pc := 72) dX3_swap_72 rfl ?_
              refine v_imul (pc := 73) dX3_swap_73 (nI_mul _ _) ?_
              refine g_iload_n (pc := 74) dX3_swap_74 rfl ?_
              refine v_iadd (pc := 75) dX3_swap_75 (nI_add _ _) ?_
              refine g_aload_n (pc := 76) dX3_swap_76 rfl ?_
              refine a_getr (pc := 77) (q := 35) fl_X3_9 dX3_swap_77 (by first | assumption | rfl) rfl rfl ?_
              refine g_aload_n (pc := 80) dX3_swap_80 rfl ?_
              refine a_cv1i (pc := 81) (c_X0_creased sb hsb v μ_66 c66.2.1 _ o66 _ r66) m_X0_creased ml_X3_40 (by omega) (by first | assumption | rfl) rfl rfl (Nat.le_of_ble_eq_true rfl) dX3_swap_81 (fun x_81 μ_81 h_81 => ?_)
              obtain ⟨rfl, hm_81⟩ := h_81
              have hm_81 := hm_81.symm
              subst hm_81
              refine a_cv2v (pc := 84) (c_X3_offer μ_66 _ (s2.moved (w66.trans (x58 48 (by omega)))) (nI (10 * i + (i + 1 + k))) _ (show CR v Q 9 (swapL (chs 127 (v 0 3)) i (i + 1 + k)) < 2 ^ 31 from Nat.lt_of_le_of_lt (CR_lt hvb hlo) (by decide))) m_X3_offer ml_X3_63 (by omega) (by first | assumption | rfl) rfl rfl (Nat.le_of_ble_eq_true rfl) dX3_swap_84 (fun x_84 μ_84 h_84 => ?_)
              obtain ⟨s9, x9⟩ := h_84
              have o84 : OR μ_84 (swapL (chs 127 (v 0 3)) i (i + 1 + k)) := o66.moved (congrFun (x9 35 (by omega)) 2) (x9 36 (by omega))
              have f84 : SF μ_66 μ_84 := ⟨fun c hc => x9 c (by omega), congrFun (x9 46 (by omega)) 0, congrFun (x9 35 (by omega)) 3⟩
              have hsl := swapL_len (chs 127 (v 0 3)) i (i + 1 + k)
              refine g_aload_n (pc := 87) dX3_swap_87 rfl ?_
              refine a_getr (pc := 88) (q := 35) fl_X3_9 dX3_swap_88 (by first | assumption | rfl) rfl rfl ?_
              refine g_iload_n (pc := 91) dX3_swap_91 rfl ?_
              refine g_iload_n (pc := 92) dX3_swap_92 rfl ?_
              refine a_cv2v (pc := 93) (c_X0_exchange μ_84 _ o84 i (i + 1 + k) (by omega) (by omega)) m_X0_exchange ml_X3_59 (by omega) (by first | assumption | rfl) rfl rfl (Nat.le_of_ble_eq_true rfl) dX3_swap_93 (fun x_93 μ_93 h_93 => ?_)
              obtain ⟨o93, x93⟩ := h_93
              rw [swapL_back (by omega) (by omega)] at o93
              have f93 : SF μ_84 μ_93 := ⟨fun c hc => x93 c (by omega), congrFun (x93 46 (by omega)) 0, congrFun (x93 35 (by omega)) 3⟩
              have e93 : CW μ_93 sb v Q := c66.moved (fun k hk => (x93 k (by omega)).trans (x9 k (by omega))) ((congrFun (x93 46 (by omega)) 0).trans (congrFun (x9 46 (by omega)) 0))
              refine a_iinc3 (pc := 96) dX3_swap_96 (inc1 _) (by decide) rfl ?_
              refine g_goto (pc := 99) (tgt := 44) dX3_swap_99 (by decide) ?_
              exact ih (v 0 3 - (i + 1 + (k + 1))) (by omega) (k + 1) (by omega) _ ⟨e93, s9.moved (x93 48 (by omega)), ((f2.trans f58).trans f66).trans (f84.trans f93), o93⟩ rfl
        exact lp44 _ 0 (by omega) _ ⟨d1, s1, f1, o1⟩ rfl
  exact lp32 _ 0 (Nat.zero_le _) _ ⟨c0, s0, f0, o0⟩ _ rfl
def feS (v : View) (Q : Nat → List Nat) (m : Nat) : Nat → Int32 × Nat
  | 0 => (-1, 8)
  | b + 1 => if popc b < (feS v Q m b).2 ∧ CR v Q 9 (chs b (v 0 3)) ≤ m then (nI b, popc b) else feS v Q m b
theorem popc_le : ∀ b, b < 128 → popc b ≤ 7 := by decide +kernel
theorem feS_le (v : View) (Q : Nat → List Nat) (m : Nat) : ∀ b, b ≤ 128 → (feS v Q m b).2 ≤ 8
  | 0, _ => Nat.le_refl _
  | b + 1, h => by
    have ih := feS_le v Q m b (by omega)
    rw [feS]
    split
    · have := popc_le b (by omega)
      show popc b ≤ 8
      omega
    · exact ih
theorem sh_lem : ∀ n, n < 8 → nI 1 <<< (nI n &&& 31) = nI (2 ^ n) := by decide +kernel
theorem c_X3_fewest (sb : Nat) (v : View) (Q : Nat → List Nat) (μ : Mem) (hc : CW μ sb v Q) (hsp : μ 35 3 = -1) (m : Nat) (hm : m ≤ 9999) : CA eI yX3_fewest cX3_fewest 7 (some .int) 5 [.ref 48, .ref sb, .int (nI m)] μ (fun r μ1 => r = (feS v Q m (2 ^ v 0 3)).1 ∧ SF μ μ1) := by
  obtain ⟨hsb, hv, hQ, h46⟩ := id hc
  obtain ⟨hs0, hs1, hs2, hs3, hs4, hr4, hr5, hr6, hr7, hs9⟩ := hsb.f
  have hvb := hv.vb
  have hn7 := hvb.1
  have h127 := chs_lo 127 (v 0 3)
  have hpw : 2 ^ v 0 3 ≤ 128 := Nat.pow_le_pow_right (n := 2) (by decide) hn7
  refine CT.of false (by decide) (by decide) (L := [some (.ref 48), some (.ref sb), some (.int (nI m)), none, none, none, none]) rfl (Nat.le_of_ble_eq_true rfl) ?_
  refine g_iconst (pc := 0) (v := (-1)) dX3_fewest_0 (by decide) ?_
  refine a_ist3 (pc := 1) dX3_fewest_1 (by decide) rfl ?_
  refine g_bipush (pc := 2) (v := (nI 8)) dX3_fewest_2 (by decide) ?_
  refine a_ist4 (pc := 4) dX3_fewest_4 (by decide) rfl ?_
  refine g_iconst (pc := 6) (v := (nI 0)) dX3_fewest_6 (by decide) ?_
  refine a_ist5 (pc := 7) dX3_fewest_7 (by decide) rfl ?_
  have lp9 : ∀ (zz : Nat) (i : Nat) (hi : i ≤ 2 ^ v 0 3) (ν : Mem) (hν : CW ν sb v Q ∧ SF μ ν) (l6 : Option Value), 2 ^ v 0 3 - i = zz → WG eI yX3_fewest.cls cX3_fewest 7 (some .int) false (fun _ _ => True) 5 (mpost (fun r μ1 => r = (feS v Q m (2 ^ v 0 3)).1 ∧ SF μ μ1)) 0 0 9 [some (.ref 48), some (.ref sb), some (.int (nI m)), some (.int (feS v Q m i).1), some (.int (nI (feS v Q m i).2)), some (.int (nI i)), l6] [] (mk ν) := by
    intro zz
    induction zz using Nat.strongRecOn with
    | ind zz ih =>
      intro i hi ν hν l6 hzz
      obtain ⟨d1, f1⟩ := hν
      have hsp1 : ν 35 3 = -1 := f1.2.2.trans hsp
      have hfe := feS_le v Q m i (by omega)
      refine g_iload (pc := 9) dX3_fewest_9 rfl ?_
      refine g_iconst (pc := 11) (v := (nI 1)) dX3_fewest_11 (by decide) ?_
      refine g_aload_n (pc := 12) dX3_fewest_12 rfl ?_
      refine v_geti (pc := 13) fl_X3_54 dX3_fewest_13 (by first | assumption | rfl) rfl d1.2.1.2.2.2.1.1 ?_
      refine v_ishl (pc := 16) dX3_fewest_16 (sh_lem _ (by omega)) ?_
      refine g_icmp_ge (pc := 17) (tgt := 77) dX3_fewest_17 (by decide) (fun c_17 => ?_) (fun c_17 => ?_)
      · have c17 := nI_le' (by omega) (by omega) c_17
        obtain rfl : i = 2 ^ v 0 3 := by omega
        refine g_iload_n (pc := 77) dX3_fewest_77 rfl ?_
        refine g_ireturn (pc := 78) dX3_fewest_78 rfl (by first | rfl | decide) rfl ⟨_, rfl, ?_⟩
        exact ⟨rfl, f1⟩
      · have c17 := nI_gt' (by omega) (by omega) c_17
        have hpo := popc_le i (by omega)
        have hrec : feS v Q m (i + 1) = if popc i < (feS v Q m i).2 ∧ CR v Q 9 (chs i (v 0 3)) ≤ m then (nI i, popc i) else feS v Q m i := rfl
        refine g_iload (pc := 20) dX3_fewest_20 rfl ?_
        refine a_cs1i (pc := 22) (c_J6_bitCount i (by omega) ν) m_J6_bitCount_0f7a4 ml_X3_81 (by omega) (Nat.le_of_ble_eq_true rfl) dX3_fewest_22 (fun x_22 μ_22 h_22 => ?_)
        obtain ⟨rfl, hm_22⟩ := h_22
        have hm_22 := hm_22.symm
        subst hm_22
        refine a_ist6 (pc := 25) dX3_fewest_25 (by decide) rfl ?_
        refine g_iload (pc := 27) dX3_fewest_27 rfl ?_
        refine g_iload (pc := 29) dX3_fewest_29 rfl ?_
        refine g_icmp_ge (pc := 31) (tgt := 71) dX3_fewest_31 (by decide) (fun c_31 => ?_) (fun c_31 => ?_)
        · have c31 := nI_le' (by omega) (by omega) c_31
          rw [if_neg (by omega)] at hrec
          have f9 := f1
          have d9 := d1
          refine a_iinc5 (pc := 71) dX3_fewest_71 (inc1 i) (by decide) rfl ?_
          refine g_goto (pc := 74) (tgt := 9) dX3_fewest_74 (by decide) ?_
          have hfin := ih (2 ^ v 0 3 - (i + 1)) (by omega) (i + 1) (by omega) _ ⟨d9, f9⟩ (some (.int (nI (popc i)))) rfl
          rw [hrec] at hfin
          exact hfin
        · have c31 := nI_gt' (by omega) (by omega) c_31
          refine g_aload_n (pc := 34) dX3_fewest_34 rfl ?_
          refine a_getr (pc := 35) (q := 35) fl_X3_9 dX3_fewest_35 (by first | assumption | rfl) rfl rfl ?_
          refine g_aload_n (pc := 38) dX3_fewest_38 rfl ?_
          refine g_iload (pc := 39) dX3_fewest_39 rfl ?_
          refine a_cv2v (pc := 41) (c_X0_choose sb hsb v ν d1.2.1 i (by omega)) m_X0_choose ml_X3_26 (by omega) (by first | assumption | rfl) rfl rfl (Nat.le_of_ble_eq_true rfl) dX3_fewest_41 (fun x_41 μ_41 h_41 => ?_)
          obtain ⟨c41, o41, f41, w41, p41⟩ := d1.cho h_41
          refine g_aload_n (pc := 44) dX3_fewest_44 rfl ?_
          refine a_getr (pc := 45) (q := 35) fl_X3_9 dX3_fewest_45 (by first | assumption | rfl) rfl rfl ?_
          refine g_aload_n (pc := 48) dX3_fewest_48 rfl ?_
          refine a_cv1v (pc := 49) (c_X0_run sb hsb v Q μ_41 c41.2.1 c41.2.2.1 9 (Or.inl ⟨p41.trans hsp1, rfl⟩) _ o41 (chs_lo _ _) c41.2.2.2) m_X0_run ml_X3_32 (by omega) (by first | assumption | rfl) rfl rfl (Nat.le_of_ble_eq_true rfl) dX3_fewest_49 (fun x_49 μ_49 h_49 => ?_)
          obtain ⟨c49, o49, f49, w49, p49, r49⟩ := CW.ran c41 o41 (chs_lo _ _) h_49
          refine g_aload_n (pc := 52) dX3_fewest_52 rfl ?_
          refine a_getr (pc := 53) (q := 35) fl_X3_9 dX3_fewest_53 (by first | assumption | rfl) rfl rfl ?_
          refine g_aload_n (pc := 56) dX3_fewest_56 rfl ?_
          refine a_cv1i (pc := 57) (c_X0_creased sb hsb v μ_49 c49.2.1 _ o49 _ r49) m_X0_creased ml_X3_40 (by omega) (by first | assumption | rfl) rfl rfl (Nat.le_of_ble_eq_true rfl) dX3_fewest_57 (fun x_57 μ_57 h_57 => ?_)
          obtain ⟨rfl, hm_57⟩ := h_57
          have hm_57 := hm_57.symm
          subst hm_57
          refine g_iload_n (pc := 60) dX3_fewest_60 rfl ?_
          have hcr : CR v Q 9 (chs i (v 0 3)) ≤ 2079 := CR_lt hvb (chs_lo _ _)
          have f9 := (f1.trans f41).trans f49
          have d9 := c49
          refine g_icmp_gt (pc := 61) (tgt := 71) dX3_fewest_61 (by decide) (fun c_61 => ?_) (fun c_61 => ?_)
          · have c61 : m < CR v Q 9 (chs i (v 0 3)) := nI_lt' (by omega) (by omega) c_61
            rw [if_neg (by omega)] at hrec
            refine a_iinc5 (pc := 71) dX3_fewest_71 (inc1 i) (by decide) rfl ?_
            refine g_goto (pc := 74) (tgt := 9) dX3_fewest_74 (by decide) ?_
            have hfin := ih (2 ^ v 0 3 - (i + 1)) (by omega) (i + 1) (by omega) _ ⟨d9, f9⟩ (some (.int (nI (popc i)))) rfl
            rw [hrec] at hfin
            exact hfin
          · have c61 : CR v Q 9 (chs i (v 0 3)) ≤ m := nI_ge' (by omega) (by omega) c_61
            rw [if_pos ⟨c31, c61⟩] at hrec
            refine g_iload (pc := 64) dX3_fewest_64 rfl ?_
            refine a_ist3 (pc := 66) dX3_fewest_66 (by decide) rfl ?_
            refine g_iload (pc := 67) dX3_fewest_67 rfl ?_
            refine a_ist4 (pc := 69) dX3_fewest_69 (by decide) rfl ?_
            refine a_iinc5 (pc := 71) dX3_fewest_71 (inc1 i) (by decide) rfl ?_
            refine g_goto (pc := 74) (tgt := 9) dX3_fewest_74 (by decide) ?_
            have hfin := ih (2 ^ v 0 3 - (i + 1)) (by omega) (i + 1) (by omega) _ ⟨d9, f9⟩ (some (.int (nI (popc i)))) rfl
            rw [hrec] at hfin
            exact hfin
  exact lp9 _ 0 (Nat.zero_le _) _ ⟨hc, SF.refl _⟩ _ rfl
