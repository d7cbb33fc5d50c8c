/-! ===== ironing by a whole order ===== -/
/-- what stands ahead of place k of the order l (sprayed ahead of place sp): creases, minutes, the minute since which it dries -/
def stS (v : View) (Q : Nat → List Nat) (sp : Nat) (l : List Nat) : Nat → (Nat → Nat) × Nat × Nat
  | 0 => (v 3, 0, 0)
  | k + 1 =>
    let S := stS v Q sp l k
    let d := if k = sp then S.2.1 else S.2.2
    (isF v Q d (l.getD k 0) S.1 S.2.1, isM v Q d (l.getD k 0) S.1 S.2.1, d)
def stF (v : View) (Q : Nat → List Nat) (sp : Nat) (l : List Nat) (k : Nat) : Nat → Nat := (stS v Q sp l k).1
def stM (v : View) (Q : Nat → List Nat) (sp : Nat) (l : List Nat) (k : Nat) : Nat := (stS v Q sp l k).2.1
/-- the minute since which it dries, at place k -/
def stD (v : View) (Q : Nat → List Nat) (sp : Nat) (l : List Nat) (k : Nat) : Nat := if k = sp then (stS v Q sp l k).2.1 else (stS v Q sp l k).2.2
theorem stF_succ (v : View) (Q : Nat → List Nat) (sp : Nat) (l : List Nat) (k : Nat) : stF v Q sp l (k + 1) = isF v Q (stD v Q sp l k) (l.getD k 0) (stF v Q sp l k) (stM v Q sp l k) := rfl
theorem stM_succ (v : View) (Q : Nat → List Nat) (sp : Nat) (l : List Nat) (k : Nat) : stM v Q sp l (k + 1) = isM v Q (stD v Q sp l k) (l.getD k 0) (stF v Q sp l k) (stM v Q sp l k) := rfl
theorem st3_succ (v : View) (Q : Nat → List Nat) (sp : Nat) (l : List Nat) (k : Nat) : (stS v Q sp l (k + 1)).2.2 = stD v Q sp l k := rfl
theorem stD_eq (v : View) (Q : Nat → List Nat) (sp : Nat) (l : List Nat) : ∀ k, stD v Q sp l k = if sp ≤ k then stM v Q sp l sp else 0
  | 0 => by
    unfold stD
    by_cases h : 0 = sp
    · subst h
      rw [if_pos rfl, if_pos (Nat.le_refl _)]
      rfl
    · rw [if_neg h, if_neg (by omega)]
      rfl
  | k + 1 => by
    have ih := stD_eq v Q sp l k
    unfold stD
    by_cases h : k + 1 = sp
    · subst h
      rw [if_pos rfl, if_pos (Nat.le_refl _)]
      rfl
    · rw [if_neg h, st3_succ, ih]
      by_cases h2 : sp ≤ k
      · rw [if_pos h2, if_pos (by omega)]
      · rw [if_neg h2, if_neg (by omega)]
/-- what a view of a shirt is, its numbers in their bounds -/
def VB (v : View) : Prop := v 0 3 ≤ 7 ∧ ∀ p, p < v 0 3 → v 1 p ≤ 5 ∧ v 2 p ≤ 9 ∧ v 3 p ≤ 99 ∧ v 4 p ≤ 127
theorem SV.vb {μ : Mem} {sb : Nat} {v : View} (h : SV μ sb v) : VB v := ⟨h.2.2.2.1.2, fun p hp => ⟨(h.2.2.2.2 p hp).1.2, (h.2.2.2.2 p hp).2.1.2, (h.2.2.2.2 p hp).2.2.1.2, (h.2.2.2.2 p hp).2.2.2.2⟩⟩
/-- all of an order are parts of n -/
def LO (l : List Nat) (n : Nat) : Prop := ∀ (j x : Nat), l[j]? = some x → x < n
theorem LO.at {l : List Nat} {n k : Nat} (h : LO l n) (hk : k < l.length) : l.getD k 0 < n ∧ l[k]? = some (l.getD k 0) := by
  have e : l[k]? = some (l.getD k 0) := by
    rw [List.getD_eq_getElem?_getD, List.getElem?_eq_getElem hk]
    rfl
  exact ⟨h k _ e, e⟩
theorem st_bounds {v : View} {Q : Nat → List Nat} {sp : Nat} {l : List Nat} (hv : VB v) (hl : LO l (v 0 3)) : ∀ k, k ≤ l.length → (∀ q, q < v 0 3 → stF v Q sp l k q ≤ 99) ∧ stM v Q sp l k ≤ 207 * k ∧ (stS v Q sp l k).2.2 ≤ stM v Q sp l k ∧ stD v Q sp l k ≤ stM v Q sp l k
  | 0, _ => by
    refine ⟨fun q hq => (hv.2 q hq).2.2.1, Nat.le_refl _, Nat.le_refl _, ?_⟩
    unfold stD
    split <;> exact Nat.le_refl _
  | k + 1, hk => by
    obtain ⟨h1, h2, h3, h4⟩ := st_bounds (sp := sp) (Q := Q) hv hl k (by omega)
    obtain ⟨hp, -⟩ := hl.at (k := k) (by omega)
    have ht : isTk v Q (stD v Q sp l k) (l.getD k 0) (stF v Q sp l k) (stM v Q sp l k) ≤ 207 := kTakes_le (TV_le _ _ _ _ _ _ _ _) (hv.2 _ hp).2.1
    have hm : stM v Q sp l (k + 1) = stM v Q sp l k + isTk v Q (stD v Q sp l k) (l.getD k 0) (stF v Q sp l k) (stM v Q sp l k) := rfl
    have h5 : (stS v Q sp l (k + 1)).2.2 ≤ stM v Q sp l (k + 1) := by
      rw [st3_succ, hm]
      omega
    refine ⟨fun q hq => ?_, by omega, h5, ?_⟩
    · rw [stF_succ]
      exact isF_le h1 hp hq
    · unfold stD
      split
      · exact Nat.le_refl _
      · exact h5
/-- the rows as they stand behind k places -/
def RS (μ : Mem) (v : View) (Q : Nat → List Nat) (sp : Nat) (l : List Nat) (k : Nat) : Prop := (∀ q, q < v 0 3 → μ (38 + k) q = nI (stF v Q sp l k q)) ∧ μ 46 k = nI (stM v Q sp l k)
def SPR (μ : Mem) (sp : Nat) : Prop := (μ 35 3 = -1 ∧ sp = 9) ∨ (sp < 7 ∧ μ 35 3 = nI sp)
/-- what ironing by an order may change -/
def FR (μ μ1 : Mem) : Prop := (∀ c, c ≠ 31 → c ≠ 32 → c ≠ 35 → c ≠ 46 → (c < 38 ∨ 45 < c) → μ1 c = μ c) ∧ (∀ j, j ≠ 7 → j ≠ 8 → j ≠ 9 → μ1 35 j = μ 35 j) ∧ μ1 46 0 = μ 46 0
theorem FR.trans {μ μ1 μ2 : Mem} (h : FR μ μ1) (g : FR μ1 μ2) : FR μ μ2 := ⟨fun c a1 a2 a3 a4 a5 => (g.1 c a1 a2 a3 a4 a5).trans (h.1 c a1 a2 a3 a4 a5), fun j a1 a2 a3 => (g.2.1 j a1 a2 a3).trans (h.2.1 j a1 a2 a3), g.2.2.trans h.2.2⟩
/-- one place more -/
theorem one_step {μ μ1 : Mem} {sb : Nat} {v : View} {Q : Nat → List Nat} {sp : Nat} {l : List Nat} {k : Nat} (hI : IW μ sb v Q) (hR : ∀ j, j ≤ k → RS μ v Q sp l j)
    (h : (∀ q, q < v 0 3 → μ1 (38 + (k + 1)) q = nI (isF v Q (stD v Q sp l k) (l.getD k 0) (stF v Q sp l k) (stM v Q sp l k) q)) ∧ μ1 46 (k + 1) = nI (isM v Q (stD v Q sp l k) (l.getD k 0) (stF v Q sp l k) (stM v Q sp l k)) ∧ (∀ j, j ≠ k + 1 → μ1 46 j = μ 46 j) ∧ (∀ j, j ≠ 8 → j ≠ 9 → μ1 35 j = μ 35 j) ∧ μ1 31 2 = μ 31 2 ∧ ∀ c, c ≠ 31 → c ≠ 32 → c ≠ 35 → c ≠ 46 → c ≠ 38 + (k + 1) → μ1 c = μ c) (hk : k < 7) :
    IW μ1 sb v Q ∧ (∀ j, j ≤ k + 1 → RS μ1 v Q sp l j) ∧ FR μ μ1 := by
  obtain ⟨h1, h2, h3, h4, h5, h6⟩ := h
  refine ⟨hI.moved (fun c hc => h6 c (by omega) (by omega) (by omega) (by omega) (by omega)) h5 (h4 7 (by omega) (by omega)), fun j hj => ?_, fun c a1 a2 a3 a4 a5 => h6 c a1 a2 a3 a4 (by omega), fun j a1 a2 a3 => h4 j a2 a3, h3 0 (by omega)⟩
  rcases Nat.lt_or_ge k j with g | g
  · obtain rfl : j = k + 1 := by omega
    exact ⟨h1, h2⟩
  · obtain ⟨r1, r2⟩ := hR j g
    refine ⟨fun q hq => ?_, ?_⟩
    · rw [h6 (38 + j) (by omega) (by omega) (by omega) (by omega) (by omega)]
      exact r1 q hq
    · rw [h3 j (by omega)]
      exact r2
theorem c_X0_run (sb : Nat) (hsb : SB sb) (v : View) (Q : Nat → List Nat) (μ : Mem) (hv : SV μ sb v) (hQ : ∀ e, e < 3 → CodeOK μ (v 0 2) e (Q e) ∧ Pure1 (Q e)) (sp : Nat) (hsp : SPR μ sp) (l : List Nat) (ho : OR μ l) (hl : LO l (v 0 3)) (h46 : μ 46 0 = nI 0) : CA eV yX0_run cX0_run 3 none 4 [.ref 35, .ref sb] μ (fun _ μ1 => IW μ1 sb v Q ∧ (∀ j, j ≤ l.length → RS μ1 v Q sp l j) ∧ FR μ μ1) := by
  obtain ⟨hs0, hs1, hs2, hs3, hs4, hr4, hr5, hr6, hr7, hs9⟩ := hsb.f
  obtain ⟨⟨e0, b0⟩, ⟨e1, b1⟩, ⟨e2, b2⟩, ⟨e3, b3⟩, hp⟩ := id hv
  have hvb := hv.vb
  refine CT.of false (by decide) (by decide) (L := [some (.ref 35), some (.ref sb), none]) rfl (Nat.le_of_ble_eq_true rfl) ?_
  refine g_aload_n (pc := 0) dX0_run_0 rfl ?_
  refine g_aload_n (pc := 1) dX0_run_1 rfl ?_
  refine a_cv1v (pc := 2) (c_X0_begin sb hsb v μ hv) m_X0_begin ml_X0_65 (by omega) (by first | assumption | rfl) rfl rfl (Nat.le_of_ble_eq_true rfl) dX0_run_2 (fun x_2 μ_2 h_2 => ?_)
  obtain ⟨g1, g2, g7, g8, g9, g31⟩ := h_2
  refine g_aload_n (pc := 5) dX0_run_5 rfl ?_
  refine a_getr (pc := 6) (q := sb + 3) fl_X0_53 dX0_run_6 (by first | assumption | rfl) rfl (by assumption) ?_
  refine g_iconst (pc := 9) (v := (nI 0)) dX0_run_9 (by decide) ?_
  refine g_aload_n (pc := 10) dX0_run_10 rfl ?_
  refine a_getr (pc := 11) (q := 37) fl_X0_21 dX0_run_11 (by first | assumption | rfl) rfl rfl ?_
  refine g_iconst (pc := 14) (v := (nI 0)) dX0_run_14 (by decide) ?_
  refine v_aald (pc := 15) dX0_run_15 (by first | assumption | rfl) rfl (by omega) (show 37 + 1 + 0 = 38 from rfl) ?_
  refine g_iconst (pc := 16) (v := (nI 0)) dX0_run_16 (by decide) ?_
  refine g_bipush (pc := 17) (v := (nI 7)) dX0_run_17 (by decide) ?_
  refine a_copy (pc := 19) (sp := 0) (dp := 0) (n := 7) ml_X0_69 (by omega) (Nat.le_of_ble_eq_true rfl) dX0_run_19 hs3 (show sh 38 = (0, 7) from rfl) rfl rfl rfl (by omega) (by omega) ?_
  obtain ⟨ν0, hr0, hx0, hν0⟩ : ∃ ν0 : Mem, (∀ q, q < 7 → ν0 38 q = μ_2 (sb + 3) q) ∧ (∀ c, c ≠ 38 → ν0 c = μ_2 c) ∧ mcopy μ_2 (sb + 3) 0 38 0 7 = ν0 := ⟨_, fun q hq => mcopy_eq hq, fun c hc => mcopy_ne hc, rfl⟩
  rw [hν0]
  clear hν0
  have hv0 : SV ν0 sb v := hv.moved (fun c h1 h2 => (hx0 c (by omega)).trans (g1 c (by omega) (by omega)))
  have hI0 : IW ν0 sb v Q := ⟨hsb, (congrFun (hx0 35 (by omega)) 7).trans g7, hv0, fun e he => ⟨(hQ e he).1.moved ((hx0 _ (by omega)).trans (g1 _ (by omega) (by omega))) ((hx0 _ (by omega)).trans (g1 _ (by omega) (by omega))), (hQ e he).2⟩, (congrFun (hx0 31 (by omega)) 2).trans g31⟩
  have hR0 : RS ν0 v Q sp l 0 := ⟨fun q hq => (hr0 q (by omega)).trans ((congrFun (g1 (sb + 3) (by omega) (by omega)) q).trans (hp q hq).2.2.1.1), (congrFun (hx0 46 (by omega)) 0).trans ((congrFun (g1 46 (by omega) (by omega)) 0).trans h46)⟩
  have ho0 : OR ν0 l := ho.moved ((congrFun (hx0 35 (by omega)) 2).trans (g2 2 (by omega) (by omega) (by omega))) ((hx0 36 (by omega)).trans (g1 36 (by omega) (by omega)))
  have hsp0 : SPR ν0 sp := by
    unfold SPR
    rw [hx0 35 (by omega), g2 3 (by omega) (by omega) (by omega)]
    exact hsp
  have hFR : FR μ ν0 := ⟨fun c a1 a2 a3 a4 a5 => (hx0 c (by omega)).trans (g1 c a1 a3), fun j a1 a2 a3 => (congrFun (hx0 35 (by omega)) j).trans (g2 j a1 a2 a3), (congrFun (hx0 46 (by omega)) 0).trans (congrFun (g1 46 (by omega) (by omega)) 0)⟩
  refine g_iconst (pc := 22) (v := (nI 0)) dX0_run_22 (by decide) ?_
  refine a_ist2 (pc := 23) dX0_run_23 (by decide) rfl ?_
  have lp24 : ∀ (zz : Nat) (i : Nat) (hi : i ≤ l.length) (ν : Mem) (hν : IW ν sb v Q ∧ (∀ j, j ≤ i → RS ν v Q sp l j) ∧ FR ν0 ν), l.length - i = zz → WG eV yX0_run.cls cX0_run 3 none false (fun _ _ => True) 4 (mpost (fun _ μ1 => IW μ1 sb v Q ∧ (∀ j, j ≤ l.length → RS μ1 v Q sp l j) ∧ FR μ μ1)) 0 0 24 [some (.ref 35), some (.ref sb), some (.int (nI i))] [] (mk ν) := by
    intro zz
    induction zz using Nat.strongRecOn with
    | ind zz ih =>
      intro i hi ν hν hzz
      obtain ⟨hI1, hR1, hF1⟩ := hν
      have ho1 : OR ν l := ho0.moved (hF1.2.1 2 (by omega) (by omega) (by omega)) (hF1.1 36 (by omega) (by omega) (by omega) (by omega) (by omega))
      have hl7 := ho1.2.1
      obtain ⟨sb1, sb2, sb3, sb4⟩ := st_bounds (sp := sp) (Q := Q) hvb hl i hi
      refine g_iload_n (pc := 24) dX0_run_24 rfl ?_
      refine g_aload_n (pc := 25) dX0_run_25 rfl ?_
      refine v_geti (pc := 26) fl_X0_38 dX0_run_26 (by first | assumption | rfl) rfl ho1.1 ?_
      refine g_icmp_ge (pc := 29) (tgt := 43) dX0_run_29 (by decide) (fun c_29 => ?_) (fun c_29 => ?_)
      · have c29 := nI_le' (by omega) (by omega) c_29
        obtain rfl : i = l.length := by omega
        refine g_return (pc := 43) (x := ()) dX0_run_43 rfl rfl ⟨_, rfl, ?_⟩
        exact ⟨hI1, hR1, hFR.trans hF1⟩
      · have c29 := nI_gt' (by omega) (by omega) c_29
        obtain ⟨hpn, hget⟩ := hl.at c29
        refine g_aload_n (pc := 32) dX0_run_32 rfl ?_
        refine g_iload_n (pc := 33) dX0_run_33 rfl ?_
        refine a_cv1v (pc := 34) (c_X0_ironOne sb v Q ν hI1 i (l.getD i 0) (stM v Q sp l i) (stD v Q sp l i) (stF v Q sp l i) (by omega) hpn (ho1.2.2 i _ hget) (fun q hq => ⟨(hR1 i (Nat.le_refl _)).1 q hq, sb1 q hq⟩) (hR1 i (Nat.le_refl _)).2 (by omega) sb4 (by
          rw [stD_eq]
          rw [hF1.2.1 3 (by omega) (by omega) (by omega)]
          rcases hsp0 with ⟨h1, h2⟩ | ⟨h1, h2⟩
          · exact Or.inl ⟨h1, if_neg (by omega)⟩
          · refine Or.inr ⟨sp, h1, h2, ?_⟩
            by_cases h3 : sp ≤ i
            · exact Or.inl ⟨h3, by rw [if_pos h3]; exact (hR1 sp h3).2⟩
            · exact Or.inr ⟨by omega, if_neg h3⟩)) m_X0_ironOne ml_X0_75 (by omega) (by first | assumption | rfl) rfl rfl (Nat.le_of_ble_eq_true rfl) dX0_run_34 (fun x_34 μ_34 h_34 => ?_)
        skip
        refine a_iinc2 (pc := 37) dX0_run_37 (inc1 i) (by decide) rfl ?_
        refine g_goto (pc := 40) (tgt := 24) dX0_run_40 (by decide) ?_
        obtain ⟨g1, g2, g3⟩ := one_step hI1 hR1 h_34 (by omega)
        exact ih (l.length - (i + 1)) (by omega) (i + 1) (by omega) _ ⟨g1, g2, hF1.trans g3⟩ rfl
  exact lp24 _ 0 (Nat.zero_le _) ν0 ⟨hI0, fun j hj => (show j = 0 by omega) ▸ hR0, fun _ _ _ _ _ _ => rfl, fun _ _ _ _ => rfl, rfl⟩ rfl
theorem c_X0_runFrom (sb : Nat) (v : View) (Q : Nat → List Nat) (μ : Mem) (hI : IW μ sb v Q) (sp : Nat) (hsp0 : SPR μ sp) (l : List Nat) (ho0 : OR μ l) (hl : LO l (v 0 3)) (fr : Nat) (hfr : fr ≤ l.length) (hR : ∀ j, j ≤ fr → RS μ v Q sp l j) : CA eV yX0_runFrom cX0_runFrom 3 none 4 [.ref 35, .int (nI fr)] μ (fun _ μ1 => IW μ1 sb v Q ∧ (∀ j, j ≤ l.length → RS μ1 v Q sp l j) ∧ FR μ μ1) := by
  have hvb := hI.2.2.1.vb
  have hl70 := ho0.2.1
  refine CT.of false (by decide) (by decide) (L := [some (.ref 35), some (.int (nI fr)), none]) rfl (Nat.le_of_ble_eq_true rfl) ?_
  refine g_iconst (pc := 0) (v := (nI 0)) dX0_runFrom_0 (by decide) ?_
  refine g_iload_n (pc := 1) dX0_runFrom_1 rfl ?_
  refine v_max (pc := 2) ml_X0_78 (by omega) (Nat.le_of_ble_eq_true rfl) dX0_runFrom_2 (show (if nI 0 < nI fr then nI fr else nI 0) = nI fr by rw [nI_max (by omega) (by omega), Nat.max_eq_right (by omega)]) ?_
  refine a_ist2 (pc := 5) dX0_runFrom_5 (by decide) rfl ?_
  have lp6 : ∀ (zz : Nat) (i : Nat) (hi : i ≤ l.length) (ν : Mem) (hν : IW ν sb v Q ∧ (∀ j, j ≤ i → RS ν v Q sp l j) ∧ FR μ ν), l.length - i = zz → WG eV yX0_runFrom.cls cX0_runFrom 3 none false (fun _ _ => True) 4 (mpost (fun _ μ1 => IW μ1 sb v Q ∧ (∀ j, j ≤ l.length → RS μ1 v Q sp l j) ∧ FR μ μ1)) 0 0 6 [some (.ref 35), some (.int (nI fr)), some (.int (nI i))] [] (mk ν) := by
    intro zz
    induction zz using Nat.strongRecOn with
    | ind zz ih =>
      intro i hi ν hν hzz
      obtain ⟨hI1, hR1, hF1⟩ := hν
      have ho1 : OR ν l := ho0.moved (hF1.2.1 2 (by omega) (by omega) (by omega)) (hF1.1 36 (by omega) (by omega) (by omega) (by omega) (by omega))
      have hl7 := ho1.2.1
      obtain ⟨sb1, sb2, sb3, sb4⟩ := st_bounds (sp := sp) (Q := Q) hvb hl i hi
      refine g_iload_n (pc := 6) dX0_runFrom_6 rfl ?_
      refine g_aload_n (pc := 7) dX0_runFrom_7 rfl ?_
      refine v_geti (pc := 8) fl_X0_38 dX0_runFrom_8 (by first | assumption | rfl) rfl ho1.1 ?_
      refine g_icmp_ge (pc := 11) (tgt := 25) dX0_runFrom_11 (by decide) (fun c_11 => ?_) (fun c_11 => ?_)
      · have c11 := nI_le' (by omega) (by omega) c_11
        obtain rfl : i = l.length := by omega
        refine g_return (pc := 25) (x := ()) dX0_runFrom_25 rfl rfl ⟨_, rfl, ?_⟩
        exact ⟨hI1, hR1, hF1⟩
      · have c11 := nI_gt' (by omega) (by omega) c_11
        obtain ⟨hpn, hget⟩ := hl.at c11
        refine g_aload_n (pc := 14) dX0_runFrom_14 rfl ?_
        refine g_iload_n (pc := 15) dX0_runFrom_15 rfl ?_
        refine a_cv1v (pc := 16) (c_X0_ironOne sb v Q ν hI1 i (l.getD i 0) (stM v Q sp l i) (stD v Q sp l i) (stF v Q sp l i) (by omega) hpn (ho1.2.2 i _ hget) (fun q hq => ⟨(hR1 i (Nat.le_refl _)).1 q hq, sb1 q hq⟩) (hR1 i (Nat.le_refl _)).2 (by omega) sb4 (by
          rw [stD_eq]
          rw [hF1.2.1 3 (by omega) (by omega) (by omega)]
          rcases hsp0 with ⟨h1, h2⟩ | ⟨h1, h2⟩
          · exact Or.inl ⟨h1, if_neg (by omega)⟩
          · refine Or.inr ⟨sp, h1, h2, ?_⟩
            by_cases h3 : sp ≤ i
            · exact Or.inl ⟨h3, by rw [if_pos h3]; exact (hR1 sp h3).2⟩
            · exact Or.inr ⟨by omega, if_neg h3⟩)) m_X0_ironOne ml_X0_75 (by omega) (by first | assumption | rfl) rfl rfl (Nat.le_of_ble_eq_true rfl) dX0_runFrom_16 (fun x_16 μ_16 h_16 => ?_)
        skip
        refine a_iinc2 (pc := 19) dX0_runFrom_19 (inc1 i) (by decide) rfl ?_
        refine g_goto (pc := 22) (tgt := 6) dX0_runFrom_22 (by decide) ?_
        obtain ⟨g1, g2, g3⟩ := one_step hI1 hR1 h_16 (by omega)
        exact ih (l.length - (i + 1)) (by omega) (i + 1) (by omega) _ ⟨g1, g2, hF1.trans g3⟩ rfl
  exact lp6 _ fr hfr μ ⟨hI, hR, fun _ _ _ _ _ _ => rfl, fun _ _ _ _ => rfl, rfl⟩ rfl
