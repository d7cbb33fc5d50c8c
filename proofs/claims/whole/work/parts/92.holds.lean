/-! ===== what holds of mu0 ===== -/
def v0 : View := fun a p => match a, p with
  | 0, 0 => 5
  | 0, 1 => 40
  | _, _ => 0
theorem mu0_sv {sb : Nat} (h : SB sb) : SV mu0 sb v0 := by
  rcases h with rfl | rfl | rfl <;> exact ⟨⟨by decide +kernel, by decide⟩, ⟨by decide +kernel, by decide⟩, ⟨by decide +kernel, by decide⟩, ⟨by decide +kernel, by decide⟩, fun p hp => absurd hp (Nat.not_lt_zero p)⟩
theorem CodeOK.of {μ : Mem} {t e s0 : Nat} {cs : List Nat} (h1 : μ (25 + t) e = nI s0) (h2 : s0 + cs.length < 160) (h3 : ∀ j, j < cs.length → μ (18 + t) (s0 + j) = nI (cs.getD j 0) ∧ cs.getD j 0 ≤ 10018) (h4 : μ (18 + t) (s0 + cs.length) = nI 10019) : CodeOK μ t e cs :=
  ⟨s0, h1, h2, fun j c hj => by
    have hl := (List.getElem?_eq_some_iff.mp hj).1
    have hg : cs.getD j 0 = c := by
      rw [List.getD_eq_getElem?_getD, hj]
      rfl
    rw [← hg]
    exact h3 j hl, h4⟩
theorem mu0_code {e : Nat} (he : e < 3) : CodeOK mu0 0 e (P0 e) := by
  match e, he with
  | 0, _ => exact CodeOK.of (s0 := 0) (by decide +kernel) (by decide) (by decide +kernel) (by decide +kernel)
  | 1, _ => exact CodeOK.of (s0 := 4) (by decide +kernel) (by decide) (by decide +kernel) (by decide +kernel)
  | 2, _ => exact CodeOK.of (s0 := 6) (by decide +kernel) (by decide) (by decide +kernel) (by decide +kernel)
theorem P0_pure {e : Nat} (he : e < 3) : Pure1 (P0 e) := by
  rw [← b0_e he]
  match e, he with
  | 0, _ => exact (rdC_sm (by decide +kernel)).pure
  | 1, _ => exact (rdC_sm (by decide +kernel)).pure
  | 2, _ => exact (rdC_sm (by decide +kernel)).pure
theorem mu0_xw : XW mu0 v0 v0 1 (fun _ => P0) :=
  ⟨mu0_sv (Or.inl rfl), mu0_sv (Or.inr (Or.inl rfl)), ⟨by decide +kernel, by decide, by decide⟩, fun t ht e he => by
    rw [show t = 0 by omega]
    exact ⟨mu0_code he, P0_pure he⟩, by decide, by decide, by decide +kernel, by decide +kernel⟩
theorem mu0_tp : TP mu0 0 (fun _ => 0) := ⟨by decide +kernel, by decide, fun j hj => absurd hj (Nat.not_lt_zero j)⟩
theorem mu0_za : ZA mu0 (fun _ => -1) (fun _ => 0) (fun _ _ => 0) :=
  ⟨fun s hs => by
    match s, hs with
    | 0, _ => exact ⟨by decide +kernel, by decide +kernel, by decide⟩
    | 1, _ => exact ⟨by decide +kernel, by decide +kernel, by decide⟩
    | 2, _ => exact ⟨by decide +kernel, by decide +kernel, by decide⟩
    | 3, _ => exact ⟨by decide +kernel, by decide +kernel, by decide⟩, fun _ _ j hj => absurd hj (Nat.not_lt_zero j)⟩
theorem mu0_mv : MVw mu0 v0 := ⟨⟨by decide +kernel, by decide⟩, ⟨by decide +kernel, by decide⟩, ⟨by decide +kernel, by decide⟩, ⟨by decide +kernel, by decide⟩, fun p hp => absurd hp (Nat.not_lt_zero p)⟩
theorem mu0_txa : TXA mu0 1 (fun _ => 40) (fun _ => b0) :=
  ⟨⟨by decide +kernel, by decide, by decide⟩, fun t ht => by
    rw [show t = 0 by omega]
    refine ⟨by decide +kernel, by decide, fun j hj => ⟨?_, Nat.le_of_lt (Nat.lt_of_lt_of_le (b0_lt j) (by decide))⟩, b0_ok⟩
    have h : ∀ j, j < 40 → mu0 58 (160 * 0 + j) = nI (b0 j) := by decide +kernel
    exact h j hj⟩
theorem mu0_mw : MW mu0 v0 1 (fun _ => 40) (fun _ => b0) := ⟨mu0_mv, mu0_txa, by decide⟩
theorem mu0_tpm : TPm mu0 0 (fun _ => 0) := ⟨by decide +kernel, by decide, fun j hj => absurd hj (Nat.not_lt_zero j)⟩
theorem mu0_kwm : KWm mu0 v0 false := ⟨fun _ => by decide +kernel, fun h => by cases h⟩
theorem mu0_zms : ZMs mu0 (fun _ => -1) (fun _ => 0) (fun _ _ => 0) := fun s hs => Or.inl (by
  match s, hs with
  | 0, _ => exact ⟨by decide +kernel, rfl⟩
  | 1, _ => exact ⟨by decide +kernel, rfl⟩
  | 2, _ => exact ⟨by decide +kernel, rfl⟩
  | 3, _ => exact ⟨by decide +kernel, rfl⟩)
theorem mu0_im : mu0 0 8 = 0 := by decide +kernel
