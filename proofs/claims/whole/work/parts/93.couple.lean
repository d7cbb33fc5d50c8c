/-! ===== both objects tell of one shirt: the class's world and the model's, coupled ===== -/
def FC (μ μ1 : Mem) : Prop := ∀ c, 56 < c → μ1 c = μ c
def FM (μ μ1 : Mem) : Prop := ∀ c, c < 57 → μ1 c = μ c
/-- the class's side -/
def CX (μ : Mem) (v vk : View) (im : Bool) (tc : Nat) (sz : Nat → Nat) (tb : Nat → Nat → Nat) (tn : Nat) (tp : Nat → Nat) (zs : Nat → Int32) (zn : Nat → Nat) (zi : Nat → Nat → Int32) : Prop :=
  XW μ v vk tc (QM sz tb) ∧ TP μ tn tp ∧ ZA μ zs zn zi ∧ μ 0 8 = if im then nI 1 else nI 0
/-- the model's side -/
def CM (μ : Mem) (v vk : View) (im : Bool) (tc : Nat) (sz : Nat → Nat) (tb : Nat → Nat → Nat) (tn : Nat) (tp : Nat → Nat) (zs : Nat → Int32) (zn : Nat → Nat) (zi : Nat → Nat → Int32) : Prop :=
  MW μ v tc sz tb ∧ TPm μ tn tp ∧ KWm μ vk im ∧ ZMs μ zs zn zi
/-- the shirt that was kept: its parts are the first of those that are there now -/
def CK (v vk : View) : Prop := vk 0 3 ≤ v 0 3 ∧ ∀ p, p < vk 0 3 → v 1 p = vk 1 p
def CPL (μ : Mem) : Prop := ∃ (v vk : View) (im : Bool) (tc : Nat) (sz : Nat → Nat) (tb : Nat → Nat → Nat) (tn : Nat) (tp : Nat → Nat) (zs : Nat → Int32) (zn : Nat → Nat) (zi : Nat → Nat → Int32), CX μ v vk im tc sz tb tn tp zs zn zi ∧ CM μ v vk im tc sz tb tn tp zs zn zi ∧ CK v vk
theorem FC.refl (μ : Mem) : FC μ μ := fun _ _ => rfl
theorem FC.of {μ μ1 : Mem} (h : μ1 = μ) : FC μ μ1 := fun _ _ => by rw [h]
theorem TF.fc {μ μ1 : Mem} (g : TF μ μ1) : FC μ μ1 := fun c hc => g.1 c (by omega)
theorem TN.fc {μ μ1 : Mem} (g : TN μ μ1) : FC μ μ1 := fun c hc => g.1 c (by omega)
theorem TZ.fc {μ μ1 : Mem} (g : TZ μ μ1) : FC μ μ1 := fun c hc => g.1 c (by omega)
theorem XW.mv {μ μ1 : Mem} {v vk : View} {tc : Nat} {P : Nat → Nat → List Nat} (h : XW μ v vk tc P) (g : ∀ k, k < 31 → μ1 k = μ k) (g35 : μ1 35 3 = μ 35 3) (g46 : μ1 46 0 = μ 46 0) : XW μ1 v vk tc P := by
  obtain ⟨h1, h2, ⟨h3, h31, h32⟩, h4, h5, h6, h7, h8⟩ := h
  exact ⟨h1.moved (fun k _ _ => g k (by omega)), h2.moved (fun k _ _ => g k (by omega)), ⟨by rw [g 16 (by omega)]; exact h3, h31, h32⟩, fun t ht e he => ⟨(h4 t ht e he).1.moved (g _ (by omega)) (g _ (by omega)), (h4 t ht e he).2⟩, h5, h6, g35.trans h7, g46.trans h8⟩
section CPLD
variable {μ μ1 : Mem} {v v1 vk vk1 : View} {im : Bool} {tc : Nat} {sz : Nat → Nat} {tb : Nat → Nat → Nat} {tn : Nat} {tp : Nat → Nat} {zs zs1 : Nat → Int32} {zn zn1 : Nat → Nat} {zi zi1 : Nat → Nat → Int32}
theorem CX.fm (h : CX μ v vk im tc sz tb tn tp zs zn zi) (g : FM μ μ1) : CX μ1 v vk im tc sz tb tn tp zs zn zi :=
  ⟨h.1.mv (fun k hk => g k (by omega)) (congrFun (g 35 (by omega)) 3) (congrFun (g 46 (by omega)) 0), h.2.1.moved (g 33 (by omega)) (g 34 (by omega)), h.2.2.1.moved (fun c _ _ => g c (by omega)), (congrFun (g 0 (by omega)) 8).trans h.2.2.2⟩
theorem CX.tf (h : CX μ v vk im tc sz tb tn tp zs zn zi) (g : TF μ μ1) : CX μ1 v vk im tc sz tb tn tp zs zn zi :=
  ⟨h.1.tf g, h.2.1.moved (g.1 33 (by omega)) (g.1 34 (by omega)), h.2.2.1.tf g, (congrFun (g.1 0 (by omega)) 8).trans h.2.2.2⟩
theorem CX.ofTN (h : CX μ v vk im tc sz tb tn tp zs zn zi) (g : TN μ μ1) (g1 : SV μ1 1 v1) (g2 : v1 0 2 < tc) : CX μ1 v1 vk im tc sz tb tn tp zs zn zi :=
  ⟨h.1.tn g g1 g2, h.2.1.moved (g.1 33 (by omega)) (g.1 34 (by omega)), h.2.2.1.moved (fun c _ _ => g.1 c (by omega)), (congrFun (g.1 0 (by omega)) 8).trans h.2.2.2⟩
theorem CX.sv (h : CX μ v vk im tc sz tb tn tp zs zn zi) (g1 : SV μ1 1 v1) (g2 : v1 0 2 < tc) (g : ∀ c, c = 0 ∨ 5 < c → μ1 c = μ c) : CX μ1 v1 vk im tc sz tb tn tp zs zn zi :=
  h.ofTN ⟨fun c hc => g c (by omega), congrFun (g 46 (by omega)) 0, congrFun (g 35 (by omega)) 3⟩ g1 g2
theorem CX.tz (h : CX μ v vk im tc sz tb tn tp zs zn zi) (z : ZA μ1 zs1 zn1 zi1) (g : TZ μ μ1) : CX μ1 v vk im tc sz tb tn tp zs1 zn1 zi1 :=
  ⟨h.1.tz g, h.2.1.moved (g.1 33 (by omega)) (g.1 34 (by omega)), z, (congrFun (g.1 0 (by omega)) 8).trans h.2.2.2⟩
theorem CM.fc (h : CM μ v vk im tc sz tb tn tp zs zn zi) (g : FC μ μ1) : CM μ1 v vk im tc sz tb tn tp zs zn zi :=
  ⟨h.1.moved (fun j _ => congrFun (g 57 (by omega)) j) (fun k _ _ => g k (by omega)), h.2.1.moved (congrFun (g 57 (by omega)) 6) (g 60 (by omega)), h.2.2.1.moved (fun j _ => congrFun (g 57 (by omega)) j) (g 67 (by omega)), h.2.2.2.moved (fun k _ _ => g k (by omega))⟩
theorem CM.mv (h : CM μ v vk im tc sz tb tn tp zs zn zi) (g1 : MVw μ1 v1) (g2 : v1 0 2 < tc) (g : ∀ k, k = 58 ∨ k = 59 ∨ k = 60 ∨ 66 < k → μ1 k = μ k) (g57 : ∀ j, j = 3 ∨ j = 6 ∨ 37 < j → μ1 57 j = μ 57 j) : CM μ1 v1 vk im tc sz tb tn tp zs zn zi :=
  ⟨⟨g1, h.1.2.1.moved (g57 3 (by omega)) (g 58 (by omega)) (g 59 (by omega)), g2⟩, h.2.1.moved (g57 6 (by omega)) (g 60 (by omega)), h.2.2.1.moved (fun j hj => g57 j (by omega)) (g 67 (by omega)), h.2.2.2.moved (fun k _ _ => g k (by omega))⟩
theorem CM.tfm (h : CM μ v vk im tc sz tb tn tp zs zn zi) (g : TFm v μ μ1) : CM μ1 v vk im tc sz tb tn tp zs zn zi :=
  h.mv g.1 h.1.2.2 (fun k hk => g.2.1 k (by omega) (by omega) (by omega) (by omega) (by omega) (by omega) (by omega)) (fun j hj => g.2.2 j (by omega) (by omega) (by omega) (by omega))
theorem CM.sfm (h : CM μ v vk im tc sz tb tn tp zs zn zi) (z : ZMs μ1 zs1 zn1 zi1) (g : SFm μ μ1) : CM μ1 v vk im tc sz tb tn tp zs1 zn1 zi1 :=
  ⟨h.1.moved (fun j _ => congrFun (g 57 (by omega)) j) (fun k _ _ => g k (by omega)), h.2.1.moved (congrFun (g 57 (by omega)) 6) (g 60 (by omega)), h.2.2.1.moved (fun j _ => congrFun (g 57 (by omega)) j) (g 67 (by omega)), z⟩
theorem TFm.fm (g : TFm v μ μ1) : FM μ μ1 := fun c hc => g.2.1 c (by omega) (by omega) (by omega) (by omega) (by omega) (by omega) (by omega)
theorem SFm.fm (g : SFm μ μ1) : FM μ μ1 := fun c hc => g c (by omega)
theorem CK.to (h : CK v vk) (h3 : v 0 3 ≤ v1 0 3) (h1 : ∀ p, p < v 0 3 → v1 1 p = v 1 p) : CK v1 vk :=
  ⟨Nat.le_trans h.1 h3, fun p hp => (h1 p (Nat.lt_of_lt_of_le hp h.1)).trans (h.2 p hp)⟩
theorem CK.rf : CK v v := ⟨Nat.le_refl _, fun _ _ => rfl⟩
/-- behind a call of which only numbers come that nobody keeps -/
theorem CPL.rd (hX : CX μ v vk im tc sz tb tn tp zs zn zi) (hM : CM μ v vk im tc sz tb tn tp zs zn zi) (hK : CK v vk) (g : TFm v μ μ1) : CPL μ1 := ⟨v, vk, im, tc, sz, tb, tn, tp, zs, zn, zi, hX.fm g.fm, hM.tfm g, hK⟩
end CPLD
/-! views -/
theorem vS_le (w p : Nat) : (vS w p).1 ≤ 4 := by
  unfold vS
  repeat (first | omega | split)
  all_goals (first | omega | decide)
theorem setV_k (v : View) {w p x : Nat} (hw : w ≤ 4) : setV v w p x 0 2 = v 0 2 ∧ setV v w p x 0 3 = v 0 3 ∧ ∀ q, setV v w p x 1 q = v 1 q := by
  have h : w = 0 ∨ w = 1 ∨ w = 2 ∨ w = 3 ∨ w = 4 := by omega
  rcases h with rfl | rfl | rfl | rfl | rfl <;> refine ⟨rfl, rfl, fun q => ?_⟩ <;> (unfold setV vset vS; simp)
theorem addV_k (v : View) (k n : Nat) : addV v k n 0 2 = v 0 2 ∧ addV v k n 0 3 = v 0 3 + 1 ∧ (∀ p, p < v 0 3 → addV v k n 1 p = v 1 p) := by
  refine ⟨?_, ?_, fun p hp => ?_⟩
  · unfold addV
    simp
  · unfold addV
    simp
  · unfold addV
    have h : ¬ p = v 0 3 := by omega
    simp [h]
theorem ironV_k (v : View) (f : Nat → Nat) : ironV v f 0 2 = v 0 2 ∧ ironV v f 0 3 = v 0 3 ∧ ∀ p, ironV v f 1 p = v 1 p := ⟨by unfold ironV; simp, by unfold ironV; simp, fun p => by unfold ironV; simp⟩
theorem paS_k (v : View) (g : Nat → Int32) (f : Nat) : ∀ i, (paS v g f i).1 0 2 = v 0 2 ∧ v 0 3 ≤ (paS v g f i).1 0 3 ∧ ∀ p, p < v 0 3 → (paS v g f i).1 1 p = v 1 p
  | 0 => ⟨rfl, Nat.le_refl _, fun _ _ => rfl⟩
  | i + 1 => by
    obtain ⟨h1, h2, h3⟩ := paS_k v g f i
    rw [paS]
    split
    · obtain ⟨a1, a2, a3⟩ := addV_k (paS v g f i).1 (nx (g (f + 2 * i))) (nx (g (f + 2 * i + 1)))
      exact ⟨a1.trans h1, Nat.le_trans h2 (Nat.le_trans (Nat.le_succ _) (Nat.le_of_eq a2.symm)), fun p hp => (a3 p (by omega)).trans (h3 p hp)⟩
    · exact ⟨h1, h2, h3⟩
theorem QM_more (sz : Nat → Nat) (tb : Nat → Nat → Nat) (tc n : Nat) (b : Nat → Nat) : updN (QM sz tb) tc (rdC n b) = QM (updN sz tc n) (updN tb tc b) := by
  funext t
  by_cases h : t = tc
  · subst h
    rw [updN_eq]
    unfold QM
    rw [updN_eq, updN_eq]
  · rw [updN_ne _ _ h]
    unfold QM
    rw [updN_ne _ _ h, updN_ne _ _ h]
