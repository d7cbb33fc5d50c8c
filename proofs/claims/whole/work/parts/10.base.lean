/-! ===== the abstract machine: cells by their number, references as numbers of cells ===== -/
/-- the tables' words that every contract carries: those that a call hands on -/
def q_tbl : List Cond := lw_tbl.filter goodWord
abbrev AE : Type := (Nat × vp_A) ⊕ (Nat × List Value)
def q_v (ad : Nat → Nat) : Value → Value := fun v => match v with
  | .ref k => .ref (ad k)
  | w => w
theorem q_v_cat (ad : Nat → Nat) (v : Value) : (q_v ad v).category = v.category := by cases v <;> rfl
def q_a (ad : Nat → Nat) : vp_A → vp_A := fun a => match a with
  | (n, .inr (.inr (.inr (.inr g)))) => (n, .inr (.inr (.inr (.inr (fun i => (g i).map ad)))))
  | w => w
def q_e (cT : Nat → ClassId) (ad : Nat → Nat) : AE → va_E := fun e => match e with
  | .inl (t, x) => .inl (cT t, q_a ad x)
  | .inr (ci, fs) => .inr (ci, fs.map (q_v ad))
/-- the heap holds the cells M, one behind the other from B on, and ends with them -/
def q_W (D : va_G) (cT : Nat → ClassId) (ad : Nat → Nat) (B : Nat) (M : List AE) (H : Heap) : Prop :=
  H.size = B + M.length ∧ M.length ≤ 100000 ∧ ∀ (k : Nat) (e : AE), M[k]? = some e → va_at D vwCl (B + k, q_e cT ad e) H
def q_tys (cT : Nat → ClassId) : List (ClassId × FieldType) := [(cT 0, .int), (cT 1, .boolean), (cT 2, .array .int)]
def q_AD (ad : Nat → Nat) (B : Nat) : Prop := ∀ k, k < 100000 → ad k = B + k
/-! the static arrays and the texts -/
def s_F : Nat → String × String := fun i => match i with
  | 0 => ("CreasedAgain", "MOST")
  | 1 => ("CreasedAgain$Kinds", "OVER")
  | 2 => ("CreasedAgain$Texts", "FIRST")
  | 3 => ("CreasedAgain$Texts", "FIRST_START")
  | _ => ("CreasedAgain$Texts", "MOST_TOLD")
def s_L : Nat → List Int32 := fun i => match i with
  | 0 => [9, 99, 9, 99, 127, 5]
  | 1 => [-1, 0, 0, 1, 2, 0]
  | 2 => [9, 10002, 10013, 10019, 2, 10019, 4, 10019]
  | 3 => [0, 4, 6]
  | _ => [99, 30, 99]
def s_N (i : Nat) : Nat := (s_L i).length
def s_V (i j : Nat) : Int32 := (s_L i).getD j 0
def k_idx : Nat → Nat := fun i => [90, 96, 98, 100, 102, 104, 106, 108, 110, 112, 114, 116].getD i 0
def k_txt : Nat → String := fun i => ["minute", "damp", "heat", "number", "crease", "part", "irons", "takes", "crumples", "or", "and", "not"].getD i ""
def k_byt : List (List Int32) := [[109, 105, 110, 117, 116, 101], [100, 97, 109, 112], [104, 101, 97, 116], [110, 117, 109, 98, 101, 114], [99, 114, 101, 97, 115, 101], [112, 97, 114, 116], [105, 114, 111, 110, 115], [116, 97, 107, 101, 115], [99, 114, 117, 109, 112, 108, 101, 115], [111, 114], [97, 110, 100], [110, 111, 116]]
def k_len : List Nat := [6, 4, 4, 6, 6, 4, 5, 5, 8, 2, 3, 3]
def q_A (B : Nat) : Nat → Prop := fun q => B ≤ q
def q_S (ad : Nat → Nat) (B : Nat) (U : State) (H : Heap) : Prop :=
  (∀ i, i < 5 → va_Z (s_F i).1 (s_F i).2 "[I" (.ref (ad (100000 + i))) (q_A B) U H ∧ va_T .int (ad (100000 + i)) (s_N i) (fun j => .int (s_V i j)) (q_A B) U H) ∧
  vk_S 12 k_len k_byt (fun i => ad (100010 + i)) (fun i => ad (100030 + i)) (q_A B) U H ∧
  (∀ i, i < 12 → vk_R RX2 (k_idx i) (k_txt i) (ad (100010 + i)) U) ∧
  va_Z "java/lang/String" "COMPACT_STRINGS" "Z" (.int 1) (q_A B) U H ∧
  (va_Z "jdk/internal/util/Preconditions" "SIOOBE_FORMATTER" "Ljava/util/function/BiFunction;" .null (q_A B) U H ∨ va_Z "jdk/internal/util/Preconditions" "SIOOBE_FORMATTER" "Ljava/util/function/BiFunction;" (.ref (ad 100098)) (q_A B) U H) ∧
  va_Nw (.fieldLinkNest RX3 73 "CreasedAgain" "MOST" "[I" "CreasedAgain") U
theorem q_S.go {ad : Nat → Nat} {B : Nat} {s U : State} {H : Heap} {locs : List Loc} (h : q_S ad B s s.heap) (hW : s.WarmedH U.vm) (hS : va_S (q_A B) s.heap H locs) : q_S ad B U H := by
  obtain ⟨h1, h2, h3, h4, h5, h6⟩ := h
  have hal := hW.alike
  refine ⟨fun i hi => ⟨((h1 i hi).1.moved hal).kept hS.2.1, ((h1 i hi).2.moved hal).kept hS.2.1⟩, (h2.moved hal).kept hS.2.1, fun i hi => (h3 i hi).warm hW, (h4.moved hal).kept hS.2.1, h5.imp (fun h => (h.moved hal).kept hS.2.1) (fun h => (h.moved hal).kept hS.2.1), va_Nw.warmF hW h6⟩
theorem q_S.calls {ad : Nat → Nat} {B : Nat} {U : State} {H : Heap} {g : JFrame} {mk : MethodId} {a : Array Value} (h : q_S ad B U H) : q_S ad B (U.calling g mk a) H := by
  obtain ⟨h1, h2, h3, h4, h5, h6⟩ := h
  have hal : U.vm.Alike (U.calling g mk a).vm := Vm.Alike.refl U.vm
  refine ⟨fun i hi => ⟨((h1 i hi).1.moved hal), ((h1 i hi).2.moved hal)⟩, (h2.moved hal), fun i hi => (h3 i hi).same rfl, (h4.moved hal), h5.imp (fun h => h.moved hal) (fun h => h.moved hal), va_tabs (A := #[]) (u := U) rfl rfl h6⟩
/-! locals -/
def q_l (ad : Nat → Nat) : Nat → List (Option Value) → List (Nat × Value)
  | _, [] => []
  | i, none :: r => q_l ad (i + 1) r
  | i, some v :: r => (i, q_v ad v) :: q_l ad (i + 1) r
theorem q_l_in {ad : Nat → Nat} {L : List (Option Value)} {i : Nat} {q : Nat × Value} : q ∈ q_l ad i L ↔ ∃ (j : Nat) (v : Value), L[j]? = some (some v) ∧ q = (i + j, q_v ad v) := by
  induction L generalizing i with
  | nil => simp [q_l]
  | cons x r ih =>
    cases x with
    | none =>
      rw [q_l, ih]
      constructor
      · rintro ⟨j, v, h, rfl⟩
        exact ⟨j + 1, v, by simpa using h, by rw [show i + 1 + j = i + (j + 1) by omega]⟩
      · rintro ⟨j, v, h, rfl⟩
        cases j with
        | zero => simp at h
        | succ j => exact ⟨j, v, by simpa using h, by rw [show i + 1 + j = i + (j + 1) by omega]⟩
    | some w =>
      rw [q_l, List.mem_cons, ih]
      constructor
      · rintro (rfl | ⟨j, v, h, rfl⟩)
        · exact ⟨0, w, by simp, rfl⟩
        · exact ⟨j + 1, v, by simpa using h, by rw [show i + 1 + j = i + (j + 1) by omega]⟩
      · rintro ⟨j, v, h, rfl⟩
        cases j with
        | zero =>
          have : w = v := by simpa using h
          subst this
          exact Or.inl rfl
        | succ j => exact Or.inr ⟨j, v, by simpa using h, by rw [show i + 1 + j = i + (j + 1) by omega]⟩
theorem q_l_at {ad : Nat → Nat} {L : List (Option Value)} {ls : Array Slot} {nL j : Nat} {v : Value} (h : lv_has ls nL (q_l ad 0 L)) (hj : L[j]? = some (some v)) : ls[j]? = some (.val (q_v ad v)) :=
  h.2.2 (j, q_v ad v) (q_l_in.mpr ⟨j, v, hj, by rw [Nat.zero_add]⟩)
def q_nl (L : List (Option Value)) : Nat → Bool
  | 0 => true
  | i + 1 => match L[i]? with
    | some (some v) => v.category == 1
    | _ => true
theorem q_l_set1 {ad : Nat → Nat} {L : List (Option Value)} {ls' : Array Slot} {nL i : Nat} {v : Value} (hn : q_nl L i = true)
    (h : lv_has ls' nL ((i, q_v ad v) :: (q_l ad 0 L).filter (fun q => !(q.1 == i) && !(q.1 + 1 == i && q.2.category == 2)))) : lv_has ls' nL (q_l ad 0 (L.set i (some v))) := by
  refine ⟨h.1, h.2.1, fun q hq => ?_⟩
  obtain ⟨j, w, hj, rfl⟩ := q_l_in.mp hq
  rw [Nat.zero_add]
  rw [List.getElem?_set] at hj
  by_cases e : i = j
  · subst e
    rw [if_pos rfl] at hj
    split at hj
    · cases hj
      exact h.2.2 (i, q_v ad v) List.mem_cons_self
    · cases hj
  · rw [if_neg e] at hj
    refine h.2.2 (j, q_v ad w) (List.mem_cons_of_mem _ (List.mem_filter.mpr ⟨q_l_in.mpr ⟨j, w, hj, by rw [Nat.zero_add]⟩, ?_⟩))
    have e' : ¬ j = i := fun q => e q.symm
    simp only [Bool.and_eq_true, Bool.not_eq_true', beq_eq_false_iff_ne, ne_eq, e', not_false_eq_true, true_and]
    by_cases e2 : j + 1 = i
    · subst e2
      simp only [q_nl, hj] at hn
      simp only [q_v_cat]
      have : w.category = 1 := by simpa using hn
      simp [this]
    · simp [e2]
theorem q_l_set2 {ad : Nat → Nat} {L : List (Option Value)} {ls' : Array Slot} {nL i : Nat} {v : Value} (hn : q_nl L i = true)
    (h : lv_has ls' nL ((i, q_v ad v) :: (q_l ad 0 L).filter (fun q => !(q.1 == i) && (!(q.1 == i + 1) && !(q.1 + 1 == i && q.2.category == 2))))) : lv_has ls' nL (q_l ad 0 ((L.set i (some v)).set (i + 1) none)) := by
  refine ⟨h.1, h.2.1, fun q hq => ?_⟩
  obtain ⟨j, w, hj, rfl⟩ := q_l_in.mp hq
  rw [Nat.zero_add]
  rw [List.getElem?_set] at hj
  by_cases e3 : i + 1 = j
  · rw [if_pos e3] at hj
    split at hj <;> cases hj
  · rw [if_neg e3, List.getElem?_set] at hj
    by_cases e : i = j
    · subst e
      rw [if_pos rfl] at hj
      split at hj
      · cases hj
        exact h.2.2 (i, q_v ad v) List.mem_cons_self
      · cases hj
    · rw [if_neg e] at hj
      refine h.2.2 (j, q_v ad w) (List.mem_cons_of_mem _ (List.mem_filter.mpr ⟨q_l_in.mpr ⟨j, w, hj, by rw [Nat.zero_add]⟩, ?_⟩))
      have e' : ¬ j = i := fun q => e q.symm
      have e3' : ¬ j = i + 1 := fun q => e3 q.symm
      simp only [Bool.and_eq_true, Bool.not_eq_true', beq_eq_false_iff_ne, ne_eq, e', e3', not_false_eq_true, true_and]
      by_cases e2 : j + 1 = i
      · subst e2
        simp only [q_nl, hj] at hn
        simp only [q_v_cat]
        have : w.category = 1 := by simpa using hn
        simp [this]
      · simp [e2]
/-- the locals with which a method begins -/
def q_args : List Value → List (Option Value)
  | [] => []
  | v :: r => if v.category = 2 then some v :: none :: q_args r else some v :: q_args r
theorem q_args_l (ad : Nat → Nat) (vs : List Value) : ∀ (i : Nat) (n : Nat), q_l ad i (q_args vs ++ List.replicate n none) = lv_args i (vs.map (q_v ad)) := by
  induction vs with
  | nil =>
    intro i n
    show q_l ad i ([] ++ List.replicate n none) = []
    rw [List.nil_append]
    induction n generalizing i with
    | zero => rfl
    | succ n ih => rw [List.replicate_succ, q_l, ih]
  | cons v r ih =>
    intro i n
    by_cases h : v.category = 2
    · rw [q_args, if_pos h]
      show (i, q_v ad v) :: q_l ad (i + 1 + 1) (q_args r ++ List.replicate n none) = (i, q_v ad v) :: lv_args (if (q_v ad v).category = 2 then i + 2 else i + 1) (r.map (q_v ad))
      rw [q_v_cat, if_pos h, ih]
    · rw [q_args, if_neg h]
      show (i, q_v ad v) :: q_l ad (i + 1) (q_args r ++ List.replicate n none) = (i, q_v ad v) :: lv_args (if (q_v ad v).category = 2 then i + 2 else i + 1) (r.map (q_v ad))
      rw [q_v_cat, if_neg h, ih]
