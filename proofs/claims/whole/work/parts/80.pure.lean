/-! ===== pure: the worst first ===== -/
def RW1 (v : View) (a b : Nat) : Prop := wtV v b < wtV v a ∨ (wtV v b = wtV v a ∧ a < b)
theorem ipW_facts (v : View) (l : List Nat) (p : Nat) : ∀ k, (∀ j, ipW v l p k ≤ j → j < k → wtV v (l.getD j 0) < wtV v p) ∧ (0 < ipW v l p k → ¬ wtV v (l.getD (ipW v l p k - 1) 0) < wtV v p)
  | 0 => ⟨fun j h1 h2 => by omega, fun h => by
    rw [ipW] at h
    omega⟩
  | k + 1 => by
    obtain ⟨h1, h2⟩ := ipW_facts v l p k
    by_cases hc : wtV v (l.getD k 0) < wtV v p
    · have e : ipW v l p (k + 1) = ipW v l p k := if_pos hc
      rw [e]
      refine ⟨fun j h3 h4 => ?_, h2⟩
      rcases Nat.lt_or_ge j k with h5 | h5
      · exact h1 j h3 h5
      · obtain rfl : j = k := by omega
        exact hc
    · have e : ipW v l p (k + 1) = k + 1 := if_neg hc
      rw [e]
      exact ⟨fun j h3 h4 => by omega, fun _ => hc⟩
theorem ins_getD {l : List Nat} {p k j : Nat} (hk : k ≤ l.length) : (l.take k ++ p :: l.drop k).getD j 0 = if j < k then l.getD j 0 else if j = k then p else l.getD (j - 1) 0 := by
  rw [List.getD_eq_getElem?_getD, ins_at hk]
  split
  · rw [List.getD_eq_getElem?_getD]
  · split
    · rfl
    · rw [List.getD_eq_getElem?_getD]
theorem wfL_at (v : View) (n j : Nat) : (wfL v (n + 1)).getD j 0 = if j < ipW v (wfL v n) n n then (wfL v n).getD j 0 else if j = ipW v (wfL v n) n n then n else (wfL v n).getD (j - 1) 0 := by
  have hl := wfL_len v n
  show (insW v (wfL v n) n).getD j 0 = _
  unfold insW
  rw [hl]
  exact ins_getD (by rw [hl]; exact ipW_le _ _ _ _)
/-- sorted, all below n, each -/
theorem wfL_facts (v : View) : ∀ n, (∀ i j, i < j → j < n → RW1 v ((wfL v n).getD i 0) ((wfL v n).getD j 0)) ∧ (∀ j, j < n → (wfL v n).getD j 0 < n) ∧ ∀ p, p < n → ∃ j, j < n ∧ (wfL v n).getD j 0 = p
  | 0 => ⟨fun i j h1 h2 => by omega, fun j h => by omega, fun p h => by omega⟩
  | n + 1 => by
    obtain ⟨h1, h2, h3⟩ := wfL_facts v n
    obtain ⟨i1, i2⟩ := ipW_facts v (wfL v n) n n
    have hi := ipW_le v (wfL v n) n n
    have hat := wfL_at v n
    generalize ipW v (wfL v n) n n = q at i1 i2 hi hat
    have hge : ∀ a, a < q → ¬ wtV v ((wfL v n).getD a 0) < wtV v n := fun a ha => by
      have h4 := i2 (by omega)
      by_cases e : a = q - 1
      · rw [e]
        exact h4
      · have h5 := h1 a (q - 1) (by omega) (by omega)
        unfold RW1 at h5
        omega
    refine ⟨fun i j hij hj => ?_, fun j hj => ?_, fun p hp => ?_⟩
    · rw [hat i, hat j]
      by_cases c1 : j < q
      · rw [if_pos (by omega), if_pos c1]
        exact h1 i j hij (by omega)
      · rw [if_neg c1]
        by_cases c2 : j = q
        · rw [if_pos (by omega), if_pos c2]
          have h6 := hge i (by omega)
          have h7 := h2 i (by omega)
          unfold RW1
          omega
        · rw [if_neg c2]
          by_cases c3 : i < q
          · rw [if_pos c3]
            exact h1 i (j - 1) (by omega) (by omega)
          · rw [if_neg c3]
            by_cases c4 : i = q
            · rw [if_pos c4]
              exact Or.inl (i1 (j - 1) (by omega) (by omega))
            · rw [if_neg c4]
              exact h1 (i - 1) (j - 1) (by omega) (by omega)
    · rw [hat j]
      split
      · have := h2 j (by omega)
        omega
      · split
        · omega
        · have := h2 (j - 1) (by omega)
          omega
    · by_cases e : p = n
      · exact ⟨q, by omega, by rw [hat q, if_neg (by omega), if_pos rfl, e]⟩
      · obtain ⟨j, hj, hjp⟩ := h3 p (by omega)
        by_cases c : j < q
        · exact ⟨j, by omega, by rw [hat j, if_pos c, hjp]⟩
        · exact ⟨j + 1, by omega, by rw [hat (j + 1), if_neg (by omega), if_neg (by omega), Nat.add_sub_cancel, hjp]⟩
theorem bsP_char {v : View} {l : List Nat} {n x : Nat} (hn : n ≤ 7) (hx : x < n) (hxl : x ∉ l) (h : ∀ p, p < n → p ∉ l → p ≠ x → RW1 v x p) : ∀ m, m ≤ n → x < m → bsP v l m = x
  | 0, _, h0 => by omega
  | m + 1, hm, hxm => by
    rw [bsP]
    by_cases e : x = m
    · subst e
      rw [if_pos]
      refine ⟨hxl, ?_⟩
      rcases bsP_in v l x (by omega) with h1 | ⟨h1, h2⟩
      · exact Or.inl h1
      · have h3 := h _ (by omega) h2 (by omega)
        unfold RW1 at h3
        exact Or.inr (by omega)
    · have ih := bsP_char hn hx hxl h m (by omega) (by omega)
      rw [ih, if_neg]
      intro ⟨h1, h2⟩
      have h3 := h m (by omega) h1 (fun q => e q.symm)
      unfold RW1 at h3
      omega
def lsT (l : List Nat) : Nat → List Nat
  | 0 => []
  | k + 1 => lsT l k ++ [l.getD k 0]
theorem lsT_mem {l : List Nat} {x : Nat} : ∀ {k : Nat}, x ∈ lsT l k ↔ ∃ j, j < k ∧ l.getD j 0 = x
  | 0 => ⟨fun h => absurd h (by simp [lsT]), fun ⟨j, h, _⟩ => by omega⟩
  | k + 1 => by
    rw [lsT, List.mem_append, lsT_mem (k := k), List.mem_singleton]
    constructor
    · intro h
      rcases h with ⟨j, h1, h2⟩ | h
      · exact ⟨j, by omega, h2⟩
      · exact ⟨k, by omega, h.symm⟩
    · intro ⟨j, h1, h2⟩
      rcases Nat.lt_or_ge j k with h3 | h3
      · exact Or.inl ⟨j, h3, h2⟩
      · obtain rfl : j = k := by omega
        exact Or.inr h2.symm
theorem lsT_len (l : List Nat) : ∀ k, (lsT l k).length = k
  | 0 => rfl
  | k + 1 => by
    rw [lsT, List.length_append, lsT_len l k]
    rfl
theorem lsT_at (l : List Nat) (j : Nat) : ∀ k, (lsT l k)[j]? = if j < k then some (l.getD j 0) else none
  | 0 => by simp [lsT]
  | k + 1 => by
    rw [lsT, List.getElem?_append, lsT_len, lsT_at l j k]
    by_cases h : j < k
    · rw [if_pos h, if_pos h, if_pos (by omega)]
    · rw [if_neg h, List.getElem?_singleton]
      by_cases h1 : j = k
      · rw [if_pos (by omega), if_pos (by omega), h1]
      · rw [if_neg (by omega), if_neg (by omega)]
theorem lsT_full (l : List Nat) : lsT l l.length = l := by
  apply List.ext_getElem?
  intro j
  rw [lsT_at]
  by_cases h : j < l.length
  · rw [if_pos h, get_of h]
  · rw [if_neg h]
    cases hc : l[j]? with
    | none => rfl
    | some x =>
      have := (List.getElem?_eq_some_iff.mp hc).1
      omega
theorem wsL_lsT {v : View} (hn : v 0 3 ≤ 7) : ∀ k, k ≤ v 0 3 → wsL v k = lsT (wfL v (v 0 3)) k
  | 0, _ => rfl
  | k + 1, hk => by
    obtain ⟨h1, h2, h3⟩ := wfL_facts v (v 0 3)
    rw [wsL, wsL_lsT hn k (by omega), lsT]
    have hirr : ∀ a, ¬ RW1 v a a := fun a h => by
      unfold RW1 at h
      omega
    rw [bsP_char hn (h2 k (by omega)) (fun hm => by
      obtain ⟨j, hj, e⟩ := lsT_mem.mp hm
      have h4 := h1 j k hj (by omega)
      rw [e] at h4
      exact hirr _ h4) (fun p hp hpl hpx => by
      obtain ⟨j, hj, e⟩ := h3 p hp
      have hjk : k < j := by
        rcases Nat.lt_trichotomy j k with h5 | h5 | h5
        · exact absurd (lsT_mem.mpr ⟨j, h5, e⟩) hpl
        · rw [h5] at e
          exact absurd e.symm hpx
        · exact h5
      rw [← e]
      exact h1 k j hjk hj) (v 0 3) (Nat.le_refl _) (h2 k (by omega))]
/-- the model's way to find the worst first is the class's -/
theorem wsL_eq {v : View} (hn : v 0 3 ≤ 7) : wsL v (v 0 3) = wfL v (v 0 3) := by
  have hl := wfL_len v (v 0 3)
  have h := lsT_full (wfL v (v 0 3))
  rw [hl] at h
  rw [wsL_lsT hn _ (Nat.le_refl _)]
  exact h
theorem gdM_eq {v : View} {Q : Nat → List Nat} (hn : v 0 3 ≤ 7) (z : Int32) : ∀ i, gdM v Q z i = gdN v Q z i
  | 0 => rfl
  | i + 1 => by
    rw [gdM, gdN, gdM_eq hn z i, show wsL (drW v (z + nI i)) (v 0 3) = wfL (drW v (z + nI i)) (v 0 3) from wsL_eq (v := drW v (z + nI i)) hn]
theorem chanM_eq {v : View} {Q : Nat → List Nat} (hn : v 0 3 ≤ 7) (z n k : Int32) : chanM v Q z n k = chanV v Q z n k := by
  unfold chanM chanV
  rw [gdM_eq hn]
/-! ===== pure: the orders one after the other ===== -/
def pmS (n : Nat) : Nat → List Nat → List (List Nat)
  | 0, l => [l]
  | d + 1, l => (List.range n).foldl (fun T p => if p ∈ l then T else T ++ pmS n d (l ++ [p])) []
theorem pm_fold {v : View} {Q : Nat → List Nat} {n d : Nat} {l : List Nat} (ih : ∀ l S, dfS v Q n d l S = (pmS n d l).foldl (lfS v Q) S) : ∀ (r : List Nat) (S : Option (Nat × Nat)) (T : List (List Nat)), r.foldl (fun U p => if p ∈ l then U else dfS v Q n d (l ++ [p]) U) (T.foldl (lfS v Q) S) = (r.foldl (fun U p => if p ∈ l then U else U ++ pmS n d (l ++ [p])) T).foldl (lfS v Q) S
  | [], _, _ => rfl
  | p :: r, S, T => by
    rw [List.foldl_cons, List.foldl_cons]
    by_cases h : p ∈ l
    · rw [if_pos h, if_pos h]
      exact pm_fold ih r S T
    · rw [if_neg h, if_neg h, ih, ← List.foldl_append]
      exact pm_fold ih r S _
theorem dfS_pm (v : View) (Q : Nat → List Nat) (n : Nat) : ∀ d l S, dfS v Q n d l S = (pmS n d l).foldl (lfS v Q) S
  | 0, _, _ => rfl
  | d + 1, l, S => pm_fold (dfS_pm v Q n d) (List.range n) S []
def itN : Nat → List Nat → List (List Nat)
  | 0, _ => []
  | k + 1, l => match nxtL l with
    | none => []
    | some q => q.2 :: itN k q.2
def stpB (v : View) (Q : Nat → List Nat) (S : Int32 × Nat) (l : List Nat) : Int32 × Nat := if CR v Q 9 l < S.2 then (nI (dg l), CR v Q 9 l) else S
theorem bsS_it (v : View) (Q : Nat → List Nat) : ∀ k l S, bsS v Q k l S = (itN k l).foldl (stpB v Q) S
  | 0, _, _ => rfl
  | k + 1, l, S => by
    rw [bsS, itN]
    cases nxtL l with
    | none => rfl
    | some q => exact bsS_it v Q k q.2 _
def nx2 (l : List Nat) : Option (List Nat) := match nxtL l with
  | none => none
  | some q => some q.2
def chkL : List (List Nat) → Bool
  | [] => true
  | [x] => nx2 x == none
  | x :: y :: r => (nx2 x == some y) && chkL (y :: r)
theorem itN_chk : ∀ (r : List (List Nat)) (x : List Nat) (k : Nat), chkL (x :: r) = true → r.length ≤ k → itN k x = r
  | [], x, k, h, _ => by
    have h1 : nx2 x = none := by
      rw [chkL] at h
      exact eq_of_beq h
    cases k with
    | zero => rfl
    | succ k =>
      rw [itN]
      unfold nx2 at h1
      cases hc : nxtL x with
      | none => rfl
      | some q =>
        rw [hc] at h1
        exact absurd h1 (by simp)
  | y :: r, x, k, h, hk => by
    rw [chkL, Bool.and_eq_true] at h
    have h1 : nx2 x = some y := eq_of_beq h.1
    cases k with
    | zero => simp at hk
    | succ k =>
      rw [itN]
      unfold nx2 at h1
      cases hc : nxtL x with
      | none =>
        rw [hc] at h1
        exact absurd h1 (by simp)
      | some q =>
        rw [hc] at h1
        have h2 : q.2 = y := Option.some.inj h1
        show q.2 :: itN k q.2 = y :: r
        rw [h2, itN_chk r y k h.2 (by simp at hk; omega)]
theorem fold_eq (v : View) (Q : Nat → List Nat) : ∀ (r : List (List Nat)) (t : Nat × Nat), ∃ t1, r.foldl (lfS v Q) (some t) = some t1 ∧ r.foldl (stpB v Q) (nI t.2, t.1) = (nI t1.2, t1.1)
  | [], t => ⟨t, rfl, rfl⟩
  | l :: r, t => by
    rw [List.foldl_cons, List.foldl_cons]
    by_cases h : CR v Q 9 l < t.1
    · have e1 : lfS v Q (some t) l = some (CR v Q 9 l, dg l) := if_pos h
      have e2 : stpB v Q (nI t.2, t.1) l = (nI (dg l), CR v Q 9 l) := if_pos h
      rw [e1, e2]
      exact fold_eq v Q r _
    · have e1 : lfS v Q (some t) l = some t := if_neg h
      have e2 : stpB v Q (nI t.2, t.1) l = (nI t.2, t.1) := if_neg h
      rw [e1, e2]
      exact fold_eq v Q r t
