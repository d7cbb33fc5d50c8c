/-! ===== pure: the next order is the next of all orders ===== -/
theorem getD_s (p : Nat) (x : List Nat) (k : Nat) : (p :: x).getD (k + 1) 0 = x.getD k 0 := rfl
theorem pvL_s (p : Nat) (x : List Nat) : ∀ k i, pvL x k = some i → pvL (p :: x) (k + 1) = some (i + 1)
  | 0, i, h => by
    rw [pvL] at h
    exact absurd h (by simp)
  | k + 1, i, h => by
    rw [pvL] at h
    rw [pvL, getD_s, getD_s]
    by_cases hc : x.getD (k + 1) 0 < x.getD k 0
    · rw [if_pos hc] at h
      rw [if_pos hc]
      exact pvL_s p x k i h
    · rw [if_neg hc] at h
      rw [if_neg hc, Option.some.inj h]
theorem jjL_s (p : Nat) (x : List Nat) (i : Nat) : ∀ j, 1 ≤ j → jjL (p :: x) (i + 1) (j + 1) = jjL x i j + 1
  | 0, h => by omega
  | j + 1, _ => by
    have e1 : jjL (p :: x) (i + 1) (j + 1 + 1) = if i + 1 + 1 < j + 1 + 1 ∧ x.getD (j + 1) 0 < x.getD i 0 then jjL (p :: x) (i + 1) (j + 1) else j + 1 + 1 := rfl
    have e2 : jjL x i (j + 1) = if i + 1 < j + 1 ∧ x.getD (j + 1) 0 < x.getD i 0 then jjL x i j else j + 1 := rfl
    rw [e1, e2]
    by_cases hc : i + 1 < j + 1 ∧ x.getD (j + 1) 0 < x.getD i 0
    · rw [if_pos hc, if_pos ⟨by omega, hc.2⟩]
      exact jjL_s p x i j (by omega)
    · rw [if_neg hc, if_neg (fun q => hc ⟨by omega, q.2⟩)]
theorem swapL_s (p : Nat) (x : List Nat) (i j : Nat) : swapL (p :: x) (i + 1) (j + 1) = p :: swapL x i j := rfl
theorem rvL_s (p : Nat) : ∀ (b : Nat) (x : List Nat) (a : Nat), rvL (p :: x) (a + 1) (b + 1) = p :: rvL x a b
  | 0, x, a => by
    have e1 : rvL (p :: x) (a + 1) (0 + 1) = if a + 1 < 0 + 1 then rvL (swapL (p :: x) (a + 1) (0 + 1)) (a + 1 + 1) 0 else p :: x := rfl
    rw [e1, if_neg (by omega)]
    rfl
  | b + 1, x, a => by
    have e1 : rvL (p :: x) (a + 1) (b + 1 + 1) = if a + 1 < b + 1 + 1 then rvL (swapL (p :: x) (a + 1) (b + 1 + 1)) (a + 1 + 1) (b + 1) else p :: x := rfl
    have e2 : rvL x a (b + 1) = if a < b + 1 then rvL (swapL x a (b + 1)) (a + 1) b else x := rfl
    rw [e1, e2]
    by_cases hc : a < b + 1
    · rw [if_pos hc, if_pos (by omega), swapL_s]
      exact rvL_s p b _ _
    · rw [if_neg hc, if_neg (by omega)]
theorem nx2_s (p : Nat) {x y : List Nat} (h : nx2 x = some y) : nx2 (p :: x) = some (p :: y) := by
  unfold nx2 at h ⊢
  unfold nxtL at h ⊢
  cases hc : pvL x (x.length - 1) with
  | none =>
    rw [hc] at h
    exact absurd h (by simp)
  | some i =>
    rw [hc] at h
    have hlt := pvL_lt hc
    have hy := Option.some.inj h
    have e1 : (p :: x).length - 1 = (x.length - 1) + 1 := by
      rw [List.length_cons]
      omega
    rw [e1, pvL_s p x _ i hc]
    show some (rvL (swapL (p :: x) (i + 1) (jjL (p :: x) (i + 1) (x.length - 1 + 1))) (i + 1 + 1) (x.length - 1 + 1)) = some (p :: y)
    rw [jjL_s p x i _ (by omega), swapL_s, rvL_s, ← hy]
/-- each is the next of the one ahead -/
def CHN : List (List Nat) → Prop
  | [] => True
  | [_] => True
  | x :: y :: r => nx2 x = some y ∧ CHN (y :: r)
/-- first and last -/
def HLs (L : List (List Nat)) (a b : List Nat) : Prop := (∃ r, L = a :: r) ∧ ∃ r, L = r ++ [b]
theorem CHN_map (p : Nat) : ∀ (L : List (List Nat)), CHN L → CHN (L.map (fun x => p :: x))
  | [], _ => trivial
  | [_], _ => trivial
  | x :: y :: r, h => ⟨nx2_s p h.1, CHN_map p (y :: r) h.2⟩
theorem CHN_app : ∀ (L M : List (List Nat)) (b c : List Nat), CHN L → CHN M → (∃ r, L = r ++ [b]) → (∃ r, M = c :: r) → nx2 b = some c → CHN (L ++ M)
  | [], M, b, c, _, h2, _, _, _ => h2
  | [x], M, b, c, _, h2, ⟨r, hr⟩, ⟨s, hs⟩, h5 => by
    have hx : x = b := by
      cases r with
      | nil => exact (List.cons.inj hr).1
      | cons y r =>
        have := (List.cons.inj hr).2
        exact absurd this (by simp)
    subst hx
    subst hs
    exact ⟨h5, h2⟩
  | x :: y :: t, M, b, c, h1, h2, ⟨r, hr⟩, h4, h5 => by
    refine ⟨h1.1, CHN_app (y :: t) M b c h1.2 h2 ?_ h4 h5⟩
    cases r with
    | nil =>
      have := (List.cons.inj hr).2
      exact absurd this (by simp)
    | cons z r => exact ⟨r, (List.cons.inj hr).2⟩
theorem HLs_map (p : Nat) {L : List (List Nat)} {a b : List Nat} (h : HLs L a b) : HLs (L.map (fun x => p :: x)) (p :: a) (p :: b) := by
  obtain ⟨⟨r, hr⟩, s, hs⟩ := h
  refine ⟨⟨r.map (fun x => p :: x), by rw [hr]; rfl⟩, s.map (fun x => p :: x), ?_⟩
  rw [hs, List.map_append]
  rfl
theorem HLs_app {L M : List (List Nat)} {a b c e : List Nat} (h : HLs L a b) (g : HLs M c e) : HLs (L ++ M) a e := by
  obtain ⟨⟨r, hr⟩, -⟩ := h
  obtain ⟨-, s, hs⟩ := g
  refine ⟨⟨r ++ M, by rw [hr]; rfl⟩, L ++ s, ?_⟩
  rw [hs, List.append_assoc]
def wo (r : List Nat) (p : Nat) : List Nat := r.filter (fun q => decide (q ≠ p))
/-- all orders of r, by blocks of their first part -/
def pmR : Nat → List Nat → List (List Nat)
  | 0, _ => [[]]
  | d + 1, r => r.foldl (fun T p => T ++ (pmR d (wo r p)).map (fun x => p :: x)) []
def blk (d : Nat) (r : List Nat) : List Nat → List (List Nat)
  | [] => []
  | p :: s => (pmR d (wo r p)).map (fun x => p :: x) ++ blk d r s
theorem fold_blk (d : Nat) (r : List Nat) : ∀ (s : List Nat) (T : List (List Nat)), s.foldl (fun T p => T ++ (pmR d (wo r p)).map (fun x => p :: x)) T = T ++ blk d r s
  | [], T => (List.append_nil T).symm
  | p :: s, T => by
    rw [List.foldl_cons, fold_blk d r s, blk, List.append_assoc]
def lkB (r : List Nat) : List Nat → Bool
  | p :: q :: s => (nx2 (p :: (wo r p).reverse) == some (q :: wo r q)) && lkB r (q :: s)
  | _ => true
def lastD (s : List Nat) : Nat := s.getD (s.length - 1) 0
theorem blk_ok {d : Nat} {r : List Nat} (ih : ∀ p, p ∈ r → CHN (pmR d (wo r p)) ∧ HLs (pmR d (wo r p)) (wo r p) (wo r p).reverse) : ∀ (s : List Nat) (p : Nat), (∀ q, q ∈ p :: s → q ∈ r) → lkB r (p :: s) = true → ∃ z, CHN (blk d r (p :: s)) ∧ HLs (blk d r (p :: s)) (p :: wo r p) (z :: (wo r z).reverse) ∧ (∃ t, p :: s = t ++ [z])
  | [], p, hin, _ => by
    obtain ⟨h1, h2⟩ := ih p (hin p (by simp))
    refine ⟨p, ?_, ?_, [], rfl⟩
    · rw [blk, blk, List.append_nil]
      exact CHN_map p _ h1
    · rw [blk, blk, List.append_nil]
      exact HLs_map p h2
  | q :: s, p, hin, hl => by
    obtain ⟨h1, h2⟩ := ih p (hin p (by simp))
    rw [lkB, Bool.and_eq_true] at hl
    obtain ⟨z, h3, h4, t, ht⟩ := blk_ok ih s q (fun x hx => hin x (List.mem_cons_of_mem _ hx)) hl.2
    refine ⟨z, ?_, ?_, p :: t, by rw [ht]; rfl⟩
    · rw [blk]
      exact CHN_app _ _ _ _ (CHN_map p _ h1) h3 (HLs_map p h2).2 h4.1 (eq_of_beq hl.1)
    · rw [blk]
      exact HLs_app (HLs_map p h2) h4
theorem wou_lem : ∀ b, b < 128 → ∀ p, p < 7 → wo (chs b 7) p = chs (b &&& (127 - 2 ^ p)) 7 ∧ b &&& (127 - 2 ^ p) < 128 ∧ (bitAt b p = 1 → (chs (b &&& (127 - 2 ^ p)) 7).length + 1 = (chs b 7).length) := by decide +kernel
theorem lk_lem : ∀ b, b < 128 → lkB (chs b 7) (chs b 7) = true := by decide +kernel
theorem rv_lem : ∀ b, b < 128 → nx2 (chs b 7).reverse = none := by decide +kernel
theorem lst_lem : ∀ b, b < 128 → ∀ z, z < 7 → (∃ t, chs b 7 = t ++ [z]) → z :: (wo (chs b 7) z).reverse = (chs b 7).reverse := by
  intro b hb z hz ⟨t, ht⟩
  have h : ∀ b, b < 128 → ∀ z, z < 7 → (chs b 7).getLast? = some z → z :: (wo (chs b 7) z).reverse = (chs b 7).reverse := by decide +kernel
  exact h b hb z hz (by rw [ht]; simp)
theorem fst_lem : ∀ b, b < 128 → ∀ p, p < 7 → (chs b 7).head? = some p → p :: wo (chs b 7) p = chs b 7 := by decide +kernel
theorem chs_bit {b p : Nat} (h : p ∈ chs b 7) : p < 7 ∧ bitAt b p = 1 := by
  obtain ⟨j, hj⟩ := List.getElem?_of_mem h
  refine ⟨chs_lo b 7 j p hj, ?_⟩
  unfold chs at h
  exact eq_of_beq (List.mem_filter.mp h).2
theorem pmR_ok : ∀ (d b : Nat), b < 128 → (chs b 7).length = d → CHN (pmR d (chs b 7)) ∧ HLs (pmR d (chs b 7)) (chs b 7) (chs b 7).reverse
  | 0, b, hb, hl => by
    cases hc : chs b 7 with
    | nil => exact ⟨trivial, ⟨[], rfl⟩, [], rfl⟩
    | cons p s =>
      rw [hc] at hl
      exact absurd hl (by simp)
  | d + 1, b, hb, hl => by
    have ih : ∀ p, p ∈ chs b 7 → CHN (pmR d (wo (chs b 7) p)) ∧ HLs (pmR d (wo (chs b 7) p)) (wo (chs b 7) p) (wo (chs b 7) p).reverse := fun p hp => by
      obtain ⟨h1, h2⟩ := chs_bit hp
      obtain ⟨w1, w2, w3⟩ := wou_lem b hb p h1
      rw [w1]
      exact pmR_ok d _ w2 (by have := w3 h2; omega)
    have hlk := lk_lem b hb
    have hfs := fst_lem b hb
    have hls := lst_lem b hb
    cases hc : chs b 7 with
    | nil =>
      rw [hc] at hl
      exact absurd hl (by simp)
    | cons p s =>
      rw [hc] at hlk hfs hls ih
      obtain ⟨z, h1, h2, t, ht⟩ := blk_ok ih s p (fun q hq => hq) hlk
      have e : pmR (d + 1) (p :: s) = blk d (p :: s) (p :: s) := by
        rw [pmR, fold_blk]
        rfl
      have hp7 : p < 7 := (chs_bit (b := b) (by rw [hc]; simp)).1
      have hz7 : z < 7 := (chs_bit (b := b) (by rw [hc, ht]; simp)).1
      rw [e]
      rw [hfs p hp7 rfl, hls z hz7 ⟨t, ht⟩] at h2
      exact ⟨h1, h2⟩
theorem fold_flt {l : List Nat} (F : Nat → List (List Nat)) : ∀ (r : List Nat) (T : List (List Nat)), r.foldl (fun T p => if p ∈ l then T else T ++ F p) T = (r.filter (fun p => decide (p ∉ l))).foldl (fun T p => T ++ F p) T
  | [], _ => rfl
  | p :: r, T => by
    rw [List.foldl_cons]
    by_cases h : p ∈ l
    · rw [if_pos h, List.filter_cons_of_neg (by simp [h])]
      exact fold_flt F r T
    · rw [if_neg h, List.filter_cons_of_pos (by simp [h]), List.foldl_cons]
      exact fold_flt F r _
theorem map_fold (f : List Nat → List Nat) (F G : Nat → List (List Nat)) : ∀ (r : List Nat) (T : List (List Nat)), (∀ p, p ∈ r → (F p).map f = G p) → (r.foldl (fun T p => T ++ F p) T).map f = r.foldl (fun T p => T ++ G p) (T.map f)
  | [], _, _ => rfl
  | p :: r, T, h => by
    rw [List.foldl_cons, List.foldl_cons, map_fold f F G r _ (fun q hq => h q (List.mem_cons_of_mem _ hq)), List.map_append, h p (by simp)]
theorem pmS_R (n : Nat) : ∀ (d : Nat) (l r : List Nat), r = (List.range n).filter (fun p => decide (p ∉ l)) → pmS n d l = (pmR d r).map (fun x => l ++ x)
  | 0, l, r, _ => by
    show [l] = [l ++ []]
    rw [List.append_nil]
  | d + 1, l, r, hr => by
    rw [pmS, fold_flt (fun p => pmS n d (l ++ [p])), ← hr, pmR]
    refine (map_fold (fun x => l ++ x) (fun p => (pmR d (wo r p)).map (fun x => p :: x)) (fun p => pmS n d (l ++ [p])) r [] (fun p hp => ?_)).symm
    rw [pmS_R n d (l ++ [p]) (wo r p) (by
      rw [hr]
      unfold wo
      rw [List.filter_filter]
      congr 1
      funext q
      by_cases h1 : q ∈ l <;> by_cases h2 : q = p <;> simp [h1, h2]), List.map_map]
    congr 1
    funext x
    simp
theorem flt_tt : ∀ (l : List Nat), l.filter (fun _ => true) = l
  | [] => rfl
  | a :: l => by
    rw [List.filter_cons_of_pos rfl, flt_tt l]
theorem rg_lem : ∀ n, n < 8 → List.range n = chs (2 ^ n - 1) 7 ∧ chs (2 ^ n - 1) 7 = chs 127 n ∧ 2 ^ n - 1 < 128 := by decide +kernel
theorem itN_chn : ∀ (r : List (List Nat)) (x : List Nat) (k : Nat), CHN (x :: r) → (∀ t b, x :: r = t ++ [b] → nx2 b = none) → r.length ≤ k → itN k x = r
  | [], x, k, _, hl, _ => by
    have h1 := hl [] x rfl
    cases k with
    | zero => rfl
    | succ k =>
      rw [itN]
      unfold nx2 at h1
      cases hc : nxtL x with
      | none => rfl
      | some q =>
        rw [hc] at h1
        exact absurd h1 (by simp)
  | y :: r, x, k, h, hl, hk => by
    have h1 := h.1
    cases k with
    | zero => simp at hk
    | succ k =>
      rw [itN]
      unfold nx2 at h1
      cases hc : nxtL x with
      | none =>
        rw [hc] at h1
        exact absurd h1 (by simp)
      | some q =>
        rw [hc] at h1
        have h2 : q.2 = y := Option.some.inj h1
        show q.2 :: itN k q.2 = y :: r
        rw [h2, itN_chn r y k h.2 (fun t b e => hl (x :: t) b (by rw [e]; rfl)) (by simp at hk; omega)]
theorem app_last2 {t s : List (List Nat)} {a b : List Nat} (h : t ++ [a] = s ++ [b]) : a = b := by
  have h1 := congrArg List.getLast? h
  simp at h1
  exact h1
def fct : Nat → Nat
  | 0 => 1
  | d + 1 => (d + 1) * fct d
theorem blk_len {d m : Nat} {r : List Nat} (ih : ∀ p, p ∈ r → (pmR d (wo r p)).length = m) : ∀ (s : List Nat), (∀ q, q ∈ s → q ∈ r) → (blk d r s).length = s.length * m
  | [], _ => by simp [blk]
  | p :: s, hin => by
    rw [blk, List.length_append, List.length_map, ih p (hin p (by simp)), blk_len ih s (fun q hq => hin q (List.mem_cons_of_mem _ hq)), List.length_cons, Nat.succ_mul, Nat.add_comm]
theorem pmR_len : ∀ (d b : Nat), b < 128 → (chs b 7).length = d → (pmR d (chs b 7)).length = fct d
  | 0, _, _, _ => rfl
  | d + 1, b, hb, hl => by
    have ih : ∀ p, p ∈ chs b 7 → (pmR d (wo (chs b 7) p)).length = fct d := fun p hp => by
      obtain ⟨h1, h2⟩ := chs_bit hp
      obtain ⟨w1, w2, w3⟩ := wou_lem b hb p h1
      rw [w1]
      exact pmR_len d _ w2 (by have := w3 h2; omega)
    rw [pmR, fold_blk]
    show (blk d (chs b 7) (chs b 7)).length = fct (d + 1)
    rw [blk_len ih _ (fun q hq => hq), hl]
    rfl
theorem fct_le : ∀ n, n < 8 → fct n ≤ 5040 := by decide
/-- the best of all orders: the model's way and the class's -/
theorem best_eq {v : View} (Q : Nat → List Nat) (hn : v 0 3 ≤ 7) : ∃ t, dfS v Q (v 0 3) (v 0 3) [] none = some t ∧ bsS v Q 5040 (chs 127 (v 0 3)) (nI (dg (chs 127 (v 0 3))), CR v Q 9 (chs 127 (v 0 3))) = (nI t.2, t.1) := by
  obtain ⟨g1, g2, g3⟩ := rg_lem (v 0 3) (by omega)
  have hlen : (chs (2 ^ v 0 3 - 1) 7).length = v 0 3 := by
    rw [g2]
    exact chs127_len _ hn
  have e0 : pmS (v 0 3) (v 0 3) [] = pmR (v 0 3) (chs (2 ^ v 0 3 - 1) 7) := by
    rw [pmS_R (v 0 3) (v 0 3) [] (chs (2 ^ v 0 3 - 1) 7) (by rw [← g1]; simp; exact (flt_tt _).symm)]
    simp
  obtain ⟨h1, ⟨r, hr⟩, s, hs⟩ := pmR_ok (v 0 3) _ g3 hlen
  have h2 := pmR_len (v 0 3) _ g3 hlen
  have h3 := fct_le (v 0 3) (by omega)
  have hrv := rv_lem _ g3
  rw [dfS_pm, bsS_it, e0]
  rw [g2] at h1 hr hs h2 hrv
  rw [g2]
  rw [hr] at h1 hs h2
  rw [hr, itN_chn r _ 5040 h1 (fun t b e => by rw [app_last2 (e.symm.trans hs)]; exact hrv) (by rw [List.length_cons] at h2; omega), List.foldl_cons]
  exact fold_eq v Q r (CR v Q 9 (chs 127 (v 0 3)), dg (chs 127 (v 0 3)))
