/-! ===== what an order came to ===== -/
def dg (l : List Nat) : Nat := l.foldl (fun a x => a * 10 + x + 1) 0
theorem dg_take {l : List Nat} {i x : Nat} (h : l[i]? = some x) : dg (l.take (i + 1)) = dg (l.take i) * 10 + x + 1 := by
  unfold dg
  rw [List.take_add_one, h]
  simp
/-- the minute behind which p was ironed -/
def dn (T : Nat → Nat) (p : Nat) : List Nat → Nat → Int32
  | [], _ => -1
  | x :: r, k => if x = p then nI (T (k + 1)) else dn T p r (k + 1)
theorem drop_at {l : List Nat} {i x : Nat} (h : l[i]? = some x) : l.drop i = x :: l.drop (i + 1) := by
  have hi := (List.getElem?_eq_some_iff.mp h).1
  rw [List.drop_eq_getElem_cons hi]
  congr 1
  exact (List.getElem?_eq_some_iff.mp h).2
def swapL (l : List Nat) (i j : Nat) : List Nat := (l.set i (l.getD j 0)).set j (l.getD i 0)
theorem swapL_len (l : List Nat) (i j : Nat) : (swapL l i j).length = l.length := by
  unfold swapL
  rw [List.length_set, List.length_set]
theorem getD_of {l : List Nat} {i x : Nat} (h : l[i]? = some x) : l.getD i 0 = x := by
  rw [List.getD_eq_getElem?_getD, h]
  rfl
theorem get_of {l : List Nat} {i : Nat} (h : i < l.length) : l[i]? = some (l.getD i 0) := by
  rw [List.getD_eq_getElem?_getD, List.getElem?_eq_getElem h]
  rfl
theorem OR.swap {μ : Mem} {l : List Nat} {i j : Nat} (h : OR μ l) (hi : i < l.length) (hj : j < l.length) : OR (mset (mset μ 36 i (nI (l.getD j 0))) 36 j (nI (l.getD i 0))) (swapL l i j) := by
  refine ⟨?_, by rw [swapL_len]; exact h.2.1, fun a x ha => ?_⟩
  · rw [swapL_len, mset_ne (by omega), mset_ne (by omega)]
    exact h.1
  · unfold swapL at ha
    rw [List.getElem?_set] at ha
    by_cases e : j = a
    · subst e
      rw [if_pos rfl, List.length_set, if_pos hj] at ha
      cases ha
      exact mset_eq
    · rw [if_neg e, List.getElem?_set] at ha
      rw [mset_nj (fun q => e q.symm)]
      by_cases e2 : i = a
      · subst e2
        rw [if_pos rfl, if_pos hi] at ha
        cases ha
        exact mset_eq
      · rw [if_neg e2] at ha
        rw [mset_nj (fun q => e2 q.symm)]
        exact h.2.2 a x ha
theorem c_X0_last (μ : Mem) (l : List Nat) (ho : OR μ l) : CA eR yX0_last cX0_last 1 (some (.array .int)) 0 [.ref 35] μ (fun r μ1 => r = 38 + l.length ∧ μ1 = μ) := by
  have h7 := ho.2.1
  refine CT.of false (by decide) (by decide) (L := [some (.ref 35)]) rfl (Nat.le_of_ble_eq_true rfl) ?_
  refine g_aload_n (pc := 0) dX0_last_0 rfl ?_
  refine a_getr (pc := 1) (q := 37) fl_X0_21 dX0_last_1 (by first | assumption | rfl) rfl rfl ?_
  refine g_aload_n (pc := 4) dX0_last_4 rfl ?_
  refine v_geti (pc := 5) fl_X0_38 dX0_last_5 (by first | assumption | rfl) rfl ho.1 ?_
  refine v_aald (pc := 8) dX0_last_8 (by first | assumption | rfl) rfl (by omega) (show 37 + 1 + l.length = 38 + l.length by omega) ?_
  refine g_areturn (pc := 9) dX0_last_9 rfl rfl ⟨_, rfl, ?_⟩
  exact ⟨rfl, rfl⟩
theorem c_X0_creased (sb : Nat) (hsb : SB sb) (v : View) (μ : Mem) (hv : SV μ sb v) (l : List Nat) (ho : OR μ l) (f : Nat → Nat) (hf : ∀ p, p < v 0 3 → μ (38 + l.length) p = nI (f p) ∧ f p ≤ 99) : CA eI yX0_creased cX0_creased 2 (some .int) 2 [.ref 35, .ref sb] μ (fun r μ1 => r = nI (csum v f (v 0 3)) ∧ μ1 = μ) := by
  have h7 := ho.2.1
  have hs0 := hsb.f.1
  refine CT.of false (by decide) (by decide) (L := [some (.ref 35), some (.ref sb)]) rfl (Nat.le_of_ble_eq_true rfl) ?_
  refine g_aload_n (pc := 0) dX0_creased_0 rfl ?_
  refine g_aload_n (pc := 1) dX0_creased_1 rfl ?_
  refine a_getr (pc := 2) (q := 37) fl_X0_21 dX0_creased_2 (by first | assumption | rfl) rfl rfl ?_
  refine g_aload_n (pc := 5) dX0_creased_5 rfl ?_
  refine v_geti (pc := 6) fl_X0_38 dX0_creased_6 (by first | assumption | rfl) rfl ho.1 ?_
  refine v_aald (pc := 9) dX0_creased_9 (by first | assumption | rfl) rfl (by omega) (show 37 + 1 + l.length = 38 + l.length by omega) ?_
  refine a_cv1i (pc := 10) (c_X5_creasedBy sb hsb v μ hv (38 + l.length) (shA _ (by omega)) f hf) m_X5_creasedBy ml_X0_136 (by omega) (by first | assumption | rfl) rfl rfl (Nat.le_of_ble_eq_true rfl) dX0_creased_10 (fun x_10 μ_10 h_10 => ?_)
  obtain ⟨rfl, hm_10⟩ := h_10
  have hm_10 := hm_10.symm
  subst hm_10
  refine g_ireturn (pc := 13) dX0_creased_13 rfl (by first | rfl | decide) rfl ⟨_, rfl, ?_⟩
  exact ⟨rfl, rfl⟩
theorem c_X0_digits (μ : Mem) (l : List Nat) (ho : OR μ l) : CA eI yX0_digits cX0_digits 3 (some .int) 0 [.ref 35] μ (fun r μ1 => r = nI (dg l) ∧ μ1 = μ) := by
  have h7 := ho.2.1
  refine CT.of false (by decide) (by decide) (L := [some (.ref 35), none, none]) rfl (Nat.le_of_ble_eq_true rfl) ?_
  refine g_iconst (pc := 0) (v := (nI 0)) dX0_digits_0 (by decide) ?_
  refine a_ist1 (pc := 1) dX0_digits_1 (by decide) rfl ?_
  refine g_iconst (pc := 2) (v := (nI 0)) dX0_digits_2 (by decide) ?_
  refine a_ist2 (pc := 3) dX0_digits_3 (by decide) rfl ?_
  have lp4 : ∀ (zz : Nat) (i : Nat) (hi : i ≤ l.length), l.length - i = zz → WG eI yX0_digits.cls cX0_digits 3 (some .int) false (fun _ _ => True) 0 (mpost (fun r μ1 => r = nI (dg l) ∧ μ1 = μ)) 0 0 4 [some (.ref 35), some (.int (nI (dg (l.take i)))), some (.int (nI i))] [] (mk μ) := by
    intro zz
    induction zz using Nat.strongRecOn with
    | ind zz ih =>
      intro i hi hzz
      refine g_iload_n (pc := 4) dX0_digits_4 rfl ?_
      refine g_aload_n (pc := 5) dX0_digits_5 rfl ?_
      refine v_geti (pc := 6) fl_X0_38 dX0_digits_6 (by first | assumption | rfl) rfl ho.1 ?_
      refine g_icmp_ge (pc := 9) (tgt := 32) dX0_digits_9 (by decide) (fun c_9 => ?_) (fun c_9 => ?_)
      · have c9 := nI_le' (by omega) (by omega) c_9
        obtain rfl : i = l.length := by omega
        rw [List.take_length]
        refine g_iload_n (pc := 32) dX0_digits_32 rfl ?_
        refine g_ireturn (pc := 33) dX0_digits_33 rfl (by first | rfl | decide) rfl ⟨_, rfl, ?_⟩
        exact ⟨rfl, rfl⟩
      · have c9 := nI_gt' (by omega) (by omega) c_9
        have hg := get_of c9
        refine g_iload_n (pc := 12) dX0_digits_12 rfl ?_
        refine g_bipush (pc := 13) (v := (nI 10)) dX0_digits_13 (by decide) ?_
        refine v_imul (pc := 15) dX0_digits_15 (nI_mul _ _) ?_
        refine g_aload_n (pc := 16) dX0_digits_16 rfl ?_
        refine a_getr (pc := 17) (q := 36) fl_X0_9 dX0_digits_17 (by first | assumption | rfl) rfl rfl ?_
        refine g_iload_n (pc := 20) dX0_digits_20 rfl ?_
        refine v_iald (pc := 21) dX0_digits_21 (by first | assumption | rfl) rfl (by omega) (ho.2.2 i _ hg) ?_
        refine v_iadd (pc := 22) dX0_digits_22 (nI_add _ _) ?_
        refine g_iconst (pc := 23) (v := (nI 1)) dX0_digits_23 (by decide) ?_
        refine v_iadd (pc := 24) dX0_digits_24 ((nI_add _ _).trans (congrArg nI (dg_take hg).symm)) ?_
        refine a_ist1 (pc := 25) dX0_digits_25 (by decide) rfl ?_
        refine a_iinc2 (pc := 26) dX0_digits_26 (inc1 i) (by decide) rfl ?_
        refine g_goto (pc := 29) (tgt := 4) dX0_digits_29 (by decide) ?_
        exact ih (l.length - (i + 1)) (by omega) (i + 1) (by omega) rfl
  exact lp4 _ 0 (Nat.zero_le _) rfl
theorem c_X0_doneAt (μ : Mem) (l : List Nat) (ho : OR μ l) (T : Nat → Nat) (hT : ∀ j, j ≤ l.length → μ 46 j = nI (T j)) (p : Nat) (hp7 : p < 7) (hl7 : LO l 7) : CA eI yX0_doneAt cX0_doneAt 3 (some .int) 0 [.ref 35, .int (nI p)] μ (fun r μ1 => r = dn T p l 0 ∧ μ1 = μ) := by
  have h7 := ho.2.1
  refine CT.of false (by decide) (by decide) (L := [some (.ref 35), some (.int (nI p)), none]) rfl (Nat.le_of_ble_eq_true rfl) ?_
  refine g_iconst (pc := 0) (v := (nI 0)) dX0_doneAt_0 (by decide) ?_
  refine a_ist2 (pc := 1) dX0_doneAt_1 (by decide) rfl ?_
  have lp2 : ∀ (zz : Nat) (i : Nat) (hi : i ≤ l.length) (hd : dn T p l 0 = dn T p (l.drop i) i), l.length - i = zz → WG eI yX0_doneAt.cls cX0_doneAt 3 (some .int) false (fun _ _ => True) 0 (mpost (fun r μ1 => r = dn T p l 0 ∧ μ1 = μ)) 0 0 2 [some (.ref 35), some (.int (nI p)), some (.int (nI i))] [] (mk μ) := by
    intro zz
    induction zz using Nat.strongRecOn with
    | ind zz ih =>
      intro i hi hd hzz
      refine g_iload_n (pc := 2) dX0_doneAt_2 rfl ?_
      refine g_aload_n (pc := 3) dX0_doneAt_3 rfl ?_
      refine v_geti (pc := 4) fl_X0_38 dX0_doneAt_4 (by first | assumption | rfl) rfl ho.1 ?_
      refine g_icmp_ge (pc := 7) (tgt := 35) dX0_doneAt_7 (by decide) (fun c_7 => ?_) (fun c_7 => ?_)
      · have c7 := nI_le' (by omega) (by omega) c_7
        obtain rfl : i = l.length := by omega
        rw [List.drop_length] at hd
        refine g_iconst (pc := 35) (v := (-1)) dX0_doneAt_35 (by decide) ?_
        refine g_ireturn (pc := 36) dX0_doneAt_36 rfl (by first | rfl | decide) rfl ⟨_, rfl, ?_⟩
        exact ⟨hd.symm, rfl⟩
      · have c7 := nI_gt' (by omega) (by omega) c_7
        have hg := get_of c7
        have hx := hl7 i _ hg
        rw [drop_at hg] at hd
        refine g_aload_n (pc := 10) dX0_doneAt_10 rfl ?_
        refine a_getr (pc := 11) (q := 36) fl_X0_9 dX0_doneAt_11 (by first | assumption | rfl) rfl rfl ?_
        refine g_iload_n (pc := 14) dX0_doneAt_14 rfl ?_
        refine v_iald (pc := 15) dX0_doneAt_15 (by first | assumption | rfl) rfl (by omega) (ho.2.2 i _ hg) ?_
        refine g_iload_n (pc := 16) dX0_doneAt_16 rfl ?_
        refine g_icmp_ne (pc := 17) (tgt := 29) dX0_doneAt_17 (by decide) (fun c_17 => ?_) (fun c_17 => ?_)
        · have hne := nI_ne' (by omega) (by omega) c_17
          have hd1 : dn T p l 0 = dn T p (l.drop (i + 1)) (i + 1) := by
            rw [hd, dn, if_neg hne]
          refine a_iinc2 (pc := 29) dX0_doneAt_29 (inc1 i) (by decide) rfl ?_
          refine g_goto (pc := 32) (tgt := 2) dX0_doneAt_32 (by decide) ?_
          exact ih (l.length - (i + 1)) (by omega) (i + 1) (by omega) hd1 rfl
        · have heq := nI_eq' (by omega) (by omega) c_17
          rw [dn, if_pos heq] at hd
          refine g_aload_n (pc := 20) dX0_doneAt_20 rfl ?_
          refine a_getr (pc := 21) (q := 46) fl_X0_24 dX0_doneAt_21 (by first | assumption | rfl) rfl rfl ?_
          refine g_iload_n (pc := 24) dX0_doneAt_24 rfl ?_
          refine g_iconst (pc := 25) (v := (nI 1)) dX0_doneAt_25 (by decide) ?_
          refine v_iadd (pc := 26) dX0_doneAt_26 (nI_add _ _) ?_
          refine v_iald (pc := 27) dX0_doneAt_27 (by first | assumption | rfl) rfl (by omega) (hT (i + 1) (by omega)) ?_
          refine g_ireturn (pc := 28) dX0_doneAt_28 rfl (by first | rfl | decide) rfl ⟨_, rfl, ?_⟩
          exact ⟨hd.symm, rfl⟩
  exact lp2 _ 0 (Nat.zero_le _) rfl rfl
def ansV (v : View) (f T : Nat → Nat) (l : List Nat) (w : Nat) : Int32 := if w = 0 then nI (csum v f (v 0 3)) else if w < 10 then nI (T l.length) else if w < 20 then nI (f (w % 10)) else dn T (w % 10) l 0
theorem c_X0_answer (sb : Nat) (hsb : SB sb) (v : View) (μ : Mem) (hv : SV μ sb v) (l : List Nat) (ho : OR μ l) (f : Nat → Nat) (hf : ∀ p, p < v 0 3 → μ (38 + l.length) p = nI (f p) ∧ f p ≤ 99) (T : Nat → Nat) (hT : ∀ j, j ≤ l.length → μ 46 j = nI (T j)) (hl7 : LO l 7) (w : Nat) (hw : w < 30) (hw2 : 10 ≤ w → w % 10 < v 0 3) : CA eI yX0_answer cX0_answer 3 (some .int) 3 [.ref 35, .ref sb, .int (nI w)] μ (fun r μ1 => r = ansV v f T l w ∧ μ1 = μ) := by
  have h7 := ho.2.1
  have hv7 := hv.2.2.2.1.2
  refine CT.of false (by decide) (by decide) (L := [some (.ref 35), some (.ref sb), some (.int (nI w))]) rfl (Nat.le_of_ble_eq_true rfl) ?_
  refine g_iload_n (pc := 0) dX0_answer_0 rfl ?_
  refine g_bipush (pc := 1) (v := (nI 10)) dX0_answer_1 (by decide) ?_
  refine g_icmp_ge (pc := 3) (tgt := 28) dX0_answer_3 (by decide) (fun c_3 => ?_) (fun c_3 => ?_)
  · have c3 := nI_le' (by omega) (by omega) c_3
    have hwn := hw2 c3
    refine g_iload_n (pc := 28) dX0_answer_28 rfl ?_
    refine g_bipush (pc := 29) (v := (nI 20)) dX0_answer_29 (by decide) ?_
    refine g_icmp_ge (pc := 31) (tgt := 51) dX0_answer_31 (by decide) (fun c_31 => ?_) (fun c_31 => ?_)
    · have c31 := nI_le' (by omega) (by omega) c_31
      refine g_aload_n (pc := 51) dX0_answer_51 rfl ?_
      refine g_iload_n (pc := 52) dX0_answer_52 rfl ?_
      refine g_bipush (pc := 53) (v := (nI 10)) dX0_answer_53 (by decide) ?_
      refine v_irem (pc := 55) dX0_answer_55 (by decide) (pk_rem (by omega) (by decide) (by decide)) ?_
      refine a_cv1i (pc := 56) (c_X0_doneAt μ l ho T hT (w % 10) (by omega) hl7) m_X0_doneAt ml_X0_144 (by omega) (by first | assumption | rfl) rfl rfl (Nat.le_of_ble_eq_true rfl) dX0_answer_56 (fun x_56 μ_56 h_56 => ?_)
      obtain ⟨rfl, hm_56⟩ := h_56
      have hm_56 := hm_56.symm
      subst hm_56
      refine g_ireturn (pc := 59) dX0_answer_59 rfl (by first | rfl | decide) rfl ⟨_, rfl, ?_⟩
      refine ⟨?_, rfl⟩
      unfold ansV
      first | (rw [if_pos c7]; done) | (rw [if_neg c7, if_pos c3]; done) | (rw [if_neg (by omega), if_neg (by omega), if_pos c31]; done) | (rw [if_neg (by omega), if_neg (by omega), if_neg (by omega)]; done)
    · have c31 := nI_gt' (by omega) (by omega) c_31
      refine g_aload_n (pc := 34) dX0_answer_34 rfl ?_
      refine a_getr (pc := 35) (q := 37) fl_X0_21 dX0_answer_35 (by first | assumption | rfl) rfl rfl ?_
      refine g_aload_n (pc := 38) dX0_answer_38 rfl ?_
      refine v_geti (pc := 39) fl_X0_38 dX0_answer_39 (by first | assumption | rfl) rfl ho.1 ?_
      refine v_aald (pc := 42) dX0_answer_42 (by first | assumption | rfl) rfl (by omega) (show 37 + 1 + l.length = 38 + l.length by omega) ?_
      refine g_iload_n (pc := 43) dX0_answer_43 rfl ?_
      refine g_bipush (pc := 44) (v := (nI 10)) dX0_answer_44 (by decide) ?_
      refine v_irem (pc := 46) dX0_answer_46 (by decide) (pk_rem (by omega) (by decide) (by decide)) ?_
      refine v_iald (pc := 47) dX0_answer_47 (shA _ (by omega)) rfl (by omega) (hf _ hwn).1 ?_
      refine g_goto (pc := 48) (tgt := 59) dX0_answer_48 (by decide) ?_
      refine g_ireturn (pc := 59) dX0_answer_59 rfl (by first | rfl | decide) rfl ⟨_, rfl, ?_⟩
      refine ⟨?_, rfl⟩
      unfold ansV
      first | (rw [if_pos c7]; done) | (rw [if_neg c7, if_pos c3]; done) | (rw [if_neg (by omega), if_neg (by omega), if_pos c31]; done) | (rw [if_neg (by omega), if_neg (by omega), if_neg (by omega)]; done)
  · have c3 := nI_gt' (by omega) (by omega) c_3
    refine g_iload_n (pc := 6) dX0_answer_6 rfl ?_
    refine g_if_ne (pc := 7) (tgt := 18) dX0_answer_7 (by decide) (fun c_7 => ?_) (fun c_7 => ?_)
    · have c7 : ¬ w = 0 := fun h => c_7 (by rw [h]; rfl)
      refine g_aload_n (pc := 18) dX0_answer_18 rfl ?_
      refine a_getr (pc := 19) (q := 46) fl_X0_24 dX0_answer_19 (by first | assumption | rfl) rfl rfl ?_
      refine g_aload_n (pc := 22) dX0_answer_22 rfl ?_
      refine v_geti (pc := 23) fl_X0_38 dX0_answer_23 (by first | assumption | rfl) rfl ho.1 ?_
      refine v_iald (pc := 26) dX0_answer_26 (by first | assumption | rfl) rfl (by omega) (hT _ (Nat.le_refl _)) ?_
      refine g_ireturn (pc := 27) dX0_answer_27 rfl (by first | rfl | decide) rfl ⟨_, rfl, ?_⟩
      refine ⟨?_, rfl⟩
      unfold ansV
      first | (rw [if_pos c7]; done) | (rw [if_neg c7, if_pos c3]; done) | (rw [if_neg (by omega), if_neg (by omega), if_pos c31]; done) | (rw [if_neg (by omega), if_neg (by omega), if_neg (by omega)]; done)
    · have c7 : w = 0 := nI_eq' (b := 0) (by omega) (by omega) c_7
      refine g_aload_n (pc := 10) dX0_answer_10 rfl ?_
      refine g_aload_n (pc := 11) dX0_answer_11 rfl ?_
      refine a_cv1i (pc := 12) (c_X0_creased sb hsb v μ hv l ho f hf) m_X0_creased ml_X0_140 (by omega) (by first | assumption | rfl) rfl rfl (Nat.le_of_ble_eq_true rfl) dX0_answer_12 (fun x_12 μ_12 h_12 => ?_)
      obtain ⟨rfl, hm_12⟩ := h_12
      have hm_12 := hm_12.symm
      subst hm_12
      refine g_goto (pc := 15) (tgt := 27) dX0_answer_15 (by decide) ?_
      refine g_ireturn (pc := 27) dX0_answer_27 rfl (by first | rfl | decide) rfl ⟨_, rfl, ?_⟩
      refine ⟨?_, rfl⟩
      unfold ansV
      first | (rw [if_pos c7]; done) | (rw [if_neg c7, if_pos c3]; done) | (rw [if_neg (by omega), if_neg (by omega), if_pos c31]; done) | (rw [if_neg (by omega), if_neg (by omega), if_neg (by omega)]; done)
theorem c_X0_exchange (μ : Mem) (l : List Nat) (ho : OR μ l) (i j : Nat) (hi : i < l.length) (hj : j < l.length) : CA eV yX0_exchange cX0_exchange 4 none 0 [.ref 35, .int (nI i), .int (nI j)] μ (fun _ μ1 => OR μ1 (swapL l i j) ∧ ∀ k, k ≠ 36 → μ1 k = μ k) := by
  have h7 := ho.2.1
  refine CT.of false (by decide) (by decide) (L := [some (.ref 35), some (.int (nI i)), some (.int (nI j)), none]) rfl (Nat.le_of_ble_eq_true rfl) ?_
  refine g_aload_n (pc := 0) dX0_exchange_0 rfl ?_
  refine a_getr (pc := 1) (q := 36) fl_X0_9 dX0_exchange_1 (by first | assumption | rfl) rfl rfl ?_
  refine g_iload_n (pc := 4) dX0_exchange_4 rfl ?_
  refine v_iald (pc := 5) dX0_exchange_5 (by first | assumption | rfl) rfl (by omega) (ho.2.2 i _ (get_of hi)) ?_
  refine a_ist3 (pc := 6) dX0_exchange_6 (by decide) rfl ?_
  refine g_aload_n (pc := 7) dX0_exchange_7 rfl ?_
  refine a_getr (pc := 8) (q := 36) fl_X0_9 dX0_exchange_8 (by first | assumption | rfl) rfl rfl ?_
  refine g_iload_n (pc := 11) dX0_exchange_11 rfl ?_
  refine g_aload_n (pc := 12) dX0_exchange_12 rfl ?_
  refine a_getr (pc := 13) (q := 36) fl_X0_9 dX0_exchange_13 (by first | assumption | rfl) rfl rfl ?_
  refine g_iload_n (pc := 16) dX0_exchange_16 rfl ?_
  refine v_iald (pc := 17) dX0_exchange_17 (by first | assumption | rfl) rfl (by omega) (ho.2.2 j _ (get_of hj)) ?_
  refine a_iast (pc := 18) dX0_exchange_18 (by first | assumption | rfl) rfl (by omega) ?_
  refine g_aload_n (pc := 19) dX0_exchange_19 rfl ?_
  refine a_getr (pc := 20) (q := 36) fl_X0_9 dX0_exchange_20 (by first | assumption | rfl) rfl rfl ?_
  refine g_iload_n (pc := 23) dX0_exchange_23 rfl ?_
  refine g_iload_n (pc := 24) dX0_exchange_24 rfl ?_
  refine a_iast (pc := 25) dX0_exchange_25 (by first | assumption | rfl) rfl (by omega) ?_
  refine g_return (pc := 26) (x := ()) dX0_exchange_26 rfl rfl ⟨_, rfl, ?_⟩
  exact ⟨ho.swap hi hj, fun k hk => by rw [mset_ne hk, mset_ne hk]⟩
