/-! ===== what the Statement gives of the start ===== -/
def q_fl : List Cond := flatC (Jvm.Cond.and given_1 narrow_1)
theorem nar_arr : ∀ i, i < 5 → Cond.arrayOf (.static (s_F i).1 (s_F i).2 "[I") .int ∈ q_fl := by decide +kernel
theorem nar_len : ∀ i, i < 5 → Cond.eq (.length (.static (s_F i).1 (s_F i).2 "[I")) (.int (Int32.ofNat (s_N i))) ∈ q_fl := by decide +kernel
theorem nar_el : ∀ i, i < 5 → ∀ j, j < s_N i → Cond.eq (.elem (.static (s_F i).1 (s_F i).2 "[I") (.int (Int32.ofNat j))) (.int (s_V i j)) ∈ q_fl := by decide +kernel
theorem nar_n : ∀ i, i < 5 → s_N i < 2 ^ 31 := by decide
theorem nar_ls : ∀ i, i < 5 → Cond.laysStatic (s_F i).1 (s_F i).2 "[I" ∈ lw_tbl := by decide +kernel
theorem nar_in : ∀ i, i < 5 → Cond.initialized (s_F i).1 ∈ lw_tbl := by decide +kernel
theorem str_n : ∀ i, i < 12 → k_len.getD i 0 < 2 ^ 31 := by decide
theorem str_ex : ∀ i, i < 12 → Cond.exactly (.string RX2 (k_idx i)) "java/lang/String" ∈ q_fl := by decide +kernel
theorem str_co : ∀ i, i < 12 → Cond.eq (.field (.string RX2 (k_idx i)) "java/lang/String" "coder" "B") (.int 0) ∈ q_fl := by decide +kernel
theorem str_ar : ∀ i, i < 12 → Cond.arrayOf (.field (.string RX2 (k_idx i)) "java/lang/String" "value" "[B") .byte ∈ q_fl := by decide +kernel
theorem str_le : ∀ i, i < 12 → Cond.eq (.length (.field (.string RX2 (k_idx i)) "java/lang/String" "value" "[B")) (.int (Int32.ofNat (k_len.getD i 0))) ∈ q_fl := by decide +kernel
theorem str_el : ∀ i, i < 12 → ∀ j, j < k_len.getD i 0 → Cond.eq (.elem (.field (.string RX2 (k_idx i)) "java/lang/String" "value" "[B") (.int (Int32.ofNat j))) (.int ((k_byt.getD i []).getD j 0)) ∈ q_fl := by decide +kernel
theorem str_ne : ∀ i, i < 12 → ∀ j, j < 12 → i ≠ j → Cond.not (Cond.eq (.string RX2 (k_idx i)) (.string RX2 (k_idx j))) ∈ q_fl ∨ Cond.not (Cond.eq (.string RX2 (k_idx j)) (.string RX2 (k_idx i))) ∈ q_fl := by decide +kernel
theorem str_rf : ∀ i, i < 12 → Cond.stringRef RX2 (k_idx i) (k_txt i) ∈ lw_tbl := by decide +kernel
theorem nar_cs : Cond.eq (.static "java/lang/String" "COMPACT_STRINGS" "Z") (.int 1) ∈ q_fl := by decide +kernel
theorem nar_csl : Cond.laysStatic "java/lang/String" "COMPACT_STRINGS" "Z" ∈ lw_tbl := by decide +kernel
theorem nar_csi : Cond.initialized "java/lang/String" ∈ lw_tbl := by decide +kernel
theorem nar_sf : Cond.isRef (.static "jdk/internal/util/Preconditions" "SIOOBE_FORMATTER" "Ljava/util/function/BiFunction;") ∈ q_fl := by decide +kernel
theorem nar_sfl : Cond.laysStatic "jdk/internal/util/Preconditions" "SIOOBE_FORMATTER" "Ljava/util/function/BiFunction;" ∈ lw_tbl := by decide +kernel
theorem nar_sfi : Cond.initialized "jdk/internal/util/Preconditions" ∈ lw_tbl := by decide +kernel
theorem nar_nw : Cond.fieldLinkNest RX3 73 "CreasedAgain" "MOST" "[I" "CreasedAgain" ∈ lw_tbl := by decide +kernel
theorem nar_ao : AO ∈ lw_tbl := by decide +kernel
theorem vk_S.ad {N : Nat} {len : List Nat} {byt : List (List Int32)} {f g f1 g1 : Nat → Nat} {A : Nat → Prop} {U : State} {H : Heap} (h : vk_S N len byt f g A U H) (hf : ∀ i, i < N → f1 i = f i) (hg : ∀ i, i < N → g1 i = g i) : vk_S N len byt f1 g1 A U H :=
  ⟨fun i hi => by rw [hf i hi, hg i hi]; exact h.1 i hi, fun i j hi hj e => h.2 i j hi hj (by rw [hf i hi, hf j hj] at e; exact e)⟩
section START
variable {s : State} {args : Array Value}
theorem st_arr (hs : ∀ w ∈ q_fl, w.before args s = true) (hts : ∀ w ∈ lw_tbl, w.before args s = true) (A : Nat → Prop) (hA : ∀ a : Nat, a < s.heap.size → ¬ A a) : ∀ i : Nat, ∃ t : Nat, i < 5 → va_Z (s_F i).1 (s_F i).2 "[I" (.ref t) A s s.heap ∧ va_T .int t (s_N i) (fun j => .int (s_V i j)) A s s.heap := by
  intro i
  by_cases hi : i < 5
  · obtain ⟨t, ht, hT⟩ := va_Tof (tm := .static (s_F i).1 (s_F i).2 "[I") (f := fun j => .int (s_V i j)) (N := s_N i) (A := A) (nar_n i hi) (hs _ (nar_arr i hi)) (va_eqt (hs _ (nar_len i hi))) (fun j hj => va_eqt (hs _ (nar_el i hi j hj))) hA
    exact ⟨t, fun _ => ⟨va_Zof (hts _ (nar_ls i hi)) (hts _ (nar_in i hi)) ht hA, hT⟩⟩
  · exact ⟨0, fun h => absurd h hi⟩
theorem st_S (hs : ∀ w ∈ q_fl, w.before args s = true) (hts : ∀ w ∈ lw_tbl, w.before args s = true) (B : Nat) (hA : ∀ a : Nat, a < s.heap.size → ¬ q_A B a) : ∃ (tS adK adV : Nat → Nat) (f : Nat), ∀ ad : Nat → Nat, (∀ i, i < 5 → ad (100000 + i) = tS i) → (∀ i, i < 12 → ad (100010 + i) = adK i) → (∀ i, i < 12 → ad (100030 + i) = adV i) → ad 100098 = f → q_S ad B s s.heap := by
  obtain ⟨tS, hS⟩ := Classical.axiomOfChoice (st_arr hs hts (q_A B) hA)
  obtain ⟨adK, adV, h1, h2⟩ := vk_Sof (args := args) (s := s) (N := 12) (tm := fun i => .string RX2 (k_idx i)) (len := k_len) (byt := k_byt) (A := q_A B) str_n (fun i hi => hs _ (str_ex i hi)) (fun i hi => hs _ (str_co i hi)) (fun i hi => hs _ (str_ar i hi)) (fun i hi => hs _ (str_le i hi)) (fun i hi j hj => hs _ (str_el i hi j hj)) (fun i j hi hj hij => (str_ne i hi j hj hij).imp (fun h => hs _ h) (fun h => hs _ h)) hA
  obtain ⟨w, hw, hr⟩ := Cond.isRef_spec (args := args) (first := s) (o := none) (s := s) (idx := []) (hs _ nar_sf)
  have hz := va_Zof (A := q_A B) (hts _ nar_sfl) (hts _ nar_sfi) hw hA
  have hf : ∃ f : Nat, w = .null ∨ w = .ref f := by
    cases w with
    | null => exact ⟨0, Or.inl rfl⟩
    | ref f => exact ⟨f, Or.inr rfl⟩
    | _ => exact absurd (show false = true from hr) (by decide)
  obtain ⟨f, hf⟩ := hf
  refine ⟨tS, adK, adV, f, fun ad a1 a2 a3 a4 => ⟨fun i hi => ?_, h1.ad a2 a3, fun i hi => ?_, va_Zof (hts _ nar_csl) (hts _ nar_csi) (va_eqi (hs _ nar_cs)) hA, ?_, va_Nw.of rfl (hts _ nar_nw)⟩⟩
  · rw [a1 i hi]
    exact hS i hi
  · rw [a2 i hi]
    exact vk_R.of (hts _ (str_rf i hi)) (h2 i hi)
  · rcases hf with rfl | rfl
    · exact Or.inl hz
    · rw [a4]
      exact Or.inr hz
theorem st_K (htq : ∀ w ∈ q_tbl, w.before args s = true) (hE : AO.before args s = true) : ∃ (D : va_G) (cT : Nat → ClassId), va_K D vwCl (q_tys cT) s := by
  obtain ⟨c0, i0, k0⟩ := u_known (ws := q_tbl) (C := RX0) (T := TX0) (N := 10) (n := 10) htq (cls_in 0 (RX0, TX0, 10) rfl) (htq _ wi_X0)
  obtain ⟨c1, i1, k1⟩ := u_known (ws := q_tbl) (C := RX2) (T := TX2) (N := 8) (n := 8) htq (cls_in 1 (RX2, TX2, 8) rfl) (htq _ wi_X2)
  obtain ⟨c2, i2, k2⟩ := u_known (ws := q_tbl) (C := RX3) (T := TX3) (N := 4) (n := 4) htq (cls_in 2 (RX3, TX3, 4) rfl) (htq _ wi_X3)
  obtain ⟨c3, i3, k3⟩ := u_known (ws := q_tbl) (C := RX4) (T := TX4) (N := 3) (n := 3) htq (cls_in 3 (RX4, TX4, 3) rfl) (htq _ wi_X4)
  obtain ⟨c4, i4, k4⟩ := u_known (ws := q_tbl) (C := RX5) (T := TX5) (N := 8) (n := 8) htq (cls_in 4 (RX5, TX5, 8) rfl) (htq _ wi_X5)
  obtain ⟨c5, i5, k5⟩ := u_known (ws := q_tbl) (C := RX6) (T := TX6) (N := 5) (n := 5) htq (cls_in 5 (RX6, TX6, 5) rfl) (htq _ wi_X6)
  obtain ⟨c6, i6, k6⟩ := u_known (ws := q_tbl) (C := RX7) (T := TX7) (N := 9) (n := 9) htq (cls_in 6 (RX7, TX7, 9) rfl) (htq _ wi_X7)
  obtain ⟨c7, i7, k7⟩ := u_known (ws := q_tbl) (C := RX8) (T := TX8) (N := 46) (n := 46) htq (cls_in 7 (RX8, TX8, 46) rfl) (htq _ wi_X8)
  obtain ⟨a0, x0, y0, f0, g0, j0⟩ := Cond.arrayClass_spec (args := args) (first := s) (o := none) (s := s) (idx := []) (htq _ w_ai)
  obtain ⟨a1, x1, y1, f1, g1, j1⟩ := Cond.arrayClass_spec (args := args) (first := s) (o := none) (s := s) (idx := []) (htq _ w_az)
  obtain ⟨y2, a2, x2, -, g2, j2, f2⟩ := Cond.arrayOver_specA (args := args) (first := s) (o := none) (s := s) (idx := []) (t := .int) hE
  refine ⟨(fun k => [c0, c1, c2, c3, c4, c5, c6, c7].getD k c0, fun k => [i0, i1, i2, i3, i4, i5, i6, i7].getD k i0), fun k => [a0, a1, a2].getD k a0, fun k q hq => ?_, fun k q hq => ?_⟩
  · match k, hq with
    | 0, hq => cases hq; exact k0
    | 1, hq => cases hq; exact k1
    | 2, hq => cases hq; exact k2
    | 3, hq => cases hq; exact k3
    | 4, hq => cases hq; exact k4
    | 5, hq => cases hq; exact k5
    | 6, hq => cases hq; exact k6
    | 7, hq => cases hq; exact k7
    | n + 8, hq => simp [vwCl] at hq
  · match k, hq with
    | 0, hq => cases hq; exact ⟨fun n z => ⟨(fun k h => by cases h), x0, g0, y0, j0⟩, f0⟩
    | 1, hq => cases hq; exact ⟨fun n z => ⟨(fun k h => by cases h), x1, g1, y1, j1⟩, f1⟩
    | 2, hq => cases hq; exact ⟨fun n z => ⟨(fun k h => by cases h), x2, g2, y2, j2⟩, f2⟩
    | n + 3, hq => simp [q_tys] at hq
end START
/-- where the cells lie, the static arrays, the texts, the script -/
def q_ad (B : Nat) (tS adK adV : Nat → Nat) (f b : Nat) : Nat → Nat := fun k => if k < 100000 then B + k else if k < 100010 then tS (k - 100000) else if k < 100030 then adK (k - 100010) else if k < 100098 then adV (k - 100030) else if k = 100098 then f else b
theorem whole_start {p : Program} {e : Env} {s : State} {m : MethodId} {below : List Frame} {meth : Method} {c : Code} (l : Launch) (hflags : l.flags = flags0) {b L : Nat} {xs : Nat → Int32} (hL : L ≤ 3072) (C0 : lw_At p s m meth c b L xs) : W p l e room_1 s m #[Value.ref b] below meth c s.heap [] 0 0 (lw_Z below #[Value.ref b] s) (entryFrame m ([Value.ref b] : List Value).toArray 4) := by
  obtain ⟨hx, hb, hr, hml, hown, hts, hX, hbl, hlocks, hgv⟩ := id C0
  have hs : ∀ w ∈ q_fl, w.before #[Value.ref b] s = true := flat_of_before _ hgv
  have htq : ∀ w ∈ q_tbl, w.before #[Value.ref b] s = true := fun w hw => hts w (List.mem_filter.mp hw).1
  have hE := hts _ nar_ao
  obtain ⟨D, cT, hK⟩ := st_K htq hE
  obtain ⟨tS, adK, adV, f, hZ⟩ := st_S hs hts s.heap.size (fun a h q => Nat.not_le.mpr h q)
  have e0 : ∀ k, k < 100000 → q_ad s.heap.size tS adK adV f b k = s.heap.size + k := fun k hk => if_pos hk
  have e1 : ∀ i, i < 5 → q_ad s.heap.size tS adK adV f b (100000 + i) = tS i := fun i hi => by
    unfold q_ad
    rw [if_neg (by omega), if_pos (by omega), Nat.add_sub_cancel_left]
  have e2 : ∀ i, i < 12 → q_ad s.heap.size tS adK adV f b (100010 + i) = adK i := fun i hi => by
    unfold q_ad
    rw [if_neg (by omega), if_neg (by omega), if_pos (by omega), Nat.add_sub_cancel_left]
  have e3 : ∀ i, i < 12 → q_ad s.heap.size tS adK adV f b (100030 + i) = adV i := fun i hi => by
    unfold q_ad
    rw [if_neg (by omega), if_neg (by omega), if_neg (by omega), if_pos (by omega), Nat.add_sub_cancel_left]
  have e4 : q_ad s.heap.size tS adK adV f b 100098 = f := by
    unfold q_ad
    rw [if_neg (by omega), if_neg (by omega), if_neg (by omega), if_neg (by omega), if_pos rfl]
  have e5 : q_ad s.heap.size tS adK adV f b 100099 = b := by
    unfold q_ad
    rw [if_neg (by omega), if_neg (by omega), if_neg (by omega), if_neg (by omega), if_neg (by omega)]
  generalize q_ad s.heap.size tS adK adV f b = ad at e0 e1 e2 e3 e4 e5
  have hl := lv_entry ([.ref b]) (n := 4) (Nat.le_of_ble_eq_true rfl)
  rw [lg_entry_eq]
  generalize (lg_sl ([.ref b]) ++ List.replicate (4 - (lg_sl ([.ref b])).length) Slot.unset).toArray = ls at hl ⊢
  have hl : lv_has ls 4 [(0, .ref b)] := hl
  have hl : lv_has ls 4 (q_l ad 0 [some (.ref 100099), none, none, none]) := by
    show lv_has ls 4 [(0, .ref (ad 100099))]
    rw [e5]
    exact hl
  refine law_all (xs := xs) hL p l e room_1 s m #[Value.ref b] below meth c s.heap [] 0 0 (lw_Z below #[Value.ref b] s) ad s.heap.size D cT ls 72 3199 ⟨hx, hb, hml, hown, htq, (fun h => by cases h), ⟨Nat.le_of_ble_eq_true rfl, Nat.le_of_ble_eq_true rfl⟩, e0, Nat.le_refl _, hK, hZ ad e1 e2 e3 e4, over_moved (Vm.Alike.refl s.vm) hE, by rw [e5]; exact hX, by rw [e5, e0 0 (by decide)]; exact hbl⟩ ?_ (Nat.le_of_ble_eq_true rfl) (Nat.le_of_ble_eq_true rfl) (Nat.le_of_ble_eq_true rfl) (Nat.le_of_ble_eq_true rfl) va_S.rf ⟨rfl, Nat.zero_le _, fun k x h => by simp at h⟩ hl
  intro x M' H' locs' cells' slots' pc' ls' st' hp hS hW' hc hs' he
  refine va_forget (fun q hq => hS.2.2 q hq) ?_
  refine W.widen (k := 600000) (n := 7302250) (by omega) (by omega) ?_
  rcases he with ⟨v, ty, e1', rfl, e2', e3', e4'⟩ | ⟨v, e1', rfl, e2', e4'⟩ | ⟨k, e1', rfl, ⟨t, e2'⟩, e4'⟩ | ⟨e1', rfl, e2', e4'⟩
  · have hv : v = 1 := by
      have h9 : Value.int x = Value.int v := Option.some.inj e1'
      have h8 : x = v := by injection h9
      exact h8.symm.trans hp
    subst hv
    exact lw_ret hx hb hr hlocks e4'
  · exact absurd e1' (by simp)
  · exact absurd e1' (by simp)
  · exact absurd e1' (by simp)
