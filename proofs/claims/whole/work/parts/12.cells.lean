/-! ===== the rows that read and write cells ===== -/
theorem cls_in : ∀ (ci : Nat) (q : vw_C), vwCl[ci]? = some q → ∀ w ∈ u_ws q.1 q.2.1 q.2.2, w ∈ q_tbl := by
  have h0 : ∀ w ∈ u_ws RX0 TX0 10, w ∈ q_tbl := by decide +kernel
  have h1 : ∀ w ∈ u_ws RX2 TX2 8, w ∈ q_tbl := by decide +kernel
  have h2 : ∀ w ∈ u_ws RX3 TX3 4, w ∈ q_tbl := by decide +kernel
  have h3 : ∀ w ∈ u_ws RX4 TX4 3, w ∈ q_tbl := by decide +kernel
  have h4 : ∀ w ∈ u_ws RX5 TX5 8, w ∈ q_tbl := by decide +kernel
  have h5 : ∀ w ∈ u_ws RX6 TX6 5, w ∈ q_tbl := by decide +kernel
  have h6 : ∀ w ∈ u_ws RX7 TX7 9, w ∈ q_tbl := by decide +kernel
  have h7 : ∀ w ∈ u_ws RX8 TX8 46, w ∈ q_tbl := by decide +kernel
  intro ci q hq
  match ci, hq with
  | 0, hq => cases hq; exact h0
  | 1, hq => cases hq; exact h1
  | 2, hq => cases hq; exact h2
  | 3, hq => cases hq; exact h3
  | 4, hq => cases hq; exact h4
  | 5, hq => cases hq; exact h5
  | 6, hq => cases hq; exact h6
  | 7, hq => cases hq; exact h7
  | n + 8, hq => simp [vwCl] at hq
theorem cls_ty : ∀ (ci : Nat) (q : vw_C), vwCl[ci]? = some q → (∃ ty : Nat → FieldType, ∀ k, k < q.2.2 → parseFieldDescriptor (q.2.1 k).2.2.1 = some (ty k)) ∧ ∀ a, a < q.2.2 → ∀ b, b < q.2.2 → a ≠ b → (q.2.1 a).2.1 ≠ (q.2.1 b).2.1 := by
  intro ci q hq
  match ci, hq with
  | 0, hq => cases hq; exact ⟨⟨tyX0, tyX0_ok⟩, nmX0⟩
  | 1, hq => cases hq; exact ⟨⟨tyX2, tyX2_ok⟩, nmX2⟩
  | 2, hq => cases hq; exact ⟨⟨tyX3, tyX3_ok⟩, nmX3⟩
  | 3, hq => cases hq; exact ⟨⟨tyX4, tyX4_ok⟩, nmX4⟩
  | 4, hq => cases hq; exact ⟨⟨tyX5, tyX5_ok⟩, nmX5⟩
  | 5, hq => cases hq; exact ⟨⟨tyX6, tyX6_ok⟩, nmX6⟩
  | 6, hq => cases hq; exact ⟨⟨tyX7, tyX7_ok⟩, nmX7⟩
  | 7, hq => cases hq; exact ⟨⟨tyX8, tyX8_ok⟩, nmX8⟩
  | n + 8, hq => simp [vwCl] at hq
/-- a field's link: entry idx of own is field j of class ci -/
def FL (own : String) (idx ci j : Nat) : Prop := ∃ q : vw_C, vwCl[ci]? = some q ∧ j < q.2.2 ∧ Cond.fieldLink own idx (q.2.1 j).1 (q.2.1 j).2.1 (q.2.1 j).2.2.1 ∈ q_tbl
/-- the same of a field that may be written: its type, whether it is final -/
def FW (own : String) (idx ci j : Nat) (ty : FieldType) (fin : Bool) : Prop := ∃ q : vw_C, vwCl[ci]? = some q ∧ j < q.2.2 ∧ Cond.fieldLink own idx (q.2.1 j).1 (q.2.1 j).2.1 (q.2.1 j).2.2.1 ∈ q_tbl ∧ parseFieldDescriptor (q.2.1 j).2.2.1 = some ty ∧ (q.2.1 j).2.2.2 = fin ∧ (fin = true → (q.2.1 j).1 = own)
theorem q_nar {ty : FieldType} {v : Value} (ad : Nat → Nat) (h : narrow ty v = v) : narrow ty (q_v ad v) = q_v ad v := by
  cases v <;> first | exact h | (cases ty <;> rfl)
theorem q_fit {ty : FieldType} {v : Value} (ad : Nat → Nat) (h : fits ty v = true) : fits ty (q_v ad v) = true := by
  cases v <;> first | exact h | (cases ty <;> first | rfl | exact h | (simp [fits, q_v] at h ⊢; done))
theorem q_W.one {D : va_G} {cT : Nat → ClassId} {ad : Nat → Nat} {B : Nat} {M : List AE} {H : Heap} {k : Nat} {e : AE} (h : q_W D cT ad B M H) (he : M[k]? = some e) : va_P D vwCl [(B + k, q_e cT ad e)] H := by
  intro i q hq
  have hi : i < 1 := (List.getElem?_eq_some_iff.mp hq).1
  rw [show i = 0 by omega] at hq
  cases hq
  exact h.2.2 k e he
theorem q_W.lt {D : va_G} {cT : Nat → ClassId} {ad : Nat → Nat} {B : Nat} {M : List AE} {H : Heap} {k : Nat} {e : AE} (h : q_W D cT ad B M H) (he : M[k]? = some e) : k < 100000 :=
  Nat.lt_of_lt_of_le (List.getElem?_eq_some_iff.mp he).1 h.2.1
theorem q_W.set {D : va_G} {cT : Nat → ClassId} {ad : Nat → Nat} {B : Nat} {M : List AE} {H H1 : Heap} {k : Nat} {e e1 : AE} (h : q_W D cT ad B M H) (he : M[k]? = some e) (hz : H1.size = H.size) (ho : ∀ q : Nat, q ≠ B + k → H1[q]? = H[q]?) (h1 : va_at D vwCl (B + k, q_e cT ad e1) H1) : q_W D cT ad B (M.set k e1) H1 := by
  refine ⟨by rw [hz, List.length_set]; exact h.1, by rw [List.length_set]; exact h.2.1, fun j x hx => ?_⟩
  rw [List.getElem?_set] at hx
  by_cases hj : k = j
  · subst hj
    rw [if_pos rfl] at hx
    split at hx
    · cases hx
      exact h1
    · cases hx
  · rw [if_neg hj] at hx
    exact (h.2.2 j x hx).kept (ho _ (by show B + j ≠ B + k; omega))
section QM
variable {X : Type} {emb : X → Option Value} {own : String} {cc : ByteArray} {nL : Nat} {ret : Option FieldType} {ini : Bool} {E : (Nat → Nat) → State → Prop} {d : Nat} {post : X → List AE → Prop} {kc ks pc : Nat} {L : List (Option Value)} {st : List Value} {M : List AE}
theorem g_get {idx ci j k : Nat} {fs : List Value} {v : Value} (fl : FL own idx ci j) (hd : decode cc pc = .ok (.getfield idx, 3)) (he : M[k]? = some (.inr (ci, fs))) (hv : fs[j]? = some v) (kk : WG emb own cc nL ret ini E d post kc ks (pc + 3) L (v :: st) M) : WG emb own cc nL ret ini E d post kc ks pc L (.ref k :: st) M := by
  intro p l e R s m args below meth c H locs cells slots Q ad B D cT ls ct sl hC hR h1 h2 h3 h4 hS hW hl
  obtain ⟨hx, hb, hml, hown, hts, hini, hRR, hAD, hB, hK, hZ, hE⟩ := id hC
  obtain ⟨q, hq, hj, hlk⟩ := fl
  have hk : ad k = B + k := hAD k (hW.lt he)
  show W p l e R s m args below meth c H locs cells slots Q (F0 m pc ls (.ref (ad k) :: st.map (q_v ad)))
  rw [hk]
  refine va_get (fs := fs.map (q_v ad)) (v := q_v ad v) hx hb hts (cls_in ci q hq) hown hK (hW.one he) 0 rfl hq j hj (hts _ hlk) (fun _ h => h) ?_ hd (kk p l e R s m args below meth c H locs cells slots Q ad B D cT ls ct sl hC hR h1 h2 h3 h4 hS hW hl)
  rw [List.getElem?_map, hv]
  rfl
theorem g_put {idx ci j k : Nat} {ty : FieldType} {fs : List Value} {v : Value} (fl : FW own idx ci j ty false) (hd : decode cc pc = .ok (.putfield idx, 3)) (he : M[k]? = some (.inr (ci, fs))) (hl9 : j < fs.length) (hn : narrow ty v = v) (hf : fits ty v = true) (kk : WG emb own cc nL ret ini E d post kc ks (pc + 3) L st (M.set k (.inr (ci, fs.set j v)))) : WG emb own cc nL ret ini E d post kc ks pc L (v :: .ref k :: st) M := by
  intro p l e R s m args below meth c H locs cells slots Q ad B D cT ls ct sl hC hR h1 h2 h3 h4 hS hW hl
  obtain ⟨hx, hb, hml, hown, hts, hini, hRR, hAD, hB, hK, hZ, hE⟩ := id hC
  obtain ⟨⟨C, T, N⟩, hc, hj, hlk, hdesc, hfin, -⟩ := fl
  have hk : ad k = B + k := hAD k (hW.lt he)
  show W p l e R s m args below meth c H locs cells slots Q (F0 m pc ls (q_v ad v :: .ref (ad k) :: st.map (q_v ad)))
  rw [hk]
  obtain ⟨⟨ty0, hty⟩, hnm⟩ := cls_ty ci _ hc
  have hin := cls_in ci _ hc
  have hap := va_apart (own := own) hts hin ty0 hty hnm hK hc
  obtain ⟨r, hr0, cell, q1, q2, q3, q4⟩ := hW.one he 0 _ rfl
  have hr : r = (C, T, N) := Option.some.inj (hr0.symm.trans hc)
  subst hr
  obtain ⟨hSl, hfc, kC, hkC, hkind⟩ := hK.1 ci _ hc
  obtain ⟨cf, kf, fi, f, hi, hsl⟩ := hSl j hj
  have hlay := hts _ (hin _ (u_in_lay hj))
  unfold u_lay at hlay
  rw [if_neg (by rw [hfin]; decide)] at hlay
  have hst := (u_facts hfc hkC (u_lays hts hin hj) hi).1
  have h6 := u_store hfc hkC hkind hlay hi hdesc (q_nar ad hn) (q_fit ad hf)
  refine W.putK hx hb (f := f) ⟨hown, hts _ hlk, ⟨_, _, _, hi⟩, hst⟩ (by rw [q2]; exact h6) q1 q3 (by rw [hsl]; exact k2_hasslot (q4 j hj)) rfl rfl hd fun H' e1 e2 e3 => ?_
  rw [hsl] at e1 ⊢
  refine kk p l e R s m args below meth c H' _ cells slots Q ad B D cT ls ct sl hC hR h1 h2 h3 h4 (hS.put e2 e3 (Nat.le_add_right B k)) (hW.set he e2 e3 ?_) hl
  refine ⟨_, hc, t_OB.to (V := updV (vp_V (fs.map (q_v ad))) j (q_v ad v)) ⟨_, e1, q2, q3, t_set q4 hap hj (q_v ad v)⟩ (fun i _ => ?_)⟩
  rw [vp_updV_set (by rw [List.length_map]; exact hl9), List.map_set]
theorem g_putF {idx ci j k : Nat} {ty : FieldType} {fs : List Value} {v : Value} (fl : FW own idx ci j ty true) (hI : ini = true) (hd : decode cc pc = .ok (.putfield idx, 3)) (he : M[k]? = some (.inr (ci, fs))) (hl9 : j < fs.length) (hn : narrow ty v = v) (hf : fits ty v = true) (kk : WG emb own cc nL ret ini E d post kc ks (pc + 3) L st (M.set k (.inr (ci, fs.set j v)))) : WG emb own cc nL ret ini E d post kc ks pc L (v :: .ref k :: st) M := by
  intro p l e R s m args below meth c H locs cells slots Q ad B D cT ls ct sl hC hR h1 h2 h3 h4 hS hW hl
  obtain ⟨hx, hb, hml, hown, hts, hini, hRR, hAD, hB, hK, hZ, hE⟩ := id hC
  obtain ⟨⟨C, T, N⟩, hc, hj, hlk, hdesc, hfin, hdecl⟩ := fl
  have hk : ad k = B + k := hAD k (hW.lt he)
  show W p l e R s m args below meth c H locs cells slots Q (F0 m pc ls (q_v ad v :: .ref (ad k) :: st.map (q_v ad)))
  rw [hk]
  obtain ⟨⟨ty0, hty⟩, hnm⟩ := cls_ty ci _ hc
  have hin := cls_in ci _ hc
  have hap := va_apart (own := own) hts hin ty0 hty hnm hK hc
  obtain ⟨r, hr0, cell, q1, q2, q3, q4⟩ := hW.one he 0 _ rfl
  have hr : r = (C, T, N) := Option.some.inj (hr0.symm.trans hc)
  subst hr
  obtain ⟨hSl, hfc, kC, hkC, hkind⟩ := hK.1 ci _ hc
  obtain ⟨cf, kf, fi, f, hi, hsl⟩ := hSl j hj
  have hlay := hts _ (hin _ (u_in_lay hj))
  unfold u_lay at hlay
  rw [if_pos hfin] at hlay
  have hst := (u_facts hfc hkC (u_lays hts hin hj) hi).1
  have hcf : m.cls = cf := by
    obtain ⟨_, _, c', _, _, _, -, -, hf', -, -, -, hown2, -⟩ := Cond.laysFinal_spec hlay
    have e1 : c' = cf := by have := hi.symm.trans hf'; simp at this; exact this.1.symm
    rw [hdecl rfl] at hown2
    rw [← e1]; exact Option.some.inj (hown.symm.trans hown2)
  have h6 := u_fits hfc hkC hkind (Or.inr hlay) hi hdesc (q_nar ad hn) (q_fit ad hf)
  refine W.putFinK hx hb hown (hts _ hlk) hi hst hcf (hini hI) (by rw [q2]; exact h6) q1 q3 (by rw [hsl]; exact k2_hasslot (q4 j hj)) rfl rfl hd fun H' e1 e2 e3 => ?_
  rw [hsl] at e1 ⊢
  refine kk p l e R s m args below meth c H' _ cells slots Q ad B D cT ls ct sl hC hR h1 h2 h3 h4 (hS.put e2 e3 (Nat.le_add_right B k)) (hW.set he e2 e3 ?_) hl
  refine ⟨_, hc, t_OB.to (V := updV (vp_V (fs.map (q_v ad))) j (q_v ad v)) ⟨_, e1, q2, q3, t_set q4 hap hj (q_v ad v)⟩ (fun i _ => ?_)⟩
  rw [vp_updV_set (by rw [List.length_map]; exact hl9), List.map_set]
theorem g_iald {k n : Nat} {f : Nat → Int32} {i : Int32} (hd : decode cc pc = .ok (.iaload, 1)) (he : M[k]? = some (.inl (0, n, .inl f))) (hin : vp_in i n) (kk : WG emb own cc nL ret ini E d post kc ks (pc + 1) L (.int (f i.toNatClampNeg) :: st) M) : WG emb own cc nL ret ini E d post kc ks pc L (.int i :: .ref k :: st) M := by
  intro p l e R s m args below meth c H locs cells slots Q ad B D cT ls ct sl hC hR h1 h2 h3 h4 hS hW hl
  obtain ⟨hx, hb, hml, hown, hts, hini, hRR, hAD, hB, hK, hZ, hE⟩ := id hC
  have hk : ad k = B + k := hAD k (hW.lt he)
  show W p l e R s m args below meth c H locs cells slots Q (F0 m pc ls (.int i :: .ref (ad k) :: st.map (q_v ad)))
  rw [hk]
  exact va_iald hx hb hK (hW.one he) 0 0 rfl rfl hin hd (kk p l e R s m args below meth c H locs cells slots Q ad B D cT ls ct sl hC hR h1 h2 h3 h4 hS hW hl)
theorem g_zald {k n : Nat} {f : Nat → Int32} {i : Int32} (hd : decode cc pc = .ok (.baload, 1)) (he : M[k]? = some (.inl (1, n, .inl f))) (hin : vp_in i n) (kk : WG emb own cc nL ret ini E d post kc ks (pc + 1) L (.int (f i.toNatClampNeg) :: st) M) : WG emb own cc nL ret ini E d post kc ks pc L (.int i :: .ref k :: st) M := by
  intro p l e R s m args below meth c H locs cells slots Q ad B D cT ls ct sl hC hR h1 h2 h3 h4 hS hW hl
  obtain ⟨hx, hb, hml, hown, hts, hini, hRR, hAD, hB, hK, hZ, hE⟩ := id hC
  have hk : ad k = B + k := hAD k (hW.lt he)
  show W p l e R s m args below meth c H locs cells slots Q (F0 m pc ls (.int i :: .ref (ad k) :: st.map (q_v ad)))
  rw [hk]
  exact va_zald hx hb hK (hW.one he) 0 1 rfl rfl hin hd (kk p l e R s m args below meth c H locs cells slots Q ad B D cT ls ct sl hC hR h1 h2 h3 h4 hS hW hl)
theorem g_aald {k n k2 : Nat} {g : Nat → Option Nat} {i : Int32} (hd : decode cc pc = .ok (.aaload, 1)) (he : M[k]? = some (.inl (2, n, .inr (.inr (.inr (.inr g)))))) (hin : vp_in i n) (hg : g i.toNatClampNeg = some k2) (kk : WG emb own cc nL ret ini E d post kc ks (pc + 1) L (.ref k2 :: st) M) : WG emb own cc nL ret ini E d post kc ks pc L (.int i :: .ref k :: st) M := by
  intro p l e R s m args below meth c H locs cells slots Q ad B D cT ls ct sl hC hR h1 h2 h3 h4 hS hW hl
  obtain ⟨hx, hb, hml, hown, hts, hini, hRR, hAD, hB, hK, hZ, hE⟩ := id hC
  have hk : ad k = B + k := hAD k (hW.lt he)
  show W p l e R s m args below meth c H locs cells slots Q (F0 m pc ls (.int i :: .ref (ad k) :: st.map (q_v ad)))
  rw [hk]
  have hlt : i.toNatClampNeg < n := Nat.not_le.mp fun q => hin (Or.inr q)
  have hP := hW.one he
  refine W.aald (v := .ref (ad k2)) (ty := .array .int) hx hb (hP 0 _ rfl) ((hK.2 2 _ rfl).1 n (fun j => va_rf ((g j).map ad))) rfl (fun q => by cases q) (by show ¬ (i < 0 ∨ (arrV _ _ _).slots.size ≤ _); rw [arrV_size]; exact hin) (by show (arrV (cT 2) n (fun j => va_rf ((g j).map ad))).slots[_]? = _; rw [arrV_read _ _ hlt, hg]; rfl) rfl rfl hd (kk p l e R s m args below meth c H locs cells slots Q ad B D cT ls ct sl hC hR h1 h2 h3 h4 hS hW hl)
theorem g_alen {k n : Nat} {f : Nat → Int32} {v : Int32} (hd : decode cc pc = .ok (.arraylength, 1)) (he : M[k]? = some (.inl (0, n, .inl f))) (hv : Int32.ofNat n = v) (kk : WG emb own cc nL ret ini E d post kc ks (pc + 1) L (.int v :: st) M) : WG emb own cc nL ret ini E d post kc ks pc L (.ref k :: st) M := by
  intro p l e R s m args below meth c H locs cells slots Q ad B D cT ls ct sl hC hR h1 h2 h3 h4 hS hW hl
  obtain ⟨hx, hb, hml, hown, hts, hini, hRR, hAD, hB, hK, hZ, hE⟩ := id hC
  have hk : ad k = B + k := hAD k (hW.lt he)
  show W p l e R s m args below meth c H locs cells slots Q (F0 m pc ls (.ref (ad k) :: st.map (q_v ad)))
  rw [hk]
  exact va_alen hx hb hK (hW.one he) 0 0 rfl rfl hv hd (kk p l e R s m args below meth c H locs cells slots Q ad B D cT ls ct sl hC hR h1 h2 h3 h4 hS hW hl)
theorem g_iast {k n : Nat} {f : Nat → Int32} {i x : Int32} (hd : decode cc pc = .ok (.iastore, 1)) (he : M[k]? = some (.inl (0, n, .inl f))) (hin : vp_in i n) (kk : WG emb own cc nL ret ini E d post kc ks (pc + 1) L st (M.set k (.inl (0, n, .inl (upd f i.toNatClampNeg x))))) : WG emb own cc nL ret ini E d post kc ks pc L (.int x :: .int i :: .ref k :: st) M := by
  intro p l e R s m args below meth c H locs cells slots Q ad B D cT ls ct sl hC hR h1 h2 h3 h4 hS hW hl
  obtain ⟨hx, hb, hml, hown, hts, hini, hRR, hAD, hB, hK, hZ, hE⟩ := id hC
  have hk : ad k = B + k := hAD k (hW.lt he)
  show W p l e R s m args below meth c H locs cells slots Q (F0 m pc ls (.int x :: .int i :: .ref (ad k) :: st.map (q_v ad)))
  rw [hk]
  refine W.iast hx hb (hW.one he 0 _ rfl) ((hK.2 0 _ rfl).1 n (fun j => .int (f j))) (fun q => by cases q) (by show ¬ (i < 0 ∨ (arrV _ _ _).slots.size ≤ _); rw [arrV_size]; exact hin) rfl rfl hd fun H1 e z oq => ?_
  refine kk p l _ R s m args below meth c H1 _ cells slots Q ad B D cT ls ct sl hC hR h1 h2 h3 h4 (hS.put z oq (Nat.le_add_right B k)) (hW.set he z oq ?_) hl
  show H1[B + k]? = some (vp_cell _ _)
  rw [e]
  show some ((vp_cell _ (n, .inl f)).setSlot _ _) = some (vp_cell _ (n, .inl _))
  rw [vp_cell_i, vp_cell_i, arrV_store]
  congr 2
  funext q
  by_cases hq : q = i.toNatClampNeg
  · subst hq
    simp [updV, upd]
  · simp [updV, upd, hq]
theorem g_zast {k n : Nat} {f : Nat → Int32} {i x : Int32} (hd : decode cc pc = .ok (.bastore, 1)) (he : M[k]? = some (.inl (1, n, .inl f))) (hin : vp_in i n) (hx9 : narrow .boolean (.int x) = .int x) (kk : WG emb own cc nL ret ini E d post kc ks (pc + 1) L st (M.set k (.inl (1, n, .inl (upd f i.toNatClampNeg x))))) : WG emb own cc nL ret ini E d post kc ks pc L (.int x :: .int i :: .ref k :: st) M := by
  intro p l e R s m args below meth c H locs cells slots Q ad B D cT ls ct sl hC hR h1 h2 h3 h4 hS hW hl
  obtain ⟨hx, hb, hml, hown, hts, hini, hRR, hAD, hB, hK, hZ, hE⟩ := id hC
  have hk : ad k = B + k := hAD k (hW.lt he)
  show W p l e R s m args below meth c H locs cells slots Q (F0 m pc ls (.int x :: .int i :: .ref (ad k) :: st.map (q_v ad)))
  rw [hk]
  refine W.zast hx hb (hW.one he 0 _ rfl) ((hK.2 1 _ rfl).1 n (fun j => .int (f j))) (fun q => by cases q) (by show ¬ (i < 0 ∨ (arrV _ _ _).slots.size ≤ _); rw [arrV_size]; exact hin) rfl rfl hd fun H1 e z oq => ?_
  refine kk p l _ R s m args below meth c H1 _ cells slots Q ad B D cT ls ct sl hC hR h1 h2 h3 h4 (hS.put z oq (Nat.le_add_right B k)) (hW.set he z oq ?_) hl
  show H1[B + k]? = some (vp_cell _ _)
  rw [e, hx9]
  show some ((vp_cell _ (n, .inl f)).setSlot _ _) = some (vp_cell _ (n, .inl _))
  rw [vp_cell_i, vp_cell_i, arrV_store]
  congr 2
  funext q
  by_cases hq : q = i.toNatClampNeg
  · subst hq
    simp [updV, upd]
  · simp [updV, upd, hq]
/-! the static arrays -/
theorem g_gets {idx i : Nat} (hi : i < 5) (hlk : Cond.fieldLink own idx (s_F i).1 (s_F i).2 "[I" ∈ q_tbl) (hd : decode cc pc = .ok (.getstatic idx, 3)) (kk : WG emb own cc nL ret ini E d post kc ks (pc + 3) L (.ref (100000 + i) :: st) M) : WG emb own cc nL ret ini E d post kc ks pc L st M := by
  intro p l e R s m args below meth c H locs cells slots Q ad B D cT ls ct sl hC hR h1 h2 h3 h4 hS hW hl
  obtain ⟨hx, hb, hml, hown, hts, hini, hRR, hAD, hB, hK, hZ, hE⟩ := id hC
  exact va_gets hx hb (hZ.1 i hi).1 hS hown (hts _ hlk) (fun _ h => h) hd (kk p l e R s m args below meth c H locs cells slots Q ad B D cT ls ct sl hC hR h1 h2 h3 h4 hS hW hl)
theorem g_sald {i : Nat} {j : Int32} (hi : i < 5) (hin : vp_in j (s_N i)) (hd : decode cc pc = .ok (.iaload, 1)) (kk : WG emb own cc nL ret ini E d post kc ks (pc + 1) L (.int (s_V i j.toNatClampNeg) :: st) M) : WG emb own cc nL ret ini E d post kc ks pc L (.int j :: .ref (100000 + i) :: st) M := by
  intro p l e R s m args below meth c H locs cells slots Q ad B D cT ls ct sl hC hR h1 h2 h3 h4 hS hW hl
  obtain ⟨hx, hb, hml, hown, hts, hini, hRR, hAD, hB, hK, hZ, hE⟩ := id hC
  exact va_ti hx hb (hZ.1 i hi).2 hS hin rfl hd (kk p l e R s m args below meth c H locs cells slots Q ad B D cT ls ct sl hC hR h1 h2 h3 h4 hS hW hl)
theorem g_slen {i : Nat} {v : Int32} (hi : i < 5) (hv : Int32.ofNat (s_N i) = v) (hd : decode cc pc = .ok (.arraylength, 1)) (kk : WG emb own cc nL ret ini E d post kc ks (pc + 1) L (.int v :: st) M) : WG emb own cc nL ret ini E d post kc ks pc L (.ref (100000 + i) :: st) M := by
  intro p l e R s m args below meth c H locs cells slots Q ad B D cT ls ct sl hC hR h1 h2 h3 h4 hS hW hl
  obtain ⟨hx, hb, hml, hown, hts, hini, hRR, hAD, hB, hK, hZ, hE⟩ := id hC
  exact va_tlen hx hb (hZ.1 i hi).2 hS hv hd (kk p l e R s m args below meth c H locs cells slots Q ad B D cT ls ct sl hC hR h1 h2 h3 h4 hS hW hl)
/-! ends -/
theorem g_ireturn {v : Int32} {x : X} {ty : FieldType} (hd : decode cc pc = .ok (.ireturn, 1)) (hr : ret = some ty) (hn : narrow ty (.int v) = .int v) (hx : emb x = some (.int v)) (hp : post x M) : WG emb own cc nL ret ini E d post kc ks pc L [.int v] M := by
  intro p l e R s m args below meth c H locs cells slots Q ad B D cT ls ct sl hC hR h1 h2 h3 h4 hS hW hl
  exact hR x M H locs cells slots pc ls [.int v] hp hS hW (by omega) (by omega) (Or.inl ⟨v, ty, hx, rfl, hr, hn, hd⟩)
theorem g_lreturn {v : Int64} {x : X} (hd : decode cc pc = .ok (.lreturn, 1)) (hr : ret = some .long) (hx : emb x = some (.long v)) (hp : post x M) : WG emb own cc nL ret ini E d post kc ks pc L [.long v] M := by
  intro p l e R s m args below meth c H locs cells slots Q ad B D cT ls ct sl hC hR h1 h2 h3 h4 hS hW hl
  exact hR x M H locs cells slots pc ls [.long v] hp hS hW (by omega) (by omega) (Or.inr (Or.inl ⟨v, hx, rfl, hr, hd⟩))
theorem g_areturn {v : Nat} {x : X} {t : FieldType} (hd : decode cc pc = .ok (.areturn, 1)) (hr : ret = some (.array t)) (hx : emb x = some (.ref v)) (hp : post x M) : WG emb own cc nL ret ini E d post kc ks pc L [.ref v] M := by
  intro p l e R s m args below meth c H locs cells slots Q ad B D cT ls ct sl hC hR h1 h2 h3 h4 hS hW hl
  exact hR x M H locs cells slots pc ls [.ref v] hp hS hW (by omega) (by omega) (Or.inr (Or.inr (Or.inl ⟨v, hx, rfl, ⟨t, hr⟩, hd⟩)))
theorem g_return {x : X} (hd : decode cc pc = .ok (.return_, 1)) (hr : ret = none) (hx : emb x = none) (hp : post x M) : WG emb own cc nL ret ini E d post kc ks pc L [] M := by
  intro p l e R s m args below meth c H locs cells slots Q ad B D cT ls ct sl hC hR h1 h2 h3 h4 hS hW hl
  exact hR x M H locs cells slots pc ls [] hp hS hW (by omega) (by omega) (Or.inr (Or.inr (Or.inr ⟨hx, rfl, hr, hd⟩)))
end QM
