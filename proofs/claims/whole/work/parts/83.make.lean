/-! ===== rows of making: a new cell behind the last ===== -/
theorem w_ai : Cond.arrayClass .int ∈ q_tbl := by decide +kernel
theorem w_az : Cond.arrayClass .boolean ∈ q_tbl := by decide +kernel
theorem q_W.push {D : va_G} {cT : Nat → ClassId} {ad : Nat → Nat} {B : Nat} {M : List AE} {H H1 : Heap} {e : AE} (h : q_W D cT ad B M H) (hm : M.length < 100000) (hz : H1.size = H.size + 1) (ho : ∀ q : Nat, q < H.size → H1[q]? = H[q]?) (h1 : va_at D vwCl (B + M.length, q_e cT ad e) H1) : q_W D cT ad B (M ++ [e]) H1 := by
  refine ⟨by rw [hz, List.length_append, h.1]; rfl, by rw [List.length_append]; exact hm, fun j x hx => ?_⟩
  by_cases hj : j < M.length
  · rw [List.getElem?_append_left hj] at hx
    exact (h.2.2 j x hx).kept (ho _ (by show B + j < H.size; rw [h.1]; omega))
  · rw [List.getElem?_append_right (by omega)] at hx
    have hz : j - M.length < 1 := (List.getElem?_eq_some_iff.mp hx).1
    rw [show j - M.length = 0 by omega] at hx
    cases hx
    rw [show j = M.length by omega]
    exact h1
theorem va_S.push {A : Nat → Prop} {H0 H H1 : Heap} {locs : List Loc} (hS : va_S A H0 H locs) (hz : H1.size = H.size + 1) (ho : ∀ q : Nat, q < H.size → H1[q]? = H[q]?) : va_S A H0 H1 locs :=
  ⟨Nat.le_trans hS.1 (by omega), fun x h1 h2 => (ho x (Nat.lt_of_lt_of_le h1 hS.1)).trans (hS.2.1 x h1 h2), hS.2.2⟩
section QNEW
variable {X : Type} {emb : X → Option Value} {own : String} {cc : ByteArray} {nL : Nat} {ret : Option FieldType} {ini : Bool} {E : (Nat → Nat) → State → Prop} {d : Nat} {post : X → List AE → Prop} {kc ks pc : Nat} {L : List (Option Value)} {st : List Value} {M : List AE}
theorem g_newai {n : Int32} {N : Nat} (hd : decode cc pc = .ok (.newarray .int, 2)) (hn : ¬ n < 0) (hN : n.toNatClampNeg = N) (hb1 : N * 4 ≤ 536870912) (hm : M.length < 100000) (kk : WG emb own cc nL ret ini E d post kc ks (pc + 2) L (.ref M.length :: st) (M ++ [.inl (0, N, .inl (fun _ => 0))])) : WG emb own cc nL ret ini E d post (kc + 1) (ks + N) pc L (.int n :: st) M := by
  intro p l e R s m args below meth c H locs cells slots Q ad B D cT ls ct sl hC hR h1 h2 h3 h4 hS hW hl
  obtain ⟨hx, hb, hml, hown, hts, hini, hRR, hAD, hB, hK, hZ, hE⟩ := id hC
  have hk : ad M.length = H.size := (hAD M.length hm).trans hW.1.symm
  have hb2 : N * componentBytes (newarray.typeOf .int) ≤ 536870912 := by
    show N * 4 ≤ 536870912
    omega
  show W p l e R s m args below meth c H locs cells slots Q (F0 m pc ls (.int n :: st.map (q_v ad)))
  refine va_newaK (atype := .int) (N := N) hx hb (hts _ w_ai) rfl hd rfl hn hN hb2 (by omega) (by omega) (h := H.size) rfl fun H1 cA e1 z1 o1 hAr hNm => ?_
  have hc0 : s.vm.findClass ("[" ++ (FieldType.toString .int)) = some (cT 0) := (hK.2 0 (cT 0, .int) rfl).2
  have hcA : cA = cT 0 := Option.some.inj (hNm.symm.trans hc0)
  subst hcA
  have h := kk p l e R s m args below meth c H1 locs (cells + 1) (slots + N) Q ad B D cT ls ct sl hC hR (by omega) (by omega) h3 h4 (hS.push z1 o1) (hW.push hm z1 o1 (by
    show H1[B + M.length]? = some (vp_cell (cT 0) (N, .inl (fun _ => 0)))
    rw [← hW.1, e1, vp_cell_i]
    rfl)) hl
  rw [List.map_cons, show q_v ad (.ref M.length) = .ref H.size by rw [← hk]; rfl] at h
  exact h
theorem g_newaz {n : Int32} {N : Nat} (hd : decode cc pc = .ok (.newarray .boolean, 2)) (hn : ¬ n < 0) (hN : n.toNatClampNeg = N) (hb1 : N * 4 ≤ 536870912) (hm : M.length < 100000) (kk : WG emb own cc nL ret ini E d post kc ks (pc + 2) L (.ref M.length :: st) (M ++ [.inl (1, N, .inl (fun _ => 0))])) : WG emb own cc nL ret ini E d post (kc + 1) (ks + N) pc L (.int n :: st) M := by
  intro p l e R s m args below meth c H locs cells slots Q ad B D cT ls ct sl hC hR h1 h2 h3 h4 hS hW hl
  obtain ⟨hx, hb, hml, hown, hts, hini, hRR, hAD, hB, hK, hZ, hE⟩ := id hC
  have hk : ad M.length = H.size := (hAD M.length hm).trans hW.1.symm
  have hb2 : N * componentBytes (newarray.typeOf .boolean) ≤ 536870912 := by
    show N * 1 ≤ 536870912
    omega
  show W p l e R s m args below meth c H locs cells slots Q (F0 m pc ls (.int n :: st.map (q_v ad)))
  refine va_newaK (atype := .boolean) (N := N) hx hb (hts _ w_az) rfl hd rfl hn hN hb2 (by omega) (by omega) (h := H.size) rfl fun H1 cA e1 z1 o1 hAr hNm => ?_
  have hc0 : s.vm.findClass ("[" ++ (FieldType.toString .boolean)) = some (cT 1) := (hK.2 1 (cT 1, .boolean) rfl).2
  have hcA : cA = cT 1 := Option.some.inj (hNm.symm.trans hc0)
  subst hcA
  have h := kk p l e R s m args below meth c H1 locs (cells + 1) (slots + N) Q ad B D cT ls ct sl hC hR (by omega) (by omega) h3 h4 (hS.push z1 o1) (hW.push hm z1 o1 (by
    show H1[B + M.length]? = some (vp_cell (cT 1) (N, .inl (fun _ => 0)))
    rw [← hW.1, e1, vp_cell_i]
    rfl)) hl
  rw [List.map_cons, show q_v ad (.ref M.length) = .ref H.size by rw [← hk]; rfl] at h
  exact h
theorem g_new {ci idx N : Nat} {C : String} {T : u_T} {fs : List Value} (ty : Nat → FieldType) (hty : ∀ k, k < N → parseFieldDescriptor (T k).2.2.1 = some (ty k)) (hc : vwCl[ci]? = some (C, T, N)) (hcl : Cond.classLink own idx C ∈ q_tbl) (hinst : Cond.instantiable C N ∈ q_tbl) (hin1 : Cond.initialized C ∈ q_tbl) (hfs : ∀ j, j < N → defaultValue (ty j) = vp_V fs j) (hq : ∀ ad : Nat → Nat, fs.map (q_v ad) = fs) (hd : decode cc pc = .ok (.new idx, 3)) (hm : M.length < 100000) (kk : WG emb own cc nL ret ini E d post kc ks (pc + 3) L (.ref M.length :: st) (M ++ [.inr (ci, fs)])) : WG emb own cc nL ret ini E d post (kc + 1) (ks + N) pc L st M := by
  intro p l e R s m args below meth c H locs cells slots Q ad B D cT ls ct sl hC hR h1 h2 h3 h4 hS hW hl
  obtain ⟨hx, hb, hml, hown, hts, hini, hRR, hAD, hB, hK, hZ, hE⟩ := id hC
  have hk : ad M.length = H.size := (hAD M.length hm).trans hW.1.symm
  have hKn := hK.1 ci _ hc
  refine W.newcK hx hb hown (hts _ hcl) (hts _ hinst) (hts _ hin1) rfl hd (by omega) (by omega) hKn.2.1 rfl fun H1 kC hkC e1 z1 o1 => ?_
  have h := kk p l e R s m args below meth c H1 locs (cells + 1) (slots + N) Q ad B D cT ls ct sl hC hR (by omega) (by omega) h3 h4 (hS.push z1 o1) (hW.push hm z1 o1 (by
    rw [← hW.1]
    show va_at D vwCl (H.size, .inr (ci, fs.map (q_v ad))) H1
    rw [hq]
    exact ⟨_, hc, (u_born ty hts (cls_in ci _ hc) hKn hkC e1 hty).to hfs⟩)) hl
  rw [List.map_cons, show q_v ad (.ref M.length) = .ref H.size by rw [← hk]; rfl] at h
  exact h
end QNEW
