/-! ===== System.arraycopy over the cells; texts ===== -/
theorem z_nn {z : Int32} (hz : ¬ z < 0) : z.toInt = (z.toNatClampNeg : Int) := by
  have hz0 : (0 : Int) ≤ z.toInt := by
    have := Int32.not_lt.mp hz
    simpa using Int32.le_iff_toInt_le.mp this
  show z.toInt = ((z.toInt.toNat : Nat) : Int)
  omega
def mcopy (μ : Mem) (a sp b dp n : Nat) : Mem := fun k j => if k = b ∧ dp ≤ j ∧ j < dp + n then μ a (sp + (j - dp)) else μ k j
section QCOPY
variable {X : Type} {emb : X → Option Value} {own : String} {cc : ByteArray} {nL : Nat} {ret : Option FieldType} {ini : Bool} {E : (Nat → Nat) → State → Prop} {d : Nat} {post : X → List AE → Prop} {kc ks pc : Nat} {L : List (Option Value)} {st : List Value} {M : List AE} {μ : Mem}
theorem g_copy {idx k0 k1 n0 n1 : Nat} {f g : Nat → Int32} {sp dp n : Int32} (hlk : Cond.methodLink own idx arraycopyName ∈ q_tbl) (hdp : 1 ≤ d) (hw : (st.map fun v => v.category).sum ≤ 8) (hd : decode cc pc = .ok (.invokestatic idx, 3)) (he0 : M[k0]? = some (.inl (0, n0, .inl f))) (he1 : M[k1]? = some (.inl (0, n1, .inl g))) (z1 : ¬ sp < 0) (z2 : ¬ dp < 0) (z3 : ¬ n < 0) (z4 : sp.toNatClampNeg + n.toNatClampNeg ≤ n0) (z5 : dp.toNatClampNeg + n.toNatClampNeg ≤ n1)
    (kk : WG emb own cc nL ret ini E d post kc ks (pc + 3) L st (M.set k1 (.inl (0, n1, .inl (va_cpy f g sp.toNatClampNeg dp.toNatClampNeg n.toNatClampNeg))))) : WG emb own cc nL ret ini E d post kc ks pc L (.int n :: .int dp :: .ref k1 :: .int sp :: .ref k0 :: st) M := by
  intro p l e R s m args below meth c H locs cells slots Q ad B D cT ls ct sl hC hR h1 h2 h3 h4 hS hW hl
  obtain ⟨hx, hb, hml, hown, hts, hini, hRR, hAD, hB, hK, hZ, hE⟩ := id hC
  have hk0 : ad k0 = B + k0 := hAD k0 (hW.lt he0)
  have hk1 : ad k1 = B + k1 := hAD k1 (hW.lt he1)
  show W p l e R s m args below meth c H locs cells slots Q (F0 m pc ls (.int n :: .int dp :: .ref (ad k1) :: .int sp :: .ref (ad k0) :: st.map (q_v ad)))
  rw [hk0, hk1]
  intro T hT X9
  have hc0 : H[B + k0]? = some (vp_cell (cT 0) (n0, .inl f)) := hW.one he0 0 _ rfl
  have hc1 : H[B + k1]? = some (vp_cell (cT 0) (n1, .inl g)) := hW.one he1 0 _ rfl
  obtain ⟨-, q0, hq0, cm0, hqk0⟩ := (hK.2 0 _ rfl).1 n0 (fun j => .int (f j))
  obtain ⟨-, q1, hq1, cm1, hqk1⟩ := (hK.2 0 _ rfl).1 n1 (fun j => .int (g j))
  obtain ⟨vm', X', step⟩ := X9.arraycopy hx hown (hts _ hlk) (hts (Cond.native arraycopyName) (by decide +kernel)) (hts (Cond.static arraycopyName) (by decide +kernel)) (hts (Cond.initialized "java/lang/System") (by decide +kernel)) (src := B + k0) (dst := B + k1) (cs := vp_cell (cT 0) (n0, .inl f)) (cd := vp_cell (cT 0) (n1, .inl g)) (srcPos := sp) (destPos := dp) (n := n) (by rw [hT]; exact hc0) (by rw [hT]; exact hc1)
    (fun _ h => by cases h) (fun _ h => by cases h) (fun h => by cases h) (fun h => by cases h) hq0 hq1 hqk0 hqk1 (by simp [refKind]) z1 z2 z3
    (by rw [z_nn z1, z_nn z3]; show ¬ _ > ((arrV (cT 0) n0 (fun j => .int (f j))).slots.size : Int); rw [arrV_size]; omega)
    (by rw [z_nn z2, z_nn z3]; show ¬ _ > ((arrV (cT 0) n1 (fun j => .int (g j))).slots.size : Int); rw [arrV_size]; omega)
    (fun vm₁ _ i hi => by
      have e : (vp_cell (cT 0) (n0, .inl f)).slots.getD (sp.toNatClampNeg + i) .null = .int (f (sp.toNatClampNeg + i)) := by
        show (arrV (cT 0) n0 (fun j => .int (f j))).slots.getD _ _ = _
        rw [Array.getD_eq_getD_getElem?, arrV_read _ _ (by omega)]
        rfl
      refine ⟨?_, ?_⟩
      · rw [e]
        rfl
      · rw [e]
        exact trivial)
    (g := F0 m pc ls (.int n :: .int dp :: .ref (B + k1) :: .int sp :: .ref (B + k0) :: st.map (q_v ad))) rfl (by rw [hml]; exact hl.1) (rest := st.map (q_v ad)) rfl (by rw [hb]; exact hd) (by omega) (by
      show 2 * 0 + _ + _ ≤ _
      rw [List.map_map]
      rw [show ((fun v : Value => v.category) ∘ q_v ad) = (fun v => v.category) from funext (q_v_cat ad)]
      have h9 : nativeFrameWords "java/lang/System" "arraycopy" 5 + 11 ≤ 32 := by decide +kernel
      omega)
  have e1 : copied (vp_cell (cT 0) (n0, .inl f)) (vp_cell (cT 0) (n1, .inl g)) sp dp n = vp_cell (cT 0) (n1, .inl (va_cpy f g sp.toNatClampNeg dp.toNatClampNeg n.toNatClampNeg)) := va_copied (fun z => .int z) (cT 0) (cT 0) f g z4
  rw [e1] at X' step
  have hlt : B + k1 < H.size := (Array.getElem?_eq_some_iff.mp hc1).1
  have hheap : ((T.setVm vm').setCell (B + k1) (vp_cell (cT 0) (n1, .inl (va_cpy f g sp.toNatClampNeg dp.toNatClampNeg n.toNatClampNeg)))).heap = H.setIfInBounds (B + k1) (vp_cell (cT 0) (n1, .inl (va_cpy f g sp.toNatClampNeg dp.toNatClampNeg n.toNatClampNeg))) := by rw [← hT]; rfl
  have oq : ∀ q : Nat, q ≠ B + k1 → (H.setIfInBounds (B + k1) (vp_cell (cT 0) (n1, .inl (va_cpy f g sp.toNatClampNeg dp.toNatClampNeg n.toNatClampNeg))))[q]? = H[q]? := fun q hq => by simp [Array.getElem?_setIfInBounds, Ne.symm hq]
  have hW1 : q_W D cT ad B (M.set k1 (.inl (0, n1, .inl (va_cpy f g sp.toNatClampNeg dp.toNatClampNeg n.toNatClampNeg)))) (H.setIfInBounds (B + k1) (vp_cell (cT 0) (n1, .inl (va_cpy f g sp.toNatClampNeg dp.toNatClampNeg n.toNatClampNeg)))) := by
    refine hW.set he1 (by simp) oq ?_
    show (H.setIfInBounds (B + k1) _)[B + k1]? = some _
    simp [Array.getElem?_setIfInBounds, hlt]
    rfl
  obtain ⟨t, a1, b1⟩ := kk p l e R s m args below meth c (H.setIfInBounds (B + k1) (vp_cell (cT 0) (n1, .inl (va_cpy f g sp.toNatClampNeg dp.toNatClampNeg n.toNatClampNeg)))) _ cells slots Q ad B D cT ls ct sl hC hR h1 h2 h3 h4 ⟨by simp; exact hS.1, fun q g1 g2 => by
      rw [oq q (fun e => g2 (by rw [e]; exact Nat.le_add_right B k1))]
      exact hS.2.1 q g1 g2, fun q hq => by
      rcases List.mem_append.mp hq with h | h
      · exact hS.2.2 q h
      · obtain ⟨z, -, hz⟩ := List.mem_map.mp h
        rw [← hz]
        exact Nat.le_add_right B k1⟩ hW1 hl _ hheap X'
  exact ⟨t, step t a1, b1⟩
theorem mk_setc {μ : Mem} {a sp b dp n n1 : Nat} (hs : sh b = (0, n1)) : (mk μ).set b (.inl (0, n1, .inl (va_cpy (μ a) (μ b) sp dp n))) = mk (mcopy μ a sp b dp n) := by
  apply List.ext_getElem?
  intro i
  rw [List.getElem?_set]
  have hb := sh_lt hs (by decide)
  by_cases h : b = i
  · subst h
    rw [if_pos rfl, mk_len, if_pos hb, mk_arr hs]
    refine congrArg (fun f : Nat → Int32 => some (Sum.inl (0, n1, Sum.inl f) : AE)) (funext fun j => ?_)
    unfold va_cpy mcopy
    simp only [true_and]
  · rw [if_neg h]
    by_cases hi : i < 72
    · rw [mk_at hi, mk_at hi]
      have e : mcopy μ a sp b dp n i = μ i := by
        funext j
        unfold mcopy
        rw [if_neg (fun q => h q.1.symm)]
      unfold mcell mflds mval
      rw [e]
    · rw [List.getElem?_eq_none (by rw [mk_len]; omega), List.getElem?_eq_none (by rw [mk_len]; omega)]
theorem a_copy {idx k0 k1 n0 n1 sp dp n : Nat} {sp' dp' n' : Int32} (hlk : Cond.methodLink own idx arraycopyName ∈ q_tbl) (hdp : 1 ≤ d) (hw : (st.map fun v => v.category).sum ≤ 8) (hd : decode cc pc = .ok (.invokestatic idx, 3)) (he0 : sh k0 = (0, n0)) (he1 : sh k1 = (0, n1)) (z1 : sp' = nI sp) (z2 : dp' = nI dp) (z3 : n' = nI n) (z4 : sp + n ≤ n0) (z5 : dp + n ≤ n1)
    (kk : WG emb own cc nL ret ini E d post kc ks (pc + 3) L st (mk (mcopy μ k0 sp k1 dp n))) : WG emb own cc nL ret ini E d post kc ks pc L (.int n' :: .int dp' :: .ref k1 :: .int sp' :: .ref k0 :: st) (mk μ) := by
  have b0 := sh_n he0
  have b1 := sh_n he1
  subst z1; subst z2; subst z3
  have c1 : (nI sp).toNatClampNeg = sp := nI_clamp (by omega)
  have c2 : (nI dp).toNatClampNeg = dp := nI_clamp (by omega)
  have c3 : (nI n).toNatClampNeg = n := nI_clamp (by omega)
  refine g_copy hlk hdp hw hd (mk_arr he0) (mk_arr he1) (nI_pos (by omega)) (nI_pos (by omega)) (nI_pos (by omega)) (by rw [c1, c3]; exact z4) (by rw [c2, c3]; exact z5) ?_
  rw [c1, c2, c3, mk_setc he1]
  exact kk
end QCOPY
