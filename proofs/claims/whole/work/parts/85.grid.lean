/-! ===== new int[n][k] ===== -/
theorem q_outer (c : ClassId) (N h0 : Nat) : ∀ i : Nat, Jvm.Free.Multi.outerC c N h0 i = arrV c N (fun j => va_rf (if j < i then some (h0 + 1 + j) else none))
  | 0 => by
    have e : (fun j : Nat => va_rf (if j < 0 then some (h0 + 1 + j) else none)) = fun _ => Value.null := by
      funext j
      rw [if_neg (Nat.not_lt_zero j)]
      rfl
    rw [e]
    exact arrV_new c N .null
  | i + 1 => by
    have e0 : Jvm.Free.Multi.outerC c N h0 (i + 1) = (Jvm.Free.Multi.outerC c N h0 i).setSlot i (.ref (h0 + 1 + i)) := rfl
    have e : (fun j : Nat => va_rf (if j < i + 1 then some (h0 + 1 + j) else none)) = updV (fun j => va_rf (if j < i then some (h0 + 1 + j) else none)) i (.ref (h0 + 1 + i)) := by
      funext j
      unfold updV
      by_cases h : j = i
      · rw [if_pos h, if_pos (by omega), h]
        rfl
      · rw [if_neg h]
        show va_rf (if j < i + 1 then some (h0 + 1 + j) else none) = va_rf (if j < i then some (h0 + 1 + j) else none)
        by_cases h1 : j < i
        · rw [if_pos h1, if_pos (by omega)]
        · rw [if_neg h1, if_neg (by omega)]
    rw [e0, q_outer c N h0 i, arrV_store, e]
theorem s_aai : "[" ++ (FieldType.array FieldType.int).toString = "[[I" := by decide +kernel
section QMNA
variable {X : Type} {emb : X → Option Value} {own : String} {cc : ByteArray} {nL : Nat} {ret : Option FieldType} {ini : Bool} {d : Nat} {post : X → List AE → Prop} {kc ks pc : Nat} {L : List (Option Value)} {st : List Value} {M : List AE}
theorem g_mna {idx : Nat} {n k : Int32} {N K : Nat} (hcl : Cond.classLink own idx "[[I" ∈ q_tbl) (hd : decode cc pc = .ok (.multianewarray idx 2, 4)) (hn : ¬ n < 0) (hk : ¬ k < 0) (hN : n.toNatClampNeg = N) (hK9 : k.toNatClampNeg = K) (hb1 : N * 4 ≤ 536870912) (hb2 : K * 4 ≤ 536870912) (hm : M.length + 1 + N ≤ 100000) (kk : WG emb own cc nL ret ini eO d post kc ks (pc + 4) L (.ref M.length :: st) ((M ++ [.inl (2, N, .inr (.inr (.inr (.inr (fun i => if i < N then some (M.length + 1 + i) else none)))))]) ++ List.replicate N (.inl (0, K, .inl (fun _ => 0))))) : WG emb own cc nL ret ini eO d post (kc + (1 + N)) (ks + (N + N * K)) pc L (.int k :: .int n :: st) M := by
  intro p l e R s m args below meth c H locs cells slots Q ad B D cT ls ct sl hC hR h1 h2 h3 h4 hS hW hl
  obtain ⟨hx, hb, hml, hown, hts, hini, hRR, hAD, hB, hK, hZ, hE⟩ := id hC
  subst hN
  subst hK9
  have hk0 : ad M.length = H.size := (hAD M.length (by omega)).trans hW.1.symm
  have hcl2 : (Cond.classLink own idx ("[" ++ (FieldType.array FieldType.int).toString)).before args s = true := by
    rw [s_aai]
    exact hts _ hcl
  have hc2 : s.vm.findClass ("[" ++ (FieldType.array FieldType.int).toString) = some (cT 2) := (hK.2 2 (cT 2, .array .int) rfl).2
  have hc0 : s.vm.findClass ("[" ++ (FieldType.int).toString) = some (cT 0) := (hK.2 0 (cT 0, .int) rfl).2
  have hb3 : k.toNatClampNeg * componentBytes FieldType.int ≤ 536870912 := hb2
  intro T hT Xs
  obtain ⟨vm₁, cA, comp, -, fA, fC, -, -, X', step⟩ := Xs.multianewarray2F (ty := .int) hx hown hcl2 (over_moved (Vm.Alike.refl s.vm) hE) (hts _ w_ai) (g := F0 m pc ls ((Value.int k :: Value.int n :: st).map (q_v ad))) rfl (by rw [hb]; exact hd) rfl hn hk hb1 hb3 (by omega) rfl rfl (by omega) (by omega)
  have eA : cA = cT 2 := Option.some.inj (fA.symm.trans hc2)
  have eC : comp = cT 0 := Option.some.inj (fC.symm.trans hc0)
  subst eA
  subst eC
  have hTh : (T.setVm vm₁).heap = H := hT
  obtain ⟨f1, f2, -, -⟩ := Jvm.Free.Multi.fill_facts (T.setVm vm₁) (cT 2) (cT 0) n.toNatClampNeg k.toNatClampNeg (defaultValue .int) n.toNatClampNeg
  have hold : ∀ x : Nat, x < H.size → (Jvm.Free.Multi.fill (T.setVm vm₁) (cT 2) (cT 0) n.toNatClampNeg k.toNatClampNeg (defaultValue .int) n.toNatClampNeg).heap[x]? = H[x]? := fun x hx9 => by
    have h := Jvm.Free.Multi.fill_old (T.setVm vm₁) (cT 2) (cT 0) n.toNatClampNeg k.toNatClampNeg (defaultValue .int) (a := x) (by rw [hTh]; exact hx9) n.toNatClampNeg
    rw [hTh] at h
    exact h
  have hrow : ∀ j : Nat, j < n.toNatClampNeg → (Jvm.Free.Multi.fill (T.setVm vm₁) (cT 2) (cT 0) n.toNatClampNeg k.toNatClampNeg (defaultValue .int) n.toNatClampNeg).heap[H.size + 1 + j]? = some (arrV (cT 0) k.toNatClampNeg (fun _ => .int 0)) := fun j hj => by
    have h := Jvm.Free.Multi.fill_inner (T.setVm vm₁) (cT 2) (cT 0) n.toNatClampNeg k.toNatClampNeg (defaultValue .int) n.toNatClampNeg j hj
    rw [hTh] at h
    rw [h]
    exact congrArg some (arrV_new (cT 0) k.toNatClampNeg (.int 0))
  rw [hTh] at f1 f2
  rw [q_outer] at f2
  generalize Jvm.Free.Multi.fill (T.setVm vm₁) (cT 2) (cT 0) n.toNatClampNeg k.toNatClampNeg (defaultValue .int) n.toNatClampNeg = F at f1 f2 hold hrow X' step
  have hW1 : q_W D cT ad B ((M ++ [.inl (2, n.toNatClampNeg, .inr (.inr (.inr (.inr (fun i => if i < n.toNatClampNeg then some (M.length + 1 + i) else none)))))]) ++ List.replicate n.toNatClampNeg (.inl (0, k.toNatClampNeg, .inl (fun _ => 0)))) F.heap := by
    have hl1 : (M ++ [(Sum.inl (2, n.toNatClampNeg, .inr (.inr (.inr (.inr (fun i => if i < n.toNatClampNeg then some (M.length + 1 + i) else none))))) : AE)]).length = M.length + 1 := by rw [List.length_append]; rfl
    refine ⟨by rw [List.length_append, hl1, List.length_replicate, f1, hW.1]; omega, by rw [List.length_append, hl1, List.length_replicate]; exact hm, fun j x hj => ?_⟩
    by_cases h9 : j < M.length + 1
    · rw [List.getElem?_append_left (by rw [hl1]; exact h9)] at hj
      by_cases h8 : j < M.length
      · rw [List.getElem?_append_left h8] at hj
        exact (hW.2.2 j x hj).kept (hold _ (by show B + j < H.size; rw [hW.1]; omega))
      · rw [List.getElem?_append_right (by omega), show j - M.length = 0 by omega] at hj
        cases hj
        have ej : j = M.length := by omega
        subst ej
        show F.heap[B + M.length]? = some (arrV (cT 2) n.toNatClampNeg (fun i => va_rf ((if i < n.toNatClampNeg then some (M.length + 1 + i) else none).map ad)))
        rw [← hW.1, f2]
        congr 2
        funext i
        by_cases hi : i < n.toNatClampNeg
        · rw [if_pos hi, if_pos hi]
          have ea : ad (M.length + 1 + i) = H.size + 1 + i := by
            rw [hAD _ (by omega), hW.1]
            omega
          show Value.ref (H.size + 1 + i) = Value.ref (ad (M.length + 1 + i))
          rw [ea]
        · rw [if_neg hi, if_neg hi]
          rfl
    · rw [List.getElem?_append_right (by rw [hl1]; omega), hl1, List.getElem?_replicate] at hj
      by_cases h8 : j - (M.length + 1) < n.toNatClampNeg
      · rw [if_pos h8] at hj
        cases hj
        show F.heap[B + j]? = some (arrV (cT 0) k.toNatClampNeg (fun _ => .int 0))
        rw [← hrow (j - (M.length + 1)) h8, hW.1]
        congr 1
        omega
      · rw [if_neg h8] at hj
        cases hj
  have hS1 : va_S (q_A B) s.heap F.heap locs := ⟨by rw [f1]; have := hS.1; omega, fun x g1 g2 => (hold x (Nat.lt_of_lt_of_le g1 hS.1)).trans (hS.2.1 x g1 g2), hS.2.2⟩
  have h := kk p l e R s m args below meth c F.heap locs (cells + 1 + n.toNatClampNeg) (slots + n.toNatClampNeg + n.toNatClampNeg * k.toNatClampNeg) Q ad B D cT ls ct sl hC hR (by omega) (by omega) h3 h4 hS1 hW1 hl
  rw [List.map_cons, show q_v ad (.ref M.length) = .ref H.size by rw [← hk0]; rfl] at h
  obtain ⟨t, a1, b1⟩ := h F rfl X'
  refine ⟨t, step t ?_, b1⟩
  have e : T.heap.size = H.size := by rw [hT]
  rw [e]
  exact a1
end QMNA
