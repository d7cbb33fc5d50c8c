/-! ===== the rows with a slot for what the value is ===== -/
theorem nI_mul (a b : Nat) : nI a * nI b = nI (a * b) := by
  unfold nI
  exact (Int32.ofNat_mul a b).symm
theorem nI_lt_iff {a b : Nat} (ha : a < 2 ^ 31) (hb : b < 2 ^ 31) : nI a < nI b ↔ a < b := by
  constructor
  · intro h
    rcases Nat.lt_or_ge a b with q | q
    · exact q
    · exact absurd h (nI_nlt q ha)
  · intro h
    exact nI_lt h hb
theorem nI_le_iff {a b : Nat} (ha : a < 2 ^ 31) (hb : b < 2 ^ 31) : nI a ≤ nI b ↔ a ≤ b := by
  constructor
  · intro h
    rcases Nat.lt_or_ge b a with q | q
    · exact absurd h (nI_ge q ha)
    · exact q
  · intro h
    exact nI_le h hb
theorem nI_inj {a b : Nat} (ha : a < 2 ^ 31) (hb : b < 2 ^ 31) : nI a = nI b ↔ a = b := by
  constructor
  · intro h
    have := congrArg Int32.toNatClampNeg h
    rwa [nI_clamp ha, nI_clamp hb] at this
  · intro h
    rw [h]
/-- an int that is not below 0 is one of them -/
theorem nI_at {x : Int32} (h : ¬ x < 0) : x = nI x.toNatClampNeg ∧ x.toNatClampNeg < 2 ^ 31 := by
  have h1 : (0 : Int32) ≤ x := Int32.not_lt.mp h
  have h2 : (0 : Int) ≤ x.toInt := by simpa using Int32.le_iff_toInt_le.mp h1
  have h3 : x.toInt < 2 ^ 31 := by
    have := Int32.toInt_lt x
    omega
  have hc : x.toNatClampNeg = x.toInt.toNat := rfl
  have h4 : x.toNatClampNeg < 2 ^ 31 := by rw [hc]; omega
  refine ⟨?_, h4⟩
  apply Int32.toInt_inj.mp
  rw [nI_toInt h4, hc]
  omega
section QV
variable {X : Type} {emb : X → Option Value} {own : String} {cc : ByteArray} {nL : Nat} {ret : Option FieldType} {ini : Bool} {E : (Nat → Nat) → State → Prop} {d : Nat} {post : X → List AE → Prop} {kc ks pc : Nat} {L : List (Option Value)} {st : List Value} {M : List AE} {μ : Mem}
theorem v_geti {idx k c j : Nat} {v : Int32} (fl : FL own idx c j) (hd : decode cc pc = .ok (.getfield idx, 3)) (hs : sh k = (3, c)) (hf : (fk c)[j]? = some 0) (hv : μ k j = v) (kk : WG emb own cc nL ret ini E d post kc ks (pc + 3) L (.int v :: st) (mk μ)) : WG emb own cc nL ret ini E d post kc ks pc L (.ref k :: st) (mk μ) := a_geti fl hd hs hf (by rw [hv]; exact kk)
theorem v_getz {idx k c j : Nat} {v : Int32} (fl : FL own idx c j) (hd : decode cc pc = .ok (.getfield idx, 3)) (hs : sh k = (3, c)) (hf : (fk c)[j]? = some 1) (hv : μ k j = v) (kk : WG emb own cc nL ret ini E d post kc ks (pc + 3) L (.int v :: st) (mk μ)) : WG emb own cc nL ret ini E d post kc ks pc L (.ref k :: st) (mk μ) := a_getz fl hd hs hf (by rw [hv]; exact kk)
theorem v_iald {k n j : Nat} {i v : Int32} (hd : decode cc pc = .ok (.iaload, 1)) (hs : sh k = (0, n)) (hi : i = nI j) (hj : j < n) (hv : μ k j = v) (kk : WG emb own cc nL ret ini E d post kc ks (pc + 1) L (.int v :: st) (mk μ)) : WG emb own cc nL ret ini E d post kc ks pc L (.int i :: .ref k :: st) (mk μ) := a_iald hd hs hi hj (by rw [hv]; exact kk)
theorem v_zald {k n j : Nat} {i v : Int32} (hd : decode cc pc = .ok (.baload, 1)) (hs : sh k = (1, n)) (hi : i = nI j) (hj : j < n) (hv : μ k j = v) (kk : WG emb own cc nL ret ini E d post kc ks (pc + 1) L (.int v :: st) (mk μ)) : WG emb own cc nL ret ini E d post kc ks pc L (.int i :: .ref k :: st) (mk μ) := a_zald hd hs hi hj (by rw [hv]; exact kk)
theorem v_aald {k n j q : Nat} {i : Int32} (hd : decode cc pc = .ok (.aaload, 1)) (hs : sh k = (2, n)) (hi : i = nI j) (hj : j < n) (hv : k + 1 + j = q) (kk : WG emb own cc nL ret ini E d post kc ks (pc + 1) L (.ref q :: st) (mk μ)) : WG emb own cc nL ret ini E d post kc ks pc L (.int i :: .ref k :: st) (mk μ) := a_aald hd hs hi hj (by rw [hv]; exact kk)
theorem v_sald {i j : Nat} {x v : Int32} (hi : i < 5) (hx : x = nI j) (hj : j < s_N i) (hd : decode cc pc = .ok (.iaload, 1)) (hv : s_V i j = v) (kk : WG emb own cc nL ret ini E d post kc ks (pc + 1) L (.int v :: st) (mk μ)) : WG emb own cc nL ret ini E d post kc ks pc L (.int x :: .ref (100000 + i) :: st) (mk μ) := a_sald hi hx hj hd (by rw [hv]; exact kk)
theorem v_iadd {x y v : Int32} (hd : decode cc pc = .ok (.iadd, 1)) (hv : x + y = v) (k : WG emb own cc nL ret ini E d post kc ks (pc + 1) L (.int v :: st) M) : WG emb own cc nL ret ini E d post kc ks pc L (.int y :: .int x :: st) M := g_iadd hd (by rw [hv]; exact k)
theorem v_isub {x y v : Int32} (hd : decode cc pc = .ok (.isub, 1)) (hv : x - y = v) (k : WG emb own cc nL ret ini E d post kc ks (pc + 1) L (.int v :: st) M) : WG emb own cc nL ret ini E d post kc ks pc L (.int y :: .int x :: st) M := g_isub hd (by rw [hv]; exact k)
theorem v_imul {x y v : Int32} (hd : decode cc pc = .ok (.imul, 1)) (hv : x * y = v) (k : WG emb own cc nL ret ini E d post kc ks (pc + 1) L (.int v :: st) M) : WG emb own cc nL ret ini E d post kc ks pc L (.int y :: .int x :: st) M := g_imul hd (by rw [hv]; exact k)
theorem v_iand {x y v : Int32} (hd : decode cc pc = .ok (.iand, 1)) (hv : x &&& y = v) (k : WG emb own cc nL ret ini E d post kc ks (pc + 1) L (.int v :: st) M) : WG emb own cc nL ret ini E d post kc ks pc L (.int y :: .int x :: st) M := g_iand hd (by rw [hv]; exact k)
theorem v_ior {x y v : Int32} (hd : decode cc pc = .ok (.ior, 1)) (hv : x ||| y = v) (k : WG emb own cc nL ret ini E d post kc ks (pc + 1) L (.int v :: st) M) : WG emb own cc nL ret ini E d post kc ks pc L (.int y :: .int x :: st) M := g_ior hd (by rw [hv]; exact k)
theorem v_ixor {x y v : Int32} (hd : decode cc pc = .ok (.ixor, 1)) (hv : x ^^^ y = v) (k : WG emb own cc nL ret ini E d post kc ks (pc + 1) L (.int v :: st) M) : WG emb own cc nL ret ini E d post kc ks pc L (.int y :: .int x :: st) M := g_ixor hd (by rw [hv]; exact k)
theorem v_ladd {x y v : Int64} (hd : decode cc pc = .ok (.ladd, 1)) (hv : x + y = v) (k : WG emb own cc nL ret ini E d post kc ks (pc + 1) L (.long v :: st) M) : WG emb own cc nL ret ini E d post kc ks pc L (.long y :: .long x :: st) M := g_ladd hd (by rw [hv]; exact k)
theorem v_lsub {x y v : Int64} (hd : decode cc pc = .ok (.lsub, 1)) (hv : x - y = v) (k : WG emb own cc nL ret ini E d post kc ks (pc + 1) L (.long v :: st) M) : WG emb own cc nL ret ini E d post kc ks pc L (.long y :: .long x :: st) M := g_lsub hd (by rw [hv]; exact k)
theorem v_lmul {x y v : Int64} (hd : decode cc pc = .ok (.lmul, 1)) (hv : x * y = v) (k : WG emb own cc nL ret ini E d post kc ks (pc + 1) L (.long v :: st) M) : WG emb own cc nL ret ini E d post kc ks pc L (.long y :: .long x :: st) M := g_lmul hd (by rw [hv]; exact k)
theorem v_idiv {x y v : Int32} (hd : decode cc pc = .ok (.idiv, 1)) (hne : ¬ y = 0) (hv : x / y = v) (k : WG emb own cc nL ret ini E d post kc ks (pc + 1) L (.int v :: st) M) : WG emb own cc nL ret ini E d post kc ks pc L (.int y :: .int x :: st) M := g_idiv hd hne (by rw [hv]; exact k)
theorem v_irem {x y v : Int32} (hd : decode cc pc = .ok (.irem, 1)) (hne : ¬ y = 0) (hv : x - x / y * y = v) (k : WG emb own cc nL ret ini E d post kc ks (pc + 1) L (.int v :: st) M) : WG emb own cc nL ret ini E d post kc ks pc L (.int y :: .int x :: st) M := g_irem hd hne (by rw [hv]; exact k)
theorem v_ldiv {x y v : Int64} (hd : decode cc pc = .ok (.ldiv, 1)) (hne : ¬ y = 0) (hv : x / y = v) (k : WG emb own cc nL ret ini E d post kc ks (pc + 1) L (.long v :: st) M) : WG emb own cc nL ret ini E d post kc ks pc L (.long y :: .long x :: st) M := g_ldiv hd hne (by rw [hv]; exact k)
theorem v_lrem {x y v : Int64} (hd : decode cc pc = .ok (.lrem, 1)) (hne : ¬ y = 0) (hv : x - x / y * y = v) (k : WG emb own cc nL ret ini E d post kc ks (pc + 1) L (.long v :: st) M) : WG emb own cc nL ret ini E d post kc ks pc L (.long y :: .long x :: st) M := g_lrem hd hne (by rw [hv]; exact k)
theorem v_ineg {x v : Int32} (hd : decode cc pc = .ok (.ineg, 1)) (hv : -x = v) (k : WG emb own cc nL ret ini E d post kc ks (pc + 1) L (.int v :: st) M) : WG emb own cc nL ret ini E d post kc ks pc L (.int x :: st) M := g_ineg hd (by rw [hv]; exact k)
theorem v_max {idx : Nat} {x y v : Int32} (hlk : Cond.methodLink own idx Lib.Math.max.name ∈ q_tbl) (hdp : 1 ≤ d) (hw : (st.map fun v => v.category).sum ≤ 8) (hd : decode cc pc = .ok (.invokestatic idx, 3)) (hv : (if x < y then y else x) = v) (kk : WG emb own cc nL ret ini E d post kc ks (pc + 3) L (.int v :: st) M) : WG emb own cc nL ret ini E d post kc ks pc L (.int y :: .int x :: st) M := g_max hlk hdp hw hd (by rw [hv]; exact kk)
theorem v_min {idx : Nat} {x y v : Int32} (hlk : Cond.methodLink own idx Lib.Math.min.name ∈ q_tbl) (hdp : 1 ≤ d) (hw : (st.map fun v => v.category).sum ≤ 8) (hd : decode cc pc = .ok (.invokestatic idx, 3)) (hv : (if y < x then y else x) = v) (kk : WG emb own cc nL ret ini E d post kc ks (pc + 3) L (.int v :: st) M) : WG emb own cc nL ret ini E d post kc ks pc L (.int y :: .int x :: st) M := g_min hlk hdp hw hd (by rw [hv]; exact kk)
theorem v_ishl {x y v : Int32} (hd : decode cc pc = .ok (.ishl, 1)) (hv : x <<< (y &&& 31) = v) (k : WG emb own cc nL ret ini E d post kc ks (pc + 1) L (.int v :: st) M) : WG emb own cc nL ret ini E d post kc ks pc L (.int y :: .int x :: st) M := WG.lift (fun hx hb _ w => lv_ishl hx hb hd w) (by rw [← hv] at k; exact k)
theorem v_ishr {x y v : Int32} (hd : decode cc pc = .ok (.ishr, 1)) (hv : x >>> (y &&& 31) = v) (k : WG emb own cc nL ret ini E d post kc ks (pc + 1) L (.int v :: st) M) : WG emb own cc nL ret ini E d post kc ks pc L (.int y :: .int x :: st) M := WG.lift (fun hx hb _ w => lv_ishr hx hb hd w) (by rw [← hv] at k; exact k)
theorem g_lcmp {x y : Int64} (hd : decode cc pc = .ok (.lcmp, 1)) (k : WG emb own cc nL ret ini E d post kc ks (pc + 1) L (.int (lg_cmp x y) :: st) M) : WG emb own cc nL ret ini E d post kc ks pc L (.long y :: .long x :: st) M := WG.lift (fun hx hb _ w => W.lcmp hx hb hd w) k
end QV
