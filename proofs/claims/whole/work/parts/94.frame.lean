/-! ===== the law: what its end and its entry are (turned from the skeleton) ===== -/
def R_law : String := "CreasedAgainLaw"
def lw_P (b : Addr) (xs : List Int32) (args : Array Value) (s : State) : Prop := args = #[.ref b] ∧ s.IntsAt b xs ∧ xs.length ≤ 3072 ∧ (Jvm.Cond.and given_1 narrow_1).before args s = true
def lw_Q (_ : Array Value) (s : State) (o : Outcome) (t : State) : Prop := o = .returned (some (.int 1)) ∧ Framed s o t [] 600000 7302250
def lw_Z (below : List Frame) (a : Array Value) (s : State) : State → Prop := fun t => ∃ o, t.status = .running ∧ Ended t below o ∧ lw_Q a s o t
/-- the law's own end, with 1 on the stack, nothing written that was there before, its room as the claim has it -/
theorem lw_ret {p : Program} {l : Launch} {e : Env} {s : State} {m : MethodId} {below : List Frame} {meth : Method} {c : Code} {b : Nat} (hx : p.tables.exec = Jvm.exec) (hb : c.code = code) (hr : meth.sig.returnType = ret) (hlocks : meth.locks = false) {pc : Nat} {H : Heap} {ls : Array Slot} (hdg : decode code pc = .ok (.ireturn, 1)) : W p l e room_1 s m #[Value.ref b] below meth c H [] 600000 7302250 (lw_Z below #[Value.ref b] s) (F0 m pc ls [.int 1]) := by
  intro T hT X
  obtain ⟨fs, hret, hrun, hended, hW, hframe⟩ := X.leave (v := some (.int 1)) (hlocks := hlocks) (fun h => by rw [hr] at h; cases h)
  have hmeth' : T.vm.method? m = some meth := X.method'
  refine ⟨T.setFrames fs, ?_, .returned (some (.int 1)), hrun, hended, rfl, ⟨_, rfl⟩, hW, hframe⟩
  jvm_step X.here [X.here.top, hx, hb, hdg, hmeth', hr, ret, narrow_b1]
  (try refine ⟨rfl, ?_⟩); (try refine ⟨rfl, ?_⟩)
  first | (intro acts; rw [hret _ acts rfl rfl rfl]) | rw [hret _ _ rfl rfl rfl]
  exact Steps.refl _
/-- what holds at the law's entry: the machine, the code, the tables' words (any of lw_tbl by 'hts w (by decide +kernel)'), the script of L ints xs at the cell b, what the Statement gives of the start (any of its parts by flat_of_before) -/
def lw_At (p : Program) (s : State) (m : MethodId) (meth : Method) (c : Code) (b L : Nat) (xs : Nat → Int32) : Prop :=
  p.tables.exec = Jvm.exec ∧ c.code = code ∧ meth.sig.returnType = ret ∧ c.maxLocals = 4 ∧ s.vm.findClass R_law = some m.cls ∧ (∀ w ∈ lw_tbl, w.before #[Value.ref b] s = true) ∧ va_X b L xs s s.heap ∧ b < s.heap.size ∧ meth.locks = false ∧ (Jvm.Cond.and given_1 narrow_1).before #[Value.ref b] s = true
/-! ===== the law's frame: its script is the cell at 'ad 100099' ===== -/
abbrev eX (N9 : Nat) (xs : Nat → Int32) : (Nat → Nat) → State → Prop := fun ad s => AO.before #[] s = true ∧ va_X (ad 100099) N9 xs s s.heap ∧ ad 100099 < ad 0
section QX
variable {X : Type} {emb : X → Option Value} {own : String} {cc : ByteArray} {nL : Nat} {ret : Option FieldType} {ini : Bool} {d : Nat} {post : X → List AE → Prop} {kc ks pc : Nat} {L : List (Option Value)} {st : List Value} {M : List AE} {N9 : Nat} {xs : Nat → Int32}
theorem g_xld {i : Int32} (hd : decode cc pc = .ok (.iaload, 1)) (hin : vp_in i N9) (kk : WG emb own cc nL ret ini (eX N9 xs) d post kc ks (pc + 1) L (.int (xs i.toNatClampNeg) :: st) M) : WG emb own cc nL ret ini (eX N9 xs) d post kc ks pc L (.int i :: .ref 100099 :: st) M := by
  intro p l e R s m args below meth c H locs cells slots Q ad B D cT ls ct sl hC hR h1 h2 h3 h4 hS hW hl
  obtain ⟨hx, hb, hml, hown, hts, hini, hRR, hAD, hB, hK, hZ, hE⟩ := id hC
  obtain ⟨-, hX, hlt⟩ := hE
  have h0 : ad 0 = B := (hAD 0 (by decide)).trans (Nat.add_zero B)
  have hlt1 : ad 100099 < B := by rw [← h0]; exact hlt
  exact va_sld hx hb hX (Nat.lt_of_lt_of_le hlt1 hB) (Nat.not_le.mpr hlt1) hS hin hd (kk p l e R s m args below meth c H locs cells slots Q ad B D cT ls ct sl hC hR h1 h2 h3 h4 hS hW hl)
theorem g_xlen {v : Int32} (hv : nI N9 = v) (hd : decode cc pc = .ok (.arraylength, 1)) (kk : WG emb own cc nL ret ini (eX N9 xs) d post kc ks (pc + 1) L (.int v :: st) M) : WG emb own cc nL ret ini (eX N9 xs) d post kc ks pc L (.ref 100099 :: st) M := by
  subst hv
  intro p l e R s m args below meth c H locs cells slots Q ad B D cT ls ct sl hC hR h1 h2 h3 h4 hS hW hl
  obtain ⟨hx, hb, hml, hown, hts, hini, hRR, hAD, hB, hK, hZ, hE⟩ := id hC
  obtain ⟨-, hX, hlt⟩ := hE
  have h0 : ad 0 = B := (hAD 0 (by decide)).trans (Nat.add_zero B)
  have hlt1 : ad 100099 < B := by rw [← h0]; exact hlt
  exact va_slen hx hb hX (Nat.lt_of_lt_of_le hlt1 hB) (Nat.not_le.mpr hlt1) hS hd (kk p l e R s m args below meth c H locs cells slots Q ad B D cT ls ct sl hC hR h1 h2 h3 h4 hS hW hl)
end QX
/-! a maker's call out of the law -/
section QCALLX
variable {X : Type} {emb : X → Option Value} {own : String} {cc : ByteArray} {nL : Nat} {ret : Option FieldType} {ini : Bool} {d : Nat} {post : X → List AE → Prop} {kc ks pc : Nat} {L : List (Option Value)} {st : List Value} {M : List AE}
theorem g_callIx {y : MethodName} {bytes : ByteArray} {maxL : Nat} {d2 mc ms k n idx : Nat} {As st0 : List Value} {post2 : Unit → List AE → Prop} {N9 : Nat} {xs : Nat → Int32} (hM : CTo y bytes maxL d2 mc ms (.ref k :: As) M post2) (hm : MI y bytes maxL n) (hlk : Cond.methodLink own idx y ∈ q_tbl) (hdp : d2 + 1 ≤ d) (hn : As.length = n) (hst : st0 = As.reverse ++ .ref k :: st) (hw : (st.map fun v => v.category).sum ≤ 8) (hd : decode cc pc = .ok (.invokespecial idx, 3))
    (kk : ∀ (M' : List AE), post2 () M' → WG emb own cc nL ret ini (eX N9 xs) d post kc ks (pc + 3) L st M') : WG emb own cc nL ret ini (eX N9 xs) d post (kc + mc) (ks + ms) pc L st0 M := by
  intro p l e R s m args below meth c H locs cells slots Q ad B D cT ls ct sl hC hR h1 h2 h3 h4 hS hW hl
  obtain ⟨hx, hb, hml, hown, hts, hini, hRR, hAD, hB, hK, hZ, hE⟩ := id hC
  obtain ⟨m1, m2, m3, m4, m5, m6, m7⟩ := hm
  have hpay : ∀ w ∈ (Cond.code y bytes maxL none :: AO :: q_tbl), ∀ (a' : Array Value) (U : State), s.WarmedH U.vm → w.before a' U = true := fun w hw9 a' U hU => by
    rcases List.mem_cons.mp hw9 with h | h
    · rw [h]
      exact q_pay hts m7 _ List.mem_cons_self a' U hU
    · rcases List.mem_cons.mp h with h | h
      · rw [h]
        exact over_moved hU.alike hE.1
      · exact q_pay hts m7 w (List.mem_cons_of_mem _ h) a' U hU
  have hcb : CallB R s args own idx y bytes maxL none (Cond.code y bytes maxL none :: AO :: q_tbl) ({ frames := d2, cells := mc, slots := ms, locals := 40 * d2 } : Room) mc ms n := by
    refine ⟨rfl, rfl, ?_, ?_, hpay, List.mem_cons_self, hts _ m7, hts _ m6, m1, fun sig h => ?_, hts _ hlk⟩
    · show d2 + 1 ≤ R.frames
      omega
    · show 8 + (maxL + 11) + 40 * d2 ≤ R.locals
      omega
    · rw [h] at m2
      exact (Option.some.inj m2).symm
  have cw : CallB R s args own idx y bytes maxL none (Cond.code y bytes maxL none :: AO :: q_tbl) ({ frames := d2, cells := mc, slots := ms, locals := 40 * d2 } : Room) mc ms n ∧ y.name = "<init>" ∧ (Cond.instanceMethod y).before args s = true := ⟨hcb, m4, hts _ m5⟩
  have hp : PreS s H (q_P (.ref k :: As) M D cT ad B) (.ref (ad k) :: As.map (q_v ad)) := by
    refine ⟨q_blind, fun U hU hWm => ⟨rfl, ?_, by rw [hU]; exact hW, va_K.moved hWm.alike hK, by rw [hU]; exact hZ.go hWm hS⟩⟩
    rw [hU]
    exact Nat.le_trans hB hS.1
  refine q_after (va_runI (Ts := q_tbl) (As := As.map (q_v ad)) (rest := st.map (q_v ad)) ⟨hx, hb, hml, hown, hts⟩ (hM l ad B D cT hAD) cw hp rfl (by rw [List.length_map]; exact hn) hl.1 ?_ (lv_room ?_) hd ⟨by omega, by omega⟩) hS ?_
  · show st0.map (q_v ad) = _
    rw [hst, List.map_append, List.map_reverse]
    rfl
  · rw [List.map_map]
    rw [show ((fun v : Value => v.category) ∘ q_v ad) = (fun v => v.category) from funext (q_v_cat ad)]
    exact hw
  · intro x M' H1 locs1 hp2 hW1 hS1
    exact kk M' hp2 p l e R s m args below meth c H1 locs1 (cells + mc) (slots + ms) Q ad B D cT ls ct sl hC hR (by omega) (by omega) h3 h4 hS1 hW1 hl
end QCALLX
/-! ===== the law's own rows ===== -/
abbrev WL (N9 : Nat) (xs : Nat → Int32) (kc ks pc : Nat) (L : List (Option Value)) (st : List Value) (M : List AE) : Prop := WG eI RL cL_law 4 (some .boolean) false (eX N9 xs) 100 (fun x _ => x = 1) kc ks pc L st M
/-- the law's locals in its loop: the script, the class's object, the model's, the place -/
abbrev Lk (k : Nat) : List (Option Value) := [some (.ref 100099), some (.ref 0), some (.ref 57), some (.int (nI k))]
section QL
variable {N9 : Nat} {xs : Nat → Int32} {kc ks pc k : Nat} {st : List Value} {M : List AE}
/-- script[i + j] -/
theorem l_arg {n : Int} {j : Nat} (d0 : decode cL_law pc = .ok (.aload_n 0, 1)) (d1 : decode cL_law (pc + 1) = .ok (.iload_n 3, 1)) (d2 : decode cL_law (pc + 2) = .ok (.iconst n, 1)) (d3 : decode cL_law (pc + 3) = .ok (.iadd, 1)) (d4 : decode cL_law (pc + 4) = .ok (.iaload, 1)) (hn : Int32.ofInt n = nI j) (hj : j < 6) (hk : k + 6 ≤ N9) (hN : N9 ≤ 3072) (kk : WL N9 xs kc ks (pc + 5) (Lk k) (.int (xs (k + j)) :: st) M) : WL N9 xs kc ks pc (Lk k) st M := by
  refine g_aload_n (i := 0) (x := 100099) d0 rfl ?_
  refine g_iload_n (pc := pc + 1) (i := 3) (x := nI k) d1 rfl ?_
  refine g_iconst (pc := pc + 2) (v := nI j) d2 hn ?_
  refine v_iadd (pc := pc + 3) (v := nI (k + j)) d3 (nI_add k j) ?_
  refine g_xld (pc := pc + 4) d4 (nI_in (by omega) (by omega)) ?_
  rw [nI_clamp (show k + j < 2 ^ 31 by omega)]
  exact kk
end QL
theorem lg_cmp_self (x : Int64) : lg_cmp x x = 0 := by
  unfold lg_cmp
  rw [if_neg (fun h => by
    have h2 := Int64.lt_iff_toInt_lt.mp h
    omega), if_pos rfl]
