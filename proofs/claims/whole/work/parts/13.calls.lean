/-! ===== contracts, and the rows of calls ===== -/
abbrev eI : Int32 → Option Value := fun x => some (.int x)
abbrev eL : Int64 → Option Value := fun x => some (.long x)
abbrev eR : Nat → Option Value := fun x => some (.ref x)
abbrev eV : Unit → Option Value := fun _ => none
def q_Q {X : Type} (emb : X → Option Value) (post : X → List AE → Prop) (D : va_G) (cT : Nat → ClassId) (ad : Nat → Nat) (B : Nat) : Array Value → State → Outcome → State → Prop := fun _ st oc t =>
  (∃ (x : X) (M' : List AE), oc = .returned ((emb x).map (q_v ad)) ∧ post x M' ∧ q_W D cT ad B M' t.heap) ∧ va_F (q_A B) st t
def q_P (args : List Value) (M : List AE) (D : va_G) (cT : Nat → ClassId) (ad : Nat → Nat) (B : Nat) : Array Value → State → Prop := va_Pc (args.map (q_v ad)) (fun U => B ≤ U.heap.size ∧ q_W D cT ad B M U.heap ∧ va_K D vwCl (q_tys cT) U ∧ q_S ad B U U.heap)
/-- a method's contract: over the cells M, with these arguments, it answers so that post; calls below it go at most d deep; mc cells of ms slots are made -/
def CT {X : Type} (emb : X → Option Value) (y : MethodName) (bytes : ByteArray) (maxL : Nat) (ret : Option FieldType) (d mc ms : Nat) (args : List Value) (M : List AE) (post : X → List AE → Prop) : Prop :=
  ∀ (l : Launch) (ad : Nat → Nat) (B : Nat) (D : va_G) (cT : Nat → ClassId), q_AD ad B → Met l y (Cond.code y bytes maxL ret :: q_tbl) ({ frames := d, cells := mc, slots := ms, locals := 40 * d } : Room) (q_P args M D cT ad B) (q_Q emb post D cT ad B) mc ms (q_A B)
theorem q_sl (vs : List Value) (ad : Nat → Nat) : (lg_sl (vs.map (q_v ad))).length = (q_args vs).length := by
  induction vs with
  | nil => rfl
  | cons v r ih =>
    have h0 : lg_sl ((v :: r).map (q_v ad)) = (if (q_v ad v).category = 2 then [Slot.val (q_v ad v), .second] else [Slot.val (q_v ad v)]) ++ lg_sl (r.map (q_v ad)) := rfl
    rw [h0, List.length_append, ih, q_v_cat]
    by_cases h : v.category = 2
    · rw [if_pos h, q_args, if_pos h]
      simp only [List.length_cons, List.length_nil]
      omega
    · rw [if_neg h, q_args, if_neg h]
      simp only [List.length_cons, List.length_nil]
      omega
theorem CT.of {X : Type} {emb : X → Option Value} {y : MethodName} {bytes : ByteArray} {maxL : Nat} {ret : Option FieldType} {d mc ms : Nat} {args : List Value} {M : List AE} {post : X → List AE → Prop} {L : List (Option Value)} (ini : Bool) (hy : plainName y.cls = true) (hini : ini = true → y.name = "<init>") (hL : q_args args ++ List.replicate (maxL - (q_args args).length) none = L) (hlen : (q_args args).length ≤ maxL)
    (h : WG emb y.cls bytes maxL ret ini (fun _ _ => True) d post mc ms 0 L [] M) : CT emb y bytes maxL ret d mc ms args M post := by
  intro l ad B D cT hAD
  refine Met.ofW (cc := bytes) (maxL := maxL) (ret := ret) hy rfl ?_
  intro p e s m ar below meth c s₁ BL hml hv
  obtain ⟨rfl, hB, hW, hK, hZ⟩ := hv
  have hx := BL.exec
  have hb := BL.bytes
  have hr := BL.returns
  have hts := atoms_spec (ws := (Cond.code y bytes maxL ret :: q_tbl)) BL.pre
  have hown : s.vm.findClass y.cls = some m.cls := findClass_of_methodNamed BL.named
  have hlocks := BL.notSynchronized
  have hin : meth.name = y.name := (name_of_methodNamed BL.named BL.method).1
  have hl := lv_entry (args.map (q_v ad)) (n := maxL) (by rw [q_sl]; exact hlen)
  rw [lg_entry_eq]
  generalize (lg_sl (args.map (q_v ad)) ++ List.replicate (maxL - (lg_sl (args.map (q_v ad))).length) Slot.unset).toArray = ls at hl ⊢
  have hl : lv_has ls maxL (q_l ad 0 L) := by
    rw [← hL, q_args_l]
    exact hl
  refine h p l e _ s m _ below meth c s.heap [] 0 0 _ ad B D cT ls mc ms ⟨hx, hb, hml, hown, fun w hw => hts w (List.mem_cons_of_mem _ hw), fun hi => hin.trans (hini hi), ⟨Nat.le_refl _, Nat.le_refl _⟩, hAD, hB, hK, hZ, trivial⟩ ?_ (by omega) (by omega) (Nat.le_refl _) (Nat.le_refl _) va_S.rf hW hl
  intro x M' H' locs' cells' slots' pc' ls' st' hp hS hW' hc hs he
  refine W.widen hc hs ?_
  rcases he with ⟨v, ty, e1, rfl, e2, e3, e4⟩ | ⟨v, e1, rfl, e2, e4⟩ | ⟨k, e1, rfl, ⟨t, e2⟩, e4⟩ | ⟨e1, rfl, e2, e4⟩
  · exact W.zret hx hb (hr.trans e2) e3 (fun t ht hWm => ⟨⟨x, M', by rw [e1]; rfl, hp, by rw [ht]; exact hW'⟩, hS.F ht⟩) hS.2.2 e4 hlocks
  · exact W.lret hx hb (hr.trans e2) (fun t ht hWm => ⟨⟨x, M', by rw [e1]; rfl, hp, by rw [ht]; exact hW'⟩, hS.F ht⟩) hS.2.2 e4 hlocks
  · exact W.aret (rt := .array t) hx hb (hr.trans e2) (Or.inr ⟨t, rfl⟩) (Or.inr ⟨ad k, rfl⟩) (fun t ht hWm => ⟨⟨x, M', by rw [e1]; rfl, hp, by rw [ht]; exact hW'⟩, hS.F ht⟩) hS.2.2 e4 hlocks
  · exact W.vret hx hb (hr.trans e2) (fun t ht hWm => ⟨⟨x, M', by rw [e1]; rfl, hp, by rw [ht]; exact hW'⟩, hS.F ht⟩) hS.2.2 e4 hlocks
/-- what the tables say of a method that is called by its class -/
def MV (y : MethodName) (bytes : ByteArray) (maxL : Nat) (ret : Option FieldType) (n : Nat) : Prop :=
  (y.cls ≠ "java/lang/invoke/MethodHandle" ∧ y.cls ≠ "java/lang/invoke/VarHandle") ∧ (parseMethodDescriptor y.desc).map (fun d => d.parameters.length) = some n ∧ maxL ≤ 21 ∧ Cond.instanceMethod y ∈ q_tbl ∧ Cond.selects y.cls y y ∈ q_tbl ∧ Cond.initialized y.cls ∈ q_tbl ∧ Cond.code y bytes maxL ret ∈ q_tbl
def MS (y : MethodName) (bytes : ByteArray) (maxL : Nat) (ret : Option FieldType) (n : Nat) : Prop :=
  (y.cls ≠ "java/lang/invoke/MethodHandle" ∧ y.cls ≠ "java/lang/invoke/VarHandle") ∧ (parseMethodDescriptor y.desc).map (fun d => d.parameters.length) = some n ∧ maxL ≤ 21 ∧ Cond.static y ∈ q_tbl ∧ Cond.initialized y.cls ∈ q_tbl ∧ Cond.code y bytes maxL ret ∈ q_tbl
def MI (y : MethodName) (bytes : ByteArray) (maxL : Nat) (n : Nat) : Prop :=
  (y.cls ≠ "java/lang/invoke/MethodHandle" ∧ y.cls ≠ "java/lang/invoke/VarHandle") ∧ (parseMethodDescriptor y.desc).map (fun d => d.parameters.length) = some n ∧ maxL ≤ 21 ∧ y.name = "<init>" ∧ Cond.instanceMethod y ∈ q_tbl ∧ Cond.initialized y.cls ∈ q_tbl ∧ Cond.code y bytes maxL none ∈ q_tbl
theorem tbl_good : ∀ w ∈ q_tbl, goodWord w = true := fun _ h => (List.mem_filter.mp h).2
theorem q_blind {args : List Value} {M : List AE} {D : va_G} {cT : Nat → ClassId} {ad : Nat → Nat} {B : Nat} : FrameBlind (q_P args M D cT ad B) := by
  intro a U g mk h
  obtain ⟨h1, hB, hW, hK, hZ⟩ := h
  exact ⟨h1, hB, hW, va_K.moved (u := U) (U := U.calling g mk a) (Vm.Alike.refl U.vm) hK, hZ.calls⟩
theorem q_pay {args : Array Value} {s : State} {y : MethodName} {bytes : ByteArray} {maxL : Nat} {ret : Option FieldType} (hts : ∀ w ∈ q_tbl, w.before args s = true) (hc : Cond.code y bytes maxL ret ∈ q_tbl) : ∀ w ∈ (Cond.code y bytes maxL ret :: q_tbl), ∀ (a' : Array Value) (U : State), s.WarmedH U.vm → w.before a' U = true := by
  refine pay_in hts (fun w hw => ?_)
  have hm : w ∈ q_tbl := by
    rcases List.mem_cons.mp hw with h | h
    · rw [h]; exact hc
    · exact h
  exact ⟨hm, good_of_word (tbl_good w hm)⟩
theorem q_callB {R : Room} {s : State} {args : Array Value} {own : String} {idx d d' : Nat} {y : MethodName} {bytes : ByteArray} {maxL : Nat} {ret : Option FieldType} {mc ms n : Nat} (hts : ∀ w ∈ q_tbl, w.before args s = true) (hR : d ≤ R.frames ∧ 40 * d ≤ R.locals) (hd : d' + 1 ≤ d) (hy : y.cls ≠ "java/lang/invoke/MethodHandle" ∧ y.cls ≠ "java/lang/invoke/VarHandle") (hn : (parseMethodDescriptor y.desc).map (fun d => d.parameters.length) = some n) (hml : maxL ≤ 21) (hini : Cond.initialized y.cls ∈ q_tbl) (hc : Cond.code y bytes maxL ret ∈ q_tbl) (hlk : Cond.methodLink own idx y ∈ q_tbl) :
    CallB R s args own idx y bytes maxL ret (Cond.code y bytes maxL ret :: q_tbl) ({ frames := d', cells := mc, slots := ms, locals := 40 * d' } : Room) mc ms n := by
  refine ⟨rfl, rfl, ?_, ?_, q_pay hts hc, List.mem_cons_self, hts _ hc, hts _ hini, hy, fun sig h => ?_, hts _ hlk⟩
  · show d' + 1 ≤ R.frames
    omega
  · show 8 + (maxL + 11) + 40 * d' ≤ R.locals
    omega
  · rw [h] at hn
    exact (Option.some.inj hn).symm
section QAFT
variable {p : Program} {l : Launch} {e : Env} {R : Room} {s : State} {m : MethodId} {args : Array Value} {below : List Frame} {meth : Method} {c : Code} {H : Heap} {locs : List Loc} {cells slots : Nat} {Q : State → Prop}
theorem q_after {X : Type} {emb : X → Option Value} {post : X → List AE → Prop} {D : va_G} {cT : Nat → ClassId} {ad : Nat → Nat} {B : Nat} {mc ms pc : Nat} {ls : Array Slot} {st0 rest : List Value} {a : Array Value} (hr : va_Run p l e R s m args below meth c H locs cells slots mc ms (F0 m pc ls st0) rest (q_Q emb post D cT ad B a) (q_A B)) (hS : va_S (q_A B) s.heap H locs)
    (kk : ∀ (x : X) (M' : List AE) (H1 : Heap) (locs1 : List Loc), post x M' → q_W D cT ad B M' H1 → va_S (q_A B) s.heap H1 locs1 → W p l e R s m args below meth c H1 locs1 (cells + mc) (slots + ms) Q (F0 m (pc + 3) ls (((emb x).map (q_v ad)).toList ++ rest))) : W p l e R s m args below meth c H locs cells slots Q (F0 m pc ls st0) := by
  intro T hT X9
  obtain ⟨v, st₀, t, T', L, h0, X', hL, e1, e2, ⟨⟨x, M', hv, hp, hb⟩, hz, hk⟩, st⟩ := hr T hT X9
  cases hv
  rw [h0] at hz hk
  obtain ⟨t2, a1, b1⟩ := kk x M' T'.heap (locs ++ L) hp (by rw [e1]; exact hb)
    ⟨Nat.le_trans hS.1 (by rw [e1]; exact hz), fun q h1 h2 => by rw [e1, hk q (Nat.lt_of_lt_of_le h1 hS.1) h2]; exact hS.2.1 q h1 h2, fun q hq => by
      rcases List.mem_append.mp hq with h | h
      · exact hS.2.2 q h
      · exact hL q h⟩ T' rfl X'
  exact ⟨t2, st t2 a1, b1⟩
end QAFT
section QCALL
variable {X : Type} {emb : X → Option Value} {own : String} {cc : ByteArray} {nL : Nat} {ret : Option FieldType} {ini : Bool} {E : (Nat → Nat) → State → Prop} {d : Nat} {post : X → List AE → Prop} {kc ks pc : Nat} {L : List (Option Value)} {st : List Value} {M : List AE}
theorem g_callV {Y : Type} {emb2 : Y → Option Value} {y : MethodName} {bytes : ByteArray} {maxL : Nat} {ret2 : Option FieldType} {d2 mc ms k ci n idx : Nat} {As fs st0 : List Value} {q : vw_C} {post2 : Y → List AE → Prop} (hM : CT emb2 y bytes maxL ret2 d2 mc ms (.ref k :: As) M post2) (hm : MV y bytes maxL ret2 n) (hlk : Cond.methodLink own idx y ∈ q_tbl) (hdp : d2 + 1 ≤ d) (he : M[k]? = some (.inr (ci, fs))) (hq : vwCl[ci]? = some q) (hqc : q.1 = y.cls) (hn : As.length = n) (hst : st0 = As.reverse ++ .ref k :: st) (hw : (st.map fun v => v.category).sum ≤ 8) (hd : decode cc pc = .ok (.invokevirtual idx, 3))
    (kk : ∀ (x : Y) (M' : List AE), post2 x M' → WG emb own cc nL ret ini E d post kc ks (pc + 3) L ((emb2 x).toList ++ st) M') : WG emb own cc nL ret ini E d post (kc + mc) (ks + ms) pc L st0 M := by
  intro p l e R s m args below meth c H locs cells slots Q ad B D cT ls ct sl hC hR h1 h2 h3 h4 hS hW hl
  obtain ⟨hx, hb, hml, hown, hts, hini, hRR, hAD, hB, hK, hZ, hE⟩ := id hC
  obtain ⟨m1, m2, m3, m4, m5, m6, m7⟩ := hm
  have hk : ad k = B + k := hAD k (hW.lt he)
  have cw : CallW R s args own y.cls idx y bytes maxL ret2 (Cond.code y bytes maxL ret2 :: q_tbl) ({ frames := d2, cells := mc, slots := ms, locals := 40 * d2 } : Room) mc ms n := ⟨q_callB hts hRR hdp m1 m2 m3 m6 m7 hlk, hts _ m4, hts _ m5⟩
  have hp : PreV s H y.cls (ad k) (q_P (.ref k :: As) M D cT ad B) (As.map (q_v ad)) := by
    refine ⟨q_blind, ?_, fun U hU hWm => ⟨rfl, ?_, by rw [hU]; exact hW, va_K.moved hWm.alike hK, by rw [hU]; exact hZ.go hWm hS⟩⟩
    · rw [hk, ← hqc]
      exact va_recv hK (hW.one he) hq (q0 := 0) rfl
    · rw [hU]
      exact Nat.le_trans hB hS.1
  refine q_after (va_runV (Ts := q_tbl) (As := As.map (q_v ad)) (rest := st.map (q_v ad)) ⟨hx, hb, hml, hown, hts⟩ (hM l ad B D cT hAD) cw hp rfl (by rw [List.length_map]; exact hn) hl.1 ?_ (lv_room ?_) hd ⟨by omega, by omega⟩) hS ?_
  · show st0.map (q_v ad) = _
    rw [hst, List.map_append, List.map_reverse]
    rfl
  · rw [List.map_map]
    rw [show ((fun v : Value => v.category) ∘ q_v ad) = (fun v => v.category) from funext (q_v_cat ad)]
    exact hw
  · intro x M' H1 locs1 hp2 hW1 hS1
    have h := kk x M' hp2 p l e R s m args below meth c H1 locs1 (cells + mc) (slots + ms) Q ad B D cT ls ct sl hC hR (by omega) (by omega) h3 h4 hS1 hW1 hl
    rw [List.map_append] at h
    cases h9 : emb2 x with
    | none => rw [h9] at h; exact h
    | some v => rw [h9] at h; exact h
theorem g_callS {Y : Type} {emb2 : Y → Option Value} {y : MethodName} {bytes : ByteArray} {maxL : Nat} {ret2 : Option FieldType} {d2 mc ms n idx : Nat} {As st0 : List Value} {post2 : Y → List AE → Prop} (hM : CT emb2 y bytes maxL ret2 d2 mc ms As M post2) (hm : MS y bytes maxL ret2 n) (hlk : Cond.methodLink own idx y ∈ q_tbl) (hdp : d2 + 1 ≤ d) (hn : As.length = n) (hst : st0 = As.reverse ++ st) (hw : (st.map fun v => v.category).sum ≤ 8) (hd : decode cc pc = .ok (.invokestatic idx, 3))
    (kk : ∀ (x : Y) (M' : List AE), post2 x M' → WG emb own cc nL ret ini E d post kc ks (pc + 3) L ((emb2 x).toList ++ st) M') : WG emb own cc nL ret ini E d post (kc + mc) (ks + ms) pc L st0 M := by
  intro p l e R s m args below meth c H locs cells slots Q ad B D cT ls ct sl hC hR h1 h2 h3 h4 hS hW hl
  obtain ⟨hx, hb, hml, hown, hts, hini, hRR, hAD, hB, hK, hZ, hE⟩ := id hC
  obtain ⟨m1, m2, m3, m4, m6, m7⟩ := hm
  have cw : CallB R s args own idx y bytes maxL ret2 (Cond.code y bytes maxL ret2 :: q_tbl) ({ frames := d2, cells := mc, slots := ms, locals := 40 * d2 } : Room) mc ms n ∧ (Cond.static y).before args s = true := ⟨q_callB hts hRR hdp m1 m2 m3 m6 m7 hlk, hts _ m4⟩
  have hp : PreS s H (q_P As M D cT ad B) (As.map (q_v ad)) := by
    refine ⟨q_blind, fun U hU hWm => ⟨rfl, ?_, by rw [hU]; exact hW, va_K.moved hWm.alike hK, by rw [hU]; exact hZ.go hWm hS⟩⟩
    rw [hU]
    exact Nat.le_trans hB hS.1
  refine q_after (va_runS (Ts := q_tbl) (As := As.map (q_v ad)) (rest := st.map (q_v ad)) ⟨hx, hb, hml, hown, hts⟩ (hM l ad B D cT hAD) cw hp rfl (by rw [List.length_map]; exact hn) hl.1 ?_ (lv_room ?_) hd ⟨by omega, by omega⟩) hS ?_
  · show st0.map (q_v ad) = _
    rw [hst, List.map_append, List.map_reverse]
  · rw [List.map_map]
    rw [show ((fun v : Value => v.category) ∘ q_v ad) = (fun v => v.category) from funext (q_v_cat ad)]
    exact hw
  · intro x M' H1 locs1 hp2 hW1 hS1
    have h := kk x M' hp2 p l e R s m args below meth c H1 locs1 (cells + mc) (slots + ms) Q ad B D cT ls ct sl hC hR (by omega) (by omega) h3 h4 hS1 hW1 hl
    rw [List.map_append] at h
    cases h9 : emb2 x with
    | none => rw [h9] at h; exact h
    | some v => rw [h9] at h; exact h
theorem g_callI {y : MethodName} {bytes : ByteArray} {maxL : Nat} {d2 mc ms k n idx : Nat} {As st0 : List Value} {post2 : Unit → List AE → Prop} (hM : CT eV y bytes maxL none d2 mc ms (.ref k :: As) M post2) (hm : MI y bytes maxL n) (hlk : Cond.methodLink own idx y ∈ q_tbl) (hdp : d2 + 1 ≤ d) (hn : As.length = n) (hst : st0 = As.reverse ++ .ref k :: st) (hw : (st.map fun v => v.category).sum ≤ 8) (hd : decode cc pc = .ok (.invokespecial idx, 3))
    (kk : ∀ (M' : List AE), post2 () M' → WG emb own cc nL ret ini E d post kc ks (pc + 3) L st M') : WG emb own cc nL ret ini E d post (kc + mc) (ks + ms) pc L st0 M := by
  intro p l e R s m args below meth c H locs cells slots Q ad B D cT ls ct sl hC hR h1 h2 h3 h4 hS hW hl
  obtain ⟨hx, hb, hml, hown, hts, hini, hRR, hAD, hB, hK, hZ, hE⟩ := id hC
  obtain ⟨m1, m2, m3, m4, m5, m6, m7⟩ := hm
  have cw : CallB R s args own idx y bytes maxL none (Cond.code y bytes maxL none :: q_tbl) ({ frames := d2, cells := mc, slots := ms, locals := 40 * d2 } : Room) mc ms n ∧ y.name = "<init>" ∧ (Cond.instanceMethod y).before args s = true := ⟨q_callB hts hRR hdp m1 m2 m3 m6 m7 hlk, m4, hts _ m5⟩
  have hp : PreS s H (q_P (.ref k :: As) M D cT ad B) (.ref (ad k) :: As.map (q_v ad)) := by
    refine ⟨q_blind, fun U hU hWm => ⟨rfl, ?_, by rw [hU]; exact hW, va_K.moved hWm.alike hK, by rw [hU]; exact hZ.go hWm hS⟩⟩
    rw [hU]
    exact Nat.le_trans hB hS.1
  refine q_after (va_runI (Ts := q_tbl) (As := As.map (q_v ad)) (rest := st.map (q_v ad)) ⟨hx, hb, hml, hown, hts⟩ (hM l ad B D cT hAD) cw hp rfl (by rw [List.length_map]; exact hn) hl.1 ?_ (lv_room ?_) hd ⟨by omega, by omega⟩) hS ?_
  · show st0.map (q_v ad) = _
    rw [hst, List.map_append, List.map_reverse]
    rfl
  · rw [List.map_map]
    rw [show ((fun v : Value => v.category) ∘ q_v ad) = (fun v => v.category) from funext (q_v_cat ad)]
    exact hw
  · intro x M' H1 locs1 hp2 hW1 hS1
    exact kk M' hp2 p l e R s m args below meth c H1 locs1 (cells + mc) (slots + ms) Q ad B D cT ls ct sl hC hR (by omega) (by omega) h3 h4 hS1 hW1 hl
theorem g_objInit {idx k : Nat} (hlk : Cond.methodLink own idx objectInit ∈ q_tbl) (hdp : 1 ≤ d) (hd : decode cc pc = .ok (.invokespecial idx, 3)) (hw : (st.map fun v => v.category).sum ≤ 8) (kk : WG emb own cc nL ret ini E d post kc ks (pc + 3) L st M) : WG emb own cc nL ret ini E d post kc ks pc L (.ref k :: st) M := by
  intro p l e R s m args below meth c H locs cells slots Q ad B D cT ls ct sl hC hR h1 h2 h3 h4 hS hW hl
  obtain ⟨hx, hb, hml, hown, hts, hini, hRR, hAD, hB, hK, hZ, hE⟩ := id hC
  refine W.objInit hx hb hown (hts _ hlk) (hts (Cond.instanceMethod objectInit) (by decide +kernel)) (hts (Cond.code objectInit ⟨#[0xb1]⟩ 1 none) (by decide +kernel)) (g := F0 m pc ls (.ref (ad k) :: st.map (q_v ad))) (rest := st.map (q_v ad)) rfl (by rw [hml]; exact hl.1) rfl hd (by omega) ?_ ?_
  · show 2 * 0 + _ + 12 ≤ _
    rw [List.map_map]
    rw [show ((fun v : Value => v.category) ∘ q_v ad) = (fun v => v.category) from funext (q_v_cat ad)]
    omega
  · exact kk p l e R s m args below meth c H locs cells slots Q ad B D cT ls ct sl hC hR h1 h2 h3 h4 hS hW hl
/-! Math -/
theorem g_max {idx : Nat} {x y : Int32} (hlk : Cond.methodLink own idx Lib.Math.max.name ∈ q_tbl) (hdp : 1 ≤ d) (hw : (st.map fun v => v.category).sum ≤ 8) (hd : decode cc pc = .ok (.invokestatic idx, 3)) (kk : WG emb own cc nL ret ini E d post kc ks (pc + 3) L (.int (if x < y then y else x) :: st) M) : WG emb own cc nL ret ini E d post kc ks pc L (.int y :: .int x :: st) M := by
  intro p l e R s m args below meth c H locs cells slots Q ad B D cT ls ct sl hC hR h1 h2 h3 h4 hS hW hl
  obtain ⟨hx, hb, hml, hown, hts, hini, hRR, hAD, hB, hK, hZ, hE⟩ := id hC
  refine va_mmax hx hb (hml.trans hl.1.symm) hown (hts _ hlk) (hts (Cond.static Lib.Math.max.name) (by decide +kernel)) (hts (Cond.initialized "java/lang/Math") (by decide +kernel)) (hts (Cond.code Lib.Math.max.name Lib.Math.max.code 2 (some .int)) (by decide +kernel)) (by omega) ?_ (by omega) (by omega) hd (kk p l e R s m args below meth c H locs cells slots Q ad B D cT ls ct sl hC hR h1 h2 h3 h4 hS hW hl)
  rw [List.map_map]
  rw [show ((fun v : Value => v.category) ∘ q_v ad) = (fun v => v.category) from funext (q_v_cat ad)]
  omega
theorem g_min {idx : Nat} {x y : Int32} (hlk : Cond.methodLink own idx Lib.Math.min.name ∈ q_tbl) (hdp : 1 ≤ d) (hw : (st.map fun v => v.category).sum ≤ 8) (hd : decode cc pc = .ok (.invokestatic idx, 3)) (kk : WG emb own cc nL ret ini E d post kc ks (pc + 3) L (.int (if y < x then y else x) :: st) M) : WG emb own cc nL ret ini E d post kc ks pc L (.int y :: .int x :: st) M := by
  intro p l e R s m args below meth c H locs cells slots Q ad B D cT ls ct sl hC hR h1 h2 h3 h4 hS hW hl
  obtain ⟨hx, hb, hml, hown, hts, hini, hRR, hAD, hB, hK, hZ, hE⟩ := id hC
  refine va_mmin hx hb (hml.trans hl.1.symm) hown (hts _ hlk) (hts (Cond.static Lib.Math.min.name) (by decide +kernel)) (hts (Cond.initialized "java/lang/Math") (by decide +kernel)) (hts (Cond.code Lib.Math.min.name Lib.Math.min.code 2 (some .int)) (by decide +kernel)) (by omega) ?_ (by omega) (by omega) hd (kk p l e R s m args below meth c H locs cells slots Q ad B D cT ls ct sl hC hR h1 h2 h3 h4 hS hW hl)
  rw [List.map_map]
  rw [show ((fun v : Value => v.category) ∘ q_v ad) = (fun v => v.category) from funext (q_v_cat ad)]
  omega
end QCALL
