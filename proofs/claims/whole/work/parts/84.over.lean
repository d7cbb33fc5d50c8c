/-! ===== makers that need one word more: arrays of arrays of ints can be made ===== -/
abbrev AO : Cond := Cond.arrayOver (.array .int)
abbrev eO : (Nat → Nat) → State → Prop := fun _ s => AO.before #[] s = true
def CTo (y : MethodName) (bytes : ByteArray) (maxL d mc ms : Nat) (args : List Value) (M : List AE) (post : Unit → List AE → Prop) : Prop :=
  ∀ (l : Launch) (ad : Nat → Nat) (B : Nat) (D : va_G) (cT : Nat → ClassId), q_AD ad B → Met l y (Cond.code y bytes maxL none :: AO :: q_tbl) ({ frames := d, cells := mc, slots := ms, locals := 40 * d } : Room) (q_P args M D cT ad B) (q_Q eV post D cT ad B) mc ms (q_A B)
theorem CTo.of {y : MethodName} {bytes : ByteArray} {maxL : Nat} {d mc ms : Nat} {args : List Value} {M : List AE} {post : Unit → List AE → Prop} {L : List (Option Value)} (ini : Bool) (hy : plainName y.cls = true) (hini : ini = true → y.name = "<init>") (hL : q_args args ++ List.replicate (maxL - (q_args args).length) none = L) (hlen : (q_args args).length ≤ maxL)
    (h : WG eV y.cls bytes maxL none ini eO d post mc ms 0 L [] M) : CTo y bytes maxL d mc ms args M post := by
  intro l ad B D cT hAD
  refine Met.ofW (cc := bytes) (maxL := maxL) (ret := none) hy rfl ?_
  intro p e s m ar below meth c s₁ BL hml hv
  obtain ⟨rfl, hB, hW, hK, hZ⟩ := hv
  have hx := BL.exec
  have hb := BL.bytes
  have hr := BL.returns
  have hts := atoms_spec (ws := (Cond.code y bytes maxL none :: AO :: q_tbl)) BL.pre
  have hown : s.vm.findClass y.cls = some m.cls := findClass_of_methodNamed BL.named
  have hlocks := BL.notSynchronized
  have hin : meth.name = y.name := (name_of_methodNamed BL.named BL.method).1
  have hE : AO.before #[] s = true := over_moved (Vm.Alike.refl s.vm) (hts AO (List.mem_cons_of_mem _ List.mem_cons_self))
  have hl := lv_entry (args.map (q_v ad)) (n := maxL) (by rw [q_sl]; exact hlen)
  rw [lg_entry_eq]
  generalize (lg_sl (args.map (q_v ad)) ++ List.replicate (maxL - (lg_sl (args.map (q_v ad))).length) Slot.unset).toArray = ls at hl ⊢
  have hl : lv_has ls maxL (q_l ad 0 L) := by
    rw [← hL, q_args_l]
    exact hl
  refine h p l e _ s m _ below meth c s.heap [] 0 0 _ ad B D cT ls mc ms ⟨hx, hb, hml, hown, fun w hw => hts w (List.mem_cons_of_mem _ (List.mem_cons_of_mem _ hw)), fun hi => hin.trans (hini hi), ⟨Nat.le_refl _, Nat.le_refl _⟩, hAD, hB, hK, hZ, hE⟩ ?_ (by omega) (by omega) (Nat.le_refl _) (Nat.le_refl _) va_S.rf hW hl
  intro x M' H' locs' cells' slots' pc' ls' st' hp hS hW' hc hs he
  refine W.widen hc hs ?_
  rcases he with ⟨v, ty, e1, rfl, e2, e3, e4⟩ | ⟨v, e1, rfl, e2, e4⟩ | ⟨k, e1, rfl, ⟨t, e2⟩, e4⟩ | ⟨e1, rfl, e2, e4⟩
  · exact absurd e1 (by simp)
  · exact absurd e1 (by simp)
  · exact absurd e1 (by simp)
  · exact W.vret hx hb (hr.trans e2) (fun t ht hWm => ⟨⟨x, M', by rw [e1]; rfl, hp, by rw [ht]; exact hW'⟩, hS.F ht⟩) hS.2.2 e4 hlocks
section QCALLO
variable {X : Type} {emb : X → Option Value} {own : String} {cc : ByteArray} {nL : Nat} {ret : Option FieldType} {ini : Bool} {d : Nat} {post : X → List AE → Prop} {kc ks pc : Nat} {L : List (Option Value)} {st : List Value} {M : List AE}
theorem g_callIo {y : MethodName} {bytes : ByteArray} {maxL : Nat} {d2 mc ms k n idx : Nat} {As st0 : List Value} {post2 : Unit → List AE → Prop} (hM : CTo y bytes maxL d2 mc ms (.ref k :: As) M post2) (hm : MI y bytes maxL n) (hlk : Cond.methodLink own idx y ∈ q_tbl) (hdp : d2 + 1 ≤ d) (hn : As.length = n) (hst : st0 = As.reverse ++ .ref k :: st) (hw : (st.map fun v => v.category).sum ≤ 8) (hd : decode cc pc = .ok (.invokespecial idx, 3))
    (kk : ∀ (M' : List AE), post2 () M' → WG emb own cc nL ret ini eO d post kc ks (pc + 3) L st M') : WG emb own cc nL ret ini eO d post (kc + mc) (ks + ms) pc L st0 M := by
  intro p l e R s m args below meth c H locs cells slots Q ad B D cT ls ct sl hC hR h1 h2 h3 h4 hS hW hl
  obtain ⟨hx, hb, hml, hown, hts, hini, hRR, hAD, hB, hK, hZ, hE⟩ := id hC
  obtain ⟨m1, m2, m3, m4, m5, m6, m7⟩ := hm
  have hpay : ∀ w ∈ (Cond.code y bytes maxL none :: AO :: q_tbl), ∀ (a' : Array Value) (U : State), s.WarmedH U.vm → w.before a' U = true := fun w hw9 a' U hU => by
    rcases List.mem_cons.mp hw9 with h | h
    · rw [h]
      exact q_pay hts m7 _ List.mem_cons_self a' U hU
    · rcases List.mem_cons.mp h with h | h
      · rw [h]
        exact over_moved hU.alike hE
      · exact q_pay hts m7 w (List.mem_cons_of_mem _ h) a' U hU
  have hcb : CallB R s args own idx y bytes maxL none (Cond.code y bytes maxL none :: AO :: q_tbl) ({ frames := d2, cells := mc, slots := ms, locals := 40 * d2 } : Room) mc ms n := by
    refine ⟨rfl, rfl, ?_, ?_, hpay, List.mem_cons_self, hts _ m7, hts _ m6, m1, fun sig h => ?_, hts _ hlk⟩
    · show d2 + 1 ≤ R.frames
      omega
    · show 8 + (maxL + 11) + 40 * d2 ≤ R.locals
      omega
    · rw [h] at m2
      exact (Option.some.inj m2).symm
  have cw : CallB R s args own idx y bytes maxL none (Cond.code y bytes maxL none :: AO :: q_tbl) ({ frames := d2, cells := mc, slots := ms, locals := 40 * d2 } : Room) mc ms n ∧ y.name = "<init>" ∧ (Cond.instanceMethod y).before args s = true := ⟨hcb, m4, hts _ m5⟩
  have hp : PreS s H (q_P (.ref k :: As) M D cT ad B) (.ref (ad k) :: As.map (q_v ad)) := by
    refine ⟨q_blind, fun U hU hWm => ⟨rfl, ?_, by rw [hU]; exact hW, va_K.moved hWm.alike hK, by rw [hU]; exact hZ.go hWm hS⟩⟩
    rw [hU]
    exact Nat.le_trans hB hS.1
  refine q_after (va_runI (Ts := q_tbl) (As := As.map (q_v ad)) (rest := st.map (q_v ad)) ⟨hx, hb, hml, hown, hts⟩ (hM l ad B D cT hAD) cw hp rfl (by rw [List.length_map]; exact hn) hl.1 ?_ (lv_room ?_) hd ⟨by omega, by omega⟩) hS ?_
  · show st0.map (q_v ad) = _
    rw [hst, List.map_append, List.map_reverse]
    rfl
  · rw [List.map_map]
    rw [show ((fun v : Value => v.category) ∘ q_v ad) = (fun v => v.category) from funext (q_v_cat ad)]
    exact hw
  · intro x M' H1 locs1 hp2 hW1 hS1
    exact kk M' hp2 p l e R s m args below meth c H1 locs1 (cells + mc) (slots + ms) Q ad B D cT ls ct sl hC hR (by omega) (by omega) h3 h4 hS1 hW1 hl
end QCALLO
