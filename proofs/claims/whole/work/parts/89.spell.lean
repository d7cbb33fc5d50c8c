/-! ===== the model's constructor: spell ===== -/
def AR (M : List AE) (q : Nat) (f : Nat → Int32) : List AE := M.set q (.inl (0, 960, .inl f))
theorem AR.start {M : List AE} {q : Nat} {f : Nat → Int32} (he : M[q]? = some (.inl (0, 960, .inl f))) : M = AR M q f := by
  unfold AR
  apply List.ext_getElem?
  intro i
  rw [List.getElem?_set]
  by_cases h : q = i
  · subst h
    rw [if_pos rfl, if_pos (List.getElem?_eq_some_iff.mp he).1, he]
  · rw [if_neg h]
theorem AR.at_ {M : List AE} {q : Nat} {f : Nat → Int32} (hq : q < M.length) : (AR M q f)[q]? = some (.inl (0, 960, .inl f)) := by
  unfold AR
  rw [List.getElem?_set, if_pos rfl, if_pos hq]
theorem AR.ne {M : List AE} {q k : Nat} {f : Nat → Int32} (h : q ≠ k) : (AR M q f)[k]? = M[k]? := by
  unfold AR
  rw [List.getElem?_set, if_neg h]
theorem AR.set {M : List AE} {q : Nat} {f g : Nat → Int32} : (AR M q f).set q (.inl (0, 960, .inl g)) = AR M q g := by
  apply List.ext_getElem?
  intro i
  unfold AR
  rw [List.getElem?_set, List.getElem?_set, List.getElem?_set, List.length_set]
  by_cases h : q = i
  · rw [if_pos h, if_pos h]
  · rw [if_neg h, if_neg h, if_neg h]
section QAR
variable {X : Type} {emb : X → Option Value} {own : String} {cc : ByteArray} {nL : Nat} {ret : Option FieldType} {ini : Bool} {E : (Nat → Nat) → State → Prop} {d : Nat} {post : X → List AE → Prop} {kc ks pc : Nat} {L : List (Option Value)} {st : List Value} {M : List AE}
theorem r_iast {q : Nat} {f : Nat → Int32} {i x : Int32} (hd : decode cc pc = .ok (.iastore, 1)) (hq : q < M.length) (hin : vp_in i 960) (kk : WG emb own cc nL ret ini E d post kc ks (pc + 1) L st (AR M q (upd f i.toNatClampNeg x))) : WG emb own cc nL ret ini E d post kc ks pc L (.int x :: .int i :: .ref q :: st) (AR M q f) := by
  refine g_iast hd (AR.at_ hq) hin ?_
  rw [AR.set]
  exact kk
end QAR
theorem c_X8_spell {M : List AE} {k q : Nat} {fs : List Value} {f : Nat → Int32} {x c0 c1 c2 c3 c4 c5 c6 c7 : Int32} (he : M[k]? = some (.inr (7, fs))) (hr : fs[1]? = some (.ref q)) (he1 : M[q]? = some (.inl (0, 960, .inl f))) (h0 : vp_in x 960) (h1 : vp_in (x + 1) 960) (h2 : vp_in (x + 2) 960) (h3 : vp_in (x + 3) 960) (h4 : vp_in (x + 4) 960) (h5 : vp_in (x + 5) 960) (h6 : vp_in (x + 6) 960) (h7 : vp_in (x + 7) 960) : CT eV yX8_spell cX8_spell 10 none 0 0 0 [.ref k, .int x, .int c0, .int c1, .int c2, .int c3, .int c4, .int c5, .int c6, .int c7] M (fun _ M1 => M1 = AR M q (upd (upd (upd (upd (upd (upd (upd (upd f x.toNatClampNeg c0) (x + 1).toNatClampNeg c1) (x + 2).toNatClampNeg c2) (x + 3).toNatClampNeg c3) (x + 4).toNatClampNeg c4) (x + 5).toNatClampNeg c5) (x + 6).toNatClampNeg c6) (x + 7).toNatClampNeg c7)) := by
  have hq : q < M.length := (List.getElem?_eq_some_iff.mp he1).1
  have hne : q ≠ k := fun e => by
    rw [e, he] at he1
    exact absurd he1 (by simp)
  refine CT.of false (by decide) (fun h => by cases h) (L := [some (.ref k), some (.int x), some (.int c0), some (.int c1), some (.int c2), some (.int c3), some (.int c4), some (.int c5), some (.int c6), some (.int c7)]) rfl (Nat.le_of_ble_eq_true rfl) ?_
  refine WG.to (AR.start he1) ?_
  refine g_aload_n (pc := 0) dX8_spell_0 rfl ?_
  refine g_get (pc := 1) fl_X8_13 dX8_spell_1 ((AR.ne hne).trans he) hr ?_
  refine g_iload_n (pc := 4) dX8_spell_4 rfl ?_
  refine g_iload_n (pc := 5) dX8_spell_5 rfl ?_
  refine r_iast (pc := 6) dX8_spell_6 hq h0 ?_
  refine g_aload_n (pc := 7) dX8_spell_7 rfl ?_
  refine g_get (pc := 8) fl_X8_13 dX8_spell_8 ((AR.ne hne).trans he) hr ?_
  refine g_iload_n (pc := 11) dX8_spell_11 rfl ?_
  refine g_iconst (pc := 12) (v := 1) dX8_spell_12 rfl ?_
  refine g_iadd (pc := 13) dX8_spell_13 ?_
  refine g_iload_n (pc := 14) dX8_spell_14 rfl ?_
  refine r_iast (pc := 15) dX8_spell_15 hq h1 ?_
  refine g_aload_n (pc := 16) dX8_spell_16 rfl ?_
  refine g_get (pc := 17) fl_X8_13 dX8_spell_17 ((AR.ne hne).trans he) hr ?_
  refine g_iload_n (pc := 20) dX8_spell_20 rfl ?_
  refine g_iconst (pc := 21) (v := 2) dX8_spell_21 rfl ?_
  refine g_iadd (pc := 22) dX8_spell_22 ?_
  refine g_iload (pc := 23) dX8_spell_23 rfl ?_
  refine r_iast (pc := 25) dX8_spell_25 hq h2 ?_
  refine g_aload_n (pc := 26) dX8_spell_26 rfl ?_
  refine g_get (pc := 27) fl_X8_13 dX8_spell_27 ((AR.ne hne).trans he) hr ?_
  refine g_iload_n (pc := 30) dX8_spell_30 rfl ?_
  refine g_iconst (pc := 31) (v := 3) dX8_spell_31 rfl ?_
  refine g_iadd (pc := 32) dX8_spell_32 ?_
  refine g_iload (pc := 33) dX8_spell_33 rfl ?_
  refine r_iast (pc := 35) dX8_spell_35 hq h3 ?_
  refine g_aload_n (pc := 36) dX8_spell_36 rfl ?_
  refine g_get (pc := 37) fl_X8_13 dX8_spell_37 ((AR.ne hne).trans he) hr ?_
  refine g_iload_n (pc := 40) dX8_spell_40 rfl ?_
  refine g_iconst (pc := 41) (v := 4) dX8_spell_41 rfl ?_
  refine g_iadd (pc := 42) dX8_spell_42 ?_
  refine g_iload (pc := 43) dX8_spell_43 rfl ?_
  refine r_iast (pc := 45) dX8_spell_45 hq h4 ?_
  refine g_aload_n (pc := 46) dX8_spell_46 rfl ?_
  refine g_get (pc := 47) fl_X8_13 dX8_spell_47 ((AR.ne hne).trans he) hr ?_
  refine g_iload_n (pc := 50) dX8_spell_50 rfl ?_
  refine g_iconst (pc := 51) (v := 5) dX8_spell_51 rfl ?_
  refine g_iadd (pc := 52) dX8_spell_52 ?_
  refine g_iload (pc := 53) dX8_spell_53 rfl ?_
  refine r_iast (pc := 55) dX8_spell_55 hq h5 ?_
  refine g_aload_n (pc := 56) dX8_spell_56 rfl ?_
  refine g_get (pc := 57) fl_X8_13 dX8_spell_57 ((AR.ne hne).trans he) hr ?_
  refine g_iload_n (pc := 60) dX8_spell_60 rfl ?_
  refine g_bipush (pc := 61) (v := 6) dX8_spell_61 rfl ?_
  refine g_iadd (pc := 63) dX8_spell_63 ?_
  refine g_iload (pc := 64) dX8_spell_64 rfl ?_
  refine r_iast (pc := 66) dX8_spell_66 hq h6 ?_
  refine g_aload_n (pc := 67) dX8_spell_67 rfl ?_
  refine g_get (pc := 68) fl_X8_13 dX8_spell_68 ((AR.ne hne).trans he) hr ?_
  refine g_iload_n (pc := 71) dX8_spell_71 rfl ?_
  refine g_bipush (pc := 72) (v := 7) dX8_spell_72 rfl ?_
  refine g_iadd (pc := 74) dX8_spell_74 ?_
  refine g_iload (pc := 75) dX8_spell_75 rfl ?_
  refine r_iast (pc := 77) dX8_spell_77 hq h7 ?_
  exact g_return (x := ()) (pc := 78) dX8_spell_78 rfl rfl rfl
