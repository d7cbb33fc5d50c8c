/-! ===== the model: tells ===== -/
/-- what a trial leaves as it is -/
def TFm (v : View) (μ μ1 : Mem) : Prop := MVw μ1 v ∧ (∀ k, k ≠ 57 → k ≠ 61 → k ≠ 62 → k ≠ 63 → k ≠ 64 → k ≠ 65 → k ≠ 66 → μ1 k = μ k) ∧ ∀ j, j < 12 ∨ 37 < j → j ≠ 4 → j ≠ 7 → j ≠ 8 → μ1 57 j = μ 57 j
theorem QFm.tfm {v : View} {μ μ1 : Mem} (hV : MVw μ v) (h : QFm μ μ1) : TFm v μ μ1 := ⟨hV.moved (fun j hj => h.2 j (Or.inl hj)) (h.1 61 (by omega) (by omega) (by omega) (by omega) (by omega)) (h.1 62 (by omega) (by omega) (by omega) (by omega) (by omega)), fun k h1 _ _ h4 h5 h6 h7 => h.1 k h1 h4 h5 h6 h7, fun j hj _ _ _ => h.2 j hj⟩
theorem DFm.tfm {v : View} {μ μ1 : Mem} (h : DFm v μ μ1) : TFm v μ μ1 := ⟨h.1, fun k h1 h2 h3 h4 h5 h6 h7 => h.2.1 k h1 h3 h4 h5 h7, fun j hj _ _ _ => h.2.2 j hj⟩
theorem TFm.refl {v : View} {μ : Mem} (h : MVw μ v) : TFm v μ μ := ⟨h, fun _ _ _ _ _ _ _ _ => rfl, fun _ _ _ _ _ => rfl⟩
/-- the model's number of what is tried -/
def jtR (W : Nat) : Nat := if W = 1 then 0 else if W = 2 then 6 else if W < 20 then 5 else if W < 30 then 2 else 3
theorem jt_ok {W : Nat} (h1 : 1 ≤ W) (h : W ≤ 2 ∨ 10 ≤ W) : itR W = itL (jtR W) ∧ jtR W ≤ 6 ∧ (2 ≤ jtR W → jtR W ≤ 5 → 10 ≤ W) ∧ (jtR W = 3 ↔ 30 ≤ W) ∧ (itR W = 3 ↔ 30 ≤ W) ∧ ¬ jtR W = 1 ∧ ¬ jtR W = 4 ∧ (jtR W = 6 ↔ itR W = 10) := by
  unfold itR itL jtR
  rcases (show W = 1 ∨ W = 2 ∨ (10 ≤ W ∧ W < 20) ∨ (20 ≤ W ∧ W < 30) ∨ 30 ≤ W by omega) with h | h | h | h | h
  · subst h
    decide
  · subst h
    decide
  · rw [if_neg (show ¬ W < 10 by omega), if_pos (show W < 20 by omega), if_neg (show ¬ W = 1 by omega), if_neg (show ¬ W = 2 by omega), if_neg (show ¬ (5 : Nat) = 6 by decide)]
    omega
  · rw [if_neg (show ¬ W < 10 by omega), if_neg (show ¬ W < 20 by omega), if_pos (show W < 30 by omega), if_neg (show ¬ W = 1 by omega), if_neg (show ¬ W = 2 by omega), if_neg (show ¬ (2 : Nat) = 6 by decide)]
    omega
  · rw [if_neg (show ¬ W < 10 by omega), if_neg (show ¬ W < 20 by omega), if_neg (show ¬ W < 30 by omega), if_neg (show ¬ W = 1 by omega), if_neg (show ¬ W = 2 by omega), if_neg (show ¬ (3 : Nat) = 6 by decide)]
    omega
/-- bits are kept only where they are asked for -/
def rbX (v : View) (P : Nat → Nat → List Nat) (g : Nat → Int32) (W it p x : Nat) : Int32 := if W < 30 then rbB v P g it p x else nI 0
theorem c_X8_tells (v : View) (tc : Nat) (sz : Nat → Nat) (tb : Nat → Nat → Nat) (μ : Mem) (hW : MW μ v tc sz tb) (zs : Nat → Int32) (zn : Nat → Nat) (zi : Nat → Nat → Int32) (hz : ZMs μ zs zn zi) (s w : Int32) : CA eI yX8_tells cX8_tells 11 (some .int) 47 [.ref 57, .int s, .int w] μ (fun r μ1 => r = telV v (QM sz tb) tc zs zn zi s w ∧ TFm v μ μ1) := by
  obtain ⟨hV, hTx, hru⟩ := id hW
  obtain ⟨⟨v1, v1b⟩, ⟨v2, v2b⟩, ⟨v3, v3b⟩, ⟨v4, v4b⟩, v5⟩ := id hV
  refine CT.of false (by decide) (by decide) (L := [some (.ref 57), some (.int s), some (.int w), none, none, none, none, none, none, none, none]) rfl (Nat.le_of_ble_eq_true rfl) ?_
  have k47 : ∀ (a j : Nat) (hsa : s = nI a) (ha4 : a < 4) (hwj : w = nI j) (hok : j ≤ 2 ∨ (10 ≤ j ∧ j ≤ 49 ∧ j % 10 < v 0 3)), WG eI yX8_tells.cls cX8_tells 11 (some .int) false (fun _ _ => True) 47 (mpost (fun r μ1 => r = telV v (QM sz tb) tc zs zn zi s w ∧ TFm v μ μ1)) 0 0 47 [some (.ref 57), some (.int s), some (.int w), none, none, none, none, none, none, none, none] [] (mk μ) := by
    intro a j hsa ha4 hwj hok
    subst hsa
    subst hwj
    have j_a : nx (nI a) = a := nx_nI (by omega)
    have j_j : nx (nI j) = j := nx_nI (by omega)
    have hyes : nx (nI a) < 4 ∧ telOK (v 0 3) (nI j) := ⟨by omega, by unfold telOK; rw [j_j]; exact hok⟩
    refine g_aload_n (pc := 47) dX8_tells_47 rfl ?_
    refine a_getr (pc := 48) (q := 68) fl_X8_53 dX8_tells_48 (by first | rfl | assumption) rfl rfl ?_
    refine g_iload_n (pc := 51) dX8_tells_51 rfl ?_
    obtain ⟨b52, hb52⟩ : ∃ bb, μ 68 a = bb := ⟨_, rfl⟩
    refine v_zald (pc := 52) dX8_tells_52 (by first | rfl | assumption) rfl (by omega) hb52 ?_
    refine g_if_ne (pc := 53) (tgt := 59) dX8_tells_53 (by decide) (fun c_53 => ?_) (fun c_53 => ?_)
    · obtain ⟨-, z1, z2, z3, z4, z5⟩ := (hz a ha4).resolve_left (fun q => c_53 (by rw [← hb52, q.1]; rfl))
      refine g_aload_n (pc := 59) dX8_tells_59 rfl ?_
      refine a_getr (pc := 60) (q := 70) fl_X8_60 dX8_tells_60 (by first | rfl | assumption) rfl rfl ?_
      refine g_iload_n (pc := 63) dX8_tells_63 rfl ?_
      refine v_iald (pc := 64) dX8_tells_64 (by first | rfl | assumption) rfl (by omega) z3 ?_
      refine g_aload_n (pc := 65) dX8_tells_65 rfl ?_
      refine v_geti (pc := 66) fl_X8_73 dX8_tells_66 (by first | rfl | assumption) rfl v4 ?_
      refine g_icmp_eq (pc := 69) (tgt := 75) dX8_tells_69 (by decide) (fun c_69 => ?_) (fun c_69 => ?_)
      · have c69 : zn a = v 0 3 := nI_eq' (by omega) (by omega) c_69
        rw [c69] at z5
        refine g_iload_n (pc := 75) dX8_tells_75 rfl ?_
        refine g_if_ne (pc := 76) (tgt := 85) dX8_tells_76 (by decide) (fun c_76 => ?_) (fun c_76 => ?_)
        · have c76 : ¬ j = 0 := fun h => c_76 (by rw [h]; rfl)
          obtain ⟨q1, q2, q3, q4, q5, q6, q7, q8⟩ := jt_ok (W := j) (by omega) (by omega)
          have htc := hTx.1.2
          have k130 : ∀ (jt : Nat) (hjt : jt = jtR j), WG eI yX8_tells.cls cX8_tells 11 (some .int) false (fun _ _ => True) 47 (mpost (fun r μ1 => r = telV v (QM sz tb) tc zs zn zi (nI a) (nI j) ∧ TFm v μ μ1)) 0 0 130 [some (.ref 57), some (.int (nI a)), some (.int (nI j)), some (.int (nI (j % 10))), none, none, none, none, none, none, none] [.int (nI jt)] (mk μ) := by
            intro jt hjt
            rw [← hjt] at q1 q2 q3 q4 q6 q7 q8
            obtain ⟨it, hit⟩ : ∃ it, itR j = it := ⟨_, rfl⟩
            rw [hit] at q1 q5 q8
            obtain ⟨p, hp⟩ : ∃ p, j % 10 = p := ⟨_, rfl⟩
            rw [hp]
            have hpn : 2 ≤ jt → jt ≤ 5 → p < v 0 3 := fun h1 h2 => by
              have := q3 h1 h2
              omega
            have hItv : telV v (QM sz tb) tc zs zn zi (nI a) (nI j) = rbV v (QM sz tb) (zi a) tc j := by
              unfold telV
              rw [if_pos hyes, j_a, if_neg z1, if_pos c69, j_j, if_neg c76]
            rw [hItv]
            unfold rbV
            rw [hit, hp]
            refine a_ist4 (pc := 130) dX8_tells_130 (by decide) rfl ?_
            have k186 : ∀ (was : Nat) (hwas : was = v (vS it p).1 (vS it p).2), WG eI yX8_tells.cls cX8_tells 11 (some .int) false (fun _ _ => True) 47 (mpost (fun r μ1 => r = (if it = 3 then (if j < 40 then nI (rbC v (QM sz tb) (zi a) it p (rdM it tc + 1)) else rbL v (QM sz tb) (zi a) it p (rdM it tc + 1)) else rbB v (QM sz tb) (zi a) it p (rdM it tc + 1)) ∧ TFm v μ μ1)) 0 0 186 [some (.ref 57), some (.int (nI a)), some (.int (nI j)), some (.int (nI p)), some (.int (nI jt)), none, none, none, none, none, none] [.int (nI was)] (mk μ) := by
              intro was hwas
              refine a_ist5 (pc := 186) dX8_tells_186 (by decide) rfl ?_
              have k219 : ∀ (mo : Nat) (hmo : mo = rdM it tc) (hm2 : it = 10 → mo < tc), WG eI yX8_tells.cls cX8_tells 11 (some .int) false (fun _ _ => True) 47 (mpost (fun r μ1 => r = (if it = 3 then (if j < 40 then nI (rbC v (QM sz tb) (zi a) it p (rdM it tc + 1)) else rbL v (QM sz tb) (zi a) it p (rdM it tc + 1)) else rbB v (QM sz tb) (zi a) it p (rdM it tc + 1)) ∧ TFm v μ μ1)) 0 0 219 [some (.ref 57), some (.int (nI a)), some (.int (nI j)), some (.int (nI p)), some (.int (nI jt)), some (.int (nI was)), none, none, none, none, none] [.int (nI mo)] (mk μ) := by
                intro mo hmo hm2
                rw [← hmo]
                have hmo2 : mo ≤ 127 := by
                  rw [hmo]
                  unfold rdM
                  have := moA_le it
                  split <;> omega
                have hmo3 : ¬ it = 10 → mo = moA it := fun h => by
                  rw [hmo]
                  exact if_neg h
                have hkey : (it ≤ 1 ∨ it = 10) ∨ (2 ≤ it ∧ it ≤ 5) := by
                  by_cases h6 : jt = 6
                  · have := q8.mp h6
                    omega
                  · have : it = jt := q1.trans (if_neg h6)
                    omega
                refine a_ist6 (pc := 219) dX8_tells_219 (by decide) rfl ?_
                refine g_iconst (pc := 221) (v := (nI 0)) dX8_tells_221 (by decide) ?_
                refine a_ist7 (pc := 222) dX8_tells_222 (by decide) rfl ?_
                refine g_iconst (pc := 224) (v := (nI 0)) dX8_tells_224 (by decide) ?_
                refine a_ist8 (pc := 225) dX8_tells_225 (by decide) rfl ?_
                refine g_iconst (pc := 227) (v := (-1)) dX8_tells_227 (by decide) ?_
                refine a_ist9 (pc := 228) dX8_tells_228 (by decide) rfl ?_
                refine g_iconst (pc := 230) (v := (nI 0)) dX8_tells_230 (by decide) ?_
                refine a_ist10 (pc := 231) dX8_tells_231 (by decide) rfl ?_
                have hx0 : rbX v (QM sz tb) (zi a) j it p 0 = nI 0 := by
                  unfold rbX
                  split <;> rfl
                have lp233 : ∀ (zz : Nat) (x y : Nat) (hx : x ≤ mo + 1) (ν : Mem) (hν : MVw ν (setV v it p y) ∧ (∀ k, k ≠ 57 → k ≠ 61 → k ≠ 62 → k ≠ 63 → k ≠ 64 → ν k = μ k) ∧ ∀ i, i < 12 ∨ 30 < i → i ≠ 4 → i ≠ 7 → i ≠ 8 → ν 57 i = μ 57 i), mo + 1 - x = zz → WG eI yX8_tells.cls cX8_tells 11 (some .int) false (fun _ _ => True) 47 (mpost (fun r μ1 => r = (if it = 3 then (if j < 40 then nI (rbC v (QM sz tb) (zi a) it p (mo + 1)) else rbL v (QM sz tb) (zi a) it p (mo + 1)) else rbB v (QM sz tb) (zi a) it p (mo + 1)) ∧ TFm v μ μ1)) 0 0 233 [some (.ref 57), some (.int (nI a)), some (.int (nI j)), some (.int (nI p)), some (.int (nI jt)), some (.int (nI was)), some (.int (nI mo)), some (.int (rbX v (QM sz tb) (zi a) j it p x)), some (.int (nI (rbC v (QM sz tb) (zi a) it p x))), some (.int (rbL v (QM sz tb) (zi a) it p x)), some (.int (nI x))] [] (mk ν) := by
                  intro zz
                  induction zz using Nat.strongRecOn with
                  | ind zz ih =>
                    intro x y hx ν hν hzz
                    obtain ⟨d1, f1, f2⟩ := hν
                    have hB : rbB v (QM sz tb) (zi a) it p (x + 1) = if rbM v (QM sz tb) (zi a) it p x = 0 then rbB v (QM sz tb) (zi a) it p x ||| (nI 1 <<< (nI x &&& 31)) else rbB v (QM sz tb) (zi a) it p x := rfl
                    have hC : rbC v (QM sz tb) (zi a) it p (x + 1) = if rbM v (QM sz tb) (zi a) it p x = 0 then rbC v (QM sz tb) (zi a) it p x + 1 else rbC v (QM sz tb) (zi a) it p x := rfl
                    have hL : rbL v (QM sz tb) (zi a) it p (x + 1) = if rbM v (QM sz tb) (zi a) it p x = 0 then (if rbL v (QM sz tb) (zi a) it p x = -1 then nI x else rbL v (QM sz tb) (zi a) it p x) else rbL v (QM sz tb) (zi a) it p x := rfl
                    refine g_iload (pc := 233) dX8_tells_233 rfl ?_
                    refine g_iload (pc := 235) dX8_tells_235 rfl ?_
                    refine g_icmp_gt (pc := 237) (tgt := 300) dX8_tells_237 (by decide) (fun c_237 => ?_) (fun c_237 => ?_)
                    · have c237 := nI_lt' (by omega) (by omega) c_237
                      obtain rfl : x = mo + 1 := by omega
                      refine g_aload_n (pc := 300) dX8_tells_300 rfl ?_
                      refine g_iload (pc := 301) dX8_tells_301 rfl ?_
                      refine g_iload_n (pc := 303) dX8_tells_303 rfl ?_
                      refine g_iload (pc := 304) dX8_tells_304 rfl ?_
                      refine a_cv3v (pc := 306) (c_X8_lays jt p q2 (nI p) (nI was) (fun h1 h2 => ⟨rfl, by have := hpn h1 h2; omega⟩) ν) m_X8_lays ml_X8_94 (by omega) (by first | rfl | assumption) rfl rfl (Nat.le_of_ble_eq_true rfl) dX8_tells_306 (fun x_306 μ_306 h_306 => ?_)
                      have hm_306 := (show μ_306 = _ from h_306).symm
                      have hny : setV v it p y 0 3 = v 0 3 := setV_n hkey
                      have hwb : v (vS it p).1 (vS it p).2 ≤ moA it := by
                        rcases (show jt = 6 ∨ jt = 0 ∨ jt = 5 ∨ jt = 2 ∨ jt = 3 by omega) with h | h | h | h | h
                        · rw [q8.mp h]
                          exact v3b
                        · rw [show it = 0 by rw [q1, h]; rfl]
                          exact v1b
                        · rw [show it = 5 by rw [q1, h]; rfl]
                          exact (v5 p (hpn (by omega) (by omega))).1.2
                        · rw [show it = 2 by rw [q1, h]; rfl]
                          exact (v5 p (hpn (by omega) (by omega))).2.1.2
                        · rw [show it = 3 by rw [q1, h]; rfl]
                          exact (v5 p (hpn (by omega) (by omega))).2.2.1.2
                      have dv : MVw μ_306 v := by
                        have h9 := d1.lay (j := jt) (a := p) (x := was) q2 (fun h1 h2 => by rw [hny]; exact hpn h1 h2) (by rw [← q1, hwas]; exact hwb)
                        rw [← q1, show setV (setV v it p y) it p was = setV v it p was from vset2 v _ _ y was, hwas, show setV v it p (v (vS it p).1 (vS it p).2) = v from vset_same v _ _, ← hwas, hm_306] at h9
                        exact h9
                      have f306 : TFm v μ μ_306 := ⟨dv, fun k h1 h2 h3 h4 h5 _ _ => by rw [← hm_306, layM_k h1 h2 h3]; exact f1 k h1 h2 h3 h4 h5, fun i hi h1 h2 h3 => by rw [← hm_306, layM_57 h2 h3 h1]; exact f2 i (by omega) h1 h2 h3⟩
                      refine g_iload_n (pc := 309) dX8_tells_309 rfl ?_
                      refine g_bipush (pc := 310) (v := (nI 30)) dX8_tells_310 (by decide) ?_
                      refine g_icmp_ge (pc := 312) (tgt := 320) dX8_tells_312 (by decide) (fun c_312 => ?_) (fun c_312 => ?_)
                      · have c312 := nI_le' (by omega) (by omega) c_312
                        have c3 : it = 3 := q5.mpr c312
                        refine g_iload_n (pc := 320) dX8_tells_320 rfl ?_
                        refine g_bipush (pc := 321) (v := (nI 40)) dX8_tells_321 (by decide) ?_
                        refine g_icmp_ge (pc := 323) (tgt := 331) dX8_tells_323 (by decide) (fun c_323 => ?_) (fun c_323 => ?_)
                        · have c323 := nI_le' (by omega) (by omega) c_323
                          refine g_iload (pc := 331) dX8_tells_331 rfl ?_
                          refine g_ireturn (pc := 333) dX8_tells_333 rfl (by first | rfl | decide) rfl ⟨_, rfl, ?_⟩
                          refine ⟨?_, f306⟩
                          first
                            | (rw [if_neg c3]
                               unfold rbX
                               rw [if_pos c312])
                            | rw [if_pos c3, if_pos c323]
                            | rw [if_pos c3, if_neg (show ¬ j < 40 by omega)]
                        · have c323 := nI_gt' (by omega) (by omega) c_323
                          refine g_iload (pc := 326) dX8_tells_326 rfl ?_
                          refine g_goto (pc := 328) (tgt := 333) dX8_tells_328 (by decide) ?_
                          refine g_ireturn (pc := 333) dX8_tells_333 rfl (by first | rfl | decide) rfl ⟨_, rfl, ?_⟩
                          refine ⟨?_, f306⟩
                          first
                            | (rw [if_neg c3]
                               unfold rbX
                               rw [if_pos c312])
                            | rw [if_pos c3, if_pos c323]
                            | rw [if_pos c3, if_neg (show ¬ j < 40 by omega)]
                      · have c312 := nI_gt' (by omega) (by omega) c_312
                        have c3 : ¬ it = 3 := fun h => by
                          have := q5.mp h
                          omega
                        refine g_iload (pc := 315) dX8_tells_315 rfl ?_
                        refine g_goto (pc := 317) (tgt := 333) dX8_tells_317 (by decide) ?_
                        refine g_ireturn (pc := 333) dX8_tells_333 rfl (by first | rfl | decide) rfl ⟨_, rfl, ?_⟩
                        refine ⟨?_, f306⟩
                        first
                          | (rw [if_neg c3]
                             unfold rbX
                             rw [if_pos c312])
                          | rw [if_pos c3, if_pos c323]
                          | rw [if_pos c3, if_neg (show ¬ j < 40 by omega)]
                    · have c237 := nI_ge' (by omega) (by omega) c_237
                      refine g_aload_n (pc := 240) dX8_tells_240 rfl ?_
                      refine g_iload (pc := 241) dX8_tells_241 rfl ?_
                      refine g_iload_n (pc := 243) dX8_tells_243 rfl ?_
                      refine g_iload (pc := 244) dX8_tells_244 rfl ?_
                      refine a_cv3v (pc := 246) (c_X8_lays jt p q2 (nI p) (nI x) (fun h1 h2 => ⟨rfl, by have := hpn h1 h2; omega⟩) ν) m_X8_lays ml_X8_94 (by omega) (by first | rfl | assumption) rfl rfl (Nat.le_of_ble_eq_true rfl) dX8_tells_246 (fun x_246 μ_246 h_246 => ?_)
                      have hm_246 := (show μ_246 = _ from h_246).symm
                      have hnn : setV v it p x 0 3 = v 0 3 := setV_n hkey
                      have hny : setV v it p y 0 3 = v 0 3 := setV_n hkey
                      have dv : MVw μ_246 (setV v it p x) := by
                        rw [← hm_246, show setV v it p x = setV (setV v it p y) it p x from (vset2 v _ _ y x).symm, q1]
                        rw [q1] at d1 hny hm2 hmo3
                        refine d1.lay q2 (fun h1 h2 => by rw [hny]; exact hpn h1 h2) ?_
                        by_cases h10 : itL jt = 10
                        · rw [h10]
                          have := hm2 h10
                          show x ≤ 5
                          omega
                        · rw [← hmo3 h10]
                          exact c237
                      have a9 : ∀ k, k ≠ 57 → k ≠ 61 → k ≠ 62 → μ_246 k = ν k := fun k h1 h2 h3 => by rw [← hm_246]; exact layM_k h1 h2 h3
                      have b9 : ∀ i, i ≠ 4 → i ≠ 7 → i ≠ 8 → μ_246 57 i = ν 57 i := fun i h1 h2 h3 => by rw [← hm_246]; exact layM_57 h2 h3 h1
                      have hru2 : setV v it p x 0 2 < tc := by
                        by_cases h10 : it = 10
                        · have := hm2 h10
                          rw [h10]
                          show x < tc
                          omega
                        · rw [show setV v it p x 0 2 = v 0 2 from vset_ne (vS_r (by omega) p)]
                          exact hru
                      have hW9 : MW μ_246 (setV v it p x) tc sz tb := ⟨dv, hTx.moved ((b9 3 (by omega) (by omega) (by omega)).trans (f2 3 (by omega) (by omega) (by omega) (by omega))) ((a9 58 (by omega) (by omega) (by omega)).trans (f1 58 (by omega) (by omega) (by omega) (by omega) (by omega))) ((a9 59 (by omega) (by omega) (by omega)).trans (f1 59 (by omega) (by omega) (by omega) (by omega) (by omega))), hru2⟩
                      refine g_aload_n (pc := 249) dX8_tells_249 rfl ?_
                      refine g_iload_n (pc := 250) dX8_tells_250 rfl ?_
                      refine a_cv1i (pc := 251) (c_X8_unlike (setV v it p x) tc sz tb μ_246 hW9 a ha4 (zi a) (fun r hr => (congrFun ((a9 71 (by omega) (by omega) (by omega)).trans (f1 71 (by omega) (by omega) (by omega) (by omega) (by omega))) _).trans (z5 r (by rw [hnn] at hr; exact hr)))) m_X8_unlike ml_X8_308 (by omega) (by first | rfl | assumption) rfl rfl (Nat.le_of_ble_eq_true rfl) dX8_tells_251 (fun x_251 μ_251 h_251 => ?_)
                      obtain ⟨e251, f251⟩ := h_251
                      rw [hnn] at e251
                      have e251 : x_251 = rbM v (QM sz tb) (zi a) it p x := e251
                      have m9 := (hW9.ifm f251).1
                      have k9 : ∀ k, k ≠ 57 → k ≠ 61 → k ≠ 62 → k ≠ 63 → k ≠ 64 → μ_251 k = μ k := fun k h1 h2 h3 h4 h5 => (f251.1 k h1 h4 h5).trans ((a9 k h1 h2 h3).trans (f1 k h1 h2 h3 h4 h5))
                      have j9 : ∀ i, i < 12 ∨ 30 < i → i ≠ 4 → i ≠ 7 → i ≠ 8 → μ_251 57 i = μ 57 i := fun i h1 h2 h3 h4 => (f251.2 i h1).trans ((b9 i h2 h3 h4).trans (f2 i h1 h2 h3 h4))
                      refine g_if_ne (pc := 254) (tgt := 294) dX8_tells_254 (by decide) (fun c_254 => ?_) (fun c_254 => ?_)
                      · rw [e251] at c_254
                        rw [if_neg c_254] at hB hC hL
                        have hX : rbX v (QM sz tb) (zi a) j it p (x + 1) = rbX v (QM sz tb) (zi a) j it p x := by
                          unfold rbX
                          rw [hB]
                        refine a_iinc10 (pc := 294) dX8_tells_294 (inc1 x) (by decide) rfl ?_
                        refine g_goto (pc := 297) (tgt := 233) dX8_tells_297 (by decide) ?_
                        have hfin := ih (mo + 1 - (x + 1)) (by omega) (x + 1) x (by omega) _ ⟨m9, k9, j9⟩ rfl
                        rw [hX, hC, hL] at hfin
                        exact hfin
                      · rw [e251] at c_254
                        rw [if_pos c_254] at hB hC hL
                        refine g_iload (pc := 257) dX8_tells_257 rfl ?_
                        refine g_iload_n (pc := 259) dX8_tells_259 rfl ?_
                        refine g_bipush (pc := 260) (v := (nI 30)) dX8_tells_260 (by decide) ?_
                        refine g_icmp_ge (pc := 262) (tgt := 272) dX8_tells_262 (by decide) (fun c_262 => ?_) (fun c_262 => ?_)
                        · have c262 := nI_le' (by omega) (by omega) c_262
                          have hX : rbX v (QM sz tb) (zi a) j it p (x + 1) = rbX v (QM sz tb) (zi a) j it p x ||| nI 0 := by
                            rw [or_0]
                            unfold rbX
                            rw [if_neg (by omega), if_neg (by omega)]
                          refine g_iconst (pc := 272) (v := (nI 0)) dX8_tells_272 (by decide) ?_
                          refine v_ior (pc := 273) dX8_tells_273 rfl ?_
                          refine a_ist7 (pc := 274) dX8_tells_274 (by decide) rfl ?_
                          refine a_iinc8 (pc := 276) dX8_tells_276 (inc1 _) (by decide) rfl ?_
                          refine g_iload (pc := 279) dX8_tells_279 rfl ?_
                          refine g_iconst (pc := 281) (v := (-1)) dX8_tells_281 (by decide) ?_
                          refine g_icmp_ne (pc := 282) (tgt := 290) dX8_tells_282 (by decide) (fun c_282 => ?_) (fun c_282 => ?_)
                          · rw [if_neg c_282] at hL
                            refine g_iload (pc := 290) dX8_tells_290 rfl ?_
                            refine a_ist9 (pc := 292) dX8_tells_292 (by decide) rfl ?_
                            refine a_iinc10 (pc := 294) dX8_tells_294 (inc1 x) (by decide) rfl ?_
                            refine g_goto (pc := 297) (tgt := 233) dX8_tells_297 (by decide) ?_
                            have hfin := ih (mo + 1 - (x + 1)) (by omega) (x + 1) x (by omega) _ ⟨m9, k9, j9⟩ rfl
                            rw [hX, hC, hL] at hfin
                            exact hfin
                          · rw [if_pos c_282] at hL
                            refine g_iload (pc := 285) dX8_tells_285 rfl ?_
                            refine g_goto (pc := 287) (tgt := 292) dX8_tells_287 (by decide) ?_
                            refine a_ist9 (pc := 292) dX8_tells_292 (by decide) rfl ?_
                            refine a_iinc10 (pc := 294) dX8_tells_294 (inc1 x) (by decide) rfl ?_
                            refine g_goto (pc := 297) (tgt := 233) dX8_tells_297 (by decide) ?_
                            have hfin := ih (mo + 1 - (x + 1)) (by omega) (x + 1) x (by omega) _ ⟨m9, k9, j9⟩ rfl
                            rw [hX, hC, hL] at hfin
                            exact hfin
                        · have c262 := nI_gt' (by omega) (by omega) c_262
                          have hX : rbX v (QM sz tb) (zi a) j it p (x + 1) = rbX v (QM sz tb) (zi a) j it p x ||| (nI 1 <<< (nI x &&& 31)) := by
                            unfold rbX
                            rw [if_pos c262, if_pos c262, hB]
                          refine g_iconst (pc := 265) (v := (nI 1)) dX8_tells_265 (by decide) ?_
                          refine g_iload (pc := 266) dX8_tells_266 rfl ?_
                          refine v_ishl (pc := 268) dX8_tells_268 rfl ?_
                          refine g_goto (pc := 269) (tgt := 273) dX8_tells_269 (by decide) ?_
                          refine v_ior (pc := 273) dX8_tells_273 rfl ?_
                          refine a_ist7 (pc := 274) dX8_tells_274 (by decide) rfl ?_
                          refine a_iinc8 (pc := 276) dX8_tells_276 (inc1 _) (by decide) rfl ?_
                          refine g_iload (pc := 279) dX8_tells_279 rfl ?_
                          refine g_iconst (pc := 281) (v := (-1)) dX8_tells_281 (by decide) ?_
                          refine g_icmp_ne (pc := 282) (tgt := 290) dX8_tells_282 (by decide) (fun c_282 => ?_) (fun c_282 => ?_)
                          · rw [if_neg c_282] at hL
                            refine g_iload (pc := 290) dX8_tells_290 rfl ?_
                            refine a_ist9 (pc := 292) dX8_tells_292 (by decide) rfl ?_
                            refine a_iinc10 (pc := 294) dX8_tells_294 (inc1 x) (by decide) rfl ?_
                            refine g_goto (pc := 297) (tgt := 233) dX8_tells_297 (by decide) ?_
                            have hfin := ih (mo + 1 - (x + 1)) (by omega) (x + 1) x (by omega) _ ⟨m9, k9, j9⟩ rfl
                            rw [hX, hC, hL] at hfin
                            exact hfin
                          · rw [if_pos c_282] at hL
                            refine g_iload (pc := 285) dX8_tells_285 rfl ?_
                            refine g_goto (pc := 287) (tgt := 292) dX8_tells_287 (by decide) ?_
                            refine a_ist9 (pc := 292) dX8_tells_292 (by decide) rfl ?_
                            refine a_iinc10 (pc := 294) dX8_tells_294 (inc1 x) (by decide) rfl ?_
                            refine g_goto (pc := 297) (tgt := 233) dX8_tells_297 (by decide) ?_
                            have hfin := ih (mo + 1 - (x + 1)) (by omega) (x + 1) x (by omega) _ ⟨m9, k9, j9⟩ rfl
                            rw [hX, hC, hL] at hfin
                            exact hfin
                have hfin0 := lp233 _ 0 (v (vS it p).1 (vS it p).2) (Nat.zero_le _) μ ⟨by unfold setV; rw [vset_same]; exact hV, fun _ _ _ _ _ _ => rfl, fun _ _ _ _ _ => rfl⟩ rfl
                rw [hx0] at hfin0
                exact hfin0
              refine g_iload (pc := 188) dX8_tells_188 rfl ?_
              refine g_bipush (pc := 190) (v := (nI 6)) dX8_tells_190 (by decide) ?_
              refine g_icmp_ne (pc := 192) (tgt := 204) dX8_tells_192 (by decide) (fun c_192 => ?_) (fun c_192 => ?_)
              · have c192 : ¬ jt = 6 := fun h => c_192 (by rw [h])
                have hiq : it = jt := q1.trans (if_neg c192)
                have hn10 : ¬ it = 10 := by omega
                refine g_iload (pc := 204) dX8_tells_204 rfl ?_
                refine g_iconst (pc := 206) (v := (nI 5)) dX8_tells_206 (by decide) ?_
                refine g_icmp_ne (pc := 207) (tgt := 214) dX8_tells_207 (by decide) (fun c_207 => ?_) (fun c_207 => ?_)
                · have c207 : ¬ jt = 5 := fun h => c_207 (by rw [h])
                  refine g_iload (pc := 214) dX8_tells_214 rfl ?_
                  refine a_cs1i (pc := 216) (c_X8_mostOf jt (by omega) μ) m_X8_mostOf ml_X8_86 (by omega) (Nat.le_of_ble_eq_true rfl) dX8_tells_216 (fun x_216 μ_216 h_216 => ?_)
                  obtain ⟨rfl, hm_216⟩ := h_216
                  have hm_216 := hm_216.symm
                  subst hm_216
                  exact k219 _ (by unfold rdM; rw [if_neg hn10, hiq]) (fun h => absurd h hn10)
                · have c207 : jt = 5 := nI_eq' (by omega) (by omega) c_207
                  refine g_iconst (pc := 210) (v := (nI 5)) dX8_tells_210 (by decide) ?_
                  refine g_goto (pc := 211) (tgt := 219) dX8_tells_211 (by decide) ?_
                  exact k219 5 (by unfold rdM; rw [if_neg hn10, hiq, c207]; rfl) (fun h => absurd h hn10)
              · have c192 : jt = 6 := nI_eq' (by omega) (by omega) c_192
                have hi10 : it = 10 := q8.mp c192
                refine g_aload_n (pc := 195) dX8_tells_195 rfl ?_
                refine v_geti (pc := 196) fl_X8_70 dX8_tells_196 (by first | rfl | assumption) rfl hTx.1.1 ?_
                refine g_iconst (pc := 199) (v := (nI 1)) dX8_tells_199 (by decide) ?_
                refine v_isub (pc := 200) dX8_tells_200 (pk_sub (by omega)) ?_
                refine g_goto (pc := 201) (tgt := 219) dX8_tells_201 (by decide) ?_
                exact k219 _ (if_pos hi10).symm (fun _ => by omega)
            refine g_iload (pc := 132) dX8_tells_132 rfl ?_
            refine g_bipush (pc := 134) (v := (nI 6)) dX8_tells_134 (by decide) ?_
            refine g_icmp_ne (pc := 136) (tgt := 146) dX8_tells_136 (by decide) (fun c_136 => ?_) (fun c_136 => ?_)
            · have c136 : ¬ jt = 6 := fun h => c_136 (by rw [h])
              have hiq : it = jt := q1.trans (if_neg c136)
              refine g_iload (pc := 146) dX8_tells_146 rfl ?_
              refine g_if_ne (pc := 148) (tgt := 158) dX8_tells_148 (by decide) (fun c_148 => ?_) (fun c_148 => ?_)
              · have c148 : ¬ jt = 0 := fun h => c_148 (by rw [h]; rfl)
                refine g_iload (pc := 158) dX8_tells_158 rfl ?_
                refine g_iconst (pc := 160) (v := (nI 5)) dX8_tells_160 (by decide) ?_
                refine g_icmp_ne (pc := 161) (tgt := 173) dX8_tells_161 (by decide) (fun c_161 => ?_) (fun c_161 => ?_)
                · have c161 : ¬ jt = 5 := fun h => c_161 (by rw [h])
                  refine g_aload_n (pc := 173) dX8_tells_173 rfl ?_
                  have hp9 := hpn (by omega) (by omega)
                  refine a_getr (pc := 174) (q := 62) fl_X8_32 dX8_tells_174 (by first | rfl | assumption) rfl rfl ?_
                  refine g_iconst (pc := 177) (v := (nI 3)) dX8_tells_177 (by decide) ?_
                  refine g_iload_n (pc := 178) dX8_tells_178 rfl ?_
                  refine v_imul (pc := 179) dX8_tells_179 (pk_mul 3 p) ?_
                  refine g_iload (pc := 180) dX8_tells_180 rfl ?_
                  refine v_iadd (pc := 182) dX8_tells_182 (nI_add _ _) ?_
                  refine g_iconst (pc := 183) (v := (nI 2)) dX8_tells_183 (by decide) ?_
                  refine v_isub (pc := 184) dX8_tells_184 (pk_sub (by omega)) ?_
                  refine v_iald (pc := 185) dX8_tells_185 (by first | rfl | assumption) rfl (by omega) (row62 hV hp9 (by omega) (by omega)) ?_
                  exact k186 _ (by rw [hiq])
                · have c161 : jt = 5 := nI_eq' (by omega) (by omega) c_161
                  have hp9 := hpn (by omega) (by omega)
                  refine g_aload_n (pc := 164) dX8_tells_164 rfl ?_
                  refine a_getr (pc := 165) (q := 61) fl_X8_29 dX8_tells_165 (by first | rfl | assumption) rfl rfl ?_
                  refine g_iload_n (pc := 168) dX8_tells_168 rfl ?_
                  refine v_iald (pc := 169) dX8_tells_169 (by first | rfl | assumption) rfl (by omega) (v5 p hp9).1.1 ?_
                  refine g_goto (pc := 170) (tgt := 186) dX8_tells_170 (by decide) ?_
                  exact k186 _ (by rw [hiq, c161]; rfl)
              · have c148 : jt = 0 := nI_eq' (b := 0) (by omega) (by omega) c_148
                refine g_aload_n (pc := 151) dX8_tells_151 rfl ?_
                refine v_geti (pc := 152) fl_X8_23 dX8_tells_152 (by first | rfl | assumption) rfl v1 ?_
                refine g_goto (pc := 155) (tgt := 186) dX8_tells_155 (by decide) ?_
                exact k186 _ (by rw [hiq, c148]; rfl)
            · have c136 : jt = 6 := nI_eq' (by omega) (by omega) c_136
              have hi10 : it = 10 := q8.mp c136
              refine g_aload_n (pc := 139) dX8_tells_139 rfl ?_
              refine v_geti (pc := 140) fl_X8_98 dX8_tells_140 (by first | rfl | assumption) rfl v3 ?_
              refine g_goto (pc := 143) (tgt := 186) dX8_tells_143 (by decide) ?_
              exact k186 _ (by rw [hi10]; rfl)
          refine g_iload_n (pc := 85) dX8_tells_85 rfl ?_
          refine g_bipush (pc := 86) (v := (nI 10)) dX8_tells_86 (by decide) ?_
          refine v_irem (pc := 88) dX8_tells_88 (by decide) (pk_rem (by omega) (by decide) (by decide)) ?_
          refine a_ist3 (pc := 89) dX8_tells_89 (by decide) rfl ?_
          refine g_iload_n (pc := 90) dX8_tells_90 rfl ?_
          refine g_iconst (pc := 91) (v := (nI 1)) dX8_tells_91 (by decide) ?_
          refine g_icmp_ne (pc := 92) (tgt := 99) dX8_tells_92 (by decide) (fun c_92 => ?_) (fun c_92 => ?_)
          · have c92 : ¬ j = 1 := fun h => c_92 (by rw [h])
            refine g_iload_n (pc := 99) dX8_tells_99 rfl ?_
            refine g_iconst (pc := 100) (v := (nI 2)) dX8_tells_100 (by decide) ?_
            refine g_icmp_ne (pc := 101) (tgt := 109) dX8_tells_101 (by decide) (fun c_101 => ?_) (fun c_101 => ?_)
            · have c101 : ¬ j = 2 := fun h => c_101 (by rw [h])
              refine g_iload_n (pc := 109) dX8_tells_109 rfl ?_
              refine g_bipush (pc := 110) (v := (nI 20)) dX8_tells_110 (by decide) ?_
              refine g_icmp_ge (pc := 112) (tgt := 119) dX8_tells_112 (by decide) (fun c_112 => ?_) (fun c_112 => ?_)
              · have c112 := nI_le' (by omega) (by omega) c_112
                refine g_iload_n (pc := 119) dX8_tells_119 rfl ?_
                refine g_bipush (pc := 120) (v := (nI 30)) dX8_tells_120 (by decide) ?_
                refine g_icmp_ge (pc := 122) (tgt := 129) dX8_tells_122 (by decide) (fun c_122 => ?_) (fun c_122 => ?_)
                · have c122 := nI_le' (by omega) (by omega) c_122
                  refine g_iconst (pc := 129) (v := (nI 3)) dX8_tells_129 (by decide) ?_
                  exact k130 3 (by unfold jtR; rw [if_neg c92, if_neg c101, if_neg (by omega), if_neg (by omega)])
                · have c122 := nI_gt' (by omega) (by omega) c_122
                  refine g_iconst (pc := 125) (v := (nI 2)) dX8_tells_125 (by decide) ?_
                  refine g_goto (pc := 126) (tgt := 130) dX8_tells_126 (by decide) ?_
                  exact k130 2 (by unfold jtR; rw [if_neg c92, if_neg c101, if_neg (by omega), if_pos c122])
              · have c112 := nI_gt' (by omega) (by omega) c_112
                refine g_iconst (pc := 115) (v := (nI 5)) dX8_tells_115 (by decide) ?_
                refine g_goto (pc := 116) (tgt := 130) dX8_tells_116 (by decide) ?_
                exact k130 5 (by unfold jtR; rw [if_neg c92, if_neg c101, if_pos c112])
            · have c101 : j = 2 := nI_eq' (by omega) (by omega) c_101
              refine g_bipush (pc := 104) (v := (nI 6)) dX8_tells_104 (by decide) ?_
              refine g_goto (pc := 106) (tgt := 130) dX8_tells_106 (by decide) ?_
              exact k130 6 (by unfold jtR; rw [if_neg c92, if_pos c101])
          · have c92 : j = 1 := nI_eq' (by omega) (by omega) c_92
            refine g_iconst (pc := 95) (v := (nI 0)) dX8_tells_95 (by decide) ?_
            refine g_goto (pc := 96) (tgt := 130) dX8_tells_96 (by decide) ?_
            exact k130 0 (by unfold jtR; rw [if_pos c92])
        · have c76 : j = 0 := nI_eq' (b := 0) (by omega) (by omega) c_76
          refine g_aload_n (pc := 79) dX8_tells_79 rfl ?_
          refine g_iload_n (pc := 80) dX8_tells_80 rfl ?_
          refine a_cv1i (pc := 81) (c_X8_unlike v tc sz tb μ hW a ha4 (zi a) z5) m_X8_unlike ml_X8_308 (by omega) (by first | rfl | assumption) rfl rfl (Nat.le_of_ble_eq_true rfl) dX8_tells_81 (fun x_81 μ_81 h_81 => ?_)
          obtain ⟨rfl, f81⟩ := h_81
          refine g_ireturn (pc := 84) dX8_tells_84 rfl (by first | rfl | decide) rfl ⟨_, rfl, ?_⟩
          refine ⟨?_, QFm.tfm hV f81.qfm⟩
          unfold telV
          rw [if_pos hyes, j_a, if_neg z1, if_pos c69, j_j, if_pos c76]
      · have c69 : ¬ zn a = v 0 3 := fun h => c_69 (by rw [h])
        refine g_bipush (pc := 72) (v := (-2)) dX8_tells_72 (by decide) ?_
        refine g_ireturn (pc := 74) dX8_tells_74 rfl (by first | rfl | decide) rfl ⟨_, rfl, ?_⟩
        refine ⟨?_, TFm.refl hV⟩
        unfold telV
        rw [if_pos hyes, j_a, if_neg z1, if_neg c69]
    · have z1 := ((hz a ha4).resolve_right (fun q => by rw [← hb52, q.1] at c_53; exact absurd c_53 (by decide))).2
      refine g_bipush (pc := 56) (v := (-11)) dX8_tells_56 (by decide) ?_
      refine g_ireturn (pc := 58) dX8_tells_58 rfl (by first | rfl | decide) rfl ⟨_, rfl, ?_⟩
      refine ⟨?_, TFm.refl hV⟩
      unfold telV
      rw [if_pos hyes, j_a, if_pos z1]
  refine g_iload_n (pc := 0) dX8_tells_0 rfl ?_
  refine a_cs1i (pc := 1) (c_X8_isSheet s μ) m_X8_isSheet ml_X8_270 (by omega) (Nat.le_of_ble_eq_true rfl) dX8_tells_1 (fun x_1 μ_1 h_1 => ?_)
  obtain ⟨hm_1, hd_1⟩ := h_1
  have hm_1 := hm_1.symm
  subst hm_1
  refine g_if_eq (pc := 4) (tgt := 44) dX8_tells_4 (by decide) (fun c_4 => ?_) (fun c_4 => ?_)
  · have c4 := (hd_1.resolve_left (fun q => absurd (q.1.symm.trans c_4) (by decide))).2
    have hno : ¬ (nx s < 4 ∧ telOK (v 0 3) w) := fun h => c4 h.1
    refine g_bipush (pc := 44) (v := (-2)) dX8_tells_44 (by decide) ?_
    refine g_ireturn (pc := 46) dX8_tells_46 rfl (by first | rfl | decide) rfl ⟨_, rfl, ?_⟩
    refine ⟨?_, TFm.refl hV⟩
    unfold telV
    rw [if_neg hno]
  · have c4 := (hd_1.resolve_right (fun q => c_4 q.1)).2
    have e_a := nx_lt c4 (by omega)
    refine g_iload_n (pc := 7) dX8_tells_7 rfl ?_
    refine g_i2l (pc := 8) dX8_tells_8 rfl ?_
    refine g_lconst (pc := 9) (v := 0) dX8_tells_9 (by decide) ?_
    refine g_ldc2 (pc := 10) dX8_tells_10 kc_X8_304 ?_
    refine a_cs3i (pc := 13) (c_X8_in w.toInt64 0 2 μ) m_X8_in ml_X8_76 (by omega) (Nat.le_of_ble_eq_true rfl) dX8_tells_13 (fun x_13 μ_13 h_13 => ?_)
    obtain ⟨hm_13, hd_13⟩ := h_13
    have hm_13 := hm_13.symm
    subst hm_13
    rw [in_c (x := w) (y := 0) (z := 2) 0 2 rfl rfl (by decide) (by decide)] at hd_13
    refine g_if_ne (pc := 16) (tgt := 47) dX8_tells_16 (by decide) (fun c_16 => ?_) (fun c_16 => ?_)
    · have c16 := (hd_13.resolve_right (fun q => c_16 q.1)).2
      exact k47 _ (nx w) e_a c4 (nx_lt (n := 3) (by omega) (by decide)) (Or.inl c16.2)
    · have c16 := (hd_13.resolve_left (fun q => absurd (q.1.symm.trans c_16) (by decide))).2
      refine g_iload_n (pc := 19) dX8_tells_19 rfl ?_
      refine g_i2l (pc := 20) dX8_tells_20 rfl ?_
      refine g_ldc2 (pc := 21) dX8_tells_21 kc_X8_155 ?_
      refine g_ldc2 (pc := 24) dX8_tells_24 kc_X8_306 ?_
      refine a_cs3i (pc := 27) (c_X8_in w.toInt64 10 49 μ) m_X8_in ml_X8_76 (by omega) (Nat.le_of_ble_eq_true rfl) dX8_tells_27 (fun x_27 μ_27 h_27 => ?_)
      obtain ⟨hm_27, hd_27⟩ := h_27
      have hm_27 := hm_27.symm
      subst hm_27
      rw [in_c (x := w) (y := 10) (z := 49) 10 49 rfl rfl (by decide) (by decide)] at hd_27
      refine g_if_eq (pc := 30) (tgt := 44) dX8_tells_30 (by decide) (fun c_30 => ?_) (fun c_30 => ?_)
      · have c30 := (hd_27.resolve_left (fun q => absurd (q.1.symm.trans c_30) (by decide))).2
        have hno : ¬ (nx s < 4 ∧ telOK (v 0 3) w) := fun h => by
          have h2 := h.2
          unfold telOK at h2
          omega
        refine g_bipush (pc := 44) (v := (-2)) dX8_tells_44 (by decide) ?_
        refine g_ireturn (pc := 46) dX8_tells_46 rfl (by first | rfl | decide) rfl ⟨_, rfl, ?_⟩
        refine ⟨?_, TFm.refl hV⟩
        unfold telV
        rw [if_neg hno]
      · have c30 := (hd_27.resolve_right (fun q => c_30 q.1)).2
        have e_j := nx_lt (x := w) (n := 50) (by omega) (by decide)
        obtain ⟨j, hj⟩ : ∃ j, nx w = j := ⟨_, rfl⟩
        rw [hj] at e_j c30
        have hL9 : (Value.int w) = .int (nI j) := congrArg Value.int e_j
        refine g_aload_n (pc := 33) dX8_tells_33 rfl ?_
        refine g_iload_n (pc := 34) dX8_tells_34 rfl ?_
        rw [hL9]
        refine g_bipush (pc := 35) (v := (nI 10)) dX8_tells_35 (by decide) ?_
        refine v_irem (pc := 37) dX8_tells_37 (by decide) (pk_rem (by omega) (by decide) (by decide)) ?_
        refine a_cv1i (pc := 38) (c_X8_isPart (nI (j % 10)) (v 0 3) (by omega) μ v4) m_X8_isPart ml_X8_82 (by omega) (by first | rfl | assumption) rfl rfl (Nat.le_of_ble_eq_true rfl) dX8_tells_38 (fun x_38 μ_38 h_38 => ?_)
        obtain ⟨hm_38, hd_38⟩ := h_38
        have hm_38 := hm_38.symm
        subst hm_38
        rw [nx_nI (by omega)] at hd_38
        refine g_if_ne (pc := 41) (tgt := 47) dX8_tells_41 (by decide) (fun c_41 => ?_) (fun c_41 => ?_)
        · have c41 := (hd_38.resolve_right (fun q => c_41 q.1)).2
          rw [← hL9]
          exact k47 _ j e_a c4 e_j (Or.inr ⟨c30.1, c30.2, c41⟩)
        · have c41 := (hd_38.resolve_left (fun q => absurd (q.1.symm.trans c_41) (by decide))).2
          have hno : ¬ (nx s < 4 ∧ telOK (v 0 3) w) := fun h => by
            have h2 := h.2
            unfold telOK at h2
            rw [hj] at h2
            omega
          refine g_bipush (pc := 44) (v := (-2)) dX8_tells_44 (by decide) ?_
          refine g_ireturn (pc := 46) dX8_tells_46 rfl (by first | rfl | decide) rfl ⟨_, rfl, ?_⟩
          refine ⟨?_, TFm.refl hV⟩
          unfold telV
          rw [if_neg hno]
