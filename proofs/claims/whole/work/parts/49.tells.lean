/-! ===== the class: orders that were told, read back ===== -/
def itR (W : Nat) : Nat := if W < 10 then (if W = 1 then 0 else 10) else if W < 20 then 5 else if W < 30 then 2 else 3
def rdM (it tc : Nat) : Nat := if it = 10 then tc - 1 else moA it
def rbM (v : View) (P : Nat → Nat → List Nat) (g : Nat → Int32) (it p x : Nat) : Int32 := othB (LF (setV v it p x) (P (setV v it p x 0 2))) g (v 0 3)
def rbB (v : View) (P : Nat → Nat → List Nat) (g : Nat → Int32) (it p : Nat) : Nat → Int32
  | 0 => nI 0
  | x + 1 => if rbM v P g it p x = 0 then rbB v P g it p x ||| (nI 1 <<< (nI x &&& 31)) else rbB v P g it p x
def rbC (v : View) (P : Nat → Nat → List Nat) (g : Nat → Int32) (it p : Nat) : Nat → Nat
  | 0 => 0
  | x + 1 => if rbM v P g it p x = 0 then rbC v P g it p x + 1 else rbC v P g it p x
def rbL (v : View) (P : Nat → Nat → List Nat) (g : Nat → Int32) (it p : Nat) : Nat → Int32
  | 0 => -1
  | x + 1 => if rbM v P g it p x = 0 then (if rbL v P g it p x = -1 then nI x else rbL v P g it p x) else rbL v P g it p x
def rbV (v : View) (P : Nat → Nat → List Nat) (g : Nat → Int32) (tc W : Nat) : Int32 :=
  if itR W = 3 then (if W < 40 then nI (rbC v P g (itR W) (W % 10) (rdM (itR W) tc + 1)) else rbL v P g (itR W) (W % 10) (rdM (itR W) tc + 1)) else rbB v P g (itR W) (W % 10) (rdM (itR W) tc + 1)
theorem itR_ok (W : Nat) : (itR W = 0 ∨ itR W = 10 ∨ itR W = 5 ∨ itR W = 2 ∨ itR W = 3) ∧ (W < 10 → itR W = 0 ∨ itR W = 10) := by
  unfold itR
  split <;> (try split) <;> (try split) <;> omega
theorem c_X7_itemReadBack (W : Nat) (hW : W < 50) (μ : Mem) : CA eI yX7_itemReadBack cX7_itemReadBack 1 (some .int) 0 [.int (nI W)] μ (fun r μ1 => r = nI (itR W) ∧ μ1 = μ) := by
  refine CT.of false (by decide) (by decide) (L := [some (.int (nI W))]) rfl (Nat.le_of_ble_eq_true rfl) ?_
  refine g_iload_n (pc := 0) dX7_itemReadBack_0 rfl ?_
  refine g_bipush (pc := 1) (v := (nI 10)) dX7_itemReadBack_1 (by decide) ?_
  refine v_idiv (pc := 3) dX7_itemReadBack_3 (by decide) (pk_div (by omega) (by decide) (by decide)) ?_
  obtain ⟨t, ht⟩ : ∃ t, W / 10 = t := ⟨_, rfl⟩
  rw [ht]
  by_cases k_4_0 : nI t = nI 0
  · refine g_tableIn (pc := 4) (off := 28) (tgt := 32) dX7_itemReadBack_4 (by rw [k_4_0]; decide) (by rw [k_4_0]; decide) (by rw [k_4_0]; decide) (by decide) ?_
    obtain rfl := (nI_eq (by omega) (by omega)).mp k_4_0
    refine g_iload_n (pc := 32) dX7_itemReadBack_32 rfl ?_
    refine g_iconst (pc := 33) (v := (nI 1)) dX7_itemReadBack_33 (by decide) ?_
    refine g_icmp_ne (pc := 34) (tgt := 41) dX7_itemReadBack_34 (by decide) (fun c_34 => ?_) (fun c_34 => ?_)
    · have c34 : ¬ W = 1 := fun h => c_34 (by rw [h])
      refine g_bipush (pc := 41) (v := (nI 10)) dX7_itemReadBack_41 (by decide) ?_
      refine g_ireturn (pc := 43) dX7_itemReadBack_43 rfl (by first | rfl | decide) rfl ⟨_, rfl, ?_⟩
      refine ⟨congrArg nI ?_, rfl⟩
      unfold itR
      split <;> (try split) <;> (try split) <;> omega
    · have c34 : W = 1 := nI_eq' (by omega) (by omega) c_34
      refine g_iconst (pc := 37) (v := (nI 0)) dX7_itemReadBack_37 (by decide) ?_
      refine g_goto (pc := 38) (tgt := 43) dX7_itemReadBack_38 (by decide) ?_
      refine g_ireturn (pc := 43) dX7_itemReadBack_43 rfl (by first | rfl | decide) rfl ⟨_, rfl, ?_⟩
      refine ⟨congrArg nI ?_, rfl⟩
      unfold itR
      split <;> (try split) <;> (try split) <;> omega
  have n_4_0 : ¬ t = 0 := fun h => k_4_0 (by rw [h])
  by_cases k_4_1 : nI t = nI 1
  · refine g_tableIn (pc := 4) (off := 40) (tgt := 44) dX7_itemReadBack_4 (by rw [k_4_1]; decide) (by rw [k_4_1]; decide) (by rw [k_4_1]; decide) (by decide) ?_
    obtain rfl := (nI_eq (by omega) (by omega)).mp k_4_1
    refine g_iconst (pc := 44) (v := (nI 5)) dX7_itemReadBack_44 (by decide) ?_
    refine g_ireturn (pc := 45) dX7_itemReadBack_45 rfl (by first | rfl | decide) rfl ⟨_, rfl, ?_⟩
    refine ⟨congrArg nI ?_, rfl⟩
    unfold itR
    split <;> (try split) <;> (try split) <;> omega
  have n_4_1 : ¬ t = 1 := fun h => k_4_1 (by rw [h])
  by_cases k_4_2 : nI t = nI 2
  · refine g_tableIn (pc := 4) (off := 42) (tgt := 46) dX7_itemReadBack_4 (by rw [k_4_2]; decide) (by rw [k_4_2]; decide) (by rw [k_4_2]; decide) (by decide) ?_
    obtain rfl := (nI_eq (by omega) (by omega)).mp k_4_2
    refine g_iconst (pc := 46) (v := (nI 2)) dX7_itemReadBack_46 (by decide) ?_
    refine g_ireturn (pc := 47) dX7_itemReadBack_47 rfl (by first | rfl | decide) rfl ⟨_, rfl, ?_⟩
    refine ⟨congrArg nI ?_, rfl⟩
    unfold itR
    split <;> (try split) <;> (try split) <;> omega
  have n_4_2 : ¬ t = 2 := fun h => k_4_2 (by rw [h])
  have kd_4 : (nI t).toInt < 0 ∨ 2 < (nI t).toInt := by
    have w_0 := lv_neT (a := 0) k_4_0 (by decide)
    have w_1 := lv_neT (a := 1) k_4_1 (by decide)
    have w_2 := lv_neT (a := 2) k_4_2 (by decide)
    omega
  refine g_tableOut (pc := 4) (tgt := 48) dX7_itemReadBack_4 kd_4 (by decide) ?_
  skip
  refine g_iconst (pc := 48) (v := (nI 3)) dX7_itemReadBack_48 (by decide) ?_
  refine g_ireturn (pc := 49) dX7_itemReadBack_49 rfl (by first | rfl | decide) rfl ⟨_, rfl, ?_⟩
  refine ⟨congrArg nI ?_, rfl⟩
  unfold itR
  split <;> (try split) <;> (try split) <;> omega
theorem vS_1 (w p : Nat) : (vS w p).1 ≤ 4 := by
  unfold vS
  repeat' split
  all_goals exact Nat.le_of_ble_eq_true rfl
theorem vS_r {w : Nat} (hw : w ≤ 1 ∨ (2 ≤ w ∧ w ≤ 5)) (p : Nat) : ¬ (0 = (vS w p).1 ∧ 2 = (vS w p).2) := by
  rcases (show w = 0 ∨ w = 1 ∨ w = 2 ∨ w = 3 ∨ w = 4 ∨ w = 5 by omega) with rfl | rfl | rfl | rfl | rfl | rfl
  · show ¬ (0 = 0 ∧ 2 = 0)
    omega
  · show ¬ (0 = 0 ∧ 2 = 1)
    omega
  · show ¬ (0 = 2 ∧ 2 = p)
    omega
  · show ¬ (0 = 3 ∧ 2 = p)
    omega
  · show ¬ (0 = 4 ∧ 2 = p)
    omega
  · show ¬ (0 = 1 ∧ 2 = p)
    omega
theorem c_X7_readBack (v vk : View) (tc : Nat) (P : Nat → Nat → List Nat) (μ : Mem) (hX : XW μ v vk tc P) (zs : Nat → Int32) (zn : Nat → Nat) (zi : Nat → Nat → Int32) (hz : ZA μ zs zn zi) (s : Nat) (hs : s < 4) (hsz : zn s = v 0 3) (W : Nat) (hW : W < 50) (hWp : 10 ≤ W → W % 10 < v 0 3) : CA eI yX7_readBack cX7_readBack 9 (some .int) 6 [.ref 0, .int (nI s), .int (nI W)] μ (fun r μ1 => r = rbV v P (zi s) tc W ∧ TF μ μ1) := by
  have hc := hX.cw
  have hv := hc.2.1
  have hsb : SB 1 := Or.inl rfl
  have hvb := hc.2.1.vb
  have hn7 := hvb.1
  have hsp := hX.2.2.2.2.2.2.1
  have h127 := chs_lo 127 (v 0 3)
  have hlen := chs127_len (v 0 3) hn7
  refine CT.of false (by decide) (by decide) (L := [some (.ref 0), some (.int (nI s)), some (.int (nI W)), none, none, none, none, none, none]) rfl (Nat.le_of_ble_eq_true rfl) ?_
  refine g_iload_n (pc := 0) dX7_readBack_0 rfl ?_
  refine a_cs1i (pc := 1) (c_X7_itemReadBack W hW μ) m_X7_itemReadBack ml_X7_262 (by omega) (Nat.le_of_ble_eq_true rfl) dX7_readBack_1 (fun x_1 μ_1 h_1 => ?_)
  obtain ⟨rfl, hm_1⟩ := h_1
  have hm_1 := hm_1.symm
  subst hm_1
  refine a_ist3 (pc := 4) dX7_readBack_4 (by decide) rfl ?_
  obtain ⟨hk1, hk2⟩ := itR_ok W
  obtain ⟨it, hit⟩ : ∃ it, itR W = it := ⟨_, rfl⟩
  obtain ⟨p, hp⟩ : ∃ p, W % 10 = p := ⟨_, rfl⟩
  unfold rbV
  rw [hit, hp]
  rw [hit] at hk1 hk2
  rw [hp] at hWp
  have hto := hX.2.2.1
  have k28 : ∀ (mo : Nat) (hmo : mo = rdM it tc) (hm2 : it = 10 → mo < tc), WG eI yX7_readBack.cls cX7_readBack 9 (some .int) false (fun _ _ => True) 6 (mpost (fun r μ1 => r = (if it = 3 then (if W < 40 then nI (rbC v P (zi s) it p (rdM it tc + 1)) else rbL v P (zi s) it p (rdM it tc + 1)) else rbB v P (zi s) it p (rdM it tc + 1)) ∧ TF μ μ1)) 0 0 28 [some (.ref 0), some (.int (nI s)), some (.int (nI W)), some (.int (nI it)), none, none, none, none, none] [.int (nI mo)] (mk μ) := by
    intro mo hmo hm2
    rw [← hmo]
    have hmo2 : mo ≤ 127 := by
      rw [hmo]
      unfold rdM
      have := moA_le it
      split <;> omega
    have hmo3 : ¬ it = 10 → mo = moA it := fun h => by
      rw [hmo]
      exact if_neg h
    refine a_ist4 (pc := 28) dX7_readBack_28 (by decide) rfl ?_
    refine g_iconst (pc := 30) (v := (nI 0)) dX7_readBack_30 (by decide) ?_
    refine a_ist5 (pc := 31) dX7_readBack_31 (by decide) rfl ?_
    refine g_iconst (pc := 33) (v := (nI 0)) dX7_readBack_33 (by decide) ?_
    refine a_ist6 (pc := 34) dX7_readBack_34 (by decide) rfl ?_
    refine g_iconst (pc := 36) (v := (-1)) dX7_readBack_36 (by decide) ?_
    refine a_ist7 (pc := 37) dX7_readBack_37 (by decide) rfl ?_
    refine g_aload_n (pc := 39) dX7_readBack_39 rfl ?_
    refine a_getr (pc := 40) (q := 11) fl_X7_19 dX7_readBack_40 (by first | rfl | assumption) rfl rfl ?_
    refine g_aload_n (pc := 43) dX7_readBack_43 rfl ?_
    refine a_getr (pc := 44) (q := 1) fl_X7_10 dX7_readBack_44 (by first | rfl | assumption) rfl rfl ?_
    refine a_cv1v (pc := 47) (c_X5_become 11 1 (Or.inr (Or.inr rfl)) hsb (by decide) μ) m_X5_become ml_X7_214 (by omega) (by first | rfl | assumption) rfl rfl (Nat.le_of_ble_eq_true rfl) dX7_readBack_47 (fun x_47 μ_47 h_47 => ?_)
    have f47 : TF μ μ_47 := BEC.tf h_47
    have v47 : SV μ_47 11 v := SV.bec_of hv h_47
    refine g_iconst (pc := 50) (v := (nI 0)) dX7_readBack_50 (by decide) ?_
    refine a_ist8 (pc := 51) dX7_readBack_51 (by decide) rfl ?_
    have lp53 : ∀ (zz : Nat) (x y : Nat) (hx : x ≤ mo + 1) (ν : Mem) (hν : SV ν 11 (setV v it p y) ∧ TF μ ν), mo + 1 - x = zz → WG eI yX7_readBack.cls cX7_readBack 9 (some .int) false (fun _ _ => True) 6 (mpost (fun r μ1 => r = (if it = 3 then (if W < 40 then nI (rbC v P (zi s) it p (mo + 1)) else rbL v P (zi s) it p (mo + 1)) else rbB v P (zi s) it p (mo + 1)) ∧ TF μ μ1)) 0 0 53 [some (.ref 0), some (.int (nI s)), some (.int (nI W)), some (.int (nI it)), some (.int (nI mo)), some (.int (rbB v P (zi s) it p x)), some (.int (nI (rbC v P (zi s) it p x))), some (.int (rbL v P (zi s) it p x)), some (.int (nI x))] [] (mk ν) := by
      intro zz
      induction zz using Nat.strongRecOn with
      | ind zz ih =>
        intro x y hx ν hν hzz
        obtain ⟨d1, f1⟩ := hν
        have hB : rbB v P (zi s) it p (x + 1) = if rbM v P (zi s) it p x = 0 then rbB v P (zi s) it p x ||| (nI 1 <<< (nI x &&& 31)) else rbB v P (zi s) it p x := rfl
        have hC : rbC v P (zi s) it p (x + 1) = if rbM v P (zi s) it p x = 0 then rbC v P (zi s) it p x + 1 else rbC v P (zi s) it p x := rfl
        have hput : it = 0 ∨ it = 1 ∨ it = 10 ∨ (2 ≤ it ∧ it ≤ 5 ∧ p < setV v it p y 0 3 ∧ nI p = nI p) := by
          rw [setV_n (by omega)]
          rcases (show it = 0 ∨ it = 10 ∨ (2 ≤ it ∧ it ≤ 5 ∧ p < v 0 3) by omega) with h | h | ⟨h1, h2, h3⟩
          · exact Or.inl h
          · exact Or.inr (Or.inr (Or.inl h))
          · exact Or.inr (Or.inr (Or.inr ⟨h1, h2, h3, rfl⟩))
        have hL : rbL v P (zi s) it p (x + 1) = if rbM v P (zi s) it p x = 0 then (if rbL v P (zi s) it p x = -1 then nI x else rbL v P (zi s) it p x) else rbL v P (zi s) it p x := rfl
        refine g_iload (pc := 53) dX7_readBack_53 rfl ?_
        refine g_iload (pc := 55) dX7_readBack_55 rfl ?_
        refine g_icmp_gt (pc := 57) (tgt := 119) dX7_readBack_57 (by decide) (fun c_57 => ?_) (fun c_57 => ?_)
        · have c57 := nI_lt' (by omega) (by omega) c_57
          obtain rfl : x = mo + 1 := by omega
          refine g_iload_n (pc := 119) dX7_readBack_119 rfl ?_
          refine g_iconst (pc := 120) (v := (nI 3)) dX7_readBack_120 (by decide) ?_
          refine g_icmp_eq (pc := 121) (tgt := 127) dX7_readBack_121 (by decide) (fun c_121 => ?_) (fun c_121 => ?_)
          · have c121 : it = 3 := nI_eq' (by omega) (by decide) c_121
            refine g_iload_n (pc := 127) dX7_readBack_127 rfl ?_
            refine g_bipush (pc := 128) (v := (nI 40)) dX7_readBack_128 (by decide) ?_
            refine g_icmp_ge (pc := 130) (tgt := 138) dX7_readBack_130 (by decide) (fun c_130 => ?_) (fun c_130 => ?_)
            · have c130 : ¬ W < 40 := Nat.not_lt.mpr (nI_le' (by omega) (by omega) c_130)
              refine g_iload (pc := 138) dX7_readBack_138 rfl ?_
              refine g_ireturn (pc := 140) dX7_readBack_140 rfl (by first | rfl | decide) rfl ⟨_, rfl, ?_⟩
              refine ⟨?_, f1⟩
              rw [if_pos c121]
              first | exact (if_pos c130).symm | exact (if_neg c130).symm
            · have c130 : W < 40 := nI_gt' (by omega) (by omega) c_130
              refine g_iload (pc := 133) dX7_readBack_133 rfl ?_
              refine g_goto (pc := 135) (tgt := 140) dX7_readBack_135 (by decide) ?_
              refine g_ireturn (pc := 140) dX7_readBack_140 rfl (by first | rfl | decide) rfl ⟨_, rfl, ?_⟩
              refine ⟨?_, f1⟩
              rw [if_pos c121]
              first | exact (if_pos c130).symm | exact (if_neg c130).symm
          · have c121 : ¬ it = 3 := fun h => c_121 (by rw [h])
            refine g_iload (pc := 124) dX7_readBack_124 rfl ?_
            refine g_ireturn (pc := 126) dX7_readBack_126 rfl (by first | rfl | decide) rfl ⟨_, rfl, ?_⟩
            exact ⟨(if_neg c121).symm, f1⟩
        · have c57 := nI_ge' (by omega) (by omega) c_57
          refine g_aload_n (pc := 60) dX7_readBack_60 rfl ?_
          refine a_getr (pc := 61) (q := 11) fl_X7_19 dX7_readBack_61 (by first | rfl | assumption) rfl rfl ?_
          refine g_iload_n (pc := 64) dX7_readBack_64 rfl ?_
          refine g_iload_n (pc := 65) dX7_readBack_65 rfl ?_
          refine g_bipush (pc := 66) (v := (nI 10)) dX7_readBack_66 (by decide) ?_
          refine v_irem (pc := 68) dX7_readBack_68 (by decide) (hp ▸ pk_rem (by omega) (by decide) (by decide)) ?_
          refine g_iload (pc := 69) dX7_readBack_69 rfl ?_
          refine a_cv3v (pc := 71) (c_X5_put 11 (Or.inr (Or.inr rfl)) (setV v it p y) ν d1 it p (nI p) (nI x) (by omega) hput) m_X5_put ml_X7_73 (by omega) (by first | rfl | assumption) rfl rfl (Nat.le_of_ble_eq_true rfl) dX7_readBack_71 (fun x_71 μ_71 h_71 => ?_)
          have hm := (show μ_71 = _ from h_71).symm
          have dv : SV μ_71 11 (setV v it p x) := by
            rw [← hm, show setV v it p x = setV (setV v it p y) it p x from (vset2 v _ _ y x).symm]
            exact d1.setA (by omega) (by
              by_cases h10 : it = 10
              · rw [h10]
                have := hm2 h10
                show x ≤ 5
                omega
              · rw [← hmo3 h10]
                exact c57)
          have hvS : (vS it p).1 ≤ 4 := vS_1 it p
          have x71 : ∀ c, c < 11 ∨ 15 < c → μ_71 c = ν c := fun c hc => by rw [← hm]; exact mset_ne (by omega)
          have f71 : TF ν μ_71 := ⟨fun c hc => x71 c (by omega), congrFun (x71 46 (by omega)) 0, congrFun (x71 35 (by omega)) 3⟩
          have f2 := f1.trans f71
          have hnn : setV v it p x 0 3 = v 0 3 := setV_n (by omega)
          have hru : setV v it p x 0 2 < tc := by
            by_cases h10 : it = 10
            · have := hm2 h10
              rw [h10]
              show x < tc
              omega
            · rw [show setV v it p x 0 2 = v 0 2 from vset_ne (vS_r (by omega) p)]
              exact hX.2.2.2.2.1
          have x72 := hX.tf f2
          have c71 : CW μ_71 11 (setV v it p x) (P (setV v it p x 0 2)) := ⟨Or.inr (Or.inr rfl), dv, fun e he => x72.2.2.2.1 _ hru e he, x72.2.2.2.2.2.2.2⟩
          refine g_aload_n (pc := 74) dX7_readBack_74 rfl ?_
          refine g_aload_n (pc := 75) dX7_readBack_75 rfl ?_
          refine a_getr (pc := 76) (q := 11) fl_X7_19 dX7_readBack_76 (by first | rfl | assumption) rfl rfl ?_
          refine g_iload_n (pc := 79) dX7_readBack_79 rfl ?_
          refine a_cv2i (pc := 80) (c_X7_otherwise 11 (setV v it p x) (P (setV v it p x 0 2)) μ_71 c71 x72.2.2.2.2.2.2.1 zs zn zi (hz.tf f2) s hs (hsz.trans hnn.symm)) m_X7_otherwise ml_X7_202 (by omega) (by first | rfl | assumption) rfl rfl (Nat.le_of_ble_eq_true rfl) dX7_readBack_80 (fun x_80 μ_80 h_80 => ?_)
          obtain ⟨e80, f80⟩ := h_80
          rw [hnn] at e80
          have e80 : x_80 = rbM v P (zi s) it p x := e80
          have f9 := f2.trans f80.tf
          have d9 : SV μ_80 11 (setV v it p x) := dv.moved (fun k h1 h2 => f80.1 k (by omega))
          refine g_if_ne (pc := 83) (tgt := 113) dX7_readBack_83 (by decide) (fun c_83 => ?_) (fun c_83 => ?_)
          · rw [e80] at c_83
            rw [if_neg c_83] at hB hC hL
            refine a_iinc8 (pc := 113) dX7_readBack_113 (inc1 x) (by decide) rfl ?_
            refine g_goto (pc := 116) (tgt := 53) dX7_readBack_116 (by decide) ?_
            have hfin := ih (mo + 1 - (x + 1)) (by omega) (x + 1) x (by omega) _ ⟨d9, f9⟩ rfl
            rw [hB, hC, hL] at hfin
            exact hfin
          · rw [e80] at c_83
            rw [if_pos c_83] at hB hC hL
            refine g_iload (pc := 86) dX7_readBack_86 rfl ?_
            refine g_iconst (pc := 88) (v := (nI 1)) dX7_readBack_88 (by decide) ?_
            refine g_iload (pc := 89) dX7_readBack_89 rfl ?_
            refine v_ishl (pc := 91) dX7_readBack_91 rfl ?_
            refine v_ior (pc := 92) dX7_readBack_92 rfl ?_
            refine a_ist5 (pc := 93) dX7_readBack_93 (by decide) rfl ?_
            refine a_iinc6 (pc := 95) dX7_readBack_95 (inc1 _) (by decide) rfl ?_
            refine g_iload (pc := 98) dX7_readBack_98 rfl ?_
            refine g_iconst (pc := 100) (v := (-1)) dX7_readBack_100 (by decide) ?_
            refine g_icmp_ne (pc := 101) (tgt := 109) dX7_readBack_101 (by decide) (fun c_101 => ?_) (fun c_101 => ?_)
            · rw [if_neg c_101] at hL
              refine g_iload (pc := 109) dX7_readBack_109 rfl ?_
              refine a_ist7 (pc := 111) dX7_readBack_111 (by decide) rfl ?_
              refine a_iinc8 (pc := 113) dX7_readBack_113 (inc1 x) (by decide) rfl ?_
              refine g_goto (pc := 116) (tgt := 53) dX7_readBack_116 (by decide) ?_
              have hfin := ih (mo + 1 - (x + 1)) (by omega) (x + 1) x (by omega) _ ⟨d9, f9⟩ rfl
              rw [hB, hC, hL] at hfin
              exact hfin
            · rw [if_pos c_101] at hL
              refine g_iload (pc := 104) dX7_readBack_104 rfl ?_
              refine g_goto (pc := 106) (tgt := 111) dX7_readBack_106 (by decide) ?_
              refine a_ist7 (pc := 111) dX7_readBack_111 (by decide) rfl ?_
              refine a_iinc8 (pc := 113) dX7_readBack_113 (inc1 x) (by decide) rfl ?_
              refine g_goto (pc := 116) (tgt := 53) dX7_readBack_116 (by decide) ?_
              have hfin := ih (mo + 1 - (x + 1)) (by omega) (x + 1) x (by omega) _ ⟨d9, f9⟩ rfl
              rw [hB, hC, hL] at hfin
              exact hfin
    exact lp53 _ 0 (v (vS it p).1 (vS it p).2) (Nat.zero_le _) _ ⟨by unfold setV; rw [vset_same]; exact v47, f47⟩ rfl
  refine g_iload_n (pc := 5) dX7_readBack_5 rfl ?_
  refine g_bipush (pc := 6) (v := (nI 10)) dX7_readBack_6 (by decide) ?_
  refine g_icmp_ne (pc := 8) (tgt := 23) dX7_readBack_8 (by decide) (fun c_8 => ?_) (fun c_8 => ?_)
  · have c8 : ¬ it = 10 := fun h => c_8 (by rw [h])
    have hmo : moA it = rdM it tc := (if_neg c8).symm
    refine g_gets (pc := 23) (i := 0) (by decide) sl_X7_65 dX7_readBack_23 ?_
    refine g_iload_n (pc := 26) dX7_readBack_26 rfl ?_
    refine v_sald (pc := 27) (i := 0) (by decide) rfl (by show it < 6; omega) dX7_readBack_27 (moA_s it (by omega)) ?_
    exact k28 _ hmo (by omega)
  · have c8 : it = 10 := nI_eq' (by omega) (by decide) c_8
    have hmo : tc - 1 = rdM it tc := (if_pos c8).symm
    refine g_aload_n (pc := 11) dX7_readBack_11 rfl ?_
    refine a_getr (pc := 12) (q := 16) fl_X7_25 dX7_readBack_12 (by first | rfl | assumption) rfl rfl ?_
    refine v_geti (pc := 15) fl_X7_136 dX7_readBack_15 (by first | rfl | assumption) rfl hX.2.2.1.1 ?_
    refine g_iconst (pc := 18) (v := (nI 1)) dX7_readBack_18 (by decide) ?_
    refine v_isub (pc := 19) dX7_readBack_19 (pk_sub (by omega)) ?_
    refine g_goto (pc := 20) (tgt := 28) dX7_readBack_20 (by decide) ?_
    exact k28 _ hmo (by omega)
abbrev telOK (n : Nat) (w : Int32) : Prop := nx w ≤ 2 ∨ (10 ≤ nx w ∧ nx w ≤ 49 ∧ nx w % 10 < n)
/-- tells()'s answer -/
def telV (v : View) (P : Nat → Nat → List Nat) (tc : Nat) (zs : Nat → Int32) (zn : Nat → Nat) (zi : Nat → Nat → Int32) (s w : Int32) : Int32 :=
  if nx s < 4 ∧ telOK (v 0 3) w then (if zs (nx s) = -1 then -11 else if zn (nx s) = v 0 3 then (if nx w = 0 then othB (LF v (P (v 0 2))) (zi (nx s)) (v 0 3) else rbV v P (zi (nx s)) tc (nx w)) else -2) else -2
theorem c_X7_tells (v vk : View) (tc : Nat) (P : Nat → Nat → List Nat) (μ : Mem) (hX : XW μ v vk tc P) (zs : Nat → Int32) (zn : Nat → Nat) (zi : Nat → Nat → Int32) (hz : ZA μ zs zn zi) (s w : Int32) : CA eI yX7_tells cX7_tells 3 (some .int) 7 [.ref 0, .int s, .int w] μ (fun r μ1 => r = telV v P tc zs zn zi s w ∧ TF μ μ1) := by
  have hc := hX.cw
  have hv := hc.2.1
  have hsb : SB 1 := Or.inl rfl
  have hvb := hc.2.1.vb
  have hn7 := hvb.1
  have hsp := hX.2.2.2.2.2.2.1
  have h127 := chs_lo 127 (v 0 3)
  have hlen := chs127_len (v 0 3) hn7
  refine CT.of false (by decide) (by decide) (L := [some (.ref 0), some (.int s), some (.int w)]) rfl (Nat.le_of_ble_eq_true rfl) ?_
  refine g_aload_n (pc := 0) dX7_tells_0 rfl ?_
  refine a_getr (pc := 1) (q := 49) fl_X7_57 dX7_tells_1 (by first | rfl | assumption) rfl rfl ?_
  refine g_iload_n (pc := 4) dX7_tells_4 rfl ?_
  refine a_cv1i (pc := 5) (c_X4_has μ s) m_X4_has ml_X7_158 (by omega) (by first | rfl | assumption) rfl rfl (Nat.le_of_ble_eq_true rfl) dX7_tells_5 (fun x_5 μ_5 h_5 => ?_)
  obtain ⟨hm_5, hd_5⟩ := h_5
  have hm_5 := hm_5.symm
  subst hm_5
  rw [has_nx (by omega)] at hd_5
  refine g_if_eq (pc := 8) (tgt := 51) dX7_tells_8 (by decide) (fun c_8 => ?_) (fun c_8 => ?_)
  · have c8 := (hd_5.resolve_left (fun q => absurd (q.1.symm.trans c_8) (by decide))).2
    have hno : ¬ (nx s < 4 ∧ telOK (v 0 3) w) := fun h => c8 h.1
    refine g_bipush (pc := 51) (v := (-2)) dX7_tells_51 (by decide) ?_
    refine g_ireturn (pc := 53) dX7_tells_53 rfl (by first | rfl | decide) rfl ⟨_, rfl, ?_⟩
    refine ⟨?_, TF.refl μ⟩
    unfold telV
    rw [if_neg hno]
  · have c8 := (hd_5.resolve_right (fun q => c_8 q.1)).2
    have e_a := nx_lt c8 (by omega)
    generalize j_a : nx s = a at e_a c8
    subst e_a
    refine g_iload_n (pc := 11) dX7_tells_11 rfl ?_
    refine g_if_lt (pc := 12) (tgt := 51) dX7_tells_12 (by decide) (fun c_12 => ?_) (fun c_12 => ?_)
    · have hno : ¬ (nx (nI a) < 4 ∧ telOK (v 0 3) w) := fun h => by
        have h2 := h.2
        unfold telOK at h2
        rw [nx_neg c_12] at h2
        omega
      refine g_bipush (pc := 51) (v := (-2)) dX7_tells_51 (by decide) ?_
      refine g_ireturn (pc := 53) dX7_tells_53 rfl (by first | rfl | decide) rfl ⟨_, rfl, ?_⟩
      refine ⟨?_, TF.refl μ⟩
      unfold telV
      rw [if_neg hno]
    · obtain ⟨e_j, b_j⟩ := nx_of c_12
      generalize j_j : nx w = j at e_j b_j
      subst e_j
      have k54 : ∀ (hok : telOK (v 0 3) (nI j)), WG eI yX7_tells.cls cX7_tells 3 (some .int) false (fun _ _ => True) 7 (mpost (fun r μ1 => r = telV v P tc zs zn zi (nI a) (nI j) ∧ TF μ μ1)) 0 0 54 [some (.ref 0), some (.int (nI a)), some (.int (nI j))] [] (mk μ) := by
        intro hok
        have hyes : nx (nI a) < 4 ∧ telOK (v 0 3) (nI j) := ⟨by omega, hok⟩
        unfold telOK at hok
        rw [j_j] at hok
        obtain ⟨hz1, hz2, h40⟩ := hz.1 a c8
        refine g_aload_n (pc := 54) dX7_tells_54 rfl ?_
        refine a_getr (pc := 55) (q := 49) fl_X7_57 dX7_tells_55 (by first | rfl | assumption) rfl rfl ?_
        refine g_iload_n (pc := 58) dX7_tells_58 rfl ?_
        refine a_cv1i (pc := 59) (c_X4_isMissing μ zs zn hz.1 a c8) m_X4_isMissing ml_X7_159 (by omega) (by first | rfl | assumption) rfl rfl (Nat.le_of_ble_eq_true rfl) dX7_tells_59 (fun x_59 μ_59 h_59 => ?_)
        obtain ⟨hm_59, hd_59⟩ := h_59
        have hm_59 := hm_59.symm
        subst hm_59
        refine g_if_eq (pc := 62) (tgt := 68) dX7_tells_62 (by decide) (fun c_62 => ?_) (fun c_62 => ?_)
        · have c62 := (hd_59.resolve_left (fun q => absurd (q.1.symm.trans c_62) (by decide))).2
          refine g_aload_n (pc := 68) dX7_tells_68 rfl ?_
          refine a_getr (pc := 69) (q := 49) fl_X7_57 dX7_tells_69 (by first | rfl | assumption) rfl rfl ?_
          refine a_getr (pc := 72) (q := 51) fl_X7_200 dX7_tells_72 (by first | rfl | assumption) rfl rfl ?_
          refine g_iload_n (pc := 75) dX7_tells_75 rfl ?_
          refine v_iald (pc := 76) dX7_tells_76 (by first | rfl | assumption) rfl (by omega) hz2 ?_
          refine g_aload_n (pc := 77) dX7_tells_77 rfl ?_
          refine a_getr (pc := 78) (q := 1) fl_X7_10 dX7_tells_78 (by first | rfl | assumption) rfl rfl ?_
          refine v_geti (pc := 81) fl_X7_82 dX7_tells_81 (by first | rfl | assumption) rfl hv.2.2.2.1.1 ?_
          refine g_icmp_eq (pc := 84) (tgt := 90) dX7_tells_84 (by decide) (fun c_84 => ?_) (fun c_84 => ?_)
          · have c84 : zn a = v 0 3 := nI_eq' (by omega) (by omega) c_84
            refine g_iload_n (pc := 90) dX7_tells_90 rfl ?_
            refine g_if_ne (pc := 91) (tgt := 104) dX7_tells_91 (by decide) (fun c_91 => ?_) (fun c_91 => ?_)
            · have c91 : ¬ j = 0 := fun h => c_91 (by rw [h]; rfl)
              refine g_aload_n (pc := 104) dX7_tells_104 rfl ?_
              refine g_iload_n (pc := 105) dX7_tells_105 rfl ?_
              refine g_iload_n (pc := 106) dX7_tells_106 rfl ?_
              refine a_cv2i (pc := 107) (c_X7_readBack v vk tc P μ hX zs zn zi hz a c8 c84 j (by omega) (by omega)) m_X7_readBack ml_X7_205 (by omega) (by first | rfl | assumption) rfl rfl (Nat.le_of_ble_eq_true rfl) dX7_tells_107 (fun x_107 μ_107 h_107 => ?_)
              obtain ⟨rfl, f107⟩ := h_107
              refine g_ireturn (pc := 110) dX7_tells_110 rfl (by first | rfl | decide) rfl ⟨_, rfl, ?_⟩
              refine ⟨?_, f107⟩
              unfold telV
              rw [if_pos hyes, j_a, if_neg c62, if_pos c84, j_j, if_neg c91]
            · have c91 : j = 0 := nI_eq' (b := 0) (by omega) (by omega) c_91
              refine g_aload_n (pc := 94) dX7_tells_94 rfl ?_
              refine g_aload_n (pc := 95) dX7_tells_95 rfl ?_
              refine a_getr (pc := 96) (q := 1) fl_X7_10 dX7_tells_96 (by first | rfl | assumption) rfl rfl ?_
              refine g_iload_n (pc := 99) dX7_tells_99 rfl ?_
              refine a_cv2i (pc := 100) (c_X7_otherwise 1 v (P (v 0 2)) μ hc hsp zs zn zi hz a c8 c84) m_X7_otherwise ml_X7_202 (by omega) (by first | rfl | assumption) rfl rfl (Nat.le_of_ble_eq_true rfl) dX7_tells_100 (fun x_100 μ_100 h_100 => ?_)
              obtain ⟨rfl, f100⟩ := h_100
              refine g_ireturn (pc := 103) dX7_tells_103 rfl (by first | rfl | decide) rfl ⟨_, rfl, ?_⟩
              refine ⟨?_, f100.tf⟩
              unfold telV
              rw [if_pos hyes, j_a, if_neg c62, if_pos c84, j_j, if_pos c91]
          · have c84 : ¬ zn a = v 0 3 := fun h => c_84 (by rw [h])
            refine g_bipush (pc := 87) (v := (-2)) dX7_tells_87 (by decide) ?_
            refine g_ireturn (pc := 89) dX7_tells_89 rfl (by first | rfl | decide) rfl ⟨_, rfl, ?_⟩
            refine ⟨?_, TF.refl μ⟩
            unfold telV
            rw [if_pos hyes, j_a, if_neg c62, if_neg c84]
        · have c62 := (hd_59.resolve_right (fun q => c_62 q.1)).2
          refine g_bipush (pc := 65) (v := (-11)) dX7_tells_65 (by decide) ?_
          refine g_ireturn (pc := 67) dX7_tells_67 rfl (by first | rfl | decide) rfl ⟨_, rfl, ?_⟩
          refine ⟨?_, TF.refl μ⟩
          unfold telV
          rw [if_pos hyes, j_a, if_pos c62]
      refine g_iload_n (pc := 15) dX7_tells_15 rfl ?_
      refine g_bipush (pc := 16) (v := (nI 49)) dX7_tells_16 (by decide) ?_
      refine g_icmp_gt (pc := 18) (tgt := 51) dX7_tells_18 (by decide) (fun c_18 => ?_) (fun c_18 => ?_)
      · have c18 := nI_lt' (by omega) (by omega) c_18
        have hno : ¬ (nx (nI a) < 4 ∧ telOK (v 0 3) (nI j)) := fun h => by
          have h2 := h.2
          unfold telOK at h2
          rw [j_j] at h2
          omega
        refine g_bipush (pc := 51) (v := (-2)) dX7_tells_51 (by decide) ?_
        refine g_ireturn (pc := 53) dX7_tells_53 rfl (by first | rfl | decide) rfl ⟨_, rfl, ?_⟩
        refine ⟨?_, TF.refl μ⟩
        unfold telV
        rw [if_neg hno]
      · have c18 := nI_ge' (by omega) (by omega) c_18
        refine g_iload_n (pc := 21) dX7_tells_21 rfl ?_
        refine g_iconst (pc := 22) (v := (nI 2)) dX7_tells_22 (by decide) ?_
        refine g_icmp_le (pc := 23) (tgt := 32) dX7_tells_23 (by decide) (fun c_23 => ?_) (fun c_23 => ?_)
        · have c23 := nI_le' (by omega) (by omega) c_23
          refine g_iload_n (pc := 32) dX7_tells_32 rfl ?_
          refine g_iconst (pc := 33) (v := (nI 2)) dX7_tells_33 (by decide) ?_
          refine g_icmp_le (pc := 34) (tgt := 54) dX7_tells_34 (by decide) (fun c_34 => ?_) (fun c_34 => ?_)
          · have c34 := nI_le' (by omega) (by omega) c_34
            exact k54 (by unfold telOK; omega)
          · have c34 := nI_gt' (by omega) (by omega) c_34
            refine g_aload_n (pc := 37) dX7_tells_37 rfl ?_
            refine a_getr (pc := 38) (q := 1) fl_X7_10 dX7_tells_38 (by first | rfl | assumption) rfl rfl ?_
            refine g_iload_n (pc := 41) dX7_tells_41 rfl ?_
            refine g_bipush (pc := 42) (v := (nI 10)) dX7_tells_42 (by decide) ?_
            refine v_irem (pc := 44) dX7_tells_44 (by decide) (pk_rem (by omega) (by decide) (by decide)) ?_
            refine a_cv1i (pc := 45) (c_X5_has 1 hsb v μ hv (nI (j % 10))) m_X5_has ml_X7_109 (by omega) (by first | rfl | assumption) rfl rfl (Nat.le_of_ble_eq_true rfl) dX7_tells_45 (fun x_45 μ_45 h_45 => ?_)
            obtain ⟨hm_45, hd_45⟩ := h_45
            have hm_45 := hm_45.symm
            subst hm_45
            rw [has_nx (by omega)] at hd_45
            rw [nx_nI (by omega)] at hd_45
            refine g_if_ne (pc := 48) (tgt := 54) dX7_tells_48 (by decide) (fun c_48 => ?_) (fun c_48 => ?_)
            · have c48 := (hd_45.resolve_right (fun q => c_48 q.1)).2
              exact k54 (by unfold telOK; omega)
            · have c48 := (hd_45.resolve_left (fun q => absurd (q.1.symm.trans c_48) (by decide))).2
              have hno : ¬ (nx (nI a) < 4 ∧ telOK (v 0 3) (nI j)) := fun h => by
                have h2 := h.2
                unfold telOK at h2
                rw [j_j] at h2
                omega
              refine g_bipush (pc := 51) (v := (-2)) dX7_tells_51 (by decide) ?_
              refine g_ireturn (pc := 53) dX7_tells_53 rfl (by first | rfl | decide) rfl ⟨_, rfl, ?_⟩
              refine ⟨?_, TF.refl μ⟩
              unfold telV
              rw [if_neg hno]
        · have c23 := nI_gt' (by omega) (by omega) c_23
          refine g_iload_n (pc := 26) dX7_tells_26 rfl ?_
          refine g_bipush (pc := 27) (v := (nI 10)) dX7_tells_27 (by decide) ?_
          refine g_icmp_lt (pc := 29) (tgt := 51) dX7_tells_29 (by decide) (fun c_29 => ?_) (fun c_29 => ?_)
          · have c29 := nI_lt' (by omega) (by omega) c_29
            have hno : ¬ (nx (nI a) < 4 ∧ telOK (v 0 3) (nI j)) := fun h => by
              have h2 := h.2
              unfold telOK at h2
              rw [j_j] at h2
              omega
            refine g_bipush (pc := 51) (v := (-2)) dX7_tells_51 (by decide) ?_
            refine g_ireturn (pc := 53) dX7_tells_53 rfl (by first | rfl | decide) rfl ⟨_, rfl, ?_⟩
            refine ⟨?_, TF.refl μ⟩
            unfold telV
            rw [if_neg hno]
          · have c29 := nI_ge' (by omega) (by omega) c_29
            refine g_iload_n (pc := 32) dX7_tells_32 rfl ?_
            refine g_iconst (pc := 33) (v := (nI 2)) dX7_tells_33 (by decide) ?_
            refine g_icmp_le (pc := 34) (tgt := 54) dX7_tells_34 (by decide) (fun c_34 => ?_) (fun c_34 => ?_)
            · have c34 := nI_le' (by omega) (by omega) c_34
              exact k54 (by unfold telOK; omega)
            · have c34 := nI_gt' (by omega) (by omega) c_34
              refine g_aload_n (pc := 37) dX7_tells_37 rfl ?_
              refine a_getr (pc := 38) (q := 1) fl_X7_10 dX7_tells_38 (by first | rfl | assumption) rfl rfl ?_
              refine g_iload_n (pc := 41) dX7_tells_41 rfl ?_
              refine g_bipush (pc := 42) (v := (nI 10)) dX7_tells_42 (by decide) ?_
              refine v_irem (pc := 44) dX7_tells_44 (by decide) (pk_rem (by omega) (by decide) (by decide)) ?_
              refine a_cv1i (pc := 45) (c_X5_has 1 hsb v μ hv (nI (j % 10))) m_X5_has ml_X7_109 (by omega) (by first | rfl | assumption) rfl rfl (Nat.le_of_ble_eq_true rfl) dX7_tells_45 (fun x_45 μ_45 h_45 => ?_)
              obtain ⟨hm_45, hd_45⟩ := h_45
              have hm_45 := hm_45.symm
              subst hm_45
              rw [has_nx (by omega)] at hd_45
              rw [nx_nI (by omega)] at hd_45
              refine g_if_ne (pc := 48) (tgt := 54) dX7_tells_48 (by decide) (fun c_48 => ?_) (fun c_48 => ?_)
              · have c48 := (hd_45.resolve_right (fun q => c_48 q.1)).2
                exact k54 (by unfold telOK; omega)
              · have c48 := (hd_45.resolve_left (fun q => absurd (q.1.symm.trans c_48) (by decide))).2
                have hno : ¬ (nx (nI a) < 4 ∧ telOK (v 0 3) (nI j)) := fun h => by
                  have h2 := h.2
                  unfold telOK at h2
                  rw [j_j] at h2
                  omega
                refine g_bipush (pc := 51) (v := (-2)) dX7_tells_51 (by decide) ?_
                refine g_ireturn (pc := 53) dX7_tells_53 rfl (by first | rfl | decide) rfl ⟨_, rfl, ?_⟩
                refine ⟨?_, TF.refl μ⟩
                unfold telV
                rw [if_neg hno]
