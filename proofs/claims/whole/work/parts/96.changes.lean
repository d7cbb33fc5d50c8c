/-! ===== the law: calls that change something ===== -/
theorem l_set {N9 : Nat} {xs : Nat → Int32} {k : Nat} {μ : Mem} (hN : N9 ≤ 3072) (hk : k + 6 ≤ N9) (hc : CPL μ) (kk : ∀ μ2, CPL μ2 → WL N9 xs 0 0 975 (Lk k) [] (mk μ2)) : WL N9 xs 0 0 160 (Lk k) [] (mk μ) := by
  obtain ⟨v, vk, im, tc, sz, tb, tn, tp, zs, zn, zi, hX, hM, hK⟩ := id hc
  refine g_aload_n (pc := 160) (i := 1) dL_law_160 rfl ?_
  refine l_arg (pc := 161) (j := 1) dL_law_161 dL_law_162 dL_law_163 dL_law_164 dL_law_165 (by decide) (by decide) hk hN ?_
  refine l_arg (pc := 166) (j := 2) dL_law_166 dL_law_167 dL_law_168 dL_law_169 dL_law_170 (by decide) (by decide) hk hN ?_
  refine l_arg (pc := 171) (j := 3) dL_law_171 dL_law_172 dL_law_173 dL_law_174 dL_law_175 (by decide) (by decide) hk hN ?_
  refine a_cv3i (pc := 176) (c_X7_set v μ hX.1.1 (xs (k + 1)) (xs (k + 2)) (xs (k + 3))) m_X7_set ml_L_13 (Nat.le_of_ble_eq_true rfl) rfl rfl rfl (Nat.le_of_ble_eq_true rfl) dL_law_176 (fun r1_ μ1 h1 => ?_)
  have f1 : FC μ μ1 := by
    rcases h1 with ⟨-, -, m⟩ | ⟨-, -, m⟩
    · exact FC.of m
    · rw [m]
      exact fun c hc => mset_ne (by have := vS_le (nx (xs (k + 1))) (nx (xs (k + 2))); omega)
  have hM1 := hM.fc f1
  refine g_aload_n (pc := 179) (i := 2) dL_law_179 rfl ?_
  refine l_arg (pc := 180) (j := 1) dL_law_180 dL_law_181 dL_law_182 dL_law_183 dL_law_184 (by decide) (by decide) hk hN ?_
  refine l_arg (pc := 185) (j := 2) dL_law_185 dL_law_186 dL_law_187 dL_law_188 dL_law_189 (by decide) (by decide) hk hN ?_
  refine l_arg (pc := 190) (j := 3) dL_law_190 dL_law_191 dL_law_192 dL_law_193 dL_law_194 (by decide) (by decide) hk hN ?_
  refine a_cv3i (pc := 195) (c_X8_set v tc sz tb μ1 hM1.1 (xs (k + 1)) (xs (k + 2)) (xs (k + 3))) m_X8_set ml_L_17 (Nat.le_of_ble_eq_true rfl) rfl rfl rfl (Nat.le_of_ble_eq_true rfl) dL_law_195 (fun r2_ μ2 h2 => ?_)
  obtain ⟨he, hc2⟩ : r1_ = r2_ ∧ CPL μ2 := by
    rcases h1 with ⟨n1, e1, m1⟩ | ⟨o1, e1, m1⟩ <;> rcases h2 with ⟨n2, e2, m2⟩ | ⟨o2, e2, q2, k2, i2⟩
    · exact ⟨e1.trans e2.symm, by rw [m2, m1]; exact hc⟩
    · exact absurd o2 n1
    · exact absurd o1 n2
    · obtain ⟨w1, w2, w3⟩ := setV_k v (w := nx (xs (k + 1))) (p := nx (xs (k + 2))) (x := nx (xs (k + 3))) o1.1
      have hru := hX.1.2.2.2.2.1
      have hs : SV μ1 1 (setV v (nx (xs (k + 1))) (nx (xs (k + 2))) (nx (xs (k + 3)))) := by
        rw [m1]
        exact hX.1.1.setA (by have := o1.1; omega) o1.2.2
      have hX1 := hX.sv hs (by rw [w1]; exact hru) (fun c hc9 => by rw [m1]; exact mset_ne (by have := vS_le (nx (xs (k + 1))) (nx (xs (k + 2))); omega))
      exact ⟨e1.trans e2.symm, _, vk, im, tc, sz, tb, tn, tp, zs, zn, zi, hX1.fm (fun c hc9 => k2 c (by omega) (by omega) (by omega) (by omega) (by omega)), hM1.mv q2 (by rw [w1]; exact hru) (fun c hc9 => k2 c (by omega) (by omega) (by omega) (by omega) (by omega)) (fun j hj => i2 j (by omega) (by omega) (by omega) (by omega)), hK.to (by rw [w2]; exact Nat.le_refl _) (fun p _ => w3 p)⟩
  exact g_icmp_eq (pc := 198) (tgt := 975) dL_law_198 (by decide) (fun _ => kk μ2 hc2) (fun q => absurd he q)
theorem l_part {N9 : Nat} {xs : Nat → Int32} {k : Nat} {μ : Mem} (hN : N9 ≤ 3072) (hk : k + 6 ≤ N9) (hc : CPL μ) (kk : ∀ μ2, CPL μ2 → WL N9 xs 0 0 975 (Lk k) [] (mk μ2)) : WL N9 xs 0 0 203 (Lk k) [] (mk μ) := by
  obtain ⟨v, vk, im, tc, sz, tb, tn, tp, zs, zn, zi, hX, hM, hK⟩ := id hc
  refine g_aload_n (pc := 203) (i := 1) dL_law_203 rfl ?_
  refine l_arg (pc := 204) (j := 1) dL_law_204 dL_law_205 dL_law_206 dL_law_207 dL_law_208 (by decide) (by decide) hk hN ?_
  refine l_arg (pc := 209) (j := 2) dL_law_209 dL_law_210 dL_law_211 dL_law_212 dL_law_213 (by decide) (by decide) hk hN ?_
  refine a_cv2i (pc := 214) (c_X7_part v μ hX.1.1 (xs (k + 1)) (xs (k + 2))) m_X7_part ml_L_18 (Nat.le_of_ble_eq_true rfl) rfl rfl rfl (Nat.le_of_ble_eq_true rfl) dL_law_214 (fun r1_ μ1 h1 => ?_)
  have f1 : FC μ μ1 := by
    rcases h1 with ⟨-, -, m⟩ | ⟨-, -, -, m⟩ | ⟨-, -, -, -, m⟩
    · exact FC.of m
    · exact FC.of m
    · exact fun c hc => m c (by omega)
  have hM1 := hM.fc f1
  refine g_aload_n (pc := 217) (i := 2) dL_law_217 rfl ?_
  refine l_arg (pc := 218) (j := 1) dL_law_218 dL_law_219 dL_law_220 dL_law_221 dL_law_222 (by decide) (by decide) hk hN ?_
  refine l_arg (pc := 223) (j := 2) dL_law_223 dL_law_224 dL_law_225 dL_law_226 dL_law_227 (by decide) (by decide) hk hN ?_
  refine a_cv2i (pc := 228) (c_X8_part v μ1 hM1.1.1 (xs (k + 1)) (xs (k + 2))) m_X8_part ml_L_22 (Nat.le_of_ble_eq_true rfl) rfl rfl rfl (Nat.le_of_ble_eq_true rfl) dL_law_228 (fun r2_ μ2 h2 => ?_)
  obtain ⟨he, hc2⟩ : r1_ = r2_ ∧ CPL μ2 := by
    rcases h1 with ⟨n1, e1, m1⟩ | ⟨o1, f1, e1, m1⟩ | ⟨o1, f1, e1, s1, m1⟩ <;> rcases h2 with ⟨n2, e2, m2⟩ | ⟨o2, f2, e2, m2⟩ | ⟨o2, f2, e2, s2, k2, i2⟩
    · exact ⟨e1.trans e2.symm, by rw [m2, m1]; exact hc⟩
    · exact absurd o2 n1
    · exact absurd o2 n1
    · exact absurd o1 n2
    · exact ⟨e1.trans e2.symm, by rw [m2, m1]; exact hc⟩
    · exact absurd f1 (by omega)
    · exact absurd o1 n2
    · exact absurd f2 (by omega)
    · obtain ⟨w1, w2, w3⟩ := addV_k v (nx (xs (k + 1))) (nx (xs (k + 2)))
      have hru := hX.1.2.2.2.2.1
      have hX1 := hX.sv s1 (by rw [w1]; exact hru) m1
      exact ⟨e1.trans e2.symm, _, vk, im, tc, sz, tb, tn, tp, zs, zn, zi, hX1.fm (fun c hc9 => k2 c (by omega) (by omega) (by omega)), hM1.mv s2 (by rw [w1]; exact hru) (fun c hc9 => k2 c (by omega) (by omega) (by omega)) (fun j hj => i2 j (by omega)), hK.to (by rw [w2]; exact Nat.le_succ _) w3⟩
  exact g_icmp_eq (pc := 231) (tgt := 975) dL_law_231 (by decide) (fun _ => kk μ2 hc2) (fun q => absurd he q)
theorem l_iron {N9 : Nat} {xs : Nat → Int32} {k : Nat} {μ : Mem} (hN : N9 ≤ 3072) (hk : k + 6 ≤ N9) (hc : CPL μ) (kk : ∀ μ2, CPL μ2 → WL N9 xs 0 0 975 (Lk k) [] (mk μ2)) : WL N9 xs 0 0 269 (Lk k) [] (mk μ) := by
  obtain ⟨v, vk, im, tc, sz, tb, tn, tp, zs, zn, zi, hX, hM, hK⟩ := id hc
  refine g_aload_n (pc := 269) (i := 1) dL_law_269 rfl ?_
  refine l_arg (pc := 270) (j := 1) dL_law_270 dL_law_271 dL_law_272 dL_law_273 dL_law_274 (by decide) (by decide) hk hN ?_
  refine a_cv1i (pc := 275) (c_X7_iron v vk tc (QM sz tb) μ hX.1 (xs (k + 1))) m_X7_iron ml_L_27 (Nat.le_of_ble_eq_true rfl) rfl rfl rfl (Nat.le_of_ble_eq_true rfl) dL_law_275 (fun r1_ μ1 h1 => ?_)
  have f1 : FC μ μ1 := by
    rcases h1 with ⟨-, -, m⟩ | ⟨-, -, -, m⟩
    · exact FC.of m
    · exact m.fc
  have hM1 := hM.fc f1
  refine g_aload_n (pc := 278) (i := 2) dL_law_278 rfl ?_
  refine l_arg (pc := 279) (j := 1) dL_law_279 dL_law_280 dL_law_281 dL_law_282 dL_law_283 (by decide) (by decide) hk hN ?_
  refine a_cv1i (pc := 284) (c_X8_iron v tc sz tb μ1 hM1.1 (xs (k + 1))) m_X8_iron ml_L_31 (Nat.le_of_ble_eq_true rfl) rfl rfl rfl (Nat.le_of_ble_eq_true rfl) dL_law_284 (fun r2_ μ2 h2 => ?_)
  obtain ⟨he, hc2⟩ : r1_ = r2_ ∧ CPL μ2 := by
    rcases h1 with ⟨n1, e1, m1⟩ | ⟨o1, e1, s1, m1⟩ <;> rcases h2 with ⟨n2, e2, m2⟩ | ⟨o2, e2, s2, k2, i2⟩
    · exact ⟨e1.trans e2.symm, by rw [m2, m1]; exact hc⟩
    · exact absurd o2 n1
    · exact absurd o1 n2
    · have hru := hX.1.2.2.2.2.1
      obtain ⟨w1, w2, w3⟩ := ironV_k v (stF v (QM sz tb (v 0 2)) 9 [nx (xs (k + 1))] 1)
      have hX1 := hX.ofTN m1 s1 (by rw [w1]; exact hru)
      exact ⟨e1.trans e2.symm, _, vk, im, tc, sz, tb, tn, tp, zs, zn, zi, hX1.fm (fun c hc9 => k2 c (by omega) (by omega) (by omega) (by omega)), hM1.mv s2 (by rw [w1]; exact hru) (fun c hc9 => k2 c (by omega) (by omega) (by omega) (by omega)) (fun j hj => i2 j (by omega)), hK.to (by rw [w2]; exact Nat.le_refl _) (fun p _ => w3 p)⟩
  exact g_icmp_eq (pc := 287) (tgt := 975) dL_law_287 (by decide) (fun _ => kk μ2 hc2) (fun q => absurd he q)
theorem l_feed {N9 : Nat} {xs : Nat → Int32} {k : Nat} {μ : Mem} (hN : N9 ≤ 3072) (hk : k + 6 ≤ N9) (hc : CPL μ) (kk : ∀ μ2, CPL μ2 → WL N9 xs 0 0 975 (Lk k) [] (mk μ2)) : WL N9 xs 0 0 292 (Lk k) [] (mk μ) := by
  obtain ⟨v, vk, im, tc, sz, tb, tn, tp, zs, zn, zi, hX, hM, hK⟩ := id hc
  refine g_aload_n (pc := 292) (i := 1) dL_law_292 rfl ?_
  refine l_arg (pc := 293) (j := 1) dL_law_293 dL_law_294 dL_law_295 dL_law_296 dL_law_297 (by decide) (by decide) hk hN ?_
  refine a_cv1i (pc := 298) (c_X7_feed μ tn tp hX.2.1 (xs (k + 1))) m_X7_feed ml_L_32 (Nat.le_of_ble_eq_true rfl) rfl rfl rfl (Nat.le_of_ble_eq_true rfl) dL_law_298 (fun r1_ μ1 h1 => ?_)
  have f1 : FC μ μ1 := by
    rcases h1 with ⟨-, -, m⟩ | ⟨-, -, -, m⟩ | ⟨-, -, -, m⟩
    · exact FC.of m
    · exact FC.of m
    · rw [m]
      exact fun c hc => (mset_ne (by omega)).trans (mset_ne (by omega))
  have hM1 := hM.fc f1
  refine g_aload_n (pc := 301) (i := 2) dL_law_301 rfl ?_
  refine l_arg (pc := 302) (j := 1) dL_law_302 dL_law_303 dL_law_304 dL_law_305 dL_law_306 (by decide) (by decide) hk hN ?_
  refine a_cv1i (pc := 307) (c_X8_feed μ1 tn tp hM1.2.1 (xs (k + 1))) m_X8_feed ml_L_35 (Nat.le_of_ble_eq_true rfl) rfl rfl rfl (Nat.le_of_ble_eq_true rfl) dL_law_307 (fun r2_ μ2 h2 => ?_)
  obtain ⟨he, hc2⟩ : r1_ = r2_ ∧ CPL μ2 := by
    rcases h1 with ⟨n1, e1, m1⟩ | ⟨o1, t1, e1, m1⟩ | ⟨o1, t1, e1, m1⟩ <;> rcases h2 with ⟨n2, e2, m2⟩ | ⟨o2, t2, e2, m2⟩ | ⟨o2, t2, e2, m2⟩
    · exact ⟨e1.trans e2.symm, by rw [m2, m1]; exact hc⟩
    · exact absurd o2 n1
    · exact absurd o2 n1
    · exact absurd o1 n2
    · exact ⟨e1.trans e2.symm, by rw [m2, m1]; exact hc⟩
    · exact absurd t1 (by omega)
    · exact absurd o1 n2
    · exact absurd t2 (by omega)
    · have c1 : ∀ c, c ≠ 33 → c ≠ 34 → μ1 c = μ c := fun c a b => by rw [m1]; exact (mset_ne b).trans (mset_ne a)
      have c2 : ∀ c, c ≠ 57 → c ≠ 60 → μ2 c = μ1 c := fun c a b => by rw [m2]; exact (mset_ne a).trans (mset_ne b)
      have p1 : TP μ1 (tn + 1) (updN tp tn (nx (xs (k + 1)))) := by
        rw [m1]
        exact hX.2.1.put t1 o1
      have p2 : TPm μ2 (tn + 1) (updN tp tn (nx (xs (k + 1)))) := by
        rw [m2]
        exact hM1.2.1.put t1 o1
      have hX1 : CX μ1 v vk im tc sz tb (tn + 1) (updN tp tn (nx (xs (k + 1)))) zs zn zi := ⟨hX.1.mv (fun c h9 => c1 c (by omega) (by omega)) (congrFun (c1 35 (by omega) (by omega)) 3) (congrFun (c1 46 (by omega) (by omega)) 0), p1, hX.2.2.1.moved (fun c _ _ => c1 c (by omega) (by omega)), (congrFun (c1 0 (by omega) (by omega)) 8).trans hX.2.2.2⟩
      have c57 : ∀ j, j ≠ 6 → μ2 57 j = μ1 57 j := fun j hj => by rw [m2]; exact (mset_nj hj).trans (congrFun (mset_ne (by omega)) j)
      have hM2 : CM μ2 v vk im tc sz tb (tn + 1) (updN tp tn (nx (xs (k + 1)))) zs zn zi := ⟨⟨⟨⟨(c57 7 (by omega)).trans hM1.1.1.1.1, hM1.1.1.1.2⟩, ⟨(c57 8 (by omega)).trans hM1.1.1.2.1.1, hM1.1.1.2.1.2⟩, ⟨(c57 4 (by omega)).trans hM1.1.1.2.2.1.1, hM1.1.1.2.2.1.2⟩, ⟨(c57 11 (by omega)).trans hM1.1.1.2.2.2.1.1, hM1.1.1.2.2.2.1.2⟩, fun p hp => by rw [c2 61 (by omega) (by omega), c2 62 (by omega) (by omega)]; exact hM1.1.1.2.2.2.2 p hp⟩, hM1.1.2.1.moved (c57 3 (by omega)) (c2 58 (by omega) (by omega)) (c2 59 (by omega) (by omega)), hM1.1.2.2⟩, p2, hM1.2.2.1.moved (fun j hj => c57 j (by omega)) (c2 67 (by omega) (by omega)), hM1.2.2.2.moved (fun c _ _ => c2 c (by omega) (by omega))⟩
      exact ⟨e1.trans e2.symm, _, _, _, _, _, _, _, _, _, _, _, hX1.fm (fun c h9 => c2 c (by omega) (by omega)), hM2, hK⟩
  exact g_icmp_eq (pc := 310) (tgt := 975) dL_law_310 (by decide) (fun _ => kk μ2 hc2) (fun q => absurd he q)
theorem l_text {N9 : Nat} {xs : Nat → Int32} {k : Nat} {μ : Mem} (hN : N9 ≤ 3072) (hk : k + 6 ≤ N9) (hc : CPL μ) (kk : ∀ μ2, CPL μ2 → WL N9 xs 0 0 975 (Lk k) [] (mk μ2)) : WL N9 xs 0 0 315 (Lk k) [] (mk μ) := by
  obtain ⟨v, vk, im, tc, sz, tb, tn, tp, zs, zn, zi, hX, hM, hK⟩ := id hc
  refine g_aload_n (pc := 315) (i := 1) dL_law_315 rfl ?_
  refine a_cv0i (pc := 316) (c_X7_text v vk tc (QM sz tb) μ hX.1 tn tp hX.2.1) m_X7_text ml_L_36 (Nat.le_of_ble_eq_true rfl) rfl rfl rfl (Nat.le_of_ble_eq_true rfl) dL_law_316 (fun r1_ μ1 h1 => ?_)
  have f1 : FC μ μ1 := by
    have ht6 := hX.1.2.2.1.2.2
    rcases h1 with ⟨-, -, m⟩ | ⟨t6, ⟨-, -, -, m, -⟩ | ⟨-, -, -, m, -⟩⟩
    · exact FC.of m
    · exact fun c hc => m c (by omega) (by omega) (by omega) (by omega)
    · exact fun c hc => m c (by omega) (by omega) (by omega) (by omega)
  have hM1 := hM.fc f1
  refine g_aload_n (pc := 319) (i := 2) dL_law_319 rfl ?_
  refine a_cv0i (pc := 320) (c_X8_text tc sz tb tn tp μ1 hM1.1.2.1 hM1.2.1) m_X8_text ml_L_40 (Nat.le_of_ble_eq_true rfl) rfl rfl rfl (Nat.le_of_ble_eq_true rfl) dL_law_320 (fun r2_ μ2 h2 => ?_)
  obtain ⟨he, hc2⟩ : r1_ = r2_ ∧ CPL μ2 := by
    have ht6 := hX.1.2.2.1.2.2
    rcases h1 with ⟨t1, e1, m1⟩ | ⟨t1, ⟨o1, e1, x1, m1, z1⟩ | ⟨o1, e1, x1, m1, z1⟩⟩ <;> rcases h2 with ⟨t2, e2, m2⟩ | ⟨t2, k2, z2, ⟨o2, e2, x2, i2⟩ | ⟨o2, e2, x2, i2⟩⟩
    · exact ⟨e1.trans e2.symm, by rw [m2, m1]; exact hc⟩
    · exact absurd t1 (by omega)
    · exact absurd t1 (by omega)
    · exact absurd t2 (by omega)
    · have hp1 : TP μ1 0 tp := ⟨z1, by omega, fun j hj => absurd hj (Nat.not_lt_zero j)⟩
      have hp2 : TPm μ2 0 tp := ⟨z2, by omega, fun j hj => absurd hj (Nat.not_lt_zero j)⟩
      rw [QM_more] at x1
      have hX1 : CX μ1 v vk im (tc + 1) (updN sz tc tn) (updN tb tc tp) 0 tp zs zn zi := ⟨x1, hp1, hX.2.2.1.moved (fun c h9 _ => m1 c (by omega) (by omega) (by omega) (by omega)), (congrFun (m1 0 (by omega) (by omega) (by omega) (by omega)) 8).trans hX.2.2.2⟩
      have hM2 : CM μ2 v vk im (tc + 1) (updN sz tc tn) (updN tb tc tp) 0 tp zs zn zi := ⟨⟨⟨⟨(i2 7 (by omega) (by omega) (by omega)).trans hM1.1.1.1.1, hM1.1.1.1.2⟩, ⟨(i2 8 (by omega) (by omega) (by omega)).trans hM1.1.1.2.1.1, hM1.1.1.2.1.2⟩, ⟨(i2 4 (by omega) (by omega) (by omega)).trans hM1.1.1.2.2.1.1, hM1.1.1.2.2.1.2⟩, ⟨(i2 11 (by omega) (by omega) (by omega)).trans hM1.1.1.2.2.2.1.1, hM1.1.1.2.2.2.1.2⟩, fun p hp => by rw [k2 61 (by omega) (by omega) (by omega), k2 62 (by omega) (by omega) (by omega)]; exact hM1.1.1.2.2.2.2 p hp⟩, x2, Nat.lt_succ_of_lt hM1.1.2.2⟩, hp2, hM1.2.2.1.moved (fun j hj => i2 j (by omega) (by omega) (by omega)) (k2 67 (by omega) (by omega) (by omega)), hM1.2.2.2.moved (fun c _ _ => k2 c (by omega) (by omega) (by omega))⟩
      exact ⟨e1.trans e2.symm, _, _, _, _, _, _, _, _, _, _, _, hX1.fm (fun c h9 => k2 c (by omega) (by omega) (by omega)), hM2, hK⟩
    · exact absurd o1 o2
    · exact absurd t2 (by omega)
    · exact absurd o2 o1
    · have hp1 : TP μ1 0 tp := ⟨z1, by omega, fun j hj => absurd hj (Nat.not_lt_zero j)⟩
      have hp2 : TPm μ2 0 tp := ⟨z2, by omega, fun j hj => absurd hj (Nat.not_lt_zero j)⟩
      have hX1 : CX μ1 v vk im tc sz tb 0 tp zs zn zi := ⟨x1, hp1, hX.2.2.1.moved (fun c h9 _ => m1 c (by omega) (by omega) (by omega) (by omega)), (congrFun (m1 0 (by omega) (by omega) (by omega) (by omega)) 8).trans hX.2.2.2⟩
      have hM2 : CM μ2 v vk im tc sz tb 0 tp zs zn zi := ⟨⟨⟨⟨(i2 7 (by omega) (by omega) (by omega)).trans hM1.1.1.1.1, hM1.1.1.1.2⟩, ⟨(i2 8 (by omega) (by omega) (by omega)).trans hM1.1.1.2.1.1, hM1.1.1.2.1.2⟩, ⟨(i2 4 (by omega) (by omega) (by omega)).trans hM1.1.1.2.2.1.1, hM1.1.1.2.2.1.2⟩, ⟨(i2 11 (by omega) (by omega) (by omega)).trans hM1.1.1.2.2.2.1.1, hM1.1.1.2.2.2.1.2⟩, fun p hp => by rw [k2 61 (by omega) (by omega) (by omega), k2 62 (by omega) (by omega) (by omega)]; exact hM1.1.1.2.2.2.2 p hp⟩, x2, hM1.1.2.2⟩, hp2, hM1.2.2.1.moved (fun j hj => i2 j (by omega) (by omega) (by omega)) (k2 67 (by omega) (by omega) (by omega)), hM1.2.2.2.moved (fun c _ _ => k2 c (by omega) (by omega) (by omega))⟩
      exact ⟨e1.trans e2.symm, _, _, _, _, _, _, _, _, _, _, _, hX1.fm (fun c h9 => k2 c (by omega) (by omega) (by omega)), hM2, hK⟩
  exact g_icmp_eq (pc := 323) (tgt := 975) dL_law_323 (by decide) (fun _ => kk μ2 hc2) (fun q => absurd he q)
theorem l_force {N9 : Nat} {xs : Nat → Int32} {k : Nat} {μ : Mem} (hN : N9 ≤ 3072) (hk : k + 6 ≤ N9) (hc : CPL μ) (kk : ∀ μ2, CPL μ2 → WL N9 xs 0 0 975 (Lk k) [] (mk μ2)) : WL N9 xs 0 0 328 (Lk k) [] (mk μ) := by
  obtain ⟨v, vk, im, tc, sz, tb, tn, tp, zs, zn, zi, hX, hM, hK⟩ := id hc
  refine g_aload_n (pc := 328) (i := 1) dL_law_328 rfl ?_
  refine l_arg (pc := 329) (j := 1) dL_law_329 dL_law_330 dL_law_331 dL_law_332 dL_law_333 (by decide) (by decide) hk hN ?_
  refine a_cv1i (pc := 334) (c_X7_force v vk tc (QM sz tb) μ hX.1 (xs (k + 1))) m_X7_force ml_L_41 (Nat.le_of_ble_eq_true rfl) rfl rfl rfl (Nat.le_of_ble_eq_true rfl) dL_law_334 (fun r1_ μ1 h1 => ?_)
  have f1 : FC μ μ1 := by
    rcases h1 with ⟨-, -, m⟩ | ⟨-, -, m⟩
    · exact FC.of m
    · rw [m]
      exact fun c hc => mset_ne (by omega)
  have hM1 := hM.fc f1
  refine g_aload_n (pc := 337) (i := 2) dL_law_337 rfl ?_
  refine l_arg (pc := 338) (j := 1) dL_law_338 dL_law_339 dL_law_340 dL_law_341 dL_law_342 (by decide) (by decide) hk hN ?_
  refine a_cv1i (pc := 343) (c_X8_force v tc sz tb μ1 hM1.1 (xs (k + 1))) m_X8_force ml_L_44 (Nat.le_of_ble_eq_true rfl) rfl rfl rfl (Nat.le_of_ble_eq_true rfl) dL_law_343 (fun r2_ μ2 h2 => ?_)
  obtain ⟨he, hc2⟩ : r1_ = r2_ ∧ CPL μ2 := by
    rcases h1 with ⟨n1, e1, m1⟩ | ⟨o1, e1, m1⟩ <;> rcases h2 with ⟨n2, e2, m2⟩ | ⟨o2, e2, m2⟩
    · exact ⟨e1.trans e2.symm, by rw [m2, m1]; exact hc⟩
    · exact absurd o2 n1
    · exact absurd o1 n2
    · have htc := hX.1.2.2.1.2.2
      have h5 : nx (xs (k + 1)) ≤ 5 := by omega
      have hs : SV μ1 1 (setV v 10 0 (nx (xs (k + 1)))) := by
        rw [m1]
        exact hX.1.1.setA (w := 10) (p := 0) (Or.inl (Or.inr rfl)) (Nat.le_trans h5 (by decide))
      have hX1 := hX.sv hs o1 (fun c hc9 => by rw [m1]; exact mset_ne (by omega))
      have hq : MVw μ2 (setV v 10 0 (nx (xs (k + 1)))) := by
        rw [m2]
        exact hM1.1.1.lay (j := 6) (a := 0) (by decide) (fun _ h => absurd h (by decide)) (Nat.le_trans h5 (by decide))
      exact ⟨e1.trans e2.symm, _, vk, im, tc, sz, tb, tn, tp, zs, zn, zi, hX1.fm (fun c hc9 => by rw [m2]; exact mset_ne (by omega)), hM1.mv hq o1 (fun c hc9 => by rw [m2]; exact mset_ne (by omega)) (fun j hj => by rw [m2]; exact mset_nj (by omega)), hK.to (Nat.le_refl _) (fun p _ => rfl)⟩
  exact g_icmp_eq (pc := 346) (tgt := 975) dL_law_346 (by decide) (fun _ => kk μ2 hc2) (fun q => absurd he q)
theorem l_film {N9 : Nat} {xs : Nat → Int32} {k : Nat} {μ : Mem} (hN : N9 ≤ 3072) (hk : k + 6 ≤ N9) (hc : CPL μ) (kk : ∀ μ2, CPL μ2 → WL N9 xs 0 0 975 (Lk k) [] (mk μ2)) : WL N9 xs 0 0 601 (Lk k) [] (mk μ) := by
  obtain ⟨v, vk, im, tc, sz, tb, tn, tp, zs, zn, zi, hX, hM, hK⟩ := id hc
  refine g_aload_n (pc := 601) (i := 1) dL_law_601 rfl ?_
  refine l_arg (pc := 602) (j := 1) dL_law_602 dL_law_603 dL_law_604 dL_law_605 dL_law_606 (by decide) (by decide) hk hN ?_
  refine a_cv1i (pc := 607) (c_X7_film v vk tc (QM sz tb) μ hX.1 zs zn zi hX.2.2.1 (xs (k + 1))) m_X7_film ml_L_85 (Nat.le_of_ble_eq_true rfl) rfl rfl rfl (Nat.le_of_ble_eq_true rfl) dL_law_607 (fun r1_ μ1 h1 => ?_)
  have f1 : FC μ μ1 := by
    rcases h1 with ⟨-, -, m⟩ | ⟨-, -, -, g⟩
    · exact FC.of m
    · exact g.fc
  have hM1 := hM.fc f1
  refine g_aload_n (pc := 610) (i := 2) dL_law_610 rfl ?_
  refine l_arg (pc := 611) (j := 1) dL_law_611 dL_law_612 dL_law_613 dL_law_614 dL_law_615 (by decide) (by decide) hk hN ?_
  refine a_cv1i (pc := 616) (c_X8_film v tc sz tb μ1 hM1.1 zs zn zi hM1.2.2.2 (xs (k + 1))) m_X8_film ml_L_88 (Nat.le_of_ble_eq_true rfl) rfl rfl rfl (Nat.le_of_ble_eq_true rfl) dL_law_616 (fun r2_ μ2 h2 => ?_)
  obtain ⟨he, hc2⟩ : r1_ = r2_ ∧ CPL μ2 := by
    rcases h1 with ⟨a1, e1, m1⟩ | ⟨a1, e1, z1, g1⟩ <;> rcases h2 with ⟨a2, e2, m2⟩ | ⟨a2, e2, z2, k2, i2⟩
    · exact ⟨e1.trans e2.symm, by rw [m2, m1]; exact hc⟩
    · exact absurd a2 a1
    · exact absurd a1 a2
    · have hM2 : CM μ2 v vk im tc sz tb tn tp _ _ _ := ⟨hM1.1.moved (fun j hj => i2 j (by omega)) (fun c _ _ => k2 c (by omega) (by omega) (by omega) (by omega)), hM1.2.1.moved (i2 6 (by omega)) (k2 60 (by omega) (by omega) (by omega) (by omega)), hM1.2.2.1.moved (fun j hj => i2 j (by omega)) (k2 67 (by omega) (by omega) (by omega) (by omega)), z2⟩
      exact ⟨e1.trans e2.symm, v, vk, im, tc, sz, tb, tn, tp, _, _, _, (hX.tz z1 g1).fm (fun c hc9 => k2 c (by omega) (by omega) (by omega) (by omega)), hM2, hK⟩
  exact g_icmp_eq (pc := 619) (tgt := 975) dL_law_619 (by decide) (fun _ => kk μ2 hc2) (fun q => absurd he q)
theorem l_image {N9 : Nat} {xs : Nat → Int32} {k : Nat} {μ : Mem} (hN : N9 ≤ 3072) (hk : k + 6 ≤ N9) (hc : CPL μ) (kk : ∀ μ2, CPL μ2 → WL N9 xs 0 0 975 (Lk k) [] (mk μ2)) : WL N9 xs 0 0 691 (Lk k) [] (mk μ) := by
  obtain ⟨v, vk, im, tc, sz, tb, tn, tp, zs, zn, zi, hX, hM, hK⟩ := id hc
  refine g_aload_n (pc := 691) (i := 1) dL_law_691 rfl ?_
  refine a_cv0i (pc := 692) (c_X7_image v vk tc (QM sz tb) μ hX.1) m_X7_image ml_L_98 (Nat.le_of_ble_eq_true rfl) rfl rfl rfl (Nat.le_of_ble_eq_true rfl) dL_law_692 (fun r1_ μ1 h1 => ?_)
  obtain ⟨e1, s1, b1, j1, m1⟩ := h1
  have hM1 := hM.fc (fun c hc9 => m1 c (by omega) (by omega))
  refine g_aload_n (pc := 695) (i := 2) dL_law_695 rfl ?_
  refine a_cv0i (pc := 696) (c_X8_image v tc sz tb μ1 hM1.1) m_X8_image ml_L_101 (Nat.le_of_ble_eq_true rfl) rfl rfl rfl (Nat.le_of_ble_eq_true rfl) dL_law_696 (fun r2_ μ2 h2 => ?_)
  obtain ⟨he, hc2⟩ : r1_ = r2_ ∧ CPL μ2 := by
    obtain ⟨e2, q2, k2, i2⟩ := h2
    have hX1 : CX μ1 v v true tc sz tb tn tp zs zn zi := ⟨⟨hX.1.1.moved (fun c _ _ => m1 c (by omega) (by omega)), s1, ⟨by rw [m1 16 (by omega) (by omega)]; exact hX.1.2.2.1.1, hX.1.2.2.1.2⟩, fun t ht e he => ⟨(hX.1.2.2.2.1 t ht e he).1.moved (m1 _ (by omega) (by omega)) (m1 _ (by omega) (by omega)), (hX.1.2.2.2.1 t ht e he).2⟩, hX.1.2.2.2.2.1, hX.1.2.2.2.2.1, (congrFun (m1 35 (by omega) (by omega)) 3).trans hX.1.2.2.2.2.2.2.1, (congrFun (m1 46 (by omega) (by omega)) 0).trans hX.1.2.2.2.2.2.2.2⟩, hX.2.1.moved (m1 33 (by omega) (by omega)) (m1 34 (by omega) (by omega)), hX.2.2.1.moved (fun c _ _ => m1 c (by omega) (by omega)), b1⟩
    have hM2 : CM μ2 v v true tc sz tb tn tp zs zn zi := ⟨hM1.1.moved (fun j hj => i2 j (by omega)) (fun c _ _ => k2 c (by omega) (by omega)), hM1.2.1.moved (i2 6 (by omega)) (k2 60 (by omega) (by omega)), q2, hM1.2.2.2.moved (fun c _ _ => k2 c (by omega) (by omega))⟩
    exact ⟨e1.trans e2.symm, _, _, _, _, _, _, _, _, _, _, _, hX1.fm (fun c h9 => k2 c (by omega) (by omega)), hM2, CK.rf⟩
  exact g_icmp_eq (pc := 699) (tgt := 975) dL_law_699 (by decide) (fun _ => kk μ2 hc2) (fun q => absurd he q)
theorem l_back {N9 : Nat} {xs : Nat → Int32} {k : Nat} {μ : Mem} (hN : N9 ≤ 3072) (hk : k + 6 ≤ N9) (hc : CPL μ) (kk : ∀ μ2, CPL μ2 → WL N9 xs 0 0 975 (Lk k) [] (mk μ2)) : WL N9 xs 0 0 704 (Lk k) [] (mk μ) := by
  obtain ⟨v, vk, im, tc, sz, tb, tn, tp, zs, zn, zi, hX, hM, hK⟩ := id hc
  refine g_aload_n (pc := 704) (i := 1) dL_law_704 rfl ?_
  refine a_cv0i (pc := 705) (c_X7_back v vk tc (QM sz tb) μ hX.1 im hX.2.2.2) m_X7_back ml_L_102 (Nat.le_of_ble_eq_true rfl) rfl rfl rfl (Nat.le_of_ble_eq_true rfl) dL_law_705 (fun r1_ μ1 h1 => ?_)
  have f1 : FC μ μ1 := by
    rcases h1 with ⟨-, -, m⟩ | ⟨-, -, -, m⟩
    · exact FC.of m
    · exact fun c hc => m c (by omega)
  have hM1 := hM.fc f1
  refine g_aload_n (pc := 708) (i := 2) dL_law_708 rfl ?_
  refine a_cv0i (pc := 709) (c_X8_back vk im μ1 hM1.2.2.1 hX.1.2.1.vb hX.1.2.1.1.2 hX.1.2.1.2.1.2 hX.1.2.1.2.2.1.2 (fun p hp => by rw [← hK.2 p hp]; exact (hM1.1.1.2.2.2.2 p (Nat.lt_of_lt_of_le hp hK.1)).1.1)) m_X8_back ml_L_105 (Nat.le_of_ble_eq_true rfl) rfl rfl rfl (Nat.le_of_ble_eq_true rfl) dL_law_709 (fun r2_ μ2 h2 => ?_)
  obtain ⟨he, hc2⟩ : r1_ = r2_ ∧ CPL μ2 := by
    rcases h1 with ⟨n1, e1, m1⟩ | ⟨o1, e1, s1, m1⟩ <;> rcases h2 with ⟨n2, e2, m2⟩ | ⟨o2, e2, s2, k2, i2⟩
    · exact ⟨e1.trans e2.symm, by rw [m2, m1]; exact hc⟩
    · exact absurd (n1.symm.trans o2) (by decide)
    · exact absurd (n2.symm.trans o1) (by decide)
    · have hrk := hX.1.2.2.2.2.2.1
      have hX1 := hX.sv s1 hrk m1
      exact ⟨e1.trans e2.symm, _, vk, im, tc, sz, tb, tn, tp, zs, zn, zi, hX1.fm (fun c hc9 => k2 c (by omega) (by omega)), hM1.mv s2 hrk (fun c hc9 => k2 c (by omega) (by omega)) (fun j hj => i2 j (by omega) (by omega) (by omega) (by omega)), CK.rf⟩
  exact g_icmp_eq (pc := 712) (tgt := 975) dL_law_712 (by decide) (fun _ => kk μ2 hc2) (fun q => absurd he q)
theorem l_sheet {N9 : Nat} {xs : Nat → Int32} {k : Nat} {μ : Mem} (hN : N9 ≤ 3072) (hk : k + 6 ≤ N9) (hc : CPL μ) (kk : ∀ μ2, CPL μ2 → WL N9 xs 0 0 975 (Lk k) [] (mk μ2)) : WL N9 xs 0 0 740 (Lk k) [] (mk μ) := by
  obtain ⟨v, vk, im, tc, sz, tb, tn, tp, zs, zn, zi, hX, hM, hK⟩ := id hc
  refine g_aload_n (pc := 740) (i := 1) dL_law_740 rfl ?_
  refine l_arg (pc := 741) (j := 1) dL_law_741 dL_law_742 dL_law_743 dL_law_744 dL_law_745 (by decide) (by decide) hk hN ?_
  refine l_arg (pc := 746) (j := 2) dL_law_746 dL_law_747 dL_law_748 dL_law_749 dL_law_750 (by decide) (by decide) hk hN ?_
  refine l_arg (pc := 751) (j := 3) dL_law_751 dL_law_752 dL_law_753 dL_law_754 dL_law_755 (by decide) (by decide) hk hN ?_
  refine a_cv3i (pc := 756) (c_X7_sheet μ zs zn zi hX.2.2.1 (xs (k + 1)) (xs (k + 2)) (xs (k + 3))) m_X7_sheet ml_L_110 (Nat.le_of_ble_eq_true rfl) rfl rfl rfl (Nat.le_of_ble_eq_true rfl) dL_law_756 (fun r1_ μ1 h1 => ?_)
  have f1 : FC μ μ1 := by
    rcases h1 with ⟨-, -, m⟩ | ⟨-, -, -, -, g⟩ | ⟨-, -, ⟨-, -, -, m⟩ | ⟨-, -, m⟩ | ⟨-, -, -, g⟩⟩
    · exact FC.of m
    · exact g.fc
    · exact FC.of m
    · exact FC.of m
    · exact g.fc
  have hM1 := hM.fc f1
  refine g_aload_n (pc := 759) (i := 2) dL_law_759 rfl ?_
  refine l_arg (pc := 760) (j := 1) dL_law_760 dL_law_761 dL_law_762 dL_law_763 dL_law_764 (by decide) (by decide) hk hN ?_
  refine l_arg (pc := 765) (j := 2) dL_law_765 dL_law_766 dL_law_767 dL_law_768 dL_law_769 (by decide) (by decide) hk hN ?_
  refine l_arg (pc := 770) (j := 3) dL_law_770 dL_law_771 dL_law_772 dL_law_773 dL_law_774 (by decide) (by decide) hk hN ?_
  refine a_cv3i (pc := 775) (c_X8_sheet zs zn zi μ1 hM1.2.2.2 (xs (k + 1)) (xs (k + 2)) (xs (k + 3))) m_X8_sheet ml_L_113 (Nat.le_of_ble_eq_true rfl) rfl rfl rfl (Nat.le_of_ble_eq_true rfl) dL_law_775 (fun r2_ μ2 h2 => ?_)
  obtain ⟨he, hc2⟩ : r1_ = r2_ ∧ CPL μ2 := by
    rcases h1 with ⟨n1, e1, m1⟩ | ⟨a1, b1, e1, z1, g1⟩ | ⟨a1, b1, ⟨c1, d1, e1, m1⟩ | ⟨c1, e1, m1⟩ | ⟨c1, e1, z1, g1⟩⟩ <;> rcases h2 with ⟨n2, e2, m2⟩ | ⟨a2, b2, e2, z2, g2⟩ | ⟨a2, b2, ⟨c2, d2, e2, m2⟩ | ⟨c2, e2, m2⟩ | ⟨c2, e2, z2, g2⟩⟩
    · exact ⟨e1.trans e2.symm, by rw [m2, m1]; exact hc⟩
    · exact absurd ⟨a2, Or.inl b2⟩ n1
    · exact absurd ⟨a2, Or.inr b2⟩ n1
    · exact absurd ⟨a2, Or.inr b2⟩ n1
    · exact absurd ⟨a2, Or.inr b2⟩ n1
    · exact absurd ⟨a1, Or.inl b1⟩ n2
    · exact ⟨e1.trans e2.symm, v, vk, im, tc, sz, tb, tn, tp, _, _, _, (hX.tz z1 g1).fm g2.fm, hM1.sfm z2 g2, hK⟩
    · exact absurd b2 (by rw [b1]; decide)
    · exact absurd b2 (by rw [b1]; decide)
    · exact absurd b2 (by rw [b1]; decide)
    · exact absurd ⟨a1, Or.inr b1⟩ n2
    · exact absurd b1 (by rw [b2]; decide)
    · exact ⟨e1.trans e2.symm, by rw [m2, m1]; exact hc⟩
    · exact absurd c2 c1
    · exact absurd d1 (by omega)
    · exact absurd ⟨a1, Or.inr b1⟩ n2
    · exact absurd b1 (by rw [b2]; decide)
    · exact absurd c1 c2
    · exact ⟨e1.trans e2.symm, by rw [m2, m1]; exact hc⟩
    · exact absurd c2 (by rw [nx_neg c1]; decide)
    · exact absurd ⟨a1, Or.inr b1⟩ n2
    · exact absurd b1 (by rw [b2]; decide)
    · exact absurd d2 (by omega)
    · exact absurd c1 (by rw [nx_neg c2]; decide)
    · exact ⟨e1.trans e2.symm, v, vk, im, tc, sz, tb, tn, tp, _, _, _, (hX.tz z1 g1).fm g2.fm, hM1.sfm z2 g2, hK⟩
  exact g_icmp_eq (pc := 778) (tgt := 975) dL_law_778 (by decide) (fun _ => kk μ2 hc2) (fun q => absurd he q)
theorem l_cell {N9 : Nat} {xs : Nat → Int32} {k : Nat} {μ : Mem} (hN : N9 ≤ 3072) (hk : k + 6 ≤ N9) (hc : CPL μ) (kk : ∀ μ2, CPL μ2 → WL N9 xs 0 0 975 (Lk k) [] (mk μ2)) : WL N9 xs 0 0 783 (Lk k) [] (mk μ) := by
  obtain ⟨v, vk, im, tc, sz, tb, tn, tp, zs, zn, zi, hX, hM, hK⟩ := id hc
  refine g_aload_n (pc := 783) (i := 1) dL_law_783 rfl ?_
  refine l_arg (pc := 784) (j := 1) dL_law_784 dL_law_785 dL_law_786 dL_law_787 dL_law_788 (by decide) (by decide) hk hN ?_
  refine l_arg (pc := 789) (j := 2) dL_law_789 dL_law_790 dL_law_791 dL_law_792 dL_law_793 (by decide) (by decide) hk hN ?_
  refine l_arg (pc := 794) (j := 3) dL_law_794 dL_law_795 dL_law_796 dL_law_797 dL_law_798 (by decide) (by decide) hk hN ?_
  refine a_cv3i (pc := 799) (c_X7_cell μ zs zn zi hX.2.2.1 (xs (k + 1)) (xs (k + 2)) (xs (k + 3))) m_X7_cell ml_L_114 (Nat.le_of_ble_eq_true rfl) rfl rfl rfl (Nat.le_of_ble_eq_true rfl) dL_law_799 (fun r1_ μ1 h1 => ?_)
  have f1 : FC μ μ1 := by
    rcases h1 with ⟨-, -, m⟩ | ⟨-, -, -, m⟩ | ⟨-, -, -, -, m⟩ | ⟨-, -, -, -, -, g⟩
    · exact FC.of m
    · exact FC.of m
    · exact FC.of m
    · exact g.fc
  have hM1 := hM.fc f1
  refine g_aload_n (pc := 802) (i := 2) dL_law_802 rfl ?_
  refine l_arg (pc := 803) (j := 1) dL_law_803 dL_law_804 dL_law_805 dL_law_806 dL_law_807 (by decide) (by decide) hk hN ?_
  refine l_arg (pc := 808) (j := 2) dL_law_808 dL_law_809 dL_law_810 dL_law_811 dL_law_812 (by decide) (by decide) hk hN ?_
  refine l_arg (pc := 813) (j := 3) dL_law_813 dL_law_814 dL_law_815 dL_law_816 dL_law_817 (by decide) (by decide) hk hN ?_
  refine a_cv3i (pc := 818) (c_X8_cell zs zn zi μ1 hM1.2.2.2 (xs (k + 1)) (xs (k + 2)) (xs (k + 3))) m_X8_cell ml_L_117 (Nat.le_of_ble_eq_true rfl) rfl rfl rfl (Nat.le_of_ble_eq_true rfl) dL_law_818 (fun r2_ μ2 h2 => ?_)
  obtain ⟨he, hc2⟩ : r1_ = r2_ ∧ CPL μ2 := by
    rcases h1 with ⟨a1, e1, m1⟩ | ⟨a1, b1, e1, m1⟩ | ⟨a1, b1, c1, e1, m1⟩ | ⟨a1, b1, c1, e1, z1, g1⟩ <;> rcases h2 with ⟨a2, e2, m2⟩ | ⟨a2, b2, e2, m2⟩ | ⟨a2, b2, c2, e2, m2⟩ | ⟨a2, b2, c2, e2, z2, g2⟩
    · exact ⟨e1.trans e2.symm, by rw [m2, m1]; exact hc⟩
    · exact absurd a2 a1
    · exact absurd a2 a1
    · exact absurd a2 a1
    · exact absurd a1 a2
    · exact ⟨e1.trans e2.symm, by rw [m2, m1]; exact hc⟩
    · exact absurd b1 b2
    · exact absurd b1 b2
    · exact absurd a1 a2
    · exact absurd b2 b1
    · exact ⟨e1.trans e2.symm, by rw [m2, m1]; exact hc⟩
    · exact absurd c2 c1
    · exact absurd a1 a2
    · exact absurd b2 b1
    · exact absurd c1 c2
    · exact ⟨e1.trans e2.symm, v, vk, im, tc, sz, tb, tn, tp, _, _, _, (hX.tz z1 g1).fm g2.fm, hM1.sfm z2 g2, hK⟩
  exact g_icmp_eq (pc := 821) (tgt := 975) dL_law_821 (by decide) (fun _ => kk μ2 hc2) (fun q => absurd he q)
theorem l_copy {N9 : Nat} {xs : Nat → Int32} {k : Nat} {μ : Mem} (hN : N9 ≤ 3072) (hk : k + 6 ≤ N9) (hc : CPL μ) (kk : ∀ μ2, CPL μ2 → WL N9 xs 0 0 975 (Lk k) [] (mk μ2)) : WL N9 xs 0 0 826 (Lk k) [] (mk μ) := by
  obtain ⟨v, vk, im, tc, sz, tb, tn, tp, zs, zn, zi, hX, hM, hK⟩ := id hc
  refine g_aload_n (pc := 826) (i := 1) dL_law_826 rfl ?_
  refine l_arg (pc := 827) (j := 1) dL_law_827 dL_law_828 dL_law_829 dL_law_830 dL_law_831 (by decide) (by decide) hk hN ?_
  refine l_arg (pc := 832) (j := 2) dL_law_832 dL_law_833 dL_law_834 dL_law_835 dL_law_836 (by decide) (by decide) hk hN ?_
  refine l_arg (pc := 837) (j := 3) dL_law_837 dL_law_838 dL_law_839 dL_law_840 dL_law_841 (by decide) (by decide) hk hN ?_
  refine l_arg (pc := 842) (j := 4) dL_law_842 dL_law_843 dL_law_844 dL_law_845 dL_law_846 (by decide) (by decide) hk hN ?_
  refine l_arg (pc := 847) (j := 5) dL_law_847 dL_law_848 dL_law_849 dL_law_850 dL_law_851 (by decide) (by decide) hk hN ?_
  refine a_cv5i (pc := 852) (c_X7_copy μ zs zn zi hX.2.2.1 (xs (k + 1)) (xs (k + 2)) (xs (k + 3)) (xs (k + 4)) (xs (k + 5))) m_X7_copy ml_L_118 (Nat.le_of_ble_eq_true rfl) rfl rfl rfl (Nat.le_of_ble_eq_true rfl) dL_law_852 (fun r1_ μ1 h1 => ?_)
  have f1 : FC μ μ1 := by
    rcases h1 with ⟨-, -, m⟩ | ⟨-, -, -, m⟩ | ⟨-, -, -, -, m⟩ | ⟨-, -, -, -, -, m⟩ | ⟨-, -, -, -, -, -, g⟩
    · exact FC.of m
    · exact FC.of m
    · exact FC.of m
    · exact FC.of m
    · exact g.fc
  have hM1 := hM.fc f1
  refine g_aload_n (pc := 855) (i := 2) dL_law_855 rfl ?_
  refine l_arg (pc := 856) (j := 1) dL_law_856 dL_law_857 dL_law_858 dL_law_859 dL_law_860 (by decide) (by decide) hk hN ?_
  refine l_arg (pc := 861) (j := 2) dL_law_861 dL_law_862 dL_law_863 dL_law_864 dL_law_865 (by decide) (by decide) hk hN ?_
  refine l_arg (pc := 866) (j := 3) dL_law_866 dL_law_867 dL_law_868 dL_law_869 dL_law_870 (by decide) (by decide) hk hN ?_
  refine l_arg (pc := 871) (j := 4) dL_law_871 dL_law_872 dL_law_873 dL_law_874 dL_law_875 (by decide) (by decide) hk hN ?_
  refine l_arg (pc := 876) (j := 5) dL_law_876 dL_law_877 dL_law_878 dL_law_879 dL_law_880 (by decide) (by decide) hk hN ?_
  refine a_cv5i (pc := 881) (c_X8_copy zs zn zi μ1 hM1.2.2.2 (xs (k + 1)) (xs (k + 2)) (xs (k + 3)) (xs (k + 4)) (xs (k + 5))) m_X8_copy ml_L_122 (Nat.le_of_ble_eq_true rfl) rfl rfl rfl (Nat.le_of_ble_eq_true rfl) dL_law_881 (fun r2_ μ2 h2 => ?_)
  obtain ⟨he, hc2⟩ : r1_ = r2_ ∧ CPL μ2 := by
    rcases h1 with ⟨a1, e1, m1⟩ | ⟨a1, b1, e1, m1⟩ | ⟨a1, b1, c1, e1, m1⟩ | ⟨a1, b1, c1, d1, e1, m1⟩ | ⟨a1, b1, c1, d1, e1, z1, g1⟩ <;> rcases h2 with ⟨a2, e2, m2⟩ | ⟨a2, b2, e2, m2⟩ | ⟨a2, b2, c2, e2, m2⟩ | ⟨a2, b2, c2, d2, e2, m2⟩ | ⟨a2, b2, c2, d2, e2, z2, g2⟩
    · exact ⟨e1.trans e2.symm, by rw [m2, m1]; exact hc⟩
    · exact absurd a2 a1
    · exact absurd a2 a1
    · exact absurd a2 a1
    · exact absurd a2 a1
    · exact absurd a1 a2
    · exact ⟨e1.trans e2.symm, by rw [m2, m1]; exact hc⟩
    · exact absurd b1 b2
    · exact absurd b1 b2
    · exact absurd b1 b2
    · exact absurd a1 a2
    · exact absurd b2 b1
    · exact ⟨e1.trans e2.symm, by rw [m2, m1]; exact hc⟩
    · exact absurd c2 c1
    · exact absurd c2 c1
    · exact absurd a1 a2
    · exact absurd b2 b1
    · exact absurd c1 c2
    · exact ⟨e1.trans e2.symm, by rw [m2, m1]; exact hc⟩
    · exact absurd d2 d1
    · exact absurd a1 a2
    · exact absurd b2 b1
    · exact absurd c1 c2
    · exact absurd d1 d2
    · exact ⟨e1.trans e2.symm, v, vk, im, tc, sz, tb, tn, tp, _, _, _, (hX.tz z1 g1).fm g2.fm, hM1.sfm z2 g2, hK⟩
  exact g_icmp_eq (pc := 884) (tgt := 975) dL_law_884 (by decide) (fun _ => kk μ2 hc2) (fun q => absurd he q)
theorem l_parts {N9 : Nat} {xs : Nat → Int32} {k : Nat} {μ : Mem} (hN : N9 ≤ 3072) (hk : k + 6 ≤ N9) (hc : CPL μ) (kk : ∀ μ2, CPL μ2 → WL N9 xs 0 0 975 (Lk k) [] (mk μ2)) : WL N9 xs 0 0 889 (Lk k) [] (mk μ) := by
  obtain ⟨v, vk, im, tc, sz, tb, tn, tp, zs, zn, zi, hX, hM, hK⟩ := id hc
  refine g_aload_n (pc := 889) (i := 1) dL_law_889 rfl ?_
  refine l_arg (pc := 890) (j := 1) dL_law_890 dL_law_891 dL_law_892 dL_law_893 dL_law_894 (by decide) (by decide) hk hN ?_
  refine l_arg (pc := 895) (j := 2) dL_law_895 dL_law_896 dL_law_897 dL_law_898 dL_law_899 (by decide) (by decide) hk hN ?_
  refine l_arg (pc := 900) (j := 3) dL_law_900 dL_law_901 dL_law_902 dL_law_903 dL_law_904 (by decide) (by decide) hk hN ?_
  refine l_arg (pc := 905) (j := 4) dL_law_905 dL_law_906 dL_law_907 dL_law_908 dL_law_909 (by decide) (by decide) hk hN ?_
  refine a_cv4i (pc := 910) (c_X7_parts v μ hX.1.1 zs zn zi hX.2.2.1 (xs (k + 1)) (xs (k + 2)) (xs (k + 3)) (xs (k + 4))) m_X7_parts ml_L_123 (Nat.le_of_ble_eq_true rfl) rfl rfl rfl (Nat.le_of_ble_eq_true rfl) dL_law_910 (fun r1_ μ1 h1 => ?_)
  have f1 : FC μ μ1 := by
    rcases h1 with ⟨-, -, m⟩ | ⟨-, -, -, m⟩ | ⟨-, -, -, -, m⟩ | ⟨-, -, -, i, -, -, m, -⟩
    · exact FC.of m
    · exact FC.of m
    · exact FC.of m
    · exact fun c hc => m c (by omega)
  have hM1 := hM.fc f1
  refine g_aload_n (pc := 913) (i := 2) dL_law_913 rfl ?_
  refine l_arg (pc := 914) (j := 1) dL_law_914 dL_law_915 dL_law_916 dL_law_917 dL_law_918 (by decide) (by decide) hk hN ?_
  refine l_arg (pc := 919) (j := 2) dL_law_919 dL_law_920 dL_law_921 dL_law_922 dL_law_923 (by decide) (by decide) hk hN ?_
  refine l_arg (pc := 924) (j := 3) dL_law_924 dL_law_925 dL_law_926 dL_law_927 dL_law_928 (by decide) (by decide) hk hN ?_
  refine l_arg (pc := 929) (j := 4) dL_law_929 dL_law_930 dL_law_931 dL_law_932 dL_law_933 (by decide) (by decide) hk hN ?_
  refine a_cv4i (pc := 934) (c_X8_parts v zs zn zi μ1 hM1.2.2.2 hM1.1.1 (xs (k + 1)) (xs (k + 2)) (xs (k + 3)) (xs (k + 4))) m_X8_parts ml_L_127 (Nat.le_of_ble_eq_true rfl) rfl rfl rfl (Nat.le_of_ble_eq_true rfl) dL_law_934 (fun r2_ μ2 h2 => ?_)
  obtain ⟨he, hc2⟩ : r1_ = r2_ ∧ CPL μ2 := by
    rcases h1 with ⟨a1, e1, m1⟩ | ⟨a1, b1, e1, m1⟩ | ⟨a1, b1, c1, e1, m1⟩ | ⟨a1, b1, c1, d1⟩ <;> rcases h2 with ⟨a2, e2, m2⟩ | ⟨a2, b2, e2, m2⟩ | ⟨a2, b2, c2, e2, m2⟩ | ⟨a2, b2, c2, d2⟩
    · exact ⟨e1.trans e2.symm, by rw [m2, m1]; exact hc⟩
    · exact absurd a2 a1
    · exact absurd a2 a1
    · exact absurd a2 a1
    · exact absurd a1 a2
    · exact ⟨e1.trans e2.symm, by rw [m2, m1]; exact hc⟩
    · exact absurd b1 b2
    · exact absurd b1 b2
    · exact absurd a1 a2
    · exact absurd b2 b1
    · exact ⟨e1.trans e2.symm, by rw [m2, m1]; exact hc⟩
    · exact absurd c2 c1
    · exact absurd a1 a2
    · exact absurd b2 b1
    · exact absurd c1 c2
    · obtain ⟨i1, l1, s1, m1, r1, f1⟩ := d1
      obtain ⟨i2, l2, s2, k2, j2, r2, f2⟩ := d2
      have hi : i1 = i2 := by
        rcases Nat.lt_trichotomy i1 i2 with q | q | q
        · rcases f1 with ⟨f1, -⟩ | ⟨-, f1, -⟩
          · omega
          · exact absurd (r2 i1 q) f1
        · exact q
        · rcases f2 with ⟨f2, -⟩ | ⟨-, f2, -⟩
          · omega
          · exact absurd (r1 i2 q) f2
      subst hi
      have he : r1_ = r2_ := by
        rcases f1 with ⟨u1, f1⟩ | ⟨u1, -, f1⟩ <;> rcases f2 with ⟨u2, f2⟩ | ⟨u2, -, f2⟩
        · exact f1.trans f2.symm
        · omega
        · omega
        · exact f1.trans f2.symm
      obtain ⟨w1, w2, w3⟩ := paS_k v (zi (nx (xs (k + 1)))) (nx (xs (k + 3))) i1
      have hru := hX.1.2.2.2.2.1
      have hX1 := hX.sv s1 (by rw [w1]; exact hru) m1
      exact ⟨he, _, vk, im, tc, sz, tb, tn, tp, zs, zn, zi, hX1.fm (fun c hc9 => k2 c (by omega) (by omega) (by omega)), hM1.mv s2 (by rw [w1]; exact hru) (fun c hc9 => k2 c (by omega) (by omega) (by omega)) (fun j hj => j2 j (by omega)), hK.to w2 w3⟩
  exact g_icmp_eq (pc := 937) (tgt := 975) dL_law_937 (by decide) (fun _ => kk μ2 hc2) (fun q => absurd he q)
