theorem lg_cmp_0 {x : Int64} : lg_cmp x x = 0 := by simp [lg_cmp]
theorem nI_j {a b : Nat} (h : nI a = nI b) (ha : a < 2 ^ 31) (hb : b < 2 ^ 31) : a = b := by
  have e2 := congrArg Int32.toNatClampNeg h
  rwa [nI_clamp ha, nI_clamp hb] at e2
theorem rho_j {L : Nat} {ρ : Nat → Nat} (hinj : ∀ p q, p < q → q < L → ρ p ≠ ρ q) {p q : Nat} (hp : p < L) (hq : q < L) (h : ρ p = ρ q) : p = q := by
  rcases Nat.lt_trichotomy p q with z | z | z
  · exact absurd h (hinj p q z hq)
  · exact z
  · exact absurd h.symm (hinj q p z hp)

set_option maxRecDepth 100000 in
set_option maxHeartbeats 4000000 in
theorem k_owner {Γ : mC} {κ : mKp} {Q : State → Prop} (h : mOk Γ κ RL cL_law 9 (Option.some Jvm.ClassFile.FieldType.boolean) { frames := 13, cells := 771262, slots := 6782320, locals := 468 }) (hT : mOkN Γ) (hst : κ.1.stackTraces = false) {bs Ls : Nat} {xs : Nat → Int32} (hX : mScr Γ bs Ls xs) (hLs : Ls < 2 ^ 31) {i : Nat} (hi : i + 5 ≤ Ls) {b cn kc ks n : Nat} {sh : mSh} {P : mPt} {D : mDt} {E : mEt} (hI : lI b cn n sh P D) (hcn : cn ≤ 599) (hkc : kc + 1400 ≤ 771262) (hks : ks + 10600 ≤ 6782320) (kk : ∀ n2 sh2 P2 D2 E2, lI b (cn + 1) n2 sh2 P2 D2 → mV Γ Q (kc + 1400) (ks + 10600) n2 sh2 P2 D2 E2 [(0, .ref bs), (1, .ref b), (2, .ref (b + 61)), (3, .ref (b + 94)), (4, .int (nI i))] [] 1711) : mV Γ Q kc ks n sh P D E [(0, .ref bs), (1, .ref b), (2, .ref (b + 61)), (3, .ref (b + 94)), (4, .int (nI i))] [] 144 := by
  obtain ⟨L, e, ρ, m, k, dd, lo, hJ⟩ := hI
  obtain ⟨hs, hL, hG, hN2, hN3, hS⟩ := id hJ
  have hcI := hG.1
  have hB := hs.1
  refine V_aload_n h 145 1 rfl dL_law_144 rfl ?_
  refine V_aload_n h 146 0 rfl dL_law_145 rfl ?_
  refine V_iload h 148 4 rfl dL_law_146 rfl ?_
  refine V_iconst h 149 (v := 1) (by decide) dL_law_148 rfl ?_
  refine V_iadd h 150 dL_law_149 rfl ?_
  refine V_sld h hX 151 (i + 1) (nI_add (a := i) (b := 1)) (by omega) hLs dL_law_150 rfl ?_
  refine V_aload_n h 152 0 rfl dL_law_151 rfl ?_
  refine V_iload h 154 4 rfl dL_law_152 rfl ?_
  refine V_iconst h 155 (v := 2) (by decide) dL_law_154 rfl ?_
  refine V_iadd h 156 dL_law_155 rfl ?_
  refine V_sld h hX 157 (i + 2) (nI_add (a := i) (b := 2)) (by omega) hLs dL_law_156 rfl ?_
  refine V_aload_n h 158 0 rfl dL_law_157 rfl ?_
  refine V_iload h 160 4 rfl dL_law_158 rfl ?_
  refine V_iconst h 161 (v := 3) (by decide) dL_law_160 rfl ?_
  refine V_iadd h 162 dL_law_161 rfl ?_
  refine V_sld h hX 163 (i + 3) (nI_add (a := i) (b := 3)) (by omega) hLs dL_law_162 rfl ?_
  refine V_aload_n h 164 0 rfl dL_law_163 rfl ?_
  refine V_iload h 166 4 rfl dL_law_164 rfl ?_
  refine V_iconst h 167 (v := 4) (by decide) dL_law_166 rfl ?_
  refine V_iadd h 168 dL_law_167 rfl ?_
  refine V_sld h hX 169 (i + 4) (nI_add (a := i) (b := 4)) (by omega) hLs dL_law_168 rfl ?_
  refine V_aload_n h 170 3 rfl dL_law_169 rfl ?_
  refine V_callSW h hT 173 (As := [.ref b, .int (xs (i + 1)), .int (xs (i + 2)), .int (xs (i + 3)), .int (xs (i + 4)), .ref (b + 94)]) (st := []) (l_owner hB.1 hs.2.2.2.1 (xs (i + 1)) (xs (i + 2)) (xs (i + 3)) (xs (i + 4)) (c_owner hst hB hcI (xs (i + 1)) (xs (i + 2)) (xs (i + 3)) (xs (i + 4))) Kx_AS) qL_L_86 qT_L_owner qZ_L qW_L_owner hd_L_owner ⟨Nat.le_of_ble_eq_true rfl, Nat.le_of_ble_eq_true rfl⟩ (Nat.le_of_ble_eq_true rfl) rfl rfl dL_law_170 ⟨by show kc + 2 ≤ 771262; omega, by show ks + 12 ≤ 6782320; omega⟩ (fun v1 n1 S1 P1 D1 E1 hq1 => ?_)
  obtain ⟨hn1, q2, q3, kd, q5, hA⟩ := hq1
  rw [q2, q3, q5]
  dsimp only at hA
  have hs1 := lSt_up hs hn1
  have h95 := hs1.2.2.2.2
  have fr : fR b D D1 := by
    rcases hA with ⟨-, r, hr, -⟩ | ⟨X, -, -, q, -⟩
    · rw [hr.2.2.2]; exact fR_addD hr.2.1.1
    · rw [q]; exact fR_rfl
  have hS1 := lJ_mid hJ (D1 := D1) (fun a ha => fr a (Or.inr (by omega)))
  refine V_istore h 175 [(5, .int kd), (0, .ref bs), (1, .ref b), (2, .ref (b + 61)), (3, .ref (b + 94)), (4, .int (nI i))] (by decide) rfl dL_law_173 rfl ?_
  refine V_aload_n h 176 3 rfl dL_law_175 rfl ?_
  refine V_aload_n h 177 1 rfl dL_law_176 rfl ?_
  refine V_iload h 179 5 rfl dL_law_177 rfl ?_
  refine V_iconst h 180 (v := 1) (by decide) dL_law_179 rfl ?_
  refine V_iadd h 181 dL_law_180 rfl ?_
  refine V_sld h hX 182 (i + 1) (nI_add (a := i) (b := 1)) (by omega) hLs dL_law_181 rfl ?_
  refine V_aload_n h 183 1 rfl dL_law_182 rfl ?_
  refine V_iload h 185 5 rfl dL_law_183 rfl ?_
  refine V_iconst h 186 (v := 2) (by decide) dL_law_185 rfl ?_
  refine V_iadd h 187 dL_law_186 rfl ?_
  refine V_sld h hX 188 (i + 2) (nI_add (a := i) (b := 2)) (by omega) hLs dL_law_187 rfl ?_
  refine V_aload_n h 189 1 rfl dL_law_188 rfl ?_
  refine V_iload h 191 5 rfl dL_law_189 rfl ?_
  refine V_iconst h 192 (v := 3) (by decide) dL_law_191 rfl ?_
  refine V_iadd h 193 dL_law_192 rfl ?_
  refine V_sld h hX 194 (i + 3) (nI_add (a := i) (b := 3)) (by omega) hLs dL_law_193 rfl ?_
  refine V_aload_n h 195 1 rfl dL_law_194 rfl ?_
  refine V_iload h 197 5 rfl dL_law_195 rfl ?_
  refine V_iconst h 198 (v := 4) (by decide) dL_law_197 rfl ?_
  refine V_iadd h 199 dL_law_198 rfl ?_
  refine V_sld h hX 200 (i + 4) (nI_add (a := i) (b := 4)) (by omega) hLs dL_law_199 rfl ?_
  refine V_callV h 203 (rm := { frames := 1, cells := 1, slots := 12, locals := 48 }) (As := [.int (xs (i + 1)), .int (xs (i + 2)), .int (xs (i + 3)), .int (xs (i + 4))]) (q_owner hs1.2.1 hs1.2.2.1 (by omega) hL hS1 hcI (by omega) (gI_hz hG) (xs (i + 1)) (xs (i + 2)) (xs (i + 3)) (xs (i + 4))) rfl hs1.2.1 qL_L_91 qI_X7_owner qS_X7_owner qZ_X7 qC_X7_owner hd_X7_owner ⟨Nat.le_of_ble_eq_true rfl, Nat.le_of_ble_eq_true rfl⟩ (Nat.le_of_ble_eq_true rfl) rfl rfl dL_law_200 ⟨by show kc + 2 + 1 ≤ 771262; omega, by show ks + 12 + 12 ≤ 6782320; omega⟩ (fun v2 n2 S2 P2 D2 E2 hq2 => ?_)
  obtain ⟨hn2, qE, hs2, hP2, ans, qv, lo2, hL2, hD2, hR⟩ := hq2
  rw [qv, qE]
  have hF : kd = D2 (b + 61) 0 ∧ (kd = 0 → E1 (b + 94) 0 = ans.toInt64) ∧ lI b (cn + 1) n2 S2 P2 D2 := by
    rcases hA with ⟨k0, r, res, eE⟩ | ⟨X, hKX, kX, eD, -⟩
    · obtain ⟨t0, ok⟩ := l_ok (⟨trivial, res.1, res.2.1⟩) hR
      obtain ⟨g2, g3, rr, rfl⟩ := res
      exact ⟨k0.trans t0.symm, fun _ => by rw [eE, updE_at, rr, ok.1], lI_next hs1 hn2 hs2 hP2 hL2 hD2 (gI_owner hG g2 g3.1 g3.2) (fun i hi => by rw [fr _ (Or.inr (by omega))]; exact hN2 i hi) (fun i hi => by rw [fr _ (Or.inr (by omega))]; exact hN3 i hi) ok.2⟩
    · obtain ⟨e1, ne, same⟩ := l_no (cd := cdAS) (fun z => absurd trivial z) (by first | rfl | decide) (fun _ => by decide) (by decide) (by decide) hKX kX hR
      subst eD
      exact ⟨e1, fun z => absurd z ne, lI_next hs1 hn2 hs2 hP2 hL2 hD2 (gI_c hG (Nat.le_succ _)) hN2 hN3 same⟩
  obtain ⟨hk, hv, hI2⟩ := hF
  have hI2s := hI2
  obtain ⟨_, _, _, _, _, _, _, hJ2, -⟩ := hI2s
  refine V_istore h 205 [(6, .int ans), (5, .int kd), (0, .ref bs), (1, .ref b), (2, .ref (b + 61)), (3, .ref (b + 94)), (4, .int (nI i))] (by decide) rfl dL_law_203 rfl ?_
  refine V_aload_n h 206 4 rfl dL_law_205 rfl ?_
  refine CVI h 209 (As := []) (q_thrown hJ2.2.1) rfl hJ2.2.1 qL_L_92 qI_X7_thrown qS_X7_thrown qZ_X7 qC_X7_thrown hd_X7_thrown ⟨Nat.le_of_ble_eq_true rfl, Nat.le_of_ble_eq_true rfl⟩ (Nat.le_of_ble_eq_true rfl) rfl rfl dL_law_206 (by show kc + 2 + 1 ≤ 771262; omega) (by show ks + 12 + 12 ≤ 6782320; omega) (fun th D3 hq3 => ?_)
  rw [hq3.1, hq3.2]
  refine V_iload h 211 1 rfl dL_law_209 rfl ?_
  refine V_icmp_eq h 216 214 dL_law_211 (by decide) rfl (fun _ => ?_) (fun z => absurd hk.symm z)
  refine V_iload h 218 1 rfl dL_law_216 rfl ?_
  have hend : mV Γ Q (kc + 2 + 1) (ks + 12 + 12) n2 S2 P2 D2 E1 [(6, .int ans), (5, .int kd), (0, .ref bs), (1, .ref b), (2, .ref (b + 61)), (3, .ref (b + 94)), (4, .int (nI i))] [] 233 := by
    refine V_goto h 1711 dL_law_233 (by decide) ?_
    refine V_lsub [(0, .ref bs), (1, .ref b), (2, .ref (b + 61)), (3, .ref (b + 94)), (4, .int (nI i))] [2, 3, 4, 5, 6] rfl ?_
    exact V_widen (kc + 1400) (ks + 10600) (by omega) (by omega) (kk _ _ _ _ _ hI2)
  refine V_if_ne h 233 221 dL_law_218 (by decide) rfl (fun _ => hend) (fun z0 => ?_)
  refine V_aload_n h 222 5 rfl dL_law_221 rfl ?_
  refine V_iconst h 223 (v := 0) (by decide) dL_law_222 rfl ?_
  refine V_lald h 224 0 hJ2.2.2.2.1 rfl (by decide) (by decide) dL_law_223 rfl ?_
  rw [hv z0]
  refine V_iload h 226 0 rfl dL_law_224 rfl ?_
  refine V_i2l h 227 dL_law_226 rfl ?_
  refine V_lcmp h 228 dL_law_227 rfl ?_
  exact V_if_eq h 233 231 dL_law_228 (by decide) rfl (fun _ => hend) (fun z => absurd lg_cmp_0 z)

set_option maxRecDepth 100000 in
set_option maxHeartbeats 4000000 in
theorem k_sell {Γ : mC} {κ : mKp} {Q : State → Prop} (h : mOk Γ κ RL cL_law 9 (Option.some Jvm.ClassFile.FieldType.boolean) { frames := 13, cells := 771262, slots := 6782320, locals := 468 }) (hT : mOkN Γ) (hst : κ.1.stackTraces = false) {bs Ls : Nat} {xs : Nat → Int32} (hX : mScr Γ bs Ls xs) (hLs : Ls < 2 ^ 31) {i : Nat} (hi : i + 5 ≤ Ls) {b cn kc ks n : Nat} {sh : mSh} {P : mPt} {D : mDt} {E : mEt} (hI : lI b cn n sh P D) (hcn : cn ≤ 599) (hkc : kc + 1400 ≤ 771262) (hks : ks + 10600 ≤ 6782320) (kk : ∀ n2 sh2 P2 D2 E2, lI b (cn + 1) n2 sh2 P2 D2 → mV Γ Q (kc + 1400) (ks + 10600) n2 sh2 P2 D2 E2 [(0, .ref bs), (1, .ref b), (2, .ref (b + 61)), (3, .ref (b + 94)), (4, .int (nI i))] [] 1711) : mV Γ Q kc ks n sh P D E [(0, .ref bs), (1, .ref b), (2, .ref (b + 61)), (3, .ref (b + 94)), (4, .int (nI i))] [] 236 := by
  obtain ⟨L, e, ρ, m, k, dd, lo, hJ⟩ := hI
  obtain ⟨hs, hL, hG, hN2, hN3, hS⟩ := id hJ
  have hcI := hG.1
  have hB := hs.1
  refine V_aload_n h 237 1 rfl dL_law_236 rfl ?_
  refine V_aload_n h 238 0 rfl dL_law_237 rfl ?_
  refine V_iload h 240 4 rfl dL_law_238 rfl ?_
  refine V_iconst h 241 (v := 1) (by decide) dL_law_240 rfl ?_
  refine V_iadd h 242 dL_law_241 rfl ?_
  refine V_sld h hX 243 (i + 1) (nI_add (a := i) (b := 1)) (by omega) hLs dL_law_242 rfl ?_
  refine V_aload_n h 244 0 rfl dL_law_243 rfl ?_
  refine V_iload h 246 4 rfl dL_law_244 rfl ?_
  refine V_iconst h 247 (v := 2) (by decide) dL_law_246 rfl ?_
  refine V_iadd h 248 dL_law_247 rfl ?_
  refine V_sld h hX 249 (i + 2) (nI_add (a := i) (b := 2)) (by omega) hLs dL_law_248 rfl ?_
  refine V_aload_n h 250 0 rfl dL_law_249 rfl ?_
  refine V_iload h 252 4 rfl dL_law_250 rfl ?_
  refine V_iconst h 253 (v := 3) (by decide) dL_law_252 rfl ?_
  refine V_iadd h 254 dL_law_253 rfl ?_
  refine V_sld h hX 255 (i + 3) (nI_add (a := i) (b := 3)) (by omega) hLs dL_law_254 rfl ?_
  refine V_aload_n h 256 0 rfl dL_law_255 rfl ?_
  refine V_iload h 258 4 rfl dL_law_256 rfl ?_
  refine V_iconst h 259 (v := 4) (by decide) dL_law_258 rfl ?_
  refine V_iadd h 260 dL_law_259 rfl ?_
  refine V_sld h hX 261 (i + 4) (nI_add (a := i) (b := 4)) (by omega) hLs dL_law_260 rfl ?_
  refine V_aload_n h 262 3 rfl dL_law_261 rfl ?_
  refine V_callSW h hT 265 (As := [.ref b, .int (xs (i + 1)), .int (xs (i + 2)), .int (xs (i + 3)), .int (xs (i + 4)), .ref (b + 94)]) (st := []) (l_sell hB.1 hs.2.2.2.1 (xs (i + 1)) (xs (i + 2)) (xs (i + 3)) (xs (i + 4)) (c_sell hst hB hcI (xs (i + 1)) (xs (i + 2)) (xs (i + 3)) (xs (i + 4))) Kx_IA) qL_L_96 qT_L_sell qZ_L qW_L_sell hd_L_sell ⟨Nat.le_of_ble_eq_true rfl, Nat.le_of_ble_eq_true rfl⟩ (Nat.le_of_ble_eq_true rfl) rfl rfl dL_law_262 ⟨by show kc + 3 ≤ 771262; omega, by show ks + 18 ≤ 6782320; omega⟩ (fun v1 n1 S1 P1 D1 E1 hq1 => ?_)
  obtain ⟨hn1, q2, q3, kd, q5, hA⟩ := hq1
  rw [q2, q3, q5]
  dsimp only at hA
  have hs1 := lSt_up hs hn1
  have h95 := hs1.2.2.2.2
  have fr : fR b D D1 := by
    rcases hA with ⟨-, r, hr, -⟩ | ⟨X, -, -, q, -⟩
    · rw [hr.2.2.2]
      split
      · split
        · exact fR_moveD (fR_numb _) (fR_numb _)
        · exact fR_rfl
      · exact fR_rfl
    · rw [q]; exact fR_rfl
  have hS1 := lJ_mid hJ (D1 := D1) (fun a ha => fr a (Or.inr (by omega)))
  refine V_istore h 267 [(5, .int kd), (0, .ref bs), (1, .ref b), (2, .ref (b + 61)), (3, .ref (b + 94)), (4, .int (nI i))] (by decide) rfl dL_law_265 rfl ?_
  refine V_aload_n h 268 3 rfl dL_law_267 rfl ?_
  refine V_aload_n h 269 1 rfl dL_law_268 rfl ?_
  refine V_iload h 271 5 rfl dL_law_269 rfl ?_
  refine V_iconst h 272 (v := 1) (by decide) dL_law_271 rfl ?_
  refine V_iadd h 273 dL_law_272 rfl ?_
  refine V_sld h hX 274 (i + 1) (nI_add (a := i) (b := 1)) (by omega) hLs dL_law_273 rfl ?_
  refine V_aload_n h 275 1 rfl dL_law_274 rfl ?_
  refine V_iload h 277 5 rfl dL_law_275 rfl ?_
  refine V_iconst h 278 (v := 2) (by decide) dL_law_277 rfl ?_
  refine V_iadd h 279 dL_law_278 rfl ?_
  refine V_sld h hX 280 (i + 2) (nI_add (a := i) (b := 2)) (by omega) hLs dL_law_279 rfl ?_
  refine V_aload_n h 281 1 rfl dL_law_280 rfl ?_
  refine V_iload h 283 5 rfl dL_law_281 rfl ?_
  refine V_iconst h 284 (v := 3) (by decide) dL_law_283 rfl ?_
  refine V_iadd h 285 dL_law_284 rfl ?_
  refine V_sld h hX 286 (i + 3) (nI_add (a := i) (b := 3)) (by omega) hLs dL_law_285 rfl ?_
  refine V_aload_n h 287 1 rfl dL_law_286 rfl ?_
  refine V_iload h 289 5 rfl dL_law_287 rfl ?_
  refine V_iconst h 290 (v := 4) (by decide) dL_law_289 rfl ?_
  refine V_iadd h 291 dL_law_290 rfl ?_
  refine V_sld h hX 292 (i + 4) (nI_add (a := i) (b := 4)) (by omega) hLs dL_law_291 rfl ?_
  refine CVI h 295 (As := [.int (xs (i + 1)), .int (xs (i + 2)), .int (xs (i + 3)), .int (xs (i + 4))]) (q_sell hs1.2.1 hs1.2.2.1 (by omega) hL hS1 hcI (xs (i + 1)) (xs (i + 2)) (xs (i + 3)) (xs (i + 4))) rfl hs1.2.1 qL_L_98 qI_X7_sell qS_X7_sell qZ_X7 qC_X7_sell hd_X7_sell ⟨Nat.le_of_ble_eq_true rfl, Nat.le_of_ble_eq_true rfl⟩ (Nat.le_of_ble_eq_true rfl) rfl rfl dL_law_292 (by show kc + 3 ≤ 771262; omega) (by show ks + 18 ≤ 6782320; omega) (fun ans D2 hq2 => ?_)
  obtain ⟨hR, hD2q⟩ := hq2
  have hn2 : n1 ≤ n1 := Nat.le_refl _
  have hs2 : ∀ a, a < n1 → sh a = sh a := fun _ _ => rfl
  have hP2 : ∀ a, a < n1 → a ≠ b + 62 + 13 → P a = P a := fun _ _ _ => rfl
  have hL2 := hL
  have hD2 : ∀ a, a < n1 → (a < b + 61 ∨ b + 62 + 32 ≤ a) → D2 a = D1 a := fun a _ ha => hD2q a ha
  have hF : kd = D2 (b + 61) 0 ∧ (kd = 0 → E1 (b + 94) 0 = ans.toInt64) ∧ lI b (cn + 1) n1 sh P D2 := by
    rcases hA with ⟨k0, r, res, eE⟩ | ⟨X, hKX, kX, eD, -⟩
    · obtain ⟨t0, ok⟩ := l_ok (⟨res.1, res.2.1, trivial⟩) hR
      obtain ⟨g1, g2, rr, hD⟩ := res
      have G := gI_sellN hG (by omega) g1 g2
      rw [← hD] at G
      have R := ok.2
      rw [← hD] at R
      exact ⟨k0.trans t0.symm, fun _ => by rw [eE, updE_at, rr, ok.1], lI_next hs1 hn2 hs2 hP2 hL2 hD2 G (fun i hi => by rw [fr _ (Or.inr (by omega))]; exact hN2 i hi) (fun i hi => by rw [fr _ (Or.inr (by omega))]; exact hN3 i hi) R⟩
    · obtain ⟨e1, ne, same⟩ := l_no (cd := cdIA) (fun _ => by decide) (by first | rfl | decide) (fun z => absurd trivial z) (by decide) (by decide) hKX kX hR
      subst eD
      exact ⟨e1, fun z => absurd z ne, lI_next hs1 hn2 hs2 hP2 hL2 hD2 (gI_c hG (Nat.le_succ _)) hN2 hN3 same⟩
  obtain ⟨hk, hv, hI2⟩ := hF
  have hI2s := hI2
  obtain ⟨_, _, _, _, _, _, _, hJ2, -⟩ := hI2s
  refine V_istore h 297 [(6, .int ans), (5, .int kd), (0, .ref bs), (1, .ref b), (2, .ref (b + 61)), (3, .ref (b + 94)), (4, .int (nI i))] (by decide) rfl dL_law_295 rfl ?_
  refine V_aload_n h 298 4 rfl dL_law_297 rfl ?_
  refine CVI h 301 (As := []) (q_thrown hJ2.2.1) rfl hJ2.2.1 qL_L_92 qI_X7_thrown qS_X7_thrown qZ_X7 qC_X7_thrown hd_X7_thrown ⟨Nat.le_of_ble_eq_true rfl, Nat.le_of_ble_eq_true rfl⟩ (Nat.le_of_ble_eq_true rfl) rfl rfl dL_law_298 (by show kc + 3 + 0 ≤ 771262; omega) (by show ks + 18 + 0 ≤ 6782320; omega) (fun th D3 hq3 => ?_)
  rw [hq3.1, hq3.2]
  refine V_iload h 303 1 rfl dL_law_301 rfl ?_
  refine V_icmp_eq h 308 306 dL_law_303 (by decide) rfl (fun _ => ?_) (fun z => absurd hk.symm z)
  refine V_iload h 310 1 rfl dL_law_308 rfl ?_
  have hend : mV Γ Q (kc + 3 + 0) (ks + 18 + 0) n1 sh P D2 E1 [(6, .int ans), (5, .int kd), (0, .ref bs), (1, .ref b), (2, .ref (b + 61)), (3, .ref (b + 94)), (4, .int (nI i))] [] 325 := by
    refine V_goto h 1711 dL_law_325 (by decide) ?_
    refine V_lsub [(0, .ref bs), (1, .ref b), (2, .ref (b + 61)), (3, .ref (b + 94)), (4, .int (nI i))] [2, 3, 4, 5, 6] rfl ?_
    exact V_widen (kc + 1400) (ks + 10600) (by omega) (by omega) (kk _ _ _ _ _ hI2)
  refine V_if_ne h 325 313 dL_law_310 (by decide) rfl (fun _ => hend) (fun z0 => ?_)
  refine V_aload_n h 314 5 rfl dL_law_313 rfl ?_
  refine V_iconst h 315 (v := 0) (by decide) dL_law_314 rfl ?_
  refine V_lald h 316 0 hJ2.2.2.2.1 rfl (by decide) (by decide) dL_law_315 rfl ?_
  rw [hv z0]
  refine V_iload h 318 0 rfl dL_law_316 rfl ?_
  refine V_i2l h 319 dL_law_318 rfl ?_
  refine V_lcmp h 320 dL_law_319 rfl ?_
  exact V_if_eq h 325 323 dL_law_320 (by decide) rfl (fun _ => hend) (fun z => absurd lg_cmp_0 z)

set_option maxRecDepth 100000 in
set_option maxHeartbeats 4000000 in
theorem k_lend {Γ : mC} {κ : mKp} {Q : State → Prop} (h : mOk Γ κ RL cL_law 9 (Option.some Jvm.ClassFile.FieldType.boolean) { frames := 13, cells := 771262, slots := 6782320, locals := 468 }) (hT : mOkN Γ) (hst : κ.1.stackTraces = false) {bs Ls : Nat} {xs : Nat → Int32} (hX : mScr Γ bs Ls xs) (hLs : Ls < 2 ^ 31) {i : Nat} (hi : i + 5 ≤ Ls) {b cn kc ks n : Nat} {sh : mSh} {P : mPt} {D : mDt} {E : mEt} (hI : lI b cn n sh P D) (hcn : cn ≤ 599) (hkc : kc + 1400 ≤ 771262) (hks : ks + 10600 ≤ 6782320) (kk : ∀ n2 sh2 P2 D2 E2, lI b (cn + 1) n2 sh2 P2 D2 → mV Γ Q (kc + 1400) (ks + 10600) n2 sh2 P2 D2 E2 [(0, .ref bs), (1, .ref b), (2, .ref (b + 61)), (3, .ref (b + 94)), (4, .int (nI i))] [] 1711) : mV Γ Q kc ks n sh P D E [(0, .ref bs), (1, .ref b), (2, .ref (b + 61)), (3, .ref (b + 94)), (4, .int (nI i))] [] 328 := by
  obtain ⟨L, e, ρ, m, k, dd, lo, hJ⟩ := hI
  obtain ⟨hs, hL, hG, hN2, hN3, hS⟩ := id hJ
  have hcI := hG.1
  have hB := hs.1
  refine V_aload_n h 329 1 rfl dL_law_328 rfl ?_
  refine V_aload_n h 330 0 rfl dL_law_329 rfl ?_
  refine V_iload h 332 4 rfl dL_law_330 rfl ?_
  refine V_iconst h 333 (v := 1) (by decide) dL_law_332 rfl ?_
  refine V_iadd h 334 dL_law_333 rfl ?_
  refine V_sld h hX 335 (i + 1) (nI_add (a := i) (b := 1)) (by omega) hLs dL_law_334 rfl ?_
  refine V_aload_n h 336 0 rfl dL_law_335 rfl ?_
  refine V_iload h 338 4 rfl dL_law_336 rfl ?_
  refine V_iconst h 339 (v := 2) (by decide) dL_law_338 rfl ?_
  refine V_iadd h 340 dL_law_339 rfl ?_
  refine V_sld h hX 341 (i + 2) (nI_add (a := i) (b := 2)) (by omega) hLs dL_law_340 rfl ?_
  refine V_aload_n h 342 0 rfl dL_law_341 rfl ?_
  refine V_iload h 344 4 rfl dL_law_342 rfl ?_
  refine V_iconst h 345 (v := 3) (by decide) dL_law_344 rfl ?_
  refine V_iadd h 346 dL_law_345 rfl ?_
  refine V_sld h hX 347 (i + 3) (nI_add (a := i) (b := 3)) (by omega) hLs dL_law_346 rfl ?_
  refine V_aload_n h 348 0 rfl dL_law_347 rfl ?_
  refine V_iload h 350 4 rfl dL_law_348 rfl ?_
  refine V_iconst h 351 (v := 4) (by decide) dL_law_350 rfl ?_
  refine V_iadd h 352 dL_law_351 rfl ?_
  refine V_sld h hX 353 (i + 4) (nI_add (a := i) (b := 4)) (by omega) hLs dL_law_352 rfl ?_
  refine V_aload_n h 354 3 rfl dL_law_353 rfl ?_
  refine V_callSW h hT 357 (As := [.ref b, .int (xs (i + 1)), .int (xs (i + 2)), .int (xs (i + 3)), .int (xs (i + 4)), .ref (b + 94)]) (st := []) (l_lend hB.1 hs.2.2.2.1 (xs (i + 1)) (xs (i + 2)) (xs (i + 3)) (xs (i + 4)) (c_lend hst hB hcI (xs (i + 1)) (xs (i + 2)) (xs (i + 3)) (xs (i + 4))) Kx_IAS) qL_L_99 qT_L_lend qZ_L qW_L_lend hd_L_lend ⟨Nat.le_of_ble_eq_true rfl, Nat.le_of_ble_eq_true rfl⟩ (Nat.le_of_ble_eq_true rfl) rfl rfl dL_law_354 ⟨by show kc + 4 ≤ 771262; omega, by show ks + 24 ≤ 6782320; omega⟩ (fun v1 n1 S1 P1 D1 E1 hq1 => ?_)
  obtain ⟨hn1, q2, q3, kd, q5, hA⟩ := hq1
  rw [q2, q3, q5]
  dsimp only at hA
  have hs1 := lSt_up hs hn1
  have h95 := hs1.2.2.2.2
  have fr : fR b D D1 := by
    rcases hA with ⟨-, r, hr, -⟩ | ⟨X, -, -, q, -⟩
    · rw [hr.2.2.2]
      split
      · exact fR_upd2 (fR_setRow fR_rfl ⟨by omega, by omega⟩) ⟨by omega, by omega⟩
      · exact fR_rfl
    · rw [q]; exact fR_rfl
  have hS1 := lJ_mid hJ (D1 := D1) (fun a ha => fr a (Or.inr (by omega)))
  refine V_istore h 359 [(5, .int kd), (0, .ref bs), (1, .ref b), (2, .ref (b + 61)), (3, .ref (b + 94)), (4, .int (nI i))] (by decide) rfl dL_law_357 rfl ?_
  refine V_aload_n h 360 3 rfl dL_law_359 rfl ?_
  refine V_aload_n h 361 1 rfl dL_law_360 rfl ?_
  refine V_iload h 363 5 rfl dL_law_361 rfl ?_
  refine V_iconst h 364 (v := 1) (by decide) dL_law_363 rfl ?_
  refine V_iadd h 365 dL_law_364 rfl ?_
  refine V_sld h hX 366 (i + 1) (nI_add (a := i) (b := 1)) (by omega) hLs dL_law_365 rfl ?_
  refine V_aload_n h 367 1 rfl dL_law_366 rfl ?_
  refine V_iload h 369 5 rfl dL_law_367 rfl ?_
  refine V_iconst h 370 (v := 2) (by decide) dL_law_369 rfl ?_
  refine V_iadd h 371 dL_law_370 rfl ?_
  refine V_sld h hX 372 (i + 2) (nI_add (a := i) (b := 2)) (by omega) hLs dL_law_371 rfl ?_
  refine V_aload_n h 373 1 rfl dL_law_372 rfl ?_
  refine V_iload h 375 5 rfl dL_law_373 rfl ?_
  refine V_iconst h 376 (v := 3) (by decide) dL_law_375 rfl ?_
  refine V_iadd h 377 dL_law_376 rfl ?_
  refine V_sld h hX 378 (i + 3) (nI_add (a := i) (b := 3)) (by omega) hLs dL_law_377 rfl ?_
  refine V_aload_n h 379 1 rfl dL_law_378 rfl ?_
  refine V_iload h 381 5 rfl dL_law_379 rfl ?_
  refine V_iconst h 382 (v := 4) (by decide) dL_law_381 rfl ?_
  refine V_iadd h 383 dL_law_382 rfl ?_
  refine V_sld h hX 384 (i + 4) (nI_add (a := i) (b := 4)) (by omega) hLs dL_law_383 rfl ?_
  refine V_callV h 387 (rm := { frames := 2, cells := 1, slots := 4, locals := 48 }) (As := [.int (xs (i + 1)), .int (xs (i + 2)), .int (xs (i + 3)), .int (xs (i + 4))]) (q_lend hs1.2.1 hs1.2.2.1 (by omega) hL hS1 hcI (by omega) (xs (i + 1)) (xs (i + 2)) (xs (i + 3)) (xs (i + 4))) rfl hs1.2.1 qL_L_101 qI_X7_lend qS_X7_lend qZ_X7 qC_X7_lend hd_X7_lend ⟨Nat.le_of_ble_eq_true rfl, Nat.le_of_ble_eq_true rfl⟩ (Nat.le_of_ble_eq_true rfl) rfl rfl dL_law_384 ⟨by show kc + 4 + 1 ≤ 771262; omega, by show ks + 24 + 4 ≤ 6782320; omega⟩ (fun v2 n2 S2 P2 D2 E2 hq2 => ?_)
  obtain ⟨hn2, qE, hs2, hP2, ans, qv, lo2, hL2, hD2, hR⟩ := hq2
  rw [qv, qE]
  have hF : kd = D2 (b + 61) 0 ∧ (kd = 0 → E1 (b + 94) 0 = ans.toInt64) ∧ lI b (cn + 1) n2 S2 P2 D2 := by
    rcases hA with ⟨k0, r, res, eE⟩ | ⟨X, hKX, kX, eD, -⟩
    · obtain ⟨t0, ok⟩ := l_ok (⟨res.1, res.2.1.1, res.2.1.2⟩) hR
      obtain ⟨g1, g2, rr, hD⟩ := res
      rcases ok with ⟨q, qa, R⟩ | ⟨q, qa, R⟩
      · rw [if_pos q] at rr hD
        subst hD
        exact ⟨k0.trans t0.symm, fun _ => by rw [eE, updE_at, rr, qa], lI_next hs1 hn2 hs2 hP2 hL2 hD2 (gI_lend hG g1 g2.1.2.1 g2.1.2.2 g2.2) (fun i hi => by rw [fr _ (Or.inr (by omega))]; exact hN2 i hi) (fun i hi => by rw [fr _ (Or.inr (by omega))]; exact hN3 i hi) R⟩
      · rw [if_neg q] at rr hD
        subst hD
        exact ⟨k0.trans t0.symm, fun _ => by rw [eE, updE_at, rr, qa], lI_next hs1 hn2 hs2 hP2 hL2 hD2 (gI_c hG (Nat.le_succ _)) hN2 hN3 R⟩
    · obtain ⟨e1, ne, same⟩ := l_no (cd := cdIAS) (fun _ => by decide) (by first | rfl | decide) (fun _ => by decide) (by decide) (by decide) hKX kX hR
      subst eD
      exact ⟨e1, fun z => absurd z ne, lI_next hs1 hn2 hs2 hP2 hL2 hD2 (gI_c hG (Nat.le_succ _)) hN2 hN3 same⟩
  obtain ⟨hk, hv, hI2⟩ := hF
  have hI2s := hI2
  obtain ⟨_, _, _, _, _, _, _, hJ2, -⟩ := hI2s
  refine V_istore h 389 [(6, .int ans), (5, .int kd), (0, .ref bs), (1, .ref b), (2, .ref (b + 61)), (3, .ref (b + 94)), (4, .int (nI i))] (by decide) rfl dL_law_387 rfl ?_
  refine V_aload_n h 390 4 rfl dL_law_389 rfl ?_
  refine CVI h 393 (As := []) (q_thrown hJ2.2.1) rfl hJ2.2.1 qL_L_92 qI_X7_thrown qS_X7_thrown qZ_X7 qC_X7_thrown hd_X7_thrown ⟨Nat.le_of_ble_eq_true rfl, Nat.le_of_ble_eq_true rfl⟩ (Nat.le_of_ble_eq_true rfl) rfl rfl dL_law_390 (by show kc + 4 + 1 ≤ 771262; omega) (by show ks + 24 + 4 ≤ 6782320; omega) (fun th D3 hq3 => ?_)
  rw [hq3.1, hq3.2]
  refine V_iload h 395 1 rfl dL_law_393 rfl ?_
  refine V_icmp_eq h 400 398 dL_law_395 (by decide) rfl (fun _ => ?_) (fun z => absurd hk.symm z)
  refine V_iload h 402 1 rfl dL_law_400 rfl ?_
  have hend : mV Γ Q (kc + 4 + 1) (ks + 24 + 4) n2 S2 P2 D2 E1 [(6, .int ans), (5, .int kd), (0, .ref bs), (1, .ref b), (2, .ref (b + 61)), (3, .ref (b + 94)), (4, .int (nI i))] [] 417 := by
    refine V_goto h 1711 dL_law_417 (by decide) ?_
    refine V_lsub [(0, .ref bs), (1, .ref b), (2, .ref (b + 61)), (3, .ref (b + 94)), (4, .int (nI i))] [2, 3, 4, 5, 6] rfl ?_
    exact V_widen (kc + 1400) (ks + 10600) (by omega) (by omega) (kk _ _ _ _ _ hI2)
  refine V_if_ne h 417 405 dL_law_402 (by decide) rfl (fun _ => hend) (fun z0 => ?_)
  refine V_aload_n h 406 5 rfl dL_law_405 rfl ?_
  refine V_iconst h 407 (v := 0) (by decide) dL_law_406 rfl ?_
  refine V_lald h 408 0 hJ2.2.2.2.1 rfl (by decide) (by decide) dL_law_407 rfl ?_
  rw [hv z0]
  refine V_iload h 410 0 rfl dL_law_408 rfl ?_
  refine V_i2l h 411 dL_law_410 rfl ?_
  refine V_lcmp h 412 dL_law_411 rfl ?_
  exact V_if_eq h 417 415 dL_law_412 (by decide) rfl (fun _ => hend) (fun z => absurd lg_cmp_0 z)

set_option maxRecDepth 100000 in
set_option maxHeartbeats 4000000 in
theorem k_die {Γ : mC} {κ : mKp} {Q : State → Prop} (h : mOk Γ κ RL cL_law 9 (Option.some Jvm.ClassFile.FieldType.boolean) { frames := 13, cells := 771262, slots := 6782320, locals := 468 }) (hT : mOkN Γ) (hst : κ.1.stackTraces = false) {bs Ls : Nat} {xs : Nat → Int32} (hX : mScr Γ bs Ls xs) (hLs : Ls < 2 ^ 31) {i : Nat} (hi : i + 5 ≤ Ls) {b cn kc ks n : Nat} {sh : mSh} {P : mPt} {D : mDt} {E : mEt} (hI : lI b cn n sh P D) (hcn : cn ≤ 599) (hkc : kc + 1400 ≤ 771262) (hks : ks + 10600 ≤ 6782320) (kk : ∀ n2 sh2 P2 D2 E2, lI b (cn + 1) n2 sh2 P2 D2 → mV Γ Q (kc + 1400) (ks + 10600) n2 sh2 P2 D2 E2 [(0, .ref bs), (1, .ref b), (2, .ref (b + 61)), (3, .ref (b + 94)), (4, .int (nI i))] [] 1711) : mV Γ Q kc ks n sh P D E [(0, .ref bs), (1, .ref b), (2, .ref (b + 61)), (3, .ref (b + 94)), (4, .int (nI i))] [] 420 := by
  obtain ⟨L, e, ρ, m, k, dd, lo, hJ⟩ := hI
  obtain ⟨hs, hL, hG, hN2, hN3, hS⟩ := id hJ
  have hcI := hG.1
  have hB := hs.1
  refine V_aload_n h 421 1 rfl dL_law_420 rfl ?_
  refine V_aload_n h 422 0 rfl dL_law_421 rfl ?_
  refine V_iload h 424 4 rfl dL_law_422 rfl ?_
  refine V_iconst h 425 (v := 1) (by decide) dL_law_424 rfl ?_
  refine V_iadd h 426 dL_law_425 rfl ?_
  refine V_sld h hX 427 (i + 1) (nI_add (a := i) (b := 1)) (by omega) hLs dL_law_426 rfl ?_
  refine V_aload_n h 428 0 rfl dL_law_427 rfl ?_
  refine V_iload h 430 4 rfl dL_law_428 rfl ?_
  refine V_iconst h 431 (v := 2) (by decide) dL_law_430 rfl ?_
  refine V_iadd h 432 dL_law_431 rfl ?_
  refine V_sld h hX 433 (i + 2) (nI_add (a := i) (b := 2)) (by omega) hLs dL_law_432 rfl ?_
  refine V_aload_n h 434 0 rfl dL_law_433 rfl ?_
  refine V_iload h 436 4 rfl dL_law_434 rfl ?_
  refine V_iconst h 437 (v := 3) (by decide) dL_law_436 rfl ?_
  refine V_iadd h 438 dL_law_437 rfl ?_
  refine V_sld h hX 439 (i + 3) (nI_add (a := i) (b := 3)) (by omega) hLs dL_law_438 rfl ?_
  refine V_aload_n h 440 3 rfl dL_law_439 rfl ?_
  refine V_callSW h hT 443 (As := [.ref b, .int (xs (i + 1)), .int (xs (i + 2)), .int (xs (i + 3)), .ref (b + 94)]) (st := []) (l_die hB.1 hs.2.2.2.1 (xs (i + 1)) (xs (i + 2)) (xs (i + 3)) (c_die hst hB hcI (xs (i + 1)) (xs (i + 2)) (xs (i + 3))) Kx_IAS) qL_L_102 qT_L_die qZ_L qW_L_die hd_L_die ⟨Nat.le_of_ble_eq_true rfl, Nat.le_of_ble_eq_true rfl⟩ (Nat.le_of_ble_eq_true rfl) rfl rfl dL_law_440 ⟨by show kc + 3 ≤ 771262; omega, by show ks + 18 ≤ 6782320; omega⟩ (fun v1 n1 S1 P1 D1 E1 hq1 => ?_)
  obtain ⟨hn1, q2, q3, kd, q5, hA⟩ := hq1
  rw [q2, q3, q5]
  dsimp only at hA
  have hs1 := lSt_up hs hn1
  have h95 := hs1.2.2.2.2
  have fr : fR b D D1 := by
    rcases hA with ⟨-, r, hr, -⟩ | ⟨X, -, -, q, -⟩
    · obtain ⟨q, hc, -, -, -, -, -, -, -, hD⟩ := hr.2.2
      exact fun a ha => hD.2.2.2.2.2.2.2.2.2 a (by omega)
    · rw [q]; exact fR_rfl
  have hS1 := lJ_mid hJ (D1 := D1) (fun a ha => fr a (Or.inr (by omega)))
  refine V_istore h 445 [(5, .int kd), (0, .ref bs), (1, .ref b), (2, .ref (b + 61)), (3, .ref (b + 94)), (4, .int (nI i))] (by decide) rfl dL_law_443 rfl ?_
  refine V_aload_n h 446 3 rfl dL_law_445 rfl ?_
  refine V_aload_n h 447 1 rfl dL_law_446 rfl ?_
  refine V_iload h 449 5 rfl dL_law_447 rfl ?_
  refine V_iconst h 450 (v := 1) (by decide) dL_law_449 rfl ?_
  refine V_iadd h 451 dL_law_450 rfl ?_
  refine V_sld h hX 452 (i + 1) (nI_add (a := i) (b := 1)) (by omega) hLs dL_law_451 rfl ?_
  refine V_aload_n h 453 1 rfl dL_law_452 rfl ?_
  refine V_iload h 455 5 rfl dL_law_453 rfl ?_
  refine V_iconst h 456 (v := 2) (by decide) dL_law_455 rfl ?_
  refine V_iadd h 457 dL_law_456 rfl ?_
  refine V_sld h hX 458 (i + 2) (nI_add (a := i) (b := 2)) (by omega) hLs dL_law_457 rfl ?_
  refine V_aload_n h 459 1 rfl dL_law_458 rfl ?_
  refine V_iload h 461 5 rfl dL_law_459 rfl ?_
  refine V_iconst h 462 (v := 3) (by decide) dL_law_461 rfl ?_
  refine V_iadd h 463 dL_law_462 rfl ?_
  refine V_sld h hX 464 (i + 3) (nI_add (a := i) (b := 3)) (by omega) hLs dL_law_463 rfl ?_
  refine V_callV h 467 (rm := { frames := 2, cells := 0, slots := 0, locals := 48 }) (As := [.int (xs (i + 1)), .int (xs (i + 2)), .int (xs (i + 3))]) (q_die hs1.2.1 hs1.2.2.1 (by omega) hL hS1 hcI (gI_bd hG (by omega)) (xs (i + 1)) (xs (i + 2)) (xs (i + 3))) rfl hs1.2.1 qL_L_105 qI_X7_die qS_X7_die qZ_X7 qC_X7_die hd_X7_die ⟨Nat.le_of_ble_eq_true rfl, Nat.le_of_ble_eq_true rfl⟩ (Nat.le_of_ble_eq_true rfl) rfl rfl dL_law_464 ⟨by show kc + 3 + 0 ≤ 771262; omega, by show ks + 18 + 0 ≤ 6782320; omega⟩ (fun v2 n2 S2 P2 D2 E2 hq2 => ?_)
  obtain ⟨hn2, qE, hs2, hP2, ans, qv, lo2, hL2, hD2, hR⟩ := hq2
  rw [qv, qE]
  have hF : kd = D2 (b + 61) 0 ∧ (kd = 0 → E1 (b + 94) 0 = ans.toInt64) ∧ lI b (cn + 1) n2 S2 P2 D2 := by
    rcases hA with ⟨k0, r, res, eE⟩ | ⟨X, hKX, kX, eD, -⟩
    · obtain ⟨t0, ok⟩ := l_ok (⟨res.1, res.2.1, by obtain ⟨-, -, q, hc, -, -, -, h4, h5, h6, -⟩ := res; exact ⟨hc, h5, h4, h6⟩⟩) hR
      obtain ⟨g1, g2, q, hc, hq, hx, hc1, hc4, hyz, he, rr, hD⟩ := res
      obtain ⟨p, s0, d0, hc', hp, hxp, hy, hz, hsd, hc1', hc4', he', ra, m', hall⟩ := ok
      have hρp := gI_rho hG p hp
      have hρq := gI_rho hG q hq
      have hpq : p = q := rho_j hG.2.1.2.1 hp hq (nI_j (hxp.symm.trans hx) (by omega) (by omega))
      subst hpq
      have hcc : hc' = hc := by
        rw [hy, hz, nI_add, hsd] at hyz
        exact nI_j hyz (by omega) (by omega)
      subst hcc
      obtain ⟨hm1, hm2, R⟩ := hall D1 hD
      rw [hy, hz] at hD
      exact ⟨k0.trans t0.symm, fun _ => by rw [eE, updE_at, rr, ra], lI_next hs1 hn2 hs2 hP2 hL2 hD2 (gI_die hG (by omega) hp hsd hc1 hc4 he hm1 hm2 hD) (fun i hi => by rw [fr _ (Or.inr (by omega))]; exact hN2 i hi) (fun i hi => by rw [fr _ (Or.inr (by omega))]; exact hN3 i hi) R⟩
    · obtain ⟨e1, ne, same⟩ := l_no (cd := cdIAS) (fun _ => by decide) (by first | rfl | decide) (fun _ => by decide) (by decide) (by decide) hKX kX hR
      subst eD
      exact ⟨e1, fun z => absurd z ne, lI_next hs1 hn2 hs2 hP2 hL2 hD2 (gI_c hG (Nat.le_succ _)) hN2 hN3 same⟩
  obtain ⟨hk, hv, hI2⟩ := hF
  have hI2s := hI2
  obtain ⟨_, _, _, _, _, _, _, hJ2, -⟩ := hI2s
  refine V_istore h 469 [(6, .int ans), (5, .int kd), (0, .ref bs), (1, .ref b), (2, .ref (b + 61)), (3, .ref (b + 94)), (4, .int (nI i))] (by decide) rfl dL_law_467 rfl ?_
  refine V_aload_n h 470 4 rfl dL_law_469 rfl ?_
  refine CVI h 473 (As := []) (q_thrown hJ2.2.1) rfl hJ2.2.1 qL_L_92 qI_X7_thrown qS_X7_thrown qZ_X7 qC_X7_thrown hd_X7_thrown ⟨Nat.le_of_ble_eq_true rfl, Nat.le_of_ble_eq_true rfl⟩ (Nat.le_of_ble_eq_true rfl) rfl rfl dL_law_470 (by show kc + 3 + 0 ≤ 771262; omega) (by show ks + 18 + 0 ≤ 6782320; omega) (fun th D3 hq3 => ?_)
  rw [hq3.1, hq3.2]
  refine V_iload h 475 1 rfl dL_law_473 rfl ?_
  refine V_icmp_eq h 480 478 dL_law_475 (by decide) rfl (fun _ => ?_) (fun z => absurd hk.symm z)
  refine V_iload h 482 1 rfl dL_law_480 rfl ?_
  have hend : mV Γ Q (kc + 3 + 0) (ks + 18 + 0) n2 S2 P2 D2 E1 [(6, .int ans), (5, .int kd), (0, .ref bs), (1, .ref b), (2, .ref (b + 61)), (3, .ref (b + 94)), (4, .int (nI i))] [] 497 := by
    refine V_goto h 1711 dL_law_497 (by decide) ?_
    refine V_lsub [(0, .ref bs), (1, .ref b), (2, .ref (b + 61)), (3, .ref (b + 94)), (4, .int (nI i))] [2, 3, 4, 5, 6] rfl ?_
    exact V_widen (kc + 1400) (ks + 10600) (by omega) (by omega) (kk _ _ _ _ _ hI2)
  refine V_if_ne h 497 485 dL_law_482 (by decide) rfl (fun _ => hend) (fun z0 => ?_)
  refine V_aload_n h 486 5 rfl dL_law_485 rfl ?_
  refine V_iconst h 487 (v := 0) (by decide) dL_law_486 rfl ?_
  refine V_lald h 488 0 hJ2.2.2.2.1 rfl (by decide) (by decide) dL_law_487 rfl ?_
  rw [hv z0]
  refine V_iload h 490 0 rfl dL_law_488 rfl ?_
  refine V_i2l h 491 dL_law_490 rfl ?_
  refine V_lcmp h 492 dL_law_491 rfl ?_
  exact V_if_eq h 497 495 dL_law_492 (by decide) rfl (fun _ => hend) (fun z => absurd lg_cmp_0 z)

set_option maxRecDepth 100000 in
set_option maxHeartbeats 4000000 in
theorem k_dig {Γ : mC} {κ : mKp} {Q : State → Prop} (h : mOk Γ κ RL cL_law 9 (Option.some Jvm.ClassFile.FieldType.boolean) { frames := 13, cells := 771262, slots := 6782320, locals := 468 }) (hT : mOkN Γ) (hst : κ.1.stackTraces = false) {bs Ls : Nat} {xs : Nat → Int32} (hX : mScr Γ bs Ls xs) (hLs : Ls < 2 ^ 31) {i : Nat} (hi : i + 5 ≤ Ls) {b cn kc ks n : Nat} {sh : mSh} {P : mPt} {D : mDt} {E : mEt} (hI : lI b cn n sh P D) (hcn : cn ≤ 599) (hkc : kc + 1400 ≤ 771262) (hks : ks + 10600 ≤ 6782320) (kk : ∀ n2 sh2 P2 D2 E2, lI b (cn + 1) n2 sh2 P2 D2 → mV Γ Q (kc + 1400) (ks + 10600) n2 sh2 P2 D2 E2 [(0, .ref bs), (1, .ref b), (2, .ref (b + 61)), (3, .ref (b + 94)), (4, .int (nI i))] [] 1711) : mV Γ Q kc ks n sh P D E [(0, .ref bs), (1, .ref b), (2, .ref (b + 61)), (3, .ref (b + 94)), (4, .int (nI i))] [] 500 := by
  obtain ⟨L, e, ρ, m, k, dd, lo, hJ⟩ := hI
  obtain ⟨hs, hL, hG, hN2, hN3, hS⟩ := id hJ
  have hcI := hG.1
  have hB := hs.1
  refine V_aload_n h 501 1 rfl dL_law_500 rfl ?_
  refine V_aload_n h 502 0 rfl dL_law_501 rfl ?_
  refine V_iload h 504 4 rfl dL_law_502 rfl ?_
  refine V_iconst h 505 (v := 1) (by decide) dL_law_504 rfl ?_
  refine V_iadd h 506 dL_law_505 rfl ?_
  refine V_sld h hX 507 (i + 1) (nI_add (a := i) (b := 1)) (by omega) hLs dL_law_506 rfl ?_
  refine V_aload_n h 508 3 rfl dL_law_507 rfl ?_
  refine V_callSW h hT 511 (As := [.ref b, .int (xs (i + 1)), .ref (b + 94)]) (st := []) (l_dig hB.1 hs.2.2.2.1 (xs (i + 1)) (c_dig hst hB hcI (xs (i + 1))) Kx_AS) qL_L_106 qT_L_dig qZ_L qW_L_dig hd_L_dig ⟨Nat.le_of_ble_eq_true rfl, Nat.le_of_ble_eq_true rfl⟩ (Nat.le_of_ble_eq_true rfl) rfl rfl dL_law_508 ⟨by show kc + 2 ≤ 771262; omega, by show ks + 12 ≤ 6782320; omega⟩ (fun v1 n1 S1 P1 D1 E1 hq1 => ?_)
  obtain ⟨hn1, q2, q3, kd, q5, hA⟩ := hq1
  rw [q2, q3, q5]
  dsimp only at hA
  have hs1 := lSt_up hs hn1
  have h95 := hs1.2.2.2.2
  have fr : fR b D D1 := by
    rcases hA with ⟨-, r, hr, -⟩ | ⟨X, -, -, q, -⟩
    · rw [hr.2.2.2]
      exact fR_upd2 (fR_payD (gI_rho hG) hr.2.1.2) ⟨by omega, by omega⟩
    · rw [q]; exact fR_rfl
  have hS1 := lJ_mid hJ (D1 := D1) (fun a ha => fr a (Or.inr (by omega)))
  refine V_istore h 513 [(5, .int kd), (0, .ref bs), (1, .ref b), (2, .ref (b + 61)), (3, .ref (b + 94)), (4, .int (nI i))] (by decide) rfl dL_law_511 rfl ?_
  refine V_aload_n h 514 3 rfl dL_law_513 rfl ?_
  refine V_aload_n h 515 1 rfl dL_law_514 rfl ?_
  refine V_iload h 517 5 rfl dL_law_515 rfl ?_
  refine V_iconst h 518 (v := 1) (by decide) dL_law_517 rfl ?_
  refine V_iadd h 519 dL_law_518 rfl ?_
  refine V_sld h hX 520 (i + 1) (nI_add (a := i) (b := 1)) (by omega) hLs dL_law_519 rfl ?_
  refine CVI h 523 (As := [.int (xs (i + 1))]) (q_dig hs1.2.1 hs1.2.2.1 (by omega) hL hS1 hcI (gI_bw hG) (xs (i + 1))) rfl hs1.2.1 qL_L_109 qI_X7_dig qS_X7_dig qZ_X7 qC_X7_dig hd_X7_dig ⟨Nat.le_of_ble_eq_true rfl, Nat.le_of_ble_eq_true rfl⟩ (Nat.le_of_ble_eq_true rfl) rfl rfl dL_law_520 (by show kc + 2 ≤ 771262; omega) (by show ks + 12 ≤ 6782320; omega) (fun ans D2 hq2 => ?_)
  obtain ⟨hR, hD2q⟩ := hq2
  have hn2 : n1 ≤ n1 := Nat.le_refl _
  have hs2 : ∀ a, a < n1 → sh a = sh a := fun _ _ => rfl
  have hP2 : ∀ a, a < n1 → a ≠ b + 62 + 13 → P a = P a := fun _ _ _ => rfl
  have hL2 := hL
  have hD2 : ∀ a, a < n1 → (a < b + 61 ∨ b + 62 + 32 ≤ a) → D2 a = D1 a := fun a _ ha => hD2q a ha
  have hF : kd = D2 (b + 61) 0 ∧ (kd = 0 → E1 (b + 94) 0 = ans.toInt64) ∧ lI b (cn + 1) n1 sh P D2 := by
    rcases hA with ⟨k0, r, res, eE⟩ | ⟨X, hKX, kX, eD, -⟩
    · obtain ⟨t0, ok⟩ := l_ok (⟨trivial, res.1, res.2.1⟩) hR
      obtain ⟨g2, g3, rr, rfl⟩ := res
      exact ⟨k0.trans t0.symm, fun _ => by rw [eE, updE_at, rr, ok.1], lI_next hs1 hn2 hs2 hP2 hL2 hD2 (gI_dig hG (by omega) g2 g3.1 g3.2) (fun i hi => by rw [fr _ (Or.inr (by omega))]; exact hN2 i hi) (fun i hi => by rw [fr _ (Or.inr (by omega))]; exact hN3 i hi) ok.2⟩
    · obtain ⟨e1, ne, same⟩ := l_no (cd := cdAS) (fun z => absurd trivial z) (by first | rfl | decide) (fun _ => by decide) (by decide) (by decide) hKX kX hR
      subst eD
      exact ⟨e1, fun z => absurd z ne, lI_next hs1 hn2 hs2 hP2 hL2 hD2 (gI_c hG (Nat.le_succ _)) hN2 hN3 same⟩
  obtain ⟨hk, hv, hI2⟩ := hF
  have hI2s := hI2
  obtain ⟨_, _, _, _, _, _, _, hJ2, -⟩ := hI2s
  refine V_istore h 525 [(6, .int ans), (5, .int kd), (0, .ref bs), (1, .ref b), (2, .ref (b + 61)), (3, .ref (b + 94)), (4, .int (nI i))] (by decide) rfl dL_law_523 rfl ?_
  refine V_aload_n h 526 4 rfl dL_law_525 rfl ?_
  refine CVI h 529 (As := []) (q_thrown hJ2.2.1) rfl hJ2.2.1 qL_L_92 qI_X7_thrown qS_X7_thrown qZ_X7 qC_X7_thrown hd_X7_thrown ⟨Nat.le_of_ble_eq_true rfl, Nat.le_of_ble_eq_true rfl⟩ (Nat.le_of_ble_eq_true rfl) rfl rfl dL_law_526 (by show kc + 2 + 0 ≤ 771262; omega) (by show ks + 12 + 0 ≤ 6782320; omega) (fun th D3 hq3 => ?_)
  rw [hq3.1, hq3.2]
  refine V_iload h 531 1 rfl dL_law_529 rfl ?_
  refine V_icmp_eq h 536 534 dL_law_531 (by decide) rfl (fun _ => ?_) (fun z => absurd hk.symm z)
  refine V_iload h 538 1 rfl dL_law_536 rfl ?_
  have hend : mV Γ Q (kc + 2 + 0) (ks + 12 + 0) n1 sh P D2 E1 [(6, .int ans), (5, .int kd), (0, .ref bs), (1, .ref b), (2, .ref (b + 61)), (3, .ref (b + 94)), (4, .int (nI i))] [] 553 := by
    refine V_goto h 1711 dL_law_553 (by decide) ?_
    refine V_lsub [(0, .ref bs), (1, .ref b), (2, .ref (b + 61)), (3, .ref (b + 94)), (4, .int (nI i))] [2, 3, 4, 5, 6] rfl ?_
    exact V_widen (kc + 1400) (ks + 10600) (by omega) (by omega) (kk _ _ _ _ _ hI2)
  refine V_if_ne h 553 541 dL_law_538 (by decide) rfl (fun _ => hend) (fun z0 => ?_)
  refine V_aload_n h 542 5 rfl dL_law_541 rfl ?_
  refine V_iconst h 543 (v := 0) (by decide) dL_law_542 rfl ?_
  refine V_lald h 544 0 hJ2.2.2.2.1 rfl (by decide) (by decide) dL_law_543 rfl ?_
  rw [hv z0]
  refine V_iload h 546 0 rfl dL_law_544 rfl ?_
  refine V_i2l h 547 dL_law_546 rfl ?_
  refine V_lcmp h 548 dL_law_547 rfl ?_
  exact V_if_eq h 553 551 dL_law_548 (by decide) rfl (fun _ => hend) (fun z => absurd lg_cmp_0 z)

set_option maxRecDepth 100000 in
set_option maxHeartbeats 4000000 in
theorem k_clean {Γ : mC} {κ : mKp} {Q : State → Prop} (h : mOk Γ κ RL cL_law 9 (Option.some Jvm.ClassFile.FieldType.boolean) { frames := 13, cells := 771262, slots := 6782320, locals := 468 }) (hT : mOkN Γ) (hst : κ.1.stackTraces = false) {bs Ls : Nat} {xs : Nat → Int32} (hX : mScr Γ bs Ls xs) (hLs : Ls < 2 ^ 31) {i : Nat} (hi : i + 5 ≤ Ls) {b cn kc ks n : Nat} {sh : mSh} {P : mPt} {D : mDt} {E : mEt} (hI : lI b cn n sh P D) (hcn : cn ≤ 599) (hkc : kc + 1400 ≤ 771262) (hks : ks + 10600 ≤ 6782320) (kk : ∀ n2 sh2 P2 D2 E2, lI b (cn + 1) n2 sh2 P2 D2 → mV Γ Q (kc + 1400) (ks + 10600) n2 sh2 P2 D2 E2 [(0, .ref bs), (1, .ref b), (2, .ref (b + 61)), (3, .ref (b + 94)), (4, .int (nI i))] [] 1711) : mV Γ Q kc ks n sh P D E [(0, .ref bs), (1, .ref b), (2, .ref (b + 61)), (3, .ref (b + 94)), (4, .int (nI i))] [] 556 := by
  obtain ⟨L, e, ρ, m, k, dd, lo, hJ⟩ := hI
  obtain ⟨hs, hL, hG, hN2, hN3, hS⟩ := id hJ
  have hcI := hG.1
  have hB := hs.1
  refine V_aload_n h 557 1 rfl dL_law_556 rfl ?_
  refine V_aload_n h 558 0 rfl dL_law_557 rfl ?_
  refine V_iload h 560 4 rfl dL_law_558 rfl ?_
  refine V_iconst h 561 (v := 1) (by decide) dL_law_560 rfl ?_
  refine V_iadd h 562 dL_law_561 rfl ?_
  refine V_sld h hX 563 (i + 1) (nI_add (a := i) (b := 1)) (by omega) hLs dL_law_562 rfl ?_
  refine V_aload_n h 564 3 rfl dL_law_563 rfl ?_
  refine V_callSW h hT 567 (As := [.ref b, .int (xs (i + 1)), .ref (b + 94)]) (st := []) (l_clean hB.1 hs.2.2.2.1 (xs (i + 1)) (c_clean hst hB hcI (xs (i + 1))) Kx_AS) qL_L_110 qT_L_clean qZ_L qW_L_clean hd_L_clean ⟨Nat.le_of_ble_eq_true rfl, Nat.le_of_ble_eq_true rfl⟩ (Nat.le_of_ble_eq_true rfl) rfl rfl dL_law_564 ⟨by show kc + 2 ≤ 771262; omega, by show ks + 12 ≤ 6782320; omega⟩ (fun v1 n1 S1 P1 D1 E1 hq1 => ?_)
  obtain ⟨hn1, q2, q3, kd, q5, hA⟩ := hq1
  rw [q2, q3, q5]
  dsimp only at hA
  have hs1 := lSt_up hs hn1
  have h95 := hs1.2.2.2.2
  have fr : fR b D D1 := by
    rcases hA with ⟨-, r, hr, -⟩ | ⟨X, -, -, q, -⟩
    · rw [hr.2.2.2]
      exact fR_upd2 (fR_payD (gI_rho hG) hr.2.1.2) ⟨by omega, by omega⟩
    · rw [q]; exact fR_rfl
  have hS1 := lJ_mid hJ (D1 := D1) (fun a ha => fr a (Or.inr (by omega)))
  refine V_istore h 569 [(5, .int kd), (0, .ref bs), (1, .ref b), (2, .ref (b + 61)), (3, .ref (b + 94)), (4, .int (nI i))] (by decide) rfl dL_law_567 rfl ?_
  refine V_aload_n h 570 3 rfl dL_law_569 rfl ?_
  refine V_aload_n h 571 1 rfl dL_law_570 rfl ?_
  refine V_iload h 573 5 rfl dL_law_571 rfl ?_
  refine V_iconst h 574 (v := 1) (by decide) dL_law_573 rfl ?_
  refine V_iadd h 575 dL_law_574 rfl ?_
  refine V_sld h hX 576 (i + 1) (nI_add (a := i) (b := 1)) (by omega) hLs dL_law_575 rfl ?_
  refine CVI h 579 (As := [.int (xs (i + 1))]) (q_clean hs1.2.1 hs1.2.2.1 (by omega) hL hS1 hcI (gI_bw hG) (xs (i + 1))) rfl hs1.2.1 qL_L_112 qI_X7_clean qS_X7_clean qZ_X7 qC_X7_clean hd_X7_clean ⟨Nat.le_of_ble_eq_true rfl, Nat.le_of_ble_eq_true rfl⟩ (Nat.le_of_ble_eq_true rfl) rfl rfl dL_law_576 (by show kc + 2 ≤ 771262; omega) (by show ks + 12 ≤ 6782320; omega) (fun ans D2 hq2 => ?_)
  obtain ⟨hR, hD2q⟩ := hq2
  have hn2 : n1 ≤ n1 := Nat.le_refl _
  have hs2 : ∀ a, a < n1 → sh a = sh a := fun _ _ => rfl
  have hP2 : ∀ a, a < n1 → a ≠ b + 62 + 13 → P a = P a := fun _ _ _ => rfl
  have hL2 := hL
  have hD2 : ∀ a, a < n1 → (a < b + 61 ∨ b + 62 + 32 ≤ a) → D2 a = D1 a := fun a _ ha => hD2q a ha
  have hF : kd = D2 (b + 61) 0 ∧ (kd = 0 → E1 (b + 94) 0 = ans.toInt64) ∧ lI b (cn + 1) n1 sh P D2 := by
    rcases hA with ⟨k0, r, res, eE⟩ | ⟨X, hKX, kX, eD, -⟩
    · obtain ⟨t0, ok⟩ := l_ok (⟨trivial, res.1, res.2.1⟩) hR
      obtain ⟨g2, g3, rr, rfl⟩ := res
      exact ⟨k0.trans t0.symm, fun _ => by rw [eE, updE_at, rr, ok.1], lI_next hs1 hn2 hs2 hP2 hL2 hD2 (gI_clean hG (by omega) g2 g3.2) (fun i hi => by rw [fr _ (Or.inr (by omega))]; exact hN2 i hi) (fun i hi => by rw [fr _ (Or.inr (by omega))]; exact hN3 i hi) ok.2⟩
    · obtain ⟨e1, ne, same⟩ := l_no (cd := cdAS) (fun z => absurd trivial z) (by first | rfl | decide) (fun _ => by decide) (by decide) (by decide) hKX kX hR
      subst eD
      exact ⟨e1, fun z => absurd z ne, lI_next hs1 hn2 hs2 hP2 hL2 hD2 (gI_c hG (Nat.le_succ _)) hN2 hN3 same⟩
  obtain ⟨hk, hv, hI2⟩ := hF
  have hI2s := hI2
  obtain ⟨_, _, _, _, _, _, _, hJ2, -⟩ := hI2s
  refine V_istore h 581 [(6, .int ans), (5, .int kd), (0, .ref bs), (1, .ref b), (2, .ref (b + 61)), (3, .ref (b + 94)), (4, .int (nI i))] (by decide) rfl dL_law_579 rfl ?_
  refine V_aload_n h 582 4 rfl dL_law_581 rfl ?_
  refine CVI h 585 (As := []) (q_thrown hJ2.2.1) rfl hJ2.2.1 qL_L_92 qI_X7_thrown qS_X7_thrown qZ_X7 qC_X7_thrown hd_X7_thrown ⟨Nat.le_of_ble_eq_true rfl, Nat.le_of_ble_eq_true rfl⟩ (Nat.le_of_ble_eq_true rfl) rfl rfl dL_law_582 (by show kc + 2 + 0 ≤ 771262; omega) (by show ks + 12 + 0 ≤ 6782320; omega) (fun th D3 hq3 => ?_)
  rw [hq3.1, hq3.2]
  refine V_iload h 587 1 rfl dL_law_585 rfl ?_
  refine V_icmp_eq h 592 590 dL_law_587 (by decide) rfl (fun _ => ?_) (fun z => absurd hk.symm z)
  refine V_iload h 594 1 rfl dL_law_592 rfl ?_
  have hend : mV Γ Q (kc + 2 + 0) (ks + 12 + 0) n1 sh P D2 E1 [(6, .int ans), (5, .int kd), (0, .ref bs), (1, .ref b), (2, .ref (b + 61)), (3, .ref (b + 94)), (4, .int (nI i))] [] 609 := by
    refine V_goto h 1711 dL_law_609 (by decide) ?_
    refine V_lsub [(0, .ref bs), (1, .ref b), (2, .ref (b + 61)), (3, .ref (b + 94)), (4, .int (nI i))] [2, 3, 4, 5, 6] rfl ?_
    exact V_widen (kc + 1400) (ks + 10600) (by omega) (by omega) (kk _ _ _ _ _ hI2)
  refine V_if_ne h 609 597 dL_law_594 (by decide) rfl (fun _ => hend) (fun z0 => ?_)
  refine V_aload_n h 598 5 rfl dL_law_597 rfl ?_
  refine V_iconst h 599 (v := 0) (by decide) dL_law_598 rfl ?_
  refine V_lald h 600 0 hJ2.2.2.2.1 rfl (by decide) (by decide) dL_law_599 rfl ?_
  rw [hv z0]
  refine V_iload h 602 0 rfl dL_law_600 rfl ?_
  refine V_i2l h 603 dL_law_602 rfl ?_
  refine V_lcmp h 604 dL_law_603 rfl ?_
  exact V_if_eq h 609 607 dL_law_604 (by decide) rfl (fun _ => hend) (fun z => absurd lg_cmp_0 z)

set_option maxRecDepth 100000 in
set_option maxHeartbeats 4000000 in
theorem k_fall {Γ : mC} {κ : mKp} {Q : State → Prop} (h : mOk Γ κ RL cL_law 9 (Option.some Jvm.ClassFile.FieldType.boolean) { frames := 13, cells := 771262, slots := 6782320, locals := 468 }) (hT : mOkN Γ) (hst : κ.1.stackTraces = false) {bs Ls : Nat} {xs : Nat → Int32} (hX : mScr Γ bs Ls xs) (hLs : Ls < 2 ^ 31) {i : Nat} (hi : i + 5 ≤ Ls) {b cn kc ks n : Nat} {sh : mSh} {P : mPt} {D : mDt} {E : mEt} (hI : lI b cn n sh P D) (hcn : cn ≤ 599) (hkc : kc + 1400 ≤ 771262) (hks : ks + 10600 ≤ 6782320) (kk : ∀ n2 sh2 P2 D2 E2, lI b (cn + 1) n2 sh2 P2 D2 → mV Γ Q (kc + 1400) (ks + 10600) n2 sh2 P2 D2 E2 [(0, .ref bs), (1, .ref b), (2, .ref (b + 61)), (3, .ref (b + 94)), (4, .int (nI i))] [] 1711) : mV Γ Q kc ks n sh P D E [(0, .ref bs), (1, .ref b), (2, .ref (b + 61)), (3, .ref (b + 94)), (4, .int (nI i))] [] 612 := by
  obtain ⟨L, e, ρ, m, k, dd, lo, hJ⟩ := hI
  obtain ⟨hs, hL, hG, hN2, hN3, hS⟩ := id hJ
  have hcI := hG.1
  have hB := hs.1
  refine V_aload_n h 613 1 rfl dL_law_612 rfl ?_
  refine V_aload_n h 614 0 rfl dL_law_613 rfl ?_
  refine V_iload h 616 4 rfl dL_law_614 rfl ?_
  refine V_iconst h 617 (v := 1) (by decide) dL_law_616 rfl ?_
  refine V_iadd h 618 dL_law_617 rfl ?_
  refine V_sld h hX 619 (i + 1) (nI_add (a := i) (b := 1)) (by omega) hLs dL_law_618 rfl ?_
  refine V_aload_n h 620 3 rfl dL_law_619 rfl ?_
  refine V_callSW h hT 623 (As := [.ref b, .int (xs (i + 1)), .ref (b + 94)]) (st := []) (l_fall hB.1 hs.2.2.2.1 (xs (i + 1)) (c_fall hst hB hcI (xs (i + 1))) Kx_A) qL_L_113 qT_L_fall qZ_L qW_L_fall hd_L_fall ⟨Nat.le_of_ble_eq_true rfl, Nat.le_of_ble_eq_true rfl⟩ (Nat.le_of_ble_eq_true rfl) rfl rfl dL_law_620 ⟨by show kc + 1 ≤ 771262; omega, by show ks + 6 ≤ 6782320; omega⟩ (fun v1 n1 S1 P1 D1 E1 hq1 => ?_)
  obtain ⟨hn1, q2, q3, kd, q5, hA⟩ := hq1
  rw [q2, q3, q5]
  dsimp only at hA
  have hs1 := lSt_up hs hn1
  have h95 := hs1.2.2.2.2
  have fr : fR b D D1 := by
    rcases hA with ⟨-, r, hr, -⟩ | ⟨X, -, -, q, -⟩
    · rw [hr.2.2]
      exact fR_upd2 fR_rfl ⟨by omega, by omega⟩
    · rw [q]; exact fR_rfl
  have hS1 := lJ_mid hJ (D1 := D1) (fun a ha => fr a (Or.inr (by omega)))
  refine V_istore h 625 [(5, .int kd), (0, .ref bs), (1, .ref b), (2, .ref (b + 61)), (3, .ref (b + 94)), (4, .int (nI i))] (by decide) rfl dL_law_623 rfl ?_
  refine V_aload_n h 626 3 rfl dL_law_625 rfl ?_
  refine V_aload_n h 627 1 rfl dL_law_626 rfl ?_
  refine V_iload h 629 5 rfl dL_law_627 rfl ?_
  refine V_iconst h 630 (v := 1) (by decide) dL_law_629 rfl ?_
  refine V_iadd h 631 dL_law_630 rfl ?_
  refine V_sld h hX 632 (i + 1) (nI_add (a := i) (b := 1)) (by omega) hLs dL_law_631 rfl ?_
  refine CVI h 635 (As := [.int (xs (i + 1))]) (q_fall hs1.2.1 hs1.2.2.1 (by omega) hL hS1 hcI (xs (i + 1))) rfl hs1.2.1 qL_L_115 qI_X7_fall qS_X7_fall qZ_X7 qC_X7_fall hd_X7_fall ⟨Nat.le_of_ble_eq_true rfl, Nat.le_of_ble_eq_true rfl⟩ (Nat.le_of_ble_eq_true rfl) rfl rfl dL_law_632 (by show kc + 1 ≤ 771262; omega) (by show ks + 6 ≤ 6782320; omega) (fun ans D2 hq2 => ?_)
  obtain ⟨hR, hD2q⟩ := hq2
  have hn2 : n1 ≤ n1 := Nat.le_refl _
  have hs2 : ∀ a, a < n1 → sh a = sh a := fun _ _ => rfl
  have hP2 : ∀ a, a < n1 → a ≠ b + 62 + 13 → P a = P a := fun _ _ _ => rfl
  have hL2 := hL
  have hD2 : ∀ a, a < n1 → (a < b + 61 ∨ b + 62 + 32 ≤ a) → D2 a = D1 a := fun a _ ha => hD2q a ha
  have hF : kd = D2 (b + 61) 0 ∧ (kd = 0 → E1 (b + 94) 0 = ans.toInt64) ∧ lI b (cn + 1) n1 sh P D2 := by
    rcases hA with ⟨k0, r, res, eE⟩ | ⟨X, hKX, kX, eD, -⟩
    · obtain ⟨t0, ok⟩ := l_ok (⟨trivial, res.1, trivial⟩) hR
      obtain ⟨g2, rr, rfl⟩ := res
      exact ⟨k0.trans t0.symm, fun _ => by rw [eE, updE_at, rr, ok.1], lI_next hs1 hn2 hs2 hP2 hL2 hD2 (gI_ch hG (fun z => absurd z (by decide))) (fun i hi => by rw [fr _ (Or.inr (by omega))]; exact hN2 i hi) (fun i hi => by rw [fr _ (Or.inr (by omega))]; exact hN3 i hi) ok.2⟩
    · obtain ⟨e1, ne, same⟩ := l_no (cd := cdA) (fun z => absurd trivial z) (by first | rfl | decide) (fun z => absurd trivial z) (by decide) (by decide) hKX kX hR
      subst eD
      exact ⟨e1, fun z => absurd z ne, lI_next hs1 hn2 hs2 hP2 hL2 hD2 (gI_c hG (Nat.le_succ _)) hN2 hN3 same⟩
  obtain ⟨hk, hv, hI2⟩ := hF
  have hI2s := hI2
  obtain ⟨_, _, _, _, _, _, _, hJ2, -⟩ := hI2s
  refine V_istore h 637 [(6, .int ans), (5, .int kd), (0, .ref bs), (1, .ref b), (2, .ref (b + 61)), (3, .ref (b + 94)), (4, .int (nI i))] (by decide) rfl dL_law_635 rfl ?_
  refine V_aload_n h 638 4 rfl dL_law_637 rfl ?_
  refine CVI h 641 (As := []) (q_thrown hJ2.2.1) rfl hJ2.2.1 qL_L_92 qI_X7_thrown qS_X7_thrown qZ_X7 qC_X7_thrown hd_X7_thrown ⟨Nat.le_of_ble_eq_true rfl, Nat.le_of_ble_eq_true rfl⟩ (Nat.le_of_ble_eq_true rfl) rfl rfl dL_law_638 (by show kc + 1 + 0 ≤ 771262; omega) (by show ks + 6 + 0 ≤ 6782320; omega) (fun th D3 hq3 => ?_)
  rw [hq3.1, hq3.2]
  refine V_iload h 643 1 rfl dL_law_641 rfl ?_
  refine V_icmp_eq h 648 646 dL_law_643 (by decide) rfl (fun _ => ?_) (fun z => absurd hk.symm z)
  refine V_iload h 650 1 rfl dL_law_648 rfl ?_
  have hend : mV Γ Q (kc + 1 + 0) (ks + 6 + 0) n1 sh P D2 E1 [(6, .int ans), (5, .int kd), (0, .ref bs), (1, .ref b), (2, .ref (b + 61)), (3, .ref (b + 94)), (4, .int (nI i))] [] 665 := by
    refine V_goto h 1711 dL_law_665 (by decide) ?_
    refine V_lsub [(0, .ref bs), (1, .ref b), (2, .ref (b + 61)), (3, .ref (b + 94)), (4, .int (nI i))] [2, 3, 4, 5, 6] rfl ?_
    exact V_widen (kc + 1400) (ks + 10600) (by omega) (by omega) (kk _ _ _ _ _ hI2)
  refine V_if_ne h 665 653 dL_law_650 (by decide) rfl (fun _ => hend) (fun z0 => ?_)
  refine V_aload_n h 654 5 rfl dL_law_653 rfl ?_
  refine V_iconst h 655 (v := 0) (by decide) dL_law_654 rfl ?_
  refine V_lald h 656 0 hJ2.2.2.2.1 rfl (by decide) (by decide) dL_law_655 rfl ?_
  rw [hv z0]
  refine V_iload h 658 0 rfl dL_law_656 rfl ?_
  refine V_i2l h 659 dL_law_658 rfl ?_
  refine V_lcmp h 660 dL_law_659 rfl ?_
  exact V_if_eq h 665 663 dL_law_660 (by decide) rfl (fun _ => hend) (fun z => absurd lg_cmp_0 z)

set_option maxRecDepth 100000 in
set_option maxHeartbeats 4000000 in
theorem k_pump {Γ : mC} {κ : mKp} {Q : State → Prop} (h : mOk Γ κ RL cL_law 9 (Option.some Jvm.ClassFile.FieldType.boolean) { frames := 13, cells := 771262, slots := 6782320, locals := 468 }) (hT : mOkN Γ) (hst : κ.1.stackTraces = false) {bs Ls : Nat} {xs : Nat → Int32} (hX : mScr Γ bs Ls xs) (hLs : Ls < 2 ^ 31) {i : Nat} (hi : i + 5 ≤ Ls) {b cn kc ks n : Nat} {sh : mSh} {P : mPt} {D : mDt} {E : mEt} (hI : lI b cn n sh P D) (hcn : cn ≤ 599) (hkc : kc + 1400 ≤ 771262) (hks : ks + 10600 ≤ 6782320) (kk : ∀ n2 sh2 P2 D2 E2, lI b (cn + 1) n2 sh2 P2 D2 → mV Γ Q (kc + 1400) (ks + 10600) n2 sh2 P2 D2 E2 [(0, .ref bs), (1, .ref b), (2, .ref (b + 61)), (3, .ref (b + 94)), (4, .int (nI i))] [] 1711) : mV Γ Q kc ks n sh P D E [(0, .ref bs), (1, .ref b), (2, .ref (b + 61)), (3, .ref (b + 94)), (4, .int (nI i))] [] 668 := by
  obtain ⟨L, e, ρ, m, k, dd, lo, hJ⟩ := hI
  obtain ⟨hs, hL, hG, hN2, hN3, hS⟩ := id hJ
  have hcI := hG.1
  have hB := hs.1
  refine V_aload_n h 669 1 rfl dL_law_668 rfl ?_
  refine V_aload_n h 670 0 rfl dL_law_669 rfl ?_
  refine V_iload h 672 4 rfl dL_law_670 rfl ?_
  refine V_iconst h 673 (v := 1) (by decide) dL_law_672 rfl ?_
  refine V_iadd h 674 dL_law_673 rfl ?_
  refine V_sld h hX 675 (i + 1) (nI_add (a := i) (b := 1)) (by omega) hLs dL_law_674 rfl ?_
  refine V_aload_n h 676 3 rfl dL_law_675 rfl ?_
  refine V_callSW h hT 679 (As := [.ref b, .int (xs (i + 1)), .ref (b + 94)]) (st := []) (l_pump hB.1 hs.2.2.2.1 (xs (i + 1)) (c_pump hst hB hcI (xs (i + 1))) Kx_A) qL_L_116 qT_L_pump qZ_L qW_L_pump hd_L_pump ⟨Nat.le_of_ble_eq_true rfl, Nat.le_of_ble_eq_true rfl⟩ (Nat.le_of_ble_eq_true rfl) rfl rfl dL_law_676 ⟨by show kc + 1 ≤ 771262; omega, by show ks + 6 ≤ 6782320; omega⟩ (fun v1 n1 S1 P1 D1 E1 hq1 => ?_)
  obtain ⟨hn1, q2, q3, kd, q5, hA⟩ := hq1
  rw [q2, q3, q5]
  dsimp only at hA
  have hs1 := lSt_up hs hn1
  have h95 := hs1.2.2.2.2
  have fr : fR b D D1 := by
    rcases hA with ⟨-, r, hr, -⟩ | ⟨X, -, -, q, -⟩
    · rw [hr.2.2]
      exact fR_upd2 fR_rfl ⟨by omega, by omega⟩
    · rw [q]; exact fR_rfl
  have hS1 := lJ_mid hJ (D1 := D1) (fun a ha => fr a (Or.inr (by omega)))
  refine V_istore h 681 [(5, .int kd), (0, .ref bs), (1, .ref b), (2, .ref (b + 61)), (3, .ref (b + 94)), (4, .int (nI i))] (by decide) rfl dL_law_679 rfl ?_
  refine V_aload_n h 682 3 rfl dL_law_681 rfl ?_
  refine V_aload_n h 683 1 rfl dL_law_682 rfl ?_
  refine V_iload h 685 5 rfl dL_law_683 rfl ?_
  refine V_iconst h 686 (v := 1) (by decide) dL_law_685 rfl ?_
  refine V_iadd h 687 dL_law_686 rfl ?_
  refine V_sld h hX 688 (i + 1) (nI_add (a := i) (b := 1)) (by omega) hLs dL_law_687 rfl ?_
  refine CVI h 691 (As := [.int (xs (i + 1))]) (q_pump hs1.2.1 hs1.2.2.1 (by omega) hL hS1 hcI (xs (i + 1))) rfl hs1.2.1 qL_L_118 qI_X7_pump qS_X7_pump qZ_X7 qC_X7_pump hd_X7_pump ⟨Nat.le_of_ble_eq_true rfl, Nat.le_of_ble_eq_true rfl⟩ (Nat.le_of_ble_eq_true rfl) rfl rfl dL_law_688 (by show kc + 1 ≤ 771262; omega) (by show ks + 6 ≤ 6782320; omega) (fun ans D2 hq2 => ?_)
  obtain ⟨hR, hD2q⟩ := hq2
  have hn2 : n1 ≤ n1 := Nat.le_refl _
  have hs2 : ∀ a, a < n1 → sh a = sh a := fun _ _ => rfl
  have hP2 : ∀ a, a < n1 → a ≠ b + 62 + 13 → P a = P a := fun _ _ _ => rfl
  have hL2 := hL
  have hD2 : ∀ a, a < n1 → (a < b + 61 ∨ b + 62 + 32 ≤ a) → D2 a = D1 a := fun a _ ha => hD2q a ha
  have hF : kd = D2 (b + 61) 0 ∧ (kd = 0 → E1 (b + 94) 0 = ans.toInt64) ∧ lI b (cn + 1) n1 sh P D2 := by
    rcases hA with ⟨k0, r, res, eE⟩ | ⟨X, hKX, kX, eD, -⟩
    · obtain ⟨t0, ok⟩ := l_ok (⟨trivial, res.1, trivial⟩) hR
      obtain ⟨g2, rr, rfl⟩ := res
      exact ⟨k0.trans t0.symm, fun _ => by rw [eE, updE_at, rr, ok.1], lI_next hs1 hn2 hs2 hP2 hL2 hD2 (gI_ch hG (fun z => absurd z (by decide))) (fun i hi => by rw [fr _ (Or.inr (by omega))]; exact hN2 i hi) (fun i hi => by rw [fr _ (Or.inr (by omega))]; exact hN3 i hi) ok.2⟩
    · obtain ⟨e1, ne, same⟩ := l_no (cd := cdA) (fun z => absurd trivial z) (by first | rfl | decide) (fun z => absurd trivial z) (by decide) (by decide) hKX kX hR
      subst eD
      exact ⟨e1, fun z => absurd z ne, lI_next hs1 hn2 hs2 hP2 hL2 hD2 (gI_c hG (Nat.le_succ _)) hN2 hN3 same⟩
  obtain ⟨hk, hv, hI2⟩ := hF
  have hI2s := hI2
  obtain ⟨_, _, _, _, _, _, _, hJ2, -⟩ := hI2s
  refine V_istore h 693 [(6, .int ans), (5, .int kd), (0, .ref bs), (1, .ref b), (2, .ref (b + 61)), (3, .ref (b + 94)), (4, .int (nI i))] (by decide) rfl dL_law_691 rfl ?_
  refine V_aload_n h 694 4 rfl dL_law_693 rfl ?_
  refine CVI h 697 (As := []) (q_thrown hJ2.2.1) rfl hJ2.2.1 qL_L_92 qI_X7_thrown qS_X7_thrown qZ_X7 qC_X7_thrown hd_X7_thrown ⟨Nat.le_of_ble_eq_true rfl, Nat.le_of_ble_eq_true rfl⟩ (Nat.le_of_ble_eq_true rfl) rfl rfl dL_law_694 (by show kc + 1 + 0 ≤ 771262; omega) (by show ks + 6 + 0 ≤ 6782320; omega) (fun th D3 hq3 => ?_)
  rw [hq3.1, hq3.2]
  refine V_iload h 699 1 rfl dL_law_697 rfl ?_
  refine V_icmp_eq h 704 702 dL_law_699 (by decide) rfl (fun _ => ?_) (fun z => absurd hk.symm z)
  refine V_iload h 706 1 rfl dL_law_704 rfl ?_
  have hend : mV Γ Q (kc + 1 + 0) (ks + 6 + 0) n1 sh P D2 E1 [(6, .int ans), (5, .int kd), (0, .ref bs), (1, .ref b), (2, .ref (b + 61)), (3, .ref (b + 94)), (4, .int (nI i))] [] 721 := by
    refine V_goto h 1711 dL_law_721 (by decide) ?_
    refine V_lsub [(0, .ref bs), (1, .ref b), (2, .ref (b + 61)), (3, .ref (b + 94)), (4, .int (nI i))] [2, 3, 4, 5, 6] rfl ?_
    exact V_widen (kc + 1400) (ks + 10600) (by omega) (by omega) (kk _ _ _ _ _ hI2)
  refine V_if_ne h 721 709 dL_law_706 (by decide) rfl (fun _ => hend) (fun z0 => ?_)
  refine V_aload_n h 710 5 rfl dL_law_709 rfl ?_
  refine V_iconst h 711 (v := 0) (by decide) dL_law_710 rfl ?_
  refine V_lald h 712 0 hJ2.2.2.2.1 rfl (by decide) (by decide) dL_law_711 rfl ?_
  rw [hv z0]
  refine V_iload h 714 0 rfl dL_law_712 rfl ?_
  refine V_i2l h 715 dL_law_714 rfl ?_
  refine V_lcmp h 716 dL_law_715 rfl ?_
  exact V_if_eq h 721 719 dL_law_716 (by decide) rfl (fun _ => hend) (fun z => absurd lg_cmp_0 z)

set_option maxRecDepth 100000 in
set_option maxHeartbeats 4000000 in
theorem k_pollinate {Γ : mC} {κ : mKp} {Q : State → Prop} (h : mOk Γ κ RL cL_law 9 (Option.some Jvm.ClassFile.FieldType.boolean) { frames := 13, cells := 771262, slots := 6782320, locals := 468 }) (hT : mOkN Γ) (hst : κ.1.stackTraces = false) {bs Ls : Nat} {xs : Nat → Int32} (hX : mScr Γ bs Ls xs) (hLs : Ls < 2 ^ 31) {i : Nat} (hi : i + 5 ≤ Ls) {b cn kc ks n : Nat} {sh : mSh} {P : mPt} {D : mDt} {E : mEt} (hI : lI b cn n sh P D) (hcn : cn ≤ 599) (hkc : kc + 1400 ≤ 771262) (hks : ks + 10600 ≤ 6782320) (kk : ∀ n2 sh2 P2 D2 E2, lI b (cn + 1) n2 sh2 P2 D2 → mV Γ Q (kc + 1400) (ks + 10600) n2 sh2 P2 D2 E2 [(0, .ref bs), (1, .ref b), (2, .ref (b + 61)), (3, .ref (b + 94)), (4, .int (nI i))] [] 1711) : mV Γ Q kc ks n sh P D E [(0, .ref bs), (1, .ref b), (2, .ref (b + 61)), (3, .ref (b + 94)), (4, .int (nI i))] [] 724 := by
  obtain ⟨L, e, ρ, m, k, dd, lo, hJ⟩ := hI
  obtain ⟨hs, hL, hG, hN2, hN3, hS⟩ := id hJ
  have hcI := hG.1
  have hB := hs.1
  refine V_aload_n h 725 1 rfl dL_law_724 rfl ?_
  refine V_aload_n h 726 0 rfl dL_law_725 rfl ?_
  refine V_iload h 728 4 rfl dL_law_726 rfl ?_
  refine V_iconst h 729 (v := 1) (by decide) dL_law_728 rfl ?_
  refine V_iadd h 730 dL_law_729 rfl ?_
  refine V_sld h hX 731 (i + 1) (nI_add (a := i) (b := 1)) (by omega) hLs dL_law_730 rfl ?_
  refine V_aload_n h 732 0 rfl dL_law_731 rfl ?_
  refine V_iload h 734 4 rfl dL_law_732 rfl ?_
  refine V_iconst h 735 (v := 2) (by decide) dL_law_734 rfl ?_
  refine V_iadd h 736 dL_law_735 rfl ?_
  refine V_sld h hX 737 (i + 2) (nI_add (a := i) (b := 2)) (by omega) hLs dL_law_736 rfl ?_
  refine V_aload_n h 738 3 rfl dL_law_737 rfl ?_
  refine V_callSW h hT 741 (As := [.ref b, .int (xs (i + 1)), .int (xs (i + 2)), .ref (b + 94)]) (st := []) (l_pollinate hB.1 hs.2.2.2.1 (xs (i + 1)) (xs (i + 2)) (c_pollinate hst hB hcI (xs (i + 1)) (xs (i + 2))) Kx_IA) qL_L_119 qT_L_pollinate qZ_L qW_L_pollinate hd_L_pollinate ⟨Nat.le_of_ble_eq_true rfl, Nat.le_of_ble_eq_true rfl⟩ (Nat.le_of_ble_eq_true rfl) rfl rfl dL_law_738 ⟨by show kc + 2 ≤ 771262; omega, by show ks + 12 ≤ 6782320; omega⟩ (fun v1 n1 S1 P1 D1 E1 hq1 => ?_)
  obtain ⟨hn1, q2, q3, kd, q5, hA⟩ := hq1
  rw [q2, q3, q5]
  dsimp only at hA
  have hs1 := lSt_up hs hn1
  have h95 := hs1.2.2.2.2
  have fr : fR b D D1 := by
    rcases hA with ⟨-, r, hr, -⟩ | ⟨X, -, -, q, -⟩
    · rw [hr.2.2.2]
      split
      · split
        · split
          · exact fR_upd2 fR_rfl (fR_numb _)
          · exact fR_rfl
        · exact fR_rfl
      · exact fR_rfl
    · rw [q]; exact fR_rfl
  have hS1 := lJ_mid hJ (D1 := D1) (fun a ha => fr a (Or.inr (by omega)))
  refine V_istore h 743 [(5, .int kd), (0, .ref bs), (1, .ref b), (2, .ref (b + 61)), (3, .ref (b + 94)), (4, .int (nI i))] (by decide) rfl dL_law_741 rfl ?_
  refine V_aload_n h 744 3 rfl dL_law_743 rfl ?_
  refine V_aload_n h 745 1 rfl dL_law_744 rfl ?_
  refine V_iload h 747 5 rfl dL_law_745 rfl ?_
  refine V_iconst h 748 (v := 1) (by decide) dL_law_747 rfl ?_
  refine V_iadd h 749 dL_law_748 rfl ?_
  refine V_sld h hX 750 (i + 1) (nI_add (a := i) (b := 1)) (by omega) hLs dL_law_749 rfl ?_
  refine V_aload_n h 751 1 rfl dL_law_750 rfl ?_
  refine V_iload h 753 5 rfl dL_law_751 rfl ?_
  refine V_iconst h 754 (v := 2) (by decide) dL_law_753 rfl ?_
  refine V_iadd h 755 dL_law_754 rfl ?_
  refine V_sld h hX 756 (i + 2) (nI_add (a := i) (b := 2)) (by omega) hLs dL_law_755 rfl ?_
  refine CVI h 759 (As := [.int (xs (i + 1)), .int (xs (i + 2))]) (q_pollinate hs1.2.1 hs1.2.2.1 (by omega) hL hS1 hcI (xs (i + 1)) (xs (i + 2))) rfl hs1.2.1 qL_L_122 qI_X7_pollinate qS_X7_pollinate qZ_X7 qC_X7_pollinate hd_X7_pollinate ⟨Nat.le_of_ble_eq_true rfl, Nat.le_of_ble_eq_true rfl⟩ (Nat.le_of_ble_eq_true rfl) rfl rfl dL_law_756 (by show kc + 2 ≤ 771262; omega) (by show ks + 12 ≤ 6782320; omega) (fun ans D2 hq2 => ?_)
  obtain ⟨hR, hD2q⟩ := hq2
  have hn2 : n1 ≤ n1 := Nat.le_refl _
  have hs2 : ∀ a, a < n1 → sh a = sh a := fun _ _ => rfl
  have hP2 : ∀ a, a < n1 → a ≠ b + 62 + 13 → P a = P a := fun _ _ _ => rfl
  have hL2 := hL
  have hD2 : ∀ a, a < n1 → (a < b + 61 ∨ b + 62 + 32 ≤ a) → D2 a = D1 a := fun a _ ha => hD2q a ha
  have hF : kd = D2 (b + 61) 0 ∧ (kd = 0 → E1 (b + 94) 0 = ans.toInt64) ∧ lI b (cn + 1) n1 sh P D2 := by
    rcases hA with ⟨k0, r, res, eE⟩ | ⟨X, hKX, kX, eD, -⟩
    · obtain ⟨t0, ok⟩ := l_ok (⟨res.1, res.2.1, trivial⟩) hR
      obtain ⟨g1, g2, rr, hD⟩ := res
      have G := gI_pollinateN hG g1 g2
      rw [← hD] at G
      have R := ok.2
      rw [← hD] at R
      exact ⟨k0.trans t0.symm, fun _ => by rw [eE, updE_at, rr, ok.1], lI_next hs1 hn2 hs2 hP2 hL2 hD2 G (fun i hi => by rw [fr _ (Or.inr (by omega))]; exact hN2 i hi) (fun i hi => by rw [fr _ (Or.inr (by omega))]; exact hN3 i hi) R⟩
    · obtain ⟨e1, ne, same⟩ := l_no (cd := cdIA) (fun _ => by decide) (by first | rfl | decide) (fun z => absurd trivial z) (by decide) (by decide) hKX kX hR
      subst eD
      exact ⟨e1, fun z => absurd z ne, lI_next hs1 hn2 hs2 hP2 hL2 hD2 (gI_c hG (Nat.le_succ _)) hN2 hN3 same⟩
  obtain ⟨hk, hv, hI2⟩ := hF
  have hI2s := hI2
  obtain ⟨_, _, _, _, _, _, _, hJ2, -⟩ := hI2s
  refine V_istore h 761 [(6, .int ans), (5, .int kd), (0, .ref bs), (1, .ref b), (2, .ref (b + 61)), (3, .ref (b + 94)), (4, .int (nI i))] (by decide) rfl dL_law_759 rfl ?_
  refine V_aload_n h 762 4 rfl dL_law_761 rfl ?_
  refine CVI h 765 (As := []) (q_thrown hJ2.2.1) rfl hJ2.2.1 qL_L_92 qI_X7_thrown qS_X7_thrown qZ_X7 qC_X7_thrown hd_X7_thrown ⟨Nat.le_of_ble_eq_true rfl, Nat.le_of_ble_eq_true rfl⟩ (Nat.le_of_ble_eq_true rfl) rfl rfl dL_law_762 (by show kc + 2 + 0 ≤ 771262; omega) (by show ks + 12 + 0 ≤ 6782320; omega) (fun th D3 hq3 => ?_)
  rw [hq3.1, hq3.2]
  refine V_iload h 767 1 rfl dL_law_765 rfl ?_
  refine V_icmp_eq h 772 770 dL_law_767 (by decide) rfl (fun _ => ?_) (fun z => absurd hk.symm z)
  refine V_iload h 774 1 rfl dL_law_772 rfl ?_
  have hend : mV Γ Q (kc + 2 + 0) (ks + 12 + 0) n1 sh P D2 E1 [(6, .int ans), (5, .int kd), (0, .ref bs), (1, .ref b), (2, .ref (b + 61)), (3, .ref (b + 94)), (4, .int (nI i))] [] 789 := by
    refine V_goto h 1711 dL_law_789 (by decide) ?_
    refine V_lsub [(0, .ref bs), (1, .ref b), (2, .ref (b + 61)), (3, .ref (b + 94)), (4, .int (nI i))] [2, 3, 4, 5, 6] rfl ?_
    exact V_widen (kc + 1400) (ks + 10600) (by omega) (by omega) (kk _ _ _ _ _ hI2)
  refine V_if_ne h 789 777 dL_law_774 (by decide) rfl (fun _ => hend) (fun z0 => ?_)
  refine V_aload_n h 778 5 rfl dL_law_777 rfl ?_
  refine V_iconst h 779 (v := 0) (by decide) dL_law_778 rfl ?_
  refine V_lald h 780 0 hJ2.2.2.2.1 rfl (by decide) (by decide) dL_law_779 rfl ?_
  rw [hv z0]
  refine V_iload h 782 0 rfl dL_law_780 rfl ?_
  refine V_i2l h 783 dL_law_782 rfl ?_
  refine V_lcmp h 784 dL_law_783 rfl ?_
  exact V_if_eq h 789 787 dL_law_784 (by decide) rfl (fun _ => hend) (fun z => absurd lg_cmp_0 z)

set_option maxRecDepth 100000 in
set_option maxHeartbeats 4000000 in
theorem k_pollen {Γ : mC} {κ : mKp} {Q : State → Prop} (h : mOk Γ κ RL cL_law 9 (Option.some Jvm.ClassFile.FieldType.boolean) { frames := 13, cells := 771262, slots := 6782320, locals := 468 }) (hT : mOkN Γ) (hst : κ.1.stackTraces = false) {bs Ls : Nat} {xs : Nat → Int32} (hX : mScr Γ bs Ls xs) (hLs : Ls < 2 ^ 31) {i : Nat} (hi : i + 5 ≤ Ls) {b cn kc ks n : Nat} {sh : mSh} {P : mPt} {D : mDt} {E : mEt} (hI : lI b cn n sh P D) (hcn : cn ≤ 599) (hkc : kc + 1400 ≤ 771262) (hks : ks + 10600 ≤ 6782320) (kk : ∀ n2 sh2 P2 D2 E2, lI b (cn + 1) n2 sh2 P2 D2 → mV Γ Q (kc + 1400) (ks + 10600) n2 sh2 P2 D2 E2 [(0, .ref bs), (1, .ref b), (2, .ref (b + 61)), (3, .ref (b + 94)), (4, .int (nI i))] [] 1711) : mV Γ Q kc ks n sh P D E [(0, .ref bs), (1, .ref b), (2, .ref (b + 61)), (3, .ref (b + 94)), (4, .int (nI i))] [] 792 := by
  obtain ⟨L, e, ρ, m, k, dd, lo, hJ⟩ := hI
  obtain ⟨hs, hL, hG, hN2, hN3, hS⟩ := id hJ
  have hcI := hG.1
  have hB := hs.1
  refine V_aload_n h 793 1 rfl dL_law_792 rfl ?_
  refine V_aload_n h 794 0 rfl dL_law_793 rfl ?_
  refine V_iload h 796 4 rfl dL_law_794 rfl ?_
  refine V_iconst h 797 (v := 1) (by decide) dL_law_796 rfl ?_
  refine V_iadd h 798 dL_law_797 rfl ?_
  refine V_sld h hX 799 (i + 1) (nI_add (a := i) (b := 1)) (by omega) hLs dL_law_798 rfl ?_
  refine V_aload_n h 800 0 rfl dL_law_799 rfl ?_
  refine V_iload h 802 4 rfl dL_law_800 rfl ?_
  refine V_iconst h 803 (v := 2) (by decide) dL_law_802 rfl ?_
  refine V_iadd h 804 dL_law_803 rfl ?_
  refine V_sld h hX 805 (i + 2) (nI_add (a := i) (b := 2)) (by omega) hLs dL_law_804 rfl ?_
  refine V_aload_n h 806 0 rfl dL_law_805 rfl ?_
  refine V_iload h 808 4 rfl dL_law_806 rfl ?_
  refine V_iconst h 809 (v := 3) (by decide) dL_law_808 rfl ?_
  refine V_iadd h 810 dL_law_809 rfl ?_
  refine V_sld h hX 811 (i + 3) (nI_add (a := i) (b := 3)) (by omega) hLs dL_law_810 rfl ?_
  refine V_aload_n h 812 3 rfl dL_law_811 rfl ?_
  refine V_callSW h hT 815 (As := [.ref b, .int (xs (i + 1)), .int (xs (i + 2)), .int (xs (i + 3)), .ref (b + 94)]) (st := []) (l_pollen hB.1 hs.2.2.2.1 (xs (i + 1)) (xs (i + 2)) (xs (i + 3)) (c_pollen hst hB hcI (xs (i + 1)) (xs (i + 2)) (xs (i + 3))) Kx_IA) qL_L_123 qT_L_pollen qZ_L qW_L_pollen hd_L_pollen ⟨Nat.le_of_ble_eq_true rfl, Nat.le_of_ble_eq_true rfl⟩ (Nat.le_of_ble_eq_true rfl) rfl rfl dL_law_812 ⟨by show kc + 3 ≤ 771262; omega, by show ks + 18 ≤ 6782320; omega⟩ (fun v1 n1 S1 P1 D1 E1 hq1 => ?_)
  obtain ⟨hn1, q2, q3, kd, q5, hA⟩ := hq1
  rw [q2, q3, q5]
  dsimp only at hA
  have hs1 := lSt_up hs hn1
  have h95 := hs1.2.2.2.2
  have fr : fR b D D1 := by
    rcases hA with ⟨-, r, hr, -⟩ | ⟨X, -, -, q, -⟩
    · rw [hr.2.2.2]
      split
      · split
        · exact fR_moveD (fR_numb _) (fR_numb _)
        · exact fR_rfl
      · exact fR_rfl
    · rw [q]; exact fR_rfl
  have hS1 := lJ_mid hJ (D1 := D1) (fun a ha => fr a (Or.inr (by omega)))
  refine V_istore h 817 [(5, .int kd), (0, .ref bs), (1, .ref b), (2, .ref (b + 61)), (3, .ref (b + 94)), (4, .int (nI i))] (by decide) rfl dL_law_815 rfl ?_
  refine V_aload_n h 818 3 rfl dL_law_817 rfl ?_
  refine V_aload_n h 819 1 rfl dL_law_818 rfl ?_
  refine V_iload h 821 5 rfl dL_law_819 rfl ?_
  refine V_iconst h 822 (v := 1) (by decide) dL_law_821 rfl ?_
  refine V_iadd h 823 dL_law_822 rfl ?_
  refine V_sld h hX 824 (i + 1) (nI_add (a := i) (b := 1)) (by omega) hLs dL_law_823 rfl ?_
  refine V_aload_n h 825 1 rfl dL_law_824 rfl ?_
  refine V_iload h 827 5 rfl dL_law_825 rfl ?_
  refine V_iconst h 828 (v := 2) (by decide) dL_law_827 rfl ?_
  refine V_iadd h 829 dL_law_828 rfl ?_
  refine V_sld h hX 830 (i + 2) (nI_add (a := i) (b := 2)) (by omega) hLs dL_law_829 rfl ?_
  refine V_aload_n h 831 1 rfl dL_law_830 rfl ?_
  refine V_iload h 833 5 rfl dL_law_831 rfl ?_
  refine V_iconst h 834 (v := 3) (by decide) dL_law_833 rfl ?_
  refine V_iadd h 835 dL_law_834 rfl ?_
  refine V_sld h hX 836 (i + 3) (nI_add (a := i) (b := 3)) (by omega) hLs dL_law_835 rfl ?_
  refine CVI h 839 (As := [.int (xs (i + 1)), .int (xs (i + 2)), .int (xs (i + 3))]) (q_pollen hs1.2.1 hs1.2.2.1 (by omega) hL hS1 hcI (xs (i + 1)) (xs (i + 2)) (xs (i + 3))) rfl hs1.2.1 qL_L_125 qI_X7_pollen qS_X7_pollen qZ_X7 qC_X7_pollen hd_X7_pollen ⟨Nat.le_of_ble_eq_true rfl, Nat.le_of_ble_eq_true rfl⟩ (Nat.le_of_ble_eq_true rfl) rfl rfl dL_law_836 (by show kc + 3 ≤ 771262; omega) (by show ks + 18 ≤ 6782320; omega) (fun ans D2 hq2 => ?_)
  obtain ⟨hR, hD2q⟩ := hq2
  have hn2 : n1 ≤ n1 := Nat.le_refl _
  have hs2 : ∀ a, a < n1 → sh a = sh a := fun _ _ => rfl
  have hP2 : ∀ a, a < n1 → a ≠ b + 62 + 13 → P a = P a := fun _ _ _ => rfl
  have hL2 := hL
  have hD2 : ∀ a, a < n1 → (a < b + 61 ∨ b + 62 + 32 ≤ a) → D2 a = D1 a := fun a _ ha => hD2q a ha
  have hF : kd = D2 (b + 61) 0 ∧ (kd = 0 → E1 (b + 94) 0 = ans.toInt64) ∧ lI b (cn + 1) n1 sh P D2 := by
    rcases hA with ⟨k0, r, res, eE⟩ | ⟨X, hKX, kX, eD, -⟩
    · obtain ⟨t0, ok⟩ := l_ok (⟨res.1, res.2.1, trivial⟩) hR
      obtain ⟨g1, g2, rr, hD⟩ := res
      have G := gI_pollenN hG (by omega) g1 g2
      rw [← hD] at G
      have R := ok.2
      rw [← hD] at R
      exact ⟨k0.trans t0.symm, fun _ => by rw [eE, updE_at, rr, ok.1], lI_next hs1 hn2 hs2 hP2 hL2 hD2 G (fun i hi => by rw [fr _ (Or.inr (by omega))]; exact hN2 i hi) (fun i hi => by rw [fr _ (Or.inr (by omega))]; exact hN3 i hi) R⟩
    · obtain ⟨e1, ne, same⟩ := l_no (cd := cdIA) (fun _ => by decide) (by first | rfl | decide) (fun z => absurd trivial z) (by decide) (by decide) hKX kX hR
      subst eD
      exact ⟨e1, fun z => absurd z ne, lI_next hs1 hn2 hs2 hP2 hL2 hD2 (gI_c hG (Nat.le_succ _)) hN2 hN3 same⟩
  obtain ⟨hk, hv, hI2⟩ := hF
  have hI2s := hI2
  obtain ⟨_, _, _, _, _, _, _, hJ2, -⟩ := hI2s
  refine V_istore h 841 [(6, .int ans), (5, .int kd), (0, .ref bs), (1, .ref b), (2, .ref (b + 61)), (3, .ref (b + 94)), (4, .int (nI i))] (by decide) rfl dL_law_839 rfl ?_
  refine V_aload_n h 842 4 rfl dL_law_841 rfl ?_
  refine CVI h 845 (As := []) (q_thrown hJ2.2.1) rfl hJ2.2.1 qL_L_92 qI_X7_thrown qS_X7_thrown qZ_X7 qC_X7_thrown hd_X7_thrown ⟨Nat.le_of_ble_eq_true rfl, Nat.le_of_ble_eq_true rfl⟩ (Nat.le_of_ble_eq_true rfl) rfl rfl dL_law_842 (by show kc + 3 + 0 ≤ 771262; omega) (by show ks + 18 + 0 ≤ 6782320; omega) (fun th D3 hq3 => ?_)
  rw [hq3.1, hq3.2]
  refine V_iload h 847 1 rfl dL_law_845 rfl ?_
  refine V_icmp_eq h 852 850 dL_law_847 (by decide) rfl (fun _ => ?_) (fun z => absurd hk.symm z)
  refine V_iload h 854 1 rfl dL_law_852 rfl ?_
  have hend : mV Γ Q (kc + 3 + 0) (ks + 18 + 0) n1 sh P D2 E1 [(6, .int ans), (5, .int kd), (0, .ref bs), (1, .ref b), (2, .ref (b + 61)), (3, .ref (b + 94)), (4, .int (nI i))] [] 869 := by
    refine V_goto h 1711 dL_law_869 (by decide) ?_
    refine V_lsub [(0, .ref bs), (1, .ref b), (2, .ref (b + 61)), (3, .ref (b + 94)), (4, .int (nI i))] [2, 3, 4, 5, 6] rfl ?_
    exact V_widen (kc + 1400) (ks + 10600) (by omega) (by omega) (kk _ _ _ _ _ hI2)
  refine V_if_ne h 869 857 dL_law_854 (by decide) rfl (fun _ => hend) (fun z0 => ?_)
  refine V_aload_n h 858 5 rfl dL_law_857 rfl ?_
  refine V_iconst h 859 (v := 0) (by decide) dL_law_858 rfl ?_
  refine V_lald h 860 0 hJ2.2.2.2.1 rfl (by decide) (by decide) dL_law_859 rfl ?_
  rw [hv z0]
  refine V_iload h 862 0 rfl dL_law_860 rfl ?_
  refine V_i2l h 863 dL_law_862 rfl ?_
  refine V_lcmp h 864 dL_law_863 rfl ?_
  exact V_if_eq h 869 867 dL_law_864 (by decide) rfl (fun _ => hend) (fun z => absurd lg_cmp_0 z)

set_option maxRecDepth 100000 in
set_option maxHeartbeats 4000000 in
theorem k_ahead {Γ : mC} {κ : mKp} {Q : State → Prop} (h : mOk Γ κ RL cL_law 9 (Option.some Jvm.ClassFile.FieldType.boolean) { frames := 13, cells := 771262, slots := 6782320, locals := 468 }) (hT : mOkN Γ) (hst : κ.1.stackTraces = false) {bs Ls : Nat} {xs : Nat → Int32} (hX : mScr Γ bs Ls xs) (hLs : Ls < 2 ^ 31) {i : Nat} (hi : i + 5 ≤ Ls) {b cn kc ks n : Nat} {sh : mSh} {P : mPt} {D : mDt} {E : mEt} (hI : lI b cn n sh P D) (hcn : cn ≤ 599) (hkc : kc + 1400 ≤ 771262) (hks : ks + 10600 ≤ 6782320) (kk : ∀ n2 sh2 P2 D2 E2, lI b (cn + 1) n2 sh2 P2 D2 → mV Γ Q (kc + 1400) (ks + 10600) n2 sh2 P2 D2 E2 [(0, .ref bs), (1, .ref b), (2, .ref (b + 61)), (3, .ref (b + 94)), (4, .int (nI i))] [] 1711) : mV Γ Q kc ks n sh P D E [(0, .ref bs), (1, .ref b), (2, .ref (b + 61)), (3, .ref (b + 94)), (4, .int (nI i))] [] 872 := by
  obtain ⟨L, e, ρ, m, k, dd, lo, hJ⟩ := hI
  obtain ⟨hs, hL, hG, hN2, hN3, hS⟩ := id hJ
  have hcI := hG.1
  have hB := hs.1
  refine V_aload_n h 873 1 rfl dL_law_872 rfl ?_
  refine V_aload_n h 874 0 rfl dL_law_873 rfl ?_
  refine V_iload h 876 4 rfl dL_law_874 rfl ?_
  refine V_iconst h 877 (v := 1) (by decide) dL_law_876 rfl ?_
  refine V_iadd h 878 dL_law_877 rfl ?_
  refine V_sld h hX 879 (i + 1) (nI_add (a := i) (b := 1)) (by omega) hLs dL_law_878 rfl ?_
  refine V_aload_n h 880 0 rfl dL_law_879 rfl ?_
  refine V_iload h 882 4 rfl dL_law_880 rfl ?_
  refine V_iconst h 883 (v := 2) (by decide) dL_law_882 rfl ?_
  refine V_iadd h 884 dL_law_883 rfl ?_
  refine V_sld h hX 885 (i + 2) (nI_add (a := i) (b := 2)) (by omega) hLs dL_law_884 rfl ?_
  refine V_aload_n h 886 0 rfl dL_law_885 rfl ?_
  refine V_iload h 888 4 rfl dL_law_886 rfl ?_
  refine V_iconst h 889 (v := 3) (by decide) dL_law_888 rfl ?_
  refine V_iadd h 890 dL_law_889 rfl ?_
  refine V_sld h hX 891 (i + 3) (nI_add (a := i) (b := 3)) (by omega) hLs dL_law_890 rfl ?_
  refine V_aload_n h 892 0 rfl dL_law_891 rfl ?_
  refine V_iload h 894 4 rfl dL_law_892 rfl ?_
  refine V_iconst h 895 (v := 4) (by decide) dL_law_894 rfl ?_
  refine V_iadd h 896 dL_law_895 rfl ?_
  refine V_sld h hX 897 (i + 4) (nI_add (a := i) (b := 4)) (by omega) hLs dL_law_896 rfl ?_
  refine V_aload_n h 898 3 rfl dL_law_897 rfl ?_
  refine V_callSW h hT 901 (As := [.ref b, .int (xs (i + 1)), .int (xs (i + 2)), .int (xs (i + 3)), .int (xs (i + 4)), .ref (b + 94)]) (st := []) (l_ahead hB.1 hs.2.2.2.1 (xs (i + 1)) (xs (i + 2)) (xs (i + 3)) (xs (i + 4)) (c_ahead hst hB hcI (xs (i + 1)) (xs (i + 2)) (xs (i + 3)) (xs (i + 4))) Kx_IAS) qL_L_126 qT_L_ahead qZ_L qW_L_ahead hd_L_ahead ⟨Nat.le_of_ble_eq_true rfl, Nat.le_of_ble_eq_true rfl⟩ (Nat.le_of_ble_eq_true rfl) rfl rfl dL_law_898 ⟨by show kc + 4 ≤ 771262; omega, by show ks + 24 ≤ 6782320; omega⟩ (fun v1 n1 S1 P1 D1 E1 hq1 => ?_)
  obtain ⟨hn1, q2, q3, kd, q5, hA⟩ := hq1
  rw [q2, q3, q5]
  dsimp only at hA
  have hs1 := lSt_up hs hn1
  have h95 := hs1.2.2.2.2
  have fr : fR b D D1 := by
    rcases hA with ⟨-, r, hr, -⟩ | ⟨X, -, -, q, -⟩
    · rw [hr.2.2.2]
      split
      · exact fR_upd2 (fR_setRow (fR_payB (fR_numb _) (fR_numb _)) ⟨by omega, by omega⟩) ⟨by omega, by omega⟩
      · exact fR_rfl
    · rw [q]; exact fR_rfl
  have hS1 := lJ_mid hJ (D1 := D1) (fun a ha => fr a (Or.inr (by omega)))
  refine V_istore h 903 [(5, .int kd), (0, .ref bs), (1, .ref b), (2, .ref (b + 61)), (3, .ref (b + 94)), (4, .int (nI i))] (by decide) rfl dL_law_901 rfl ?_
  refine V_aload_n h 904 3 rfl dL_law_903 rfl ?_
  refine V_aload_n h 905 1 rfl dL_law_904 rfl ?_
  refine V_iload h 907 5 rfl dL_law_905 rfl ?_
  refine V_iconst h 908 (v := 1) (by decide) dL_law_907 rfl ?_
  refine V_iadd h 909 dL_law_908 rfl ?_
  refine V_sld h hX 910 (i + 1) (nI_add (a := i) (b := 1)) (by omega) hLs dL_law_909 rfl ?_
  refine V_aload_n h 911 1 rfl dL_law_910 rfl ?_
  refine V_iload h 913 5 rfl dL_law_911 rfl ?_
  refine V_iconst h 914 (v := 2) (by decide) dL_law_913 rfl ?_
  refine V_iadd h 915 dL_law_914 rfl ?_
  refine V_sld h hX 916 (i + 2) (nI_add (a := i) (b := 2)) (by omega) hLs dL_law_915 rfl ?_
  refine V_aload_n h 917 1 rfl dL_law_916 rfl ?_
  refine V_iload h 919 5 rfl dL_law_917 rfl ?_
  refine V_iconst h 920 (v := 3) (by decide) dL_law_919 rfl ?_
  refine V_iadd h 921 dL_law_920 rfl ?_
  refine V_sld h hX 922 (i + 3) (nI_add (a := i) (b := 3)) (by omega) hLs dL_law_921 rfl ?_
  refine V_aload_n h 923 1 rfl dL_law_922 rfl ?_
  refine V_iload h 925 5 rfl dL_law_923 rfl ?_
  refine V_iconst h 926 (v := 4) (by decide) dL_law_925 rfl ?_
  refine V_iadd h 927 dL_law_926 rfl ?_
  refine V_sld h hX 928 (i + 4) (nI_add (a := i) (b := 4)) (by omega) hLs dL_law_927 rfl ?_
  refine V_callV h 931 (rm := { frames := 2, cells := 1, slots := 3, locals := 48 }) (As := [.int (xs (i + 1)), .int (xs (i + 2)), .int (xs (i + 3)), .int (xs (i + 4))]) (q_ahead hs1.2.1 hs1.2.2.1 (by omega) hL hS1 hcI (by omega) (xs (i + 1)) (xs (i + 2)) (xs (i + 3)) (xs (i + 4))) rfl hs1.2.1 qL_L_128 qI_X7_ahead qS_X7_ahead qZ_X7 qC_X7_ahead hd_X7_ahead ⟨Nat.le_of_ble_eq_true rfl, Nat.le_of_ble_eq_true rfl⟩ (Nat.le_of_ble_eq_true rfl) rfl rfl dL_law_928 ⟨by show kc + 4 + 1 ≤ 771262; omega, by show ks + 24 + 3 ≤ 6782320; omega⟩ (fun v2 n2 S2 P2 D2 E2 hq2 => ?_)
  obtain ⟨hn2, qE, hs2, hP2, ans, qv, lo2, hL2, hD2, hR⟩ := hq2
  rw [qv, qE]
  have hF : kd = D2 (b + 61) 0 ∧ (kd = 0 → E1 (b + 94) 0 = ans.toInt64) ∧ lI b (cn + 1) n2 S2 P2 D2 := by
    rcases hA with ⟨k0, r, res, eE⟩ | ⟨X, hKX, kX, eD, -⟩
    · obtain ⟨t0, ok⟩ := l_ok (⟨res.1, res.2.1.1, res.2.1.2⟩) hR
      obtain ⟨g1, g2, rr, hD⟩ := res
      rcases ok with ⟨q, qa, R⟩ | ⟨q, qa, R⟩
      · rw [if_pos q] at rr hD
        rw [pay19 g1 (gI_rho hG)] at R
        subst hD
        exact ⟨k0.trans t0.symm, fun _ => by rw [eE, updE_at, rr, qa], lI_next hs1 hn2 hs2 hP2 hL2 hD2 (gI_aheadN hG (by omega) g1 g2.1 g2.2) (fun i hi => by rw [fr _ (Or.inr (by omega))]; exact hN2 i hi) (fun i hi => by rw [fr _ (Or.inr (by omega))]; exact hN3 i hi) R⟩
      · rw [if_neg q] at rr hD
        subst hD
        exact ⟨k0.trans t0.symm, fun _ => by rw [eE, updE_at, rr, qa], lI_next hs1 hn2 hs2 hP2 hL2 hD2 (gI_c hG (Nat.le_succ _)) hN2 hN3 R⟩
    · obtain ⟨e1, ne, same⟩ := l_no (cd := cdIAS) (fun _ => by decide) (by first | rfl | decide) (fun _ => by decide) (by decide) (by decide) hKX kX hR
      subst eD
      exact ⟨e1, fun z => absurd z ne, lI_next hs1 hn2 hs2 hP2 hL2 hD2 (gI_c hG (Nat.le_succ _)) hN2 hN3 same⟩
  obtain ⟨hk, hv, hI2⟩ := hF
  have hI2s := hI2
  obtain ⟨_, _, _, _, _, _, _, hJ2, -⟩ := hI2s
  refine V_istore h 933 [(6, .int ans), (5, .int kd), (0, .ref bs), (1, .ref b), (2, .ref (b + 61)), (3, .ref (b + 94)), (4, .int (nI i))] (by decide) rfl dL_law_931 rfl ?_
  refine V_aload_n h 934 4 rfl dL_law_933 rfl ?_
  refine CVI h 937 (As := []) (q_thrown hJ2.2.1) rfl hJ2.2.1 qL_L_92 qI_X7_thrown qS_X7_thrown qZ_X7 qC_X7_thrown hd_X7_thrown ⟨Nat.le_of_ble_eq_true rfl, Nat.le_of_ble_eq_true rfl⟩ (Nat.le_of_ble_eq_true rfl) rfl rfl dL_law_934 (by show kc + 4 + 1 ≤ 771262; omega) (by show ks + 24 + 3 ≤ 6782320; omega) (fun th D3 hq3 => ?_)
  rw [hq3.1, hq3.2]
  refine V_iload h 939 1 rfl dL_law_937 rfl ?_
  refine V_icmp_eq h 944 942 dL_law_939 (by decide) rfl (fun _ => ?_) (fun z => absurd hk.symm z)
  refine V_iload h 946 1 rfl dL_law_944 rfl ?_
  have hend : mV Γ Q (kc + 4 + 1) (ks + 24 + 3) n2 S2 P2 D2 E1 [(6, .int ans), (5, .int kd), (0, .ref bs), (1, .ref b), (2, .ref (b + 61)), (3, .ref (b + 94)), (4, .int (nI i))] [] 961 := by
    refine V_goto h 1711 dL_law_961 (by decide) ?_
    refine V_lsub [(0, .ref bs), (1, .ref b), (2, .ref (b + 61)), (3, .ref (b + 94)), (4, .int (nI i))] [2, 3, 4, 5, 6] rfl ?_
    exact V_widen (kc + 1400) (ks + 10600) (by omega) (by omega) (kk _ _ _ _ _ hI2)
  refine V_if_ne h 961 949 dL_law_946 (by decide) rfl (fun _ => hend) (fun z0 => ?_)
  refine V_aload_n h 950 5 rfl dL_law_949 rfl ?_
  refine V_iconst h 951 (v := 0) (by decide) dL_law_950 rfl ?_
  refine V_lald h 952 0 hJ2.2.2.2.1 rfl (by decide) (by decide) dL_law_951 rfl ?_
  rw [hv z0]
  refine V_iload h 954 0 rfl dL_law_952 rfl ?_
  refine V_i2l h 955 dL_law_954 rfl ?_
  refine V_lcmp h 956 dL_law_955 rfl ?_
  exact V_if_eq h 961 959 dL_law_956 (by decide) rfl (fun _ => hend) (fun z => absurd lg_cmp_0 z)

set_option maxRecDepth 100000 in
set_option maxHeartbeats 4000000 in
theorem k_pass {Γ : mC} {κ : mKp} {Q : State → Prop} (h : mOk Γ κ RL cL_law 9 (Option.some Jvm.ClassFile.FieldType.boolean) { frames := 13, cells := 771262, slots := 6782320, locals := 468 }) (hT : mOkN Γ) (hst : κ.1.stackTraces = false) {bs Ls : Nat} {xs : Nat → Int32} (hX : mScr Γ bs Ls xs) (hLs : Ls < 2 ^ 31) {i : Nat} (hi : i + 5 ≤ Ls) {b cn kc ks n : Nat} {sh : mSh} {P : mPt} {D : mDt} {E : mEt} (hI : lI b cn n sh P D) (hcn : cn ≤ 599) (hkc : kc + 1400 ≤ 771262) (hks : ks + 10600 ≤ 6782320) (kk : ∀ n2 sh2 P2 D2 E2, lI b (cn + 1) n2 sh2 P2 D2 → mV Γ Q (kc + 1400) (ks + 10600) n2 sh2 P2 D2 E2 [(0, .ref bs), (1, .ref b), (2, .ref (b + 61)), (3, .ref (b + 94)), (4, .int (nI i))] [] 1711) : mV Γ Q kc ks n sh P D E [(0, .ref bs), (1, .ref b), (2, .ref (b + 61)), (3, .ref (b + 94)), (4, .int (nI i))] [] 964 := by
  obtain ⟨L, e, ρ, m, k, dd, lo, hJ⟩ := hI
  obtain ⟨hs, hL, hG, hN2, hN3, hS⟩ := id hJ
  have hcI := hG.1
  have hB := hs.1
  refine V_aload_n h 965 1 rfl dL_law_964 rfl ?_
  refine V_aload_n h 966 0 rfl dL_law_965 rfl ?_
  refine V_iload h 968 4 rfl dL_law_966 rfl ?_
  refine V_iconst h 969 (v := 1) (by decide) dL_law_968 rfl ?_
  refine V_iadd h 970 dL_law_969 rfl ?_
  refine V_sld h hX 971 (i + 1) (nI_add (a := i) (b := 1)) (by omega) hLs dL_law_970 rfl ?_
  refine V_aload_n h 972 0 rfl dL_law_971 rfl ?_
  refine V_iload h 974 4 rfl dL_law_972 rfl ?_
  refine V_iconst h 975 (v := 2) (by decide) dL_law_974 rfl ?_
  refine V_iadd h 976 dL_law_975 rfl ?_
  refine V_sld h hX 977 (i + 2) (nI_add (a := i) (b := 2)) (by omega) hLs dL_law_976 rfl ?_
  refine V_aload_n h 978 3 rfl dL_law_977 rfl ?_
  refine V_callSW h hT 981 (As := [.ref b, .int (xs (i + 1)), .int (xs (i + 2)), .ref (b + 94)]) (st := []) (l_pass hB.1 hs.2.2.2.1 (xs (i + 1)) (xs (i + 2)) (c_pass hst hB hcI (xs (i + 1)) (xs (i + 2))) Kx_AS) qL_L_129 qT_L_pass qZ_L qW_L_pass hd_L_pass ⟨Nat.le_of_ble_eq_true rfl, Nat.le_of_ble_eq_true rfl⟩ (Nat.le_of_ble_eq_true rfl) rfl rfl dL_law_978 ⟨by show kc + 2 ≤ 771262; omega, by show ks + 12 ≤ 6782320; omega⟩ (fun v1 n1 S1 P1 D1 E1 hq1 => ?_)
  obtain ⟨hn1, q2, q3, kd, q5, hA⟩ := hq1
  rw [q2, q3, q5]
  dsimp only at hA
  have hs1 := lSt_up hs hn1
  have h95 := hs1.2.2.2.2
  have fr : fR b D D1 := by
    rcases hA with ⟨-, r, hr, -⟩ | ⟨X, -, -, q, -⟩
    · obtain ⟨d, -, -, -, -, q⟩ := hr.2.2
      rw [q]
      exact fun a ha => days_outD hcI.1 (by omega) d
    · rw [q]; exact fR_rfl
  have hS1 := lJ_mid hJ (D1 := D1) (fun a ha => fr a (Or.inr (by omega)))
  refine V_istore h 983 [(5, .int kd), (0, .ref bs), (1, .ref b), (2, .ref (b + 61)), (3, .ref (b + 94)), (4, .int (nI i))] (by decide) rfl dL_law_981 rfl ?_
  refine V_aload_n h 984 3 rfl dL_law_983 rfl ?_
  refine V_aload_n h 985 1 rfl dL_law_984 rfl ?_
  refine V_iload h 987 5 rfl dL_law_985 rfl ?_
  refine V_iconst h 988 (v := 1) (by decide) dL_law_987 rfl ?_
  refine V_iadd h 989 dL_law_988 rfl ?_
  refine V_sld h hX 990 (i + 1) (nI_add (a := i) (b := 1)) (by omega) hLs dL_law_989 rfl ?_
  refine V_aload_n h 991 1 rfl dL_law_990 rfl ?_
  refine V_iload h 993 5 rfl dL_law_991 rfl ?_
  refine V_iconst h 994 (v := 2) (by decide) dL_law_993 rfl ?_
  refine V_iadd h 995 dL_law_994 rfl ?_
  refine V_sld h hX 996 (i + 2) (nI_add (a := i) (b := 2)) (by omega) hLs dL_law_995 rfl ?_
  refine V_callV h 999 (rm := { frames := 5, cells := 0, slots := 0, locals := 119 }) (As := [.int (xs (i + 1)), .int (xs (i + 2))]) (q_pass hs1.2.1 hs1.2.2.1 (by omega) hL hS1 hcI hG.2.1 (by have := hG.2.2.1; omega) (xs (i + 1)) (xs (i + 2))) rfl hs1.2.1 qL_L_131 qI_X7_pass qS_X7_pass qZ_X7 qC_X7_pass hd_X7_pass ⟨Nat.le_of_ble_eq_true rfl, Nat.le_of_ble_eq_true rfl⟩ (Nat.le_of_ble_eq_true rfl) rfl rfl dL_law_996 ⟨by show kc + 2 + 0 ≤ 771262; omega, by show ks + 12 + 0 ≤ 6782320; omega⟩ (fun v2 n2 S2 P2 D2 E2 hq2 => ?_)
  obtain ⟨hn2, qE, hs2, hP2, ans, qv, lo2, hL2, hD2, hR⟩ := hq2
  rw [qv, qE]
  have hF : kd = D2 (b + 61) 0 ∧ (kd = 0 → E1 (b + 94) 0 = ans.toInt64) ∧ lI b (cn + 1) n2 S2 P2 D2 := by
    rcases hA with ⟨k0, r, res, eE⟩ | ⟨X, hKX, kX, eD, -⟩
    · obtain ⟨t0, ok⟩ := l_ok (⟨trivial, res.1, res.2.1⟩) hR
      obtain ⟨g2, g3, d, d1, d2, hw, rr, rfl⟩ := res
      obtain ⟨d', d1', d2', hw', ra, R⟩ := ok
      have hdd : d' = d := nI_j (hw'.symm.trans hw) (by omega) (by omega)
      subst hdd
      exact ⟨k0.trans t0.symm, fun _ => by rw [eE, updE_at, rr, ra], lI_next hs1 hn2 hs2 hP2 hL2 hD2 (gI_pass hG (by omega) d2 hw g3) (fun i hi => by rw [fr _ (Or.inr (by omega))]; exact hN2 i hi) (fun i hi => by rw [fr _ (Or.inr (by omega))]; exact hN3 i hi) R⟩
    · obtain ⟨e1, ne, same⟩ := l_no (cd := cdAS) (fun z => absurd trivial z) (by first | rfl | decide) (fun _ => by decide) (by decide) (by decide) hKX kX hR
      subst eD
      exact ⟨e1, fun z => absurd z ne, lI_next hs1 hn2 hs2 hP2 hL2 hD2 (gI_c hG (Nat.le_succ _)) hN2 hN3 same⟩
  obtain ⟨hk, hv, hI2⟩ := hF
  have hI2s := hI2
  obtain ⟨_, _, _, _, _, _, _, hJ2, -⟩ := hI2s
  refine V_istore h 1001 [(6, .int ans), (5, .int kd), (0, .ref bs), (1, .ref b), (2, .ref (b + 61)), (3, .ref (b + 94)), (4, .int (nI i))] (by decide) rfl dL_law_999 rfl ?_
  refine V_aload_n h 1002 4 rfl dL_law_1001 rfl ?_
  refine CVI h 1005 (As := []) (q_thrown hJ2.2.1) rfl hJ2.2.1 qL_L_92 qI_X7_thrown qS_X7_thrown qZ_X7 qC_X7_thrown hd_X7_thrown ⟨Nat.le_of_ble_eq_true rfl, Nat.le_of_ble_eq_true rfl⟩ (Nat.le_of_ble_eq_true rfl) rfl rfl dL_law_1002 (by show kc + 2 + 0 ≤ 771262; omega) (by show ks + 12 + 0 ≤ 6782320; omega) (fun th D3 hq3 => ?_)
  rw [hq3.1, hq3.2]
  refine V_iload h 1007 1 rfl dL_law_1005 rfl ?_
  refine V_icmp_eq h 1012 1010 dL_law_1007 (by decide) rfl (fun _ => ?_) (fun z => absurd hk.symm z)
  refine V_iload h 1014 1 rfl dL_law_1012 rfl ?_
  have hend : mV Γ Q (kc + 2 + 0) (ks + 12 + 0) n2 S2 P2 D2 E1 [(6, .int ans), (5, .int kd), (0, .ref bs), (1, .ref b), (2, .ref (b + 61)), (3, .ref (b + 94)), (4, .int (nI i))] [] 1029 := by
    refine V_goto h 1711 dL_law_1029 (by decide) ?_
    refine V_lsub [(0, .ref bs), (1, .ref b), (2, .ref (b + 61)), (3, .ref (b + 94)), (4, .int (nI i))] [2, 3, 4, 5, 6] rfl ?_
    exact V_widen (kc + 1400) (ks + 10600) (by omega) (by omega) (kk _ _ _ _ _ hI2)
  refine V_if_ne h 1029 1017 dL_law_1014 (by decide) rfl (fun _ => hend) (fun z0 => ?_)
  refine V_aload_n h 1018 5 rfl dL_law_1017 rfl ?_
  refine V_iconst h 1019 (v := 0) (by decide) dL_law_1018 rfl ?_
  refine V_lald h 1020 0 hJ2.2.2.2.1 rfl (by decide) (by decide) dL_law_1019 rfl ?_
  rw [hv z0]
  refine V_iload h 1022 0 rfl dL_law_1020 rfl ?_
  refine V_i2l h 1023 dL_law_1022 rfl ?_
  refine V_lcmp h 1024 dL_law_1023 rfl ?_
  exact V_if_eq h 1029 1027 dL_law_1024 (by decide) rfl (fun _ => hend) (fun z => absurd lg_cmp_0 z)
