theorem lg_cmp_0 {x : Int64} : lg_cmp x x = 0 := by simp [lg_cmp]

set_option maxRecDepth 100000 in
set_option maxHeartbeats 4000000 in
theorem k_owner {Γ : mC} {κ : mKp} {Q : State → Prop} (h : mOk Γ κ RL cL_law 9 (Option.some Jvm.ClassFile.FieldType.int) { frames := 13, cells := 771262, slots := 6782320, locals := 468 }) (hT : mOkT Γ []) (hst : κ.1.stackTraces = false) {bs Ls : Nat} {xs : Nat → Int32} (hX : mScr Γ bs Ls xs) (hLs : Ls < 2 ^ 31) {i : Nat} (hi : i + 5 ≤ Ls) {b cn kc ks n : Nat} {sh : mSh} {P : mPt} {D : mDt} {E : mEt} (hI : lI b cn n sh P D) (hcn : cn ≤ 599) (hkc : kc + 1400 ≤ 771262) (hks : ks + 10600 ≤ 6782320) (kk : ∀ n2 sh2 P2 D2 E2, lI b (cn + 1) n2 sh2 P2 D2 → mV Γ Q (kc + 1400) (ks + 10600) n2 sh2 P2 D2 E2 [(0, .ref bs), (1, .ref b), (2, .ref (b + 61)), (3, .ref (b + 94)), (4, .int (nI i))] [] 1711) : mV Γ Q kc ks n sh P D E [(0, .ref bs), (1, .ref b), (2, .ref (b + 61)), (3, .ref (b + 94)), (4, .int (nI i))] [] 144 := by
  obtain ⟨L, e, ρ, m, k, dd, lo, hJ⟩ := hI
  obtain ⟨hs, hL, hG, hN2, hN3, hS⟩ := id hJ
  have hcI := hG.1
  have hB := hs.1
  refine V_aload_n h 145 1 rfl dL_law_144 rfl ?_
  refine V_aload_n h 146 0 rfl dL_law_145 rfl ?_
  refine V_iload h 148 4 rfl dL_law_146 rfl ?_
  refine V_iconst h 149 (v := 1) (by decide) dL_law_148 rfl ?_
  refine V_iadd h 150 dL_law_149 rfl ?_
  refine V_sld h hX 151 (i + 1) (nI_add (a := i) (b := 1)) (by omega) hLs dL_law_150 rfl ?_
  refine V_aload_n h 152 0 rfl dL_law_151 rfl ?_
  refine V_iload h 154 4 rfl dL_law_152 rfl ?_
  refine V_iconst h 155 (v := 2) (by decide) dL_law_154 rfl ?_
  refine V_iadd h 156 dL_law_155 rfl ?_
  refine V_sld h hX 157 (i + 2) (nI_add (a := i) (b := 2)) (by omega) hLs dL_law_156 rfl ?_
  refine V_aload_n h 158 0 rfl dL_law_157 rfl ?_
  refine V_iload h 160 4 rfl dL_law_158 rfl ?_
  refine V_iconst h 161 (v := 3) (by decide) dL_law_160 rfl ?_
  refine V_iadd h 162 dL_law_161 rfl ?_
  refine V_sld h hX 163 (i + 3) (nI_add (a := i) (b := 3)) (by omega) hLs dL_law_162 rfl ?_
  refine V_aload_n h 164 0 rfl dL_law_163 rfl ?_
  refine V_iload h 166 4 rfl dL_law_164 rfl ?_
  refine V_iconst h 167 (v := 4) (by decide) dL_law_166 rfl ?_
  refine V_iadd h 168 dL_law_167 rfl ?_
  refine V_sld h hX 169 (i + 4) (nI_add (a := i) (b := 4)) (by omega) hLs dL_law_168 rfl ?_
  refine V_aload_n h 170 3 rfl dL_law_169 rfl ?_
  refine V_callSW h hT 173 (As := [.ref b, .int (xs (i + 1)), .int (xs (i + 2)), .int (xs (i + 3)), .int (xs (i + 4)), .ref (b + 94)]) (st := []) (l_owner hB.1 hs.2.2.2.1 (xs (i + 1)) (xs (i + 2)) (xs (i + 3)) (xs (i + 4)) (c_owner hst hB hcI (xs (i + 1)) (xs (i + 2)) (xs (i + 3)) (xs (i + 4))) Kx_AS) qL_L_86 qT_L_owner qZ_L qW_L_owner hd_L_owner ⟨Nat.le_of_ble_eq_true rfl, Nat.le_of_ble_eq_true rfl⟩ (Nat.le_of_ble_eq_true rfl) rfl rfl dL_law_170 ⟨by show kc + 2 ≤ 771262; omega, by show ks + 12 ≤ 6782320; omega⟩ (fun v1 n1 S1 P1 D1 E1 hq1 => ?_)
  obtain ⟨hn1, q2, q3, kd, q5, hA⟩ := hq1
  rw [q2, q3, q5]
  dsimp only at hA
  have hs1 := lSt_up hs hn1
  have h95 := hs1.2.2.2.2
  have fr : fR b D D1 := by
    rcases hA with ⟨-, r, hr, -⟩ | ⟨X, -, -, q, -⟩
    · rw [hr.2.2.2]; exact fR_addD hr.2.1.1
    · rw [q]; exact fR_rfl
  have hS1 := lJ_mid hJ (D1 := D1) (fun a ha => fr a (Or.inr (by omega)))
  refine V_istore h 175 [(5, .int kd), (0, .ref bs), (1, .ref b), (2, .ref (b + 61)), (3, .ref (b + 94)), (4, .int (nI i))] (by decide) rfl dL_law_173 rfl ?_
  refine V_aload_n h 176 3 rfl dL_law_175 rfl ?_
  refine V_aload_n h 177 1 rfl dL_law_176 rfl ?_
  refine V_iload h 179 5 rfl dL_law_177 rfl ?_
  refine V_iconst h 180 (v := 1) (by decide) dL_law_179 rfl ?_
  refine V_iadd h 181 dL_law_180 rfl ?_
  refine V_sld h hX 182 (i + 1) (nI_add (a := i) (b := 1)) (by omega) hLs dL_law_181 rfl ?_
  refine V_aload_n h 183 1 rfl dL_law_182 rfl ?_
  refine V_iload h 185 5 rfl dL_law_183 rfl ?_
  refine V_iconst h 186 (v := 2) (by decide) dL_law_185 rfl ?_
  refine V_iadd h 187 dL_law_186 rfl ?_
  refine V_sld h hX 188 (i + 2) (nI_add (a := i) (b := 2)) (by omega) hLs dL_law_187 rfl ?_
  refine V_aload_n h 189 1 rfl dL_law_188 rfl ?_
  refine V_iload h 191 5 rfl dL_law_189 rfl ?_
  refine V_iconst h 192 (v := 3) (by decide) dL_law_191 rfl ?_
  refine V_iadd h 193 dL_law_192 rfl ?_
  refine V_sld h hX 194 (i + 3) (nI_add (a := i) (b := 3)) (by omega) hLs dL_law_193 rfl ?_
  refine V_aload_n h 195 1 rfl dL_law_194 rfl ?_
  refine V_iload h 197 5 rfl dL_law_195 rfl ?_
  refine V_iconst h 198 (v := 4) (by decide) dL_law_197 rfl ?_
  refine V_iadd h 199 dL_law_198 rfl ?_
  refine V_sld h hX 200 (i + 4) (nI_add (a := i) (b := 4)) (by omega) hLs dL_law_199 rfl ?_
  refine V_callV h 203 (rm := { frames := 1, cells := 1, slots := 12, locals := 48 }) (As := [.int (xs (i + 1)), .int (xs (i + 2)), .int (xs (i + 3)), .int (xs (i + 4))]) (q_owner hs1.2.1 hs1.2.2.1 (by omega) hL hS1 hcI (by omega) (gI_hz hG) (xs (i + 1)) (xs (i + 2)) (xs (i + 3)) (xs (i + 4))) rfl hs1.2.1 qL_L_91 qI_X7_owner qS_X7_owner qZ_X7 qC_X7_owner hd_X7_owner ⟨Nat.le_of_ble_eq_true rfl, Nat.le_of_ble_eq_true rfl⟩ (Nat.le_of_ble_eq_true rfl) rfl rfl dL_law_200 ⟨by show kc + 2 + 1 ≤ 771262; omega, by show ks + 12 + 12 ≤ 6782320; omega⟩ (fun v2 n2 S2 P2 D2 E2 hq2 => ?_)
  obtain ⟨hn2, qE, hs2, hP2, ans, qv, lo2, hL2, hD2, hR⟩ := hq2
  rw [qv, qE]
  have hF : kd = D2 (b + 61) 0 ∧ (kd = 0 → E1 (b + 94) 0 = ans.toInt64) ∧ lI b (cn + 1) n2 S2 P2 D2 := by
    rcases hA with ⟨k0, r, res, eE⟩ | ⟨X, hKX, kX, eD, -⟩
    · obtain ⟨t0, ok⟩ := l_ok (⟨trivial, res.1, res.2.1⟩) hR
      obtain ⟨g2, g3, rr, rfl⟩ := res
      exact ⟨k0.trans t0.symm, fun _ => by rw [eE, updE_at, rr, ok.1], lI_next hs1 hn2 hs2 hP2 hL2 hD2 (gI_owner hG g2 g3.1 g3.2) (fun i hi => by rw [fr _ (Or.inr (by omega))]; exact hN2 i hi) (fun i hi => by rw [fr _ (Or.inr (by omega))]; exact hN3 i hi) ok.2⟩
    · obtain ⟨e1, ne, same⟩ := l_no (cd := cdAS) (fun z => absurd trivial z) (by first | rfl | decide) (fun _ => by decide) (by decide) (by decide) hKX kX hR
      subst eD
      exact ⟨e1, fun z => absurd z ne, lI_next hs1 hn2 hs2 hP2 hL2 hD2 (gI_c hG (Nat.le_succ _)) hN2 hN3 same⟩
  obtain ⟨hk, hv, hI2⟩ := hF
  have hI2s := hI2
  obtain ⟨_, _, _, _, _, _, _, hJ2, -⟩ := hI2s
  refine V_istore h 205 [(6, .int ans), (5, .int kd), (0, .ref bs), (1, .ref b), (2, .ref (b + 61)), (3, .ref (b + 94)), (4, .int (nI i))] (by decide) rfl dL_law_203 rfl ?_
  refine V_aload_n h 206 4 rfl dL_law_205 rfl ?_
  refine CVI h 209 (As := []) (q_thrown hJ2.2.1) rfl hJ2.2.1 qL_L_92 qI_X7_thrown qS_X7_thrown qZ_X7 qC_X7_thrown hd_X7_thrown ⟨Nat.le_of_ble_eq_true rfl, Nat.le_of_ble_eq_true rfl⟩ (Nat.le_of_ble_eq_true rfl) rfl rfl dL_law_206 (by show kc + 2 + 1 ≤ 771262; omega) (by show ks + 12 + 12 ≤ 6782320; omega) (fun th D3 hq3 => ?_)
  rw [hq3.1, hq3.2]
  refine V_iload h 211 1 rfl dL_law_209 rfl ?_
  refine V_icmp_eq h 216 214 dL_law_211 (by decide) rfl (fun _ => ?_) (fun z => absurd hk.symm z)
  refine V_iload h 218 1 rfl dL_law_216 rfl ?_
  have hend : mV Γ Q (kc + 2 + 1) (ks + 12 + 12) n2 S2 P2 D2 E1 [(6, .int ans), (5, .int kd), (0, .ref bs), (1, .ref b), (2, .ref (b + 61)), (3, .ref (b + 94)), (4, .int (nI i))] [] 233 := by
    refine V_goto h 1711 dL_law_233 (by decide) ?_
    refine V_lsub [(0, .ref bs), (1, .ref b), (2, .ref (b + 61)), (3, .ref (b + 94)), (4, .int (nI i))] [2, 3, 4, 5, 6] rfl ?_
    exact V_widen (kc + 1400) (ks + 10600) (by omega) (by omega) (kk _ _ _ _ _ hI2)
  refine V_if_ne h 233 221 dL_law_218 (by decide) rfl (fun _ => hend) (fun z0 => ?_)
  refine V_aload_n h 222 5 rfl dL_law_221 rfl ?_
  refine V_iconst h 223 (v := 0) (by decide) dL_law_222 rfl ?_
  refine V_lald h 224 0 hJ2.2.2.2.1 rfl (by decide) (by decide) dL_law_223 rfl ?_
  rw [hv z0]
  refine V_iload h 226 0 rfl dL_law_224 rfl ?_
  refine V_i2l h 227 dL_law_226 rfl ?_
  refine V_lcmp h 228 dL_law_227 rfl ?_
  exact V_if_eq h 233 231 dL_law_228 (by decide) rfl (fun _ => hend) (fun z => absurd lg_cmp_0 z)
