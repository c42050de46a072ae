theorem V_kcs {Γ : mC} {Q : State → Prop} {kc ks kc2 ks2 n : Nat} {sh : mSh} {P : mPt} {D : mDt} {E : mEt} {lv : List (Nat × Value)} {st : List Value} {pc : Nat} (h1 : kc = kc2) (h2 : ks = ks2) (k : mV Γ Q kc2 ks2 n sh P D E lv st pc) : mV Γ Q kc ks n sh P D E lv st pc := by subst h1 h2; exact k
theorem own_e {o o2 o3 L e : Nat} {ρ : Nat → Nat} {m : Nat} {V : mDt} {d : Int64} (hz : ∀ i, e ≤ i → i < 10 → V (o + 6 + i) 1 = 0) : ∀ n, e + n ≤ 10 → ownDig o o2 o3 L ρ m V d (e + n) = ownDig o o2 o3 L ρ m V d e := by
  intro n
  induction n with
  | zero => intro _; rfl
  | succ n ih =>
    intro h
    rw [← Nat.add_assoc, ownDig, if_pos (hz _ (by omega) (by omega))]
    exact ih (by omega)

set_option maxRecDepth 100000 in
set_option maxHeartbeats 4000000 in
theorem q_digest {κ : mKp} {n : Nat} {sh : mSh} {P : mPt} {D : mDt} {E : mEt} {q r : Nat} {lo : Nat → Nat} (hmS : sh q = some (.inl 7)) (hmP : P q 1 = some r) (hqr : q < r) (hL : rLay r lo sh P) {o L e m k : Nat} {ρ : Nat → Nat} {V : mDt} (hS : rSim o L e ρ m k V r lo 0 0 0 D) (hI : cI o L e ρ m k V) (hrn : r + 32 ≤ n) (hz : ∀ i, e ≤ i → i < 10 → ∀ j, 1 ≤ j → j < 15 → V (o + 6 + i) j = 0) {dd : Nat} (hG : gX o L ρ m k V dd) (hdd : dd < 2 ^ 29) (hb0 : ∀ i, i < 10 → ∃ w, w ≤ 5040 ∧ V (o + 6 + i) 2 = nI w) (hbw : ∀ p, p ≤ L → ∃ w, w ≤ 5040 ∧ rsum (fun p => V (o + 6 + ρ p) 2) p = nI w) (ham : ∀ i, i < m → ∃ a, a ≤ 5040 ∧ V (o + 17) (i * 4 + 2) = nI a) (hlen : ∃ l, l ≤ 90 ∧ V (o + 1) 1 = nI l) {o2 o3 : Nat} {V2 V3 W1 W2 : mDt} {F : Nat → Int32} (hl2 : lkV o o2 L ρ m k V V2) (hB2 : ∀ i, i < 10 → V (o2 + 6 + i) 13 = (daysD o2 ρ L 0 (V2, m, k) 7).1 (o2 + 6 + i) 13) (hl3 : lkV o o3 L ρ m k V V3) (hB3 : ∀ i, i < 10 → V (o3 + 6 + i) 14 = (daysD o3 ρ L 3 (V3, m, k) (harvN dd)).1 (o3 + 6 + i) 14) (hF : digOk o o2 L ρ m k 0 3 V F 21) (hW1 : lkV o o2 L ρ m k V W1) (hW2 : lkV o o2 L ρ m k V W2) : mMet κ yX7_digest cX7_digest 5 (Option.some Jvm.ClassFile.FieldType.long) { frames := 6, cells := 1392, slots := 10533, locals := 146 } [.ref q] n sh P D E (fun v n' sh' P' D' E' => n ≤ n' ∧ E' = E ∧ agr n sh P (upd2 D q 0 0) sh' P' D' ∧ v = some (.long (digR o o2 o3 L ρ m k (askA o L ρ V) V F W1 W2))) := by
  refine mMet_of (by decide) (Nat.le_of_ble_eq_true rfl) ?_
  intro Γ Q hQ h hin
  have h : mOk Γ κ RX7 cX7_digest 5 (Option.some Jvm.ClassFile.FieldType.long) { frames := 6, cells := 1392, slots := 10533, locals := 146 } := h
  have hW := hI.1
  have hinj := hI.2.2.2.2.1
  have hρ : ∀ p, p < L → ρ p < 10 := fun p hp => (hW.1.2.2 p hp).1
  have hL10 := hW.1.2.1
  have hm8 := hW.2.2.2.1.1
  have hk8 := hW.2.2.2.2.2.1
  have he10 := hI.2.2.2.1
  show mV Γ Q 0 0 n sh P D E [(0, .ref q)] [] 0
  refine V_aload_n h 1 0 rfl dX7_digest_0 rfl ?_
  refine V_iconst h 2 (v := 0) (by decide) dX7_digest_1 rfl ?_
  refine p_X7_16 h 5 hmS dX7_digest_2 rfl ?_
  obtain ⟨D1, eD1⟩ : ∃ zz, zz = upd2 D q 0 0 := ⟨_, rfl⟩
  rw [← eD1]
  have hS1 := rSim_q (D' := D1) hS hm8 hk8 hL.2.2.2.1 hqr (fun a ha => by rw [eD1, upd2_ra ha])
  refine V_ldc2 h 8 qG_X7_168 dX7_digest_5 rfl ?_
  refine V_lstore_n h 9 [(1, .long (7803 : Int64)), (0, .ref q)] (by decide) rfl dX7_digest_8 rfl ?_
  refine V_iconst h 10 (v := 0) (by decide) dX7_digest_9 rfl ?_
  refine V_istore_n h 11 [(3, .int 0), (1, .long (7803 : Int64)), (0, .ref q)] (by decide) rfl dX7_digest_10 rfl ?_
  have LP11 : ∀ (kk : Nat) (w : Nat) (x1 : Int64) (x3 : Int32) (nk : Nat) (Sk : mSh) (Pk : mPt) (Dk : mDt), (w ≤ 16) → (x1 = digM (askA o L ρ V) 7803 w) → (x3 = nI w) → (n ≤ nk) → (agr n sh P D1 Sk Pk Dk) → 16 - w < kk → mV Γ Q w (w * 16) nk Sk Pk Dk E [(0, .ref q), (1, .long x1), (3, .int x3)] [] 11 := by
    intro kk
    induction kk with
    | zero =>
      intro w x1 x3 nk Sk Pk Dk _ _ _ _ _ hms
      exact absurd hms (Nat.not_lt_zero _)
    | succ kk ih =>
      intro w x1 x3 nk Sk Pk Dk hw e1 e3 hnk hAk hms
      subst e3
      refine V_iload_n h 12 2 rfl dX7_digest_11 rfl ?_
      refine V_bipush h 14 (v := 15) (by decide) dX7_digest_12 rfl ?_
      refine V_icmp_gt h 36 17 dX7_digest_14 (by decide) rfl (fun c14 => ?_) (fun c14 => ?_)
      · skip
        have hexw : w = 16 := by have := (nI_ltI (a := 15) (b := w) (by decide) (by omega)).mp c14; omega
        subst hexw
        refine V_iconst h 37 (v := 0) (by decide) dX7_digest_36 rfl ?_
        refine V_istore_n h 38 [(3, .int 0), (0, .ref q), (1, .long x1)] (by decide) rfl dX7_digest_37 rfl ?_
        have LP38 : ∀ (kk : Nat) (i : Nat) (x1 : Int64) (x3 : Int32) (nl kv : Nat) (Sl : mSh) (Pl : mPt) (Dl : mDt), (i ≤ e) → (x1 = ownDig o o2 o3 L ρ m V (digM (askA o L ρ V) 7803 16) i) → (x3 = nI i) → (n ≤ nl) → (kv ≤ i) → (agr n sh P D1 Sl Pl Dl) → e - i < kk → mV Γ Q (16 + kv * 64) (256 + kv * 478) nl Sl Pl Dl E [(0, .ref q), (1, .long x1), (3, .int x3)] [] 38 := by
          intro kk
          induction kk with
          | zero =>
            intro i x1 x3 nl kv Sl Pl Dl _ _ _ _ _ _ hms
            exact absurd hms (Nat.not_lt_zero _)
          | succ kk ih =>
            intro i x1 x3 nl kv Sl Pl Dl hi e1 e3 hnl hkv hAl hms
            subst e3
            refine V_iload_n h 39 2 rfl dX7_digest_38 rfl ?_
            refine V_aload_n h 40 0 rfl dX7_digest_39 rfl ?_
            refine g_X7_10 h 43 (b := r) (agr_s hAl (show q < n by omega) hmS) (agr_p hAl (show q < n by omega) hmP) dX7_digest_40 rfl ?_
            refine g_X7_20 h 46 (R_s0 (agr_L hAl hL hrn)) dX7_digest_43 rfl ?_
            refine V_top (y := nI e) (agr_d hAl (by omega) hS1.2.2.2.2.1.1) ?_
            refine V_icmp_ge h 130 49 dX7_digest_46 (by decide) rfl (fun c46 => ?_) (fun c46 => ?_)
            · skip
              have hex46 : i = e := by have := mGe c46 (by omega) (by omega); omega
              have hOE : ownDig o o2 o3 L ρ m V (digM (askA o L ρ V) 7803 16) i = ownDig o o2 o3 L ρ m V (digM (askA o L ρ V) 7803 16) 10 := by rw [hex46]; have := own_e (o2 := o2) (o3 := o3) (L := L) (ρ := ρ) (m := m) (d := digM (askA o L ρ V) 7803 16) (fun i h1 h2 => hz i h1 h2 1 (by decide) (by decide)) (10 - e) (by omega); rw [show e + (10 - e) = 10 by omega] at this; exact this.symm
              refine V_iconst h 131 (v := 0) (by decide) dX7_digest_130 rfl ?_
              refine V_istore_n h 132 [(3, .int 0), (0, .ref q), (1, .long x1)] (by decide) rfl dX7_digest_131 rfl ?_
              have LP132 : ∀ (kk : Nat) (i : Nat) (z1 : Int64) (x3 : Int32), (i ≤ 7) → (z1 = bwlDig (fun x => holdI (fun p => V (o + 6 + ρ p) 2) ρ x L) (fun x => userI (fun p => V (o + 6 + ρ p) 2) ρ (V (o + 17)) m x L) x1 i) → (x3 = nI (720 * i)) → 7 - i < kk → mV Γ Q (16 + kv * 64) (256 + kv * 478) nl Sl Pl Dl E [(0, .ref q), (1, .long z1), (3, .int x3)] [] 132 := by
                intro kk2
                induction kk2 with
                | zero =>
                  intro i z1 x3 _ _ _ hms
                  exact absurd hms (Nat.not_lt_zero _)
                | succ kk2 ih2 =>
                  intro i z1 x3 hi2 e6 e7 hms
                  subst e7
                  refine V_iload_n h 133 2 rfl dX7_digest_132 rfl ?_
                  refine V_sipush h 136 (v := 4320) (by decide) dX7_digest_133 rfl ?_
                  refine V_icmp_gt h 178 139 dX7_digest_136 (by decide) rfl (fun c136 => ?_) (fun c136 => ?_)
                  · skip
                    have hexw : i = 7 := by have := (nI_ltI (a := 4320) (b := 720 * i) (by decide) (by omega)).mp c136; omega
                    subst hexw
                    refine V_iconst h 179 (v := 0) (by decide) dX7_digest_178 rfl ?_
                    refine V_istore_n h 180 [(3, .int 0), (0, .ref q), (1, .long z1)] (by decide) rfl dX7_digest_179 rfl ?_
                    have LP180 : ∀ (kk : Nat) (i : Nat) (z2 : Int64) (x3 : Int32), (i ≤ m) → (z2 = lstDig (V (o + 17)) 4 z1 i) → (x3 = nI i) → m - i < kk → mV Γ Q (16 + kv * 64) (256 + kv * 478) nl Sl Pl Dl E [(0, .ref q), (1, .long z2), (3, .int x3)] [] 180 := by
                      intro kk3
                      induction kk3 with
                      | zero =>
                        intro i z2 x3 _ _ _ hms
                        exact absurd hms (Nat.not_lt_zero _)
                      | succ kk3 ih3 =>
                        intro i z2 x3 hi3 ez2 e33 hms
                        subst e33
                        refine V_iload_n h 181 2 rfl dX7_digest_180 rfl ?_
                        refine V_aload_n h 182 0 rfl dX7_digest_181 rfl ?_
                        refine g_X7_10 h 185 (b := r) (agr_s hAl (show q < n by omega) hmS) (agr_p hAl (show q < n by omega) hmP) dX7_digest_182 rfl ?_
                        refine g_X7_63 h 188 (R_s0 (agr_L hAl hL hrn)) dX7_digest_185 rfl ?_
                        refine V_top (y := nI m) (agr_d hAl (by omega) hS1.2.2.2.2.1.2.2.1) ?_
                        refine V_icmp_ge h 232 191 dX7_digest_188 (by decide) rfl (fun c188 => ?_) (fun c188 => ?_)
                        · skip
                          have hex188 : i = m := by have := mGe c188 (by omega) (by omega); omega
                          have hz180 : z2 = lstDig (V (o + 17)) 4 z1 m := by rw [← hex188]; exact ez2
                          refine V_iconst h 233 (v := 0) (by decide) dX7_digest_232 rfl ?_
                          refine V_istore_n h 234 [(3, .int 0), (0, .ref q), (1, .long z2)] (by decide) rfl dX7_digest_233 rfl ?_
                          have LP234 : ∀ (kk : Nat) (i : Nat) (z3 : Int64) (x3 : Int32), (i ≤ k) → (z3 = lstDig (V (o + 19)) 3 z2 i) → (x3 = nI i) → k - i < kk → mV Γ Q (16 + kv * 64) (256 + kv * 478) nl Sl Pl Dl E [(0, .ref q), (1, .long z3), (3, .int x3)] [] 234 := by
                            intro kk4
                            induction kk4 with
                            | zero =>
                              intro i z3 x3 _ _ _ hms
                              exact absurd hms (Nat.not_lt_zero _)
                            | succ kk4 ih4 =>
                              intro i z3 x3 hi4 ez3 e34 hms
                              subst e34
                              refine V_iload_n h 235 2 rfl dX7_digest_234 rfl ?_
                              refine V_aload_n h 236 0 rfl dX7_digest_235 rfl ?_
                              refine g_X7_10 h 239 (b := r) (agr_s hAl (show q < n by omega) hmS) (agr_p hAl (show q < n by omega) hmP) dX7_digest_236 rfl ?_
                              refine g_X7_76 h 242 (R_s0 (agr_L hAl hL hrn)) dX7_digest_239 rfl ?_
                              refine V_top (y := nI k) (agr_d hAl (by omega) hS1.2.2.2.2.1.2.2.2.1) ?_
                              refine V_icmp_ge h 286 245 dX7_digest_242 (by decide) rfl (fun c242 => ?_) (fun c242 => ?_)
                              · skip
                                have hex242 : i = k := by have := mGe c242 (by omega) (by omega); omega
                                have hz234 : z3 = lstDig (V (o + 19)) 3 z2 k := by rw [← hex242]; exact ez3
                                refine V_lload_n h 287 1 rfl dX7_digest_286 rfl ?_
                                refine V_ldc2 h 290 qG_X7_170 dX7_digest_287 rfl ?_
                                refine V_lmul h 291 dX7_digest_290 rfl ?_
                                refine V_aload_n h 292 0 rfl dX7_digest_291 rfl ?_
                                refine V_iconst h 293 (v := 0) (by decide) dX7_digest_292 rfl ?_
                                refine V_iconst h 294 (v := 3) (by decide) dX7_digest_293 rfl ?_
                                refine V_callV h 297 (rm := { frames := 5, cells := 672, slots := 5019, locals := 119 }) (As := [.int 0, .int 3]) (q_digNow (agr_s hAl (show q < n by omega) hmS) (agr_p hAl (show q < n by omega) hmP) hqr (agr_L hAl hL hrn) (agr_S hAl hS1 hm8 hk8 hL.2.2.2.1 hrn) hI (by omega) hz hG hdd hlen 0 (d := 3) (by omega) hF) rfl (agr_s hAl (show q < n by omega) hmS) qL_X7_156 qI_X7_digNow qS_X7_digNow qZ_X7 qC_X7_digNow hd_X7_digNow ⟨Nat.le_of_ble_eq_true rfl, Nat.le_of_ble_eq_true rfl⟩ (Nat.le_of_ble_eq_true rfl) rfl rfl dX7_digest_294 ⟨(by show 16 + kv * 64 + 672 ≤ 1392; omega), (by show 256 + kv * 478 + 5019 ≤ 10533; omega)⟩ (fun v2 n2 S2 P2 D2 E2 hq2 => ?_)
                                obtain ⟨hn2, q42, hB2, an2, q52, ea2⟩ := hq2
                                subst q52
                                have q4z2 := q42.symm
                                subst q4z2
                                have hA2 := agr_tr hAl (by omega) hB2
                                refine V_i2l h 298 dX7_digest_297 rfl ?_
                                refine V_ladd h 299 dX7_digest_298 rfl ?_
                                refine V_lstore_n h 300 [(1, .long ((z3 * (31 : Int64)) + ((an2).toInt64))), (0, .ref q), (3, .int (nI i))] (by decide) rfl dX7_digest_299 rfl ?_
                                refine V_lload_n h 301 0 rfl dX7_digest_300 rfl ?_
                                refine V_ldc2 h 304 qG_X7_170 dX7_digest_301 rfl ?_
                                refine V_lmul h 305 dX7_digest_304 rfl ?_
                                refine V_aload_n h 306 1 rfl dX7_digest_305 rfl ?_
                                refine V_iconst h 307 (v := 5) (by decide) dX7_digest_306 rfl ?_
                                refine V_iconst h 308 (v := 0) (by decide) dX7_digest_307 rfl ?_
                                refine V_bipush h 310 (v := 9) (by decide) dX7_digest_308 rfl ?_
                                refine V_callV h 313 (rm := { frames := 5, cells := 64, slots := 478, locals := 119 }) (As := [.int 5, .int 0, .int 9]) (q_takesNow (agr_s hA2 (show q < n by omega) hmS) (agr_p hA2 (show q < n by omega) hmP) hqr (agr_L hA2 hL hrn) (agr_S hA2 hS1 hm8 hk8 hL.2.2.2.1 hrn) hI (by omega) hz hG hdd hW1 hW2 5 0 (d := 9) (by omega)) rfl (agr_s hA2 (show q < n by omega) hmS) qL_X7_159 qI_X7_takesNow qS_X7_takesNow qZ_X7 qC_X7_takesNow hd_X7_takesNow ⟨Nat.le_of_ble_eq_true rfl, Nat.le_of_ble_eq_true rfl⟩ (Nat.le_of_ble_eq_true rfl) rfl rfl dX7_digest_310 ⟨(by show 16 + kv * 64 + 736 ≤ 1392; omega), (by show 256 + kv * 478 + 5497 ≤ 10533; omega)⟩ (fun v3 n3 S3 P3 D3 E3 hq3 => ?_)
                                obtain ⟨hn3, q43, hB3, an3, q53, ea3⟩ := hq3
                                subst q53
                                have q4z3 := q43.symm
                                subst q4z3
                                have hA3 := agr_tr hA2 (by omega) hB3
                                refine V_i2l h 314 dX7_digest_313 rfl ?_
                                refine V_ladd h 315 dX7_digest_314 rfl ?_
                                exact V_lret h rfl hQ (by show 16 + kv * 64 + 736 ≤ 1392; omega) (by show 256 + kv * 478 + 5497 ≤ 10533; omega) ⟨by omega, rfl, by rw [← eD1]; exact hA3, by rw [hOE] at e1; rw [digR, ← e1, ← e6, ← hz180, ← hz234, ← ea2, ← ea3]⟩ dX7_digest_315
                              · skip
                                have hlti := mLt c242 (by omega)
                                refine V_iconst h 246 (v := 0) (by decide) dX7_digest_245 rfl ?_
                                refine V_istore h 248 [(4, .int 0), (0, .ref q), (1, .long z3), (3, .int (nI i))] (by decide) rfl dX7_digest_246 rfl ?_
                                have LP248 : ∀ (kk : Nat) (w : Nat) (y1 : Int64) (x4 : Int32), (w ≤ 3) → (y1 = digM (fun j => V (o + 19) (i * 4 + j)) z3 w) → (x4 = nI w) → 3 - w < kk → mV Γ Q (16 + kv * 64) (256 + kv * 478) nl Sl Pl Dl E [(0, .ref q), (1, .long y1), (3, .int (nI i)), (4, .int x4)] [] 248 := by
                                  intro jk
                                  induction jk with
                                  | zero =>
                                    intro w y1 x4 _ _ _ hms
                                    exact absurd hms (Nat.not_lt_zero _)
                                  | succ jk jh =>
                                    intro w y1 x4 hw e8 e9 hms
                                    subst e8 e9
                                    refine V_iload h 250 3 rfl dX7_digest_248 rfl ?_
                                    refine V_iconst h 251 (v := 2) (by decide) dX7_digest_250 rfl ?_
                                    refine V_icmp_gt h 280 254 dX7_digest_251 (by decide) rfl (fun c251 => ?_) (fun c251 => ?_)
                                    · skip
                                      have hexw : w = 3 := by have := (nI_ltI (a := 2) (b := w) (by decide) (by omega)).mp c251; omega
                                      subst hexw
                                      refine V_iinc h 283 [(3, .int ((nI i) + 1)), (0, .ref q), (1, .long (digM (fun j => V (o + 19) (i * 4 + j)) z3 3)), (4, .int (nI 3))] 2 rfl (by rfl) (by decide) rfl dX7_digest_280 rfl ?_
                                      refine V_goto h 234 dX7_digest_283 (by decide) ?_
                                      refine V_lsub [(0, .ref q), (1, .long (digM (fun j => V (o + 19) (i * 4 + j)) z3 3)), (3, .int ((nI i) + 1))] [1, 2, 0] rfl ?_
                                      exact ih4 (i + 1) _ _ (by omega) (by rw [lstDig, ← ez3]) (nI_1 i) (by omega)
                                    · skip
                                      have hltw : w < 3 := by have := (nI_leI (a := w) (b := 2) (by omega) (by decide)).mp (Int32.not_lt.mp c251); omega
                                      refine V_lload_n h 255 1 rfl dX7_digest_254 rfl ?_
                                      refine V_ldc2 h 258 qG_X7_170 dX7_digest_255 rfl ?_
                                      refine V_lmul h 259 dX7_digest_258 rfl ?_
                                      refine V_aload_n h 260 0 rfl dX7_digest_259 rfl ?_
                                      refine g_X7_10 h 263 (b := r) (agr_s hAl (show q < n by omega) hmS) (agr_p hAl (show q < n by omega) hmP) dX7_digest_260 rfl ?_
                                      refine g_X7_79 h 266 (b := r + 22) (R_s0 (agr_L hAl hL hrn)) (R_p3 (agr_L hAl hL hrn)) dX7_digest_263 rfl ?_
                                      refine V_iload_n h 267 2 rfl dX7_digest_266 rfl ?_
                                      refine V_aald h 268 (b := r + 23 + i) i (Or.inr rfl) (R_s22 (agr_L hAl hL hrn)) rfl (by omega) (by decide) (R_ps (agr_L hAl hL hrn) (by omega)) dX7_digest_267 rfl ?_
                                      refine V_iload h 270 3 rfl dX7_digest_268 rfl ?_
                                      refine V_iald h 271 w (R_ss (agr_L hAl hL hrn) (by omega)) rfl (by omega) (by decide) dX7_digest_270 rfl ?_
                                      refine V_top (y := V (o + 19) (i * 4 + w)) (agr_d hAl (by omega) (hS1.2.2.2.1 i hlti w (by omega))) ?_
                                      refine V_i2l h 272 dX7_digest_271 rfl ?_
                                      refine V_ladd h 273 dX7_digest_272 rfl ?_
                                      refine V_lstore_n h 274 [(1, .long (((digM (fun j => V (o + 19) (i * 4 + j)) z3 w) * (31 : Int64)) + ((V (o + 19) (i * 4 + w)).toInt64))), (0, .ref q), (3, .int (nI i)), (4, .int (nI w))] (by decide) rfl dX7_digest_273 rfl ?_
                                      refine V_iinc h 277 [(4, .int ((nI w) + 1)), (1, .long (((digM (fun j => V (o + 19) (i * 4 + j)) z3 w) * (31 : Int64)) + ((V (o + 19) (i * 4 + w)).toInt64))), (0, .ref q), (3, .int (nI i))] 3 rfl (by rfl) (by decide) rfl dX7_digest_274 rfl ?_
                                      refine V_goto h 248 dX7_digest_277 (by decide) ?_
                                      refine V_lsub [(0, .ref q), (1, .long (((digM (fun j => V (o + 19) (i * 4 + j)) z3 w) * (31 : Int64)) + ((V (o + 19) (i * 4 + w)).toInt64))), (3, .int (nI i)), (4, .int ((nI w) + 1))] [2, 1, 3, 0] rfl ?_
                                      exact jh (w + 1) _ _ (by omega) rfl (nI_1 w) (by omega)
                                refine V_lsub [(0, .ref q), (1, .long z3), (3, .int (nI i)), (4, .int 0)] [1, 2, 3, 0] rfl ?_
                                exact LP248 _ 0 _ _ (Nat.zero_le _) rfl rfl (Nat.lt_succ_self _)
                          refine V_lsub [(0, .ref q), (1, .long z2), (3, .int 0)] [1, 2, 0] rfl ?_
                          exact LP234 _ 0 _ _ (Nat.zero_le _) rfl rfl (Nat.lt_succ_self _)
                        · skip
                          have hlti := mLt c188 (by omega)
                          refine V_iconst h 192 (v := 0) (by decide) dX7_digest_191 rfl ?_
                          refine V_istore h 194 [(4, .int 0), (0, .ref q), (1, .long z2), (3, .int (nI i))] (by decide) rfl dX7_digest_192 rfl ?_
                          have LP194 : ∀ (kk : Nat) (w : Nat) (y1 : Int64) (x4 : Int32), (w ≤ 4) → (y1 = digM (fun j => V (o + 17) (i * 4 + j)) z2 w) → (x4 = nI w) → 4 - w < kk → mV Γ Q (16 + kv * 64) (256 + kv * 478) nl Sl Pl Dl E [(0, .ref q), (1, .long y1), (3, .int (nI i)), (4, .int x4)] [] 194 := by
                            intro jk
                            induction jk with
                            | zero =>
                              intro w y1 x4 _ _ _ hms
                              exact absurd hms (Nat.not_lt_zero _)
                            | succ jk jh =>
                              intro w y1 x4 hw e8 e9 hms
                              subst e8 e9
                              refine V_iload h 196 3 rfl dX7_digest_194 rfl ?_
                              refine V_iconst h 197 (v := 3) (by decide) dX7_digest_196 rfl ?_
                              refine V_icmp_gt h 226 200 dX7_digest_197 (by decide) rfl (fun c197 => ?_) (fun c197 => ?_)
                              · skip
                                have hexw : w = 4 := by have := (nI_ltI (a := 3) (b := w) (by decide) (by omega)).mp c197; omega
                                subst hexw
                                refine V_iinc h 229 [(3, .int ((nI i) + 1)), (0, .ref q), (1, .long (digM (fun j => V (o + 17) (i * 4 + j)) z2 4)), (4, .int (nI 4))] 2 rfl (by rfl) (by decide) rfl dX7_digest_226 rfl ?_
                                refine V_goto h 180 dX7_digest_229 (by decide) ?_
                                refine V_lsub [(0, .ref q), (1, .long (digM (fun j => V (o + 17) (i * 4 + j)) z2 4)), (3, .int ((nI i) + 1))] [1, 2, 0] rfl ?_
                                exact ih3 (i + 1) _ _ (by omega) (by rw [lstDig, ← ez2]) (nI_1 i) (by omega)
                              · skip
                                have hltw : w < 4 := by have := (nI_leI (a := w) (b := 3) (by omega) (by decide)).mp (Int32.not_lt.mp c197); omega
                                refine V_lload_n h 201 1 rfl dX7_digest_200 rfl ?_
                                refine V_ldc2 h 204 qG_X7_170 dX7_digest_201 rfl ?_
                                refine V_lmul h 205 dX7_digest_204 rfl ?_
                                refine V_aload_n h 206 0 rfl dX7_digest_205 rfl ?_
                                refine g_X7_10 h 209 (b := r) (agr_s hAl (show q < n by omega) hmS) (agr_p hAl (show q < n by omega) hmP) dX7_digest_206 rfl ?_
                                refine g_X7_66 h 212 (b := r + 13) (R_s0 (agr_L hAl hL hrn)) (R_p2 (agr_L hAl hL hrn)) dX7_digest_209 rfl ?_
                                refine V_iload_n h 213 2 rfl dX7_digest_212 rfl ?_
                                refine V_aald h 214 (b := r + 14 + lo i) i (Or.inr rfl) (R_s13 (agr_L hAl hL hrn)) rfl (by omega) (by decide) (R_pl (agr_L hAl hL hrn) (by omega)) dX7_digest_213 rfl ?_
                                refine V_iload h 216 3 rfl dX7_digest_214 rfl ?_
                                refine V_iald h 217 w (R_sL (agr_L hAl hL hrn) (by omega)) rfl (by omega) (by decide) dX7_digest_216 rfl ?_
                                refine V_top (y := V (o + 17) (i * 4 + w)) (agr_d hAl (by have := hL.2.2.2.1 i (by omega); omega) (hS1.2.2.1 i hlti w (by omega))) ?_
                                refine V_i2l h 218 dX7_digest_217 rfl ?_
                                refine V_ladd h 219 dX7_digest_218 rfl ?_
                                refine V_lstore_n h 220 [(1, .long (((digM (fun j => V (o + 17) (i * 4 + j)) z2 w) * (31 : Int64)) + ((V (o + 17) (i * 4 + w)).toInt64))), (0, .ref q), (3, .int (nI i)), (4, .int (nI w))] (by decide) rfl dX7_digest_219 rfl ?_
                                refine V_iinc h 223 [(4, .int ((nI w) + 1)), (1, .long (((digM (fun j => V (o + 17) (i * 4 + j)) z2 w) * (31 : Int64)) + ((V (o + 17) (i * 4 + w)).toInt64))), (0, .ref q), (3, .int (nI i))] 3 rfl (by rfl) (by decide) rfl dX7_digest_220 rfl ?_
                                refine V_goto h 194 dX7_digest_223 (by decide) ?_
                                refine V_lsub [(0, .ref q), (1, .long (((digM (fun j => V (o + 17) (i * 4 + j)) z2 w) * (31 : Int64)) + ((V (o + 17) (i * 4 + w)).toInt64))), (3, .int (nI i)), (4, .int ((nI w) + 1))] [2, 1, 3, 0] rfl ?_
                                exact jh (w + 1) _ _ (by omega) rfl (nI_1 w) (by omega)
                          refine V_lsub [(0, .ref q), (1, .long z2), (3, .int (nI i)), (4, .int 0)] [1, 2, 3, 0] rfl ?_
                          exact LP194 _ 0 _ _ (Nat.zero_le _) rfl rfl (Nat.lt_succ_self _)
                    refine V_lsub [(0, .ref q), (1, .long z1), (3, .int 0)] [1, 2, 0] rfl ?_
                    exact LP180 _ 0 _ _ (Nat.zero_le _) rfl rfl (Nat.lt_succ_self _)
                  · skip
                    have hi7 : i < 7 := by have := (nI_leI (a := 720 * i) (b := 4320) (by omega) (by decide)).mp (Int32.not_lt.mp c136); omega
                    refine V_lload_n h 140 1 rfl dX7_digest_139 rfl ?_
                    refine V_ldc2 h 143 qG_X7_170 dX7_digest_140 rfl ?_
                    refine V_lmul h 144 dX7_digest_143 rfl ?_
                    refine V_aload_n h 145 0 rfl dX7_digest_144 rfl ?_
                    refine g_X7_10 h 148 (b := r) (agr_s hAl (show q < n by omega) hmS) (agr_p hAl (show q < n by omega) hmP) dX7_digest_145 rfl ?_
                    refine V_iload_n h 149 2 rfl dX7_digest_148 rfl ?_
                    refine CVI h 152 (As := [.int (nI (720 * i))]) (r_ownerOf (agr_L hAl hL hrn) (agr_S hAl hS1 hm8 hk8 hL.2.2.2.1 hrn) hW (nI (720 * i))) rfl (R_s0 (agr_L hAl hL hrn)) qL_X7_121 qI_X6_ownerOf qS_X6_ownerOf qZ_X6 qC_X6_ownerOf hd_X6_ownerOf ⟨Nat.le_of_ble_eq_true rfl, Nat.le_of_ble_eq_true rfl⟩ (Nat.le_of_ble_eq_true rfl) rfl rfl dX7_digest_149 (by show (16 + kv * 64) ≤ 1392; omega) (by show (256 + kv * 478) ≤ 10533; omega) (fun r4 D4 hq4 => ?_)
                    rw [hq4.1, hq4.2]
                    refine V_i2l h 153 dX7_digest_152 rfl ?_
                    refine V_ladd h 154 dX7_digest_153 rfl ?_
                    refine V_ldc2 h 157 qG_X7_170 dX7_digest_154 rfl ?_
                    refine V_lmul h 158 dX7_digest_157 rfl ?_
                    refine V_aload_n h 159 0 rfl dX7_digest_158 rfl ?_
                    refine g_X7_10 h 162 (b := r) (agr_s hAl (show q < n by omega) hmS) (agr_p hAl (show q < n by omega) hmP) dX7_digest_159 rfl ?_
                    refine V_iload_n h 163 2 rfl dX7_digest_162 rfl ?_
                    refine CVI h 166 (As := [.int (nI (720 * i))]) (r_userOf (agr_L hAl hL hrn) (agr_S hAl hS1 hm8 hk8 hL.2.2.2.1 hrn) hW hinj (v := nI (720 * i)) ⟨720 * i, by omega, rfl⟩ hbw ham) rfl (R_s0 (agr_L hAl hL hrn)) qL_X7_124 qI_X6_userOf qS_X6_userOf qZ_X6 qC_X6_userOf hd_X6_userOf ⟨Nat.le_of_ble_eq_true rfl, Nat.le_of_ble_eq_true rfl⟩ (Nat.le_of_ble_eq_true rfl) rfl rfl dX7_digest_163 (by show (16 + kv * 64) ≤ 1392; omega) (by show (256 + kv * 478) ≤ 10533; omega) (fun r5 D5 hq5 => ?_)
                    rw [hq5.1, hq5.2]
                    refine V_i2l h 167 dX7_digest_166 rfl ?_
                    refine V_ladd h 168 dX7_digest_167 rfl ?_
                    refine V_lstore_n h 169 [(1, .long ((((z1 * (31 : Int64)) + ((holdI (fun p => V (o + 6 + ρ p) 2) ρ (nI (720 * i)) L).toInt64)) * (31 : Int64)) + ((userI (fun p => V (o + 6 + ρ p) 2) ρ (V (o + 17)) m (nI (720 * i)) L).toInt64))), (0, .ref q), (3, .int (nI (720 * i)))] (by decide) rfl dX7_digest_168 rfl ?_
                    refine V_iincW h 175 [(3, .int ((nI (720 * i)) + 720)), (1, .long ((((z1 * (31 : Int64)) + ((holdI (fun p => V (o + 6 + ρ p) 2) ρ (nI (720 * i)) L).toInt64)) * (31 : Int64)) + ((userI (fun p => V (o + 6 + ρ p) 2) ρ (V (o + 17)) m (nI (720 * i)) L).toInt64))), (0, .ref q)] 2 rfl (by rfl) (by decide) rfl dX7_digest_169 rfl ?_
                    refine V_goto h 132 dX7_digest_175 (by decide) ?_
                    refine V_lsub [(0, .ref q), (1, .long ((((z1 * (31 : Int64)) + ((holdI (fun p => V (o + 6 + ρ p) 2) ρ (nI (720 * i)) L).toInt64)) * (31 : Int64)) + ((userI (fun p => V (o + 6 + ρ p) 2) ρ (V (o + 17)) m (nI (720 * i)) L).toInt64))), (3, .int ((nI (720 * i)) + 720))] [2, 1, 0] rfl ?_
                    exact ih2 (i + 1) _ _ (by omega) (by rw [bwlDig, ← e6]) (by rw [show (720 : Int32) = nI 720 from rfl, nI_add]; rfl) (by omega)
              refine V_lsub [(0, .ref q), (1, .long x1), (3, .int 0)] [1, 2, 0] rfl ?_
              exact LP132 _ 0 _ _ (Nat.zero_le _) rfl rfl (Nat.lt_succ_self _)
            · skip
              have hlt := mLt c46 (by omega)
              refine V_aload_n h 50 0 rfl dX7_digest_49 rfl ?_
              refine V_iload_n h 51 2 rfl dX7_digest_50 rfl ?_
              refine CVR h 54 (As := [.int (nI i)]) (q_at (agr_s hAl (show q < n by omega) hmS) (agr_p hAl (show q < n by omega) hmP) (agr_L hAl hL hrn) (t := i) (by omega)) rfl (agr_s hAl (show q < n by omega) hmS) qL_X7_39 qI_X7_at qS_X7_at qZ_X7 qC_X7_at hd_X7_at ⟨Nat.le_of_ble_eq_true rfl, Nat.le_of_ble_eq_true rfl⟩ (Nat.le_of_ble_eq_true rfl) rfl rfl dX7_digest_51 (by show (16 + kv * 64) ≤ 1392; omega) (by show (256 + kv * 478) ≤ 10533; omega) (fun r6 D6 hq6 => ?_)
              rw [hq6.1, hq6.2]
              refine V_bipush h 56 (v := 11) (by decide) dX7_digest_54 rfl ?_
              refine V_iald h 57 11 (R_sw (agr_L hAl hL hrn) (by omega)) (by decide) (by decide) (by decide) dX7_digest_56 rfl ?_
              refine V_top (y := V (o + 6 + i) 1) (agr_d hAl (by have := hρ; omega) (hS1.1 i (by omega) 11 (by decide))) ?_
              refine V_if_ne h 63 60 dX7_digest_57 (by decide) rfl (fun c57 => ?_) (fun c57 => ?_)
              · skip
                obtain ⟨p, hp, ep⟩ := liv_at hI (by omega) c57
                subst ep
                have hp10 := hρ p hp
                refine V_iconst h 64 (v := 0) (by decide) dX7_digest_63 rfl ?_
                refine V_istore h 66 [(4, .int 0), (0, .ref q), (1, .long x1), (3, .int (nI (ρ p)))] (by decide) rfl dX7_digest_64 rfl ?_
                have LP66 : ∀ (kk : Nat) (w : Nat) (y1 : Int64) (x4 : Int32), (w ≤ 14) → (y1 = digM (askO o ρ p m V) x1 w) → (x4 = nI w) → 14 - w < kk → mV Γ Q (16 + kv * 64) (256 + kv * 478) nl Sl Pl Dl E [(0, .ref q), (1, .long y1), (3, .int (nI (ρ p))), (4, .int x4)] [] 66 := by
                  intro jk
                  induction jk with
                  | zero =>
                    intro w y1 x4 _ _ _ hms
                    exact absurd hms (Nat.not_lt_zero _)
                  | succ jk jh =>
                    intro w y1 x4 hw e6 e7 hms
                    subst e6 e7
                    refine V_iload h 68 3 rfl dX7_digest_66 rfl ?_
                    refine V_bipush h 70 (v := 13) (by decide) dX7_digest_68 rfl ?_
                    refine V_icmp_gt h 94 73 dX7_digest_70 (by decide) rfl (fun c70 => ?_) (fun c70 => ?_)
                    · skip
                      have hexw : w = 14 := by have := (nI_ltI (a := 13) (b := w) (by decide) (by omega)).mp c70; omega
                      subst hexw
                      refine V_lload_n h 95 1 rfl dX7_digest_94 rfl ?_
                      refine V_ldc2 h 98 qG_X7_170 dX7_digest_95 rfl ?_
                      refine V_lmul h 99 dX7_digest_98 rfl ?_
                      refine V_aload_n h 100 0 rfl dX7_digest_99 rfl ?_
                      refine V_iload_n h 101 2 rfl dX7_digest_100 rfl ?_
                      refine V_iconst h 102 (v := 0) (by decide) dX7_digest_101 rfl ?_
                      refine V_bipush h 104 (v := 7) (by decide) dX7_digest_102 rfl ?_
                      refine V_callV h 107 (rm := { frames := 5, cells := 32, slots := 239, locals := 119 }) (As := [.int (nI (ρ p)), .int 0, .int 7]) (q_comeNow (agr_s hAl (show q < n by omega) hmS) (agr_p hAl (show q < n by omega) hmP) hqr (agr_L hAl hL hrn) (agr_S hAl hS1 hm8 hk8 hL.2.2.2.1 hrn) hI (by omega) hz hG hdd hl2 hp 0 (d := 7) (by omega)) rfl (agr_s hAl (show q < n by omega) hmS) qL_X7_149 qI_X7_comeNow qS_X7_comeNow qZ_X7 qC_X7_comeNow hd_X7_comeNow ⟨Nat.le_of_ble_eq_true rfl, Nat.le_of_ble_eq_true rfl⟩ (Nat.le_of_ble_eq_true rfl) rfl rfl dX7_digest_104 ⟨(by show 16 + kv * 64 + 32 ≤ 1392; omega), (by show 256 + kv * 478 + 239 ≤ 10533; omega)⟩ (fun v7 n7 S7 P7 D7 E7 hq7 => ?_)
                      obtain ⟨hn7, q47, hB7, an7, q57, ea7⟩ := hq7
                      subst q57
                      have q4z7 := q47.symm
                      subst q4z7
                      have hA7 := agr_tr hAl (by omega) hB7
                      refine V_i2l h 108 dX7_digest_107 rfl ?_
                      refine V_ladd h 109 dX7_digest_108 rfl ?_
                      refine V_lstore_n h 110 [(1, .long (((digM (askO o ρ p m V) x1 14) * (31 : Int64)) + ((an7).toInt64))), (0, .ref q), (3, .int (nI (ρ p))), (4, .int (nI 14))] (by decide) rfl dX7_digest_109 rfl ?_
                      refine V_lload_n h 111 0 rfl dX7_digest_110 rfl ?_
                      refine V_ldc2 h 114 qG_X7_170 dX7_digest_111 rfl ?_
                      refine V_lmul h 115 dX7_digest_114 rfl ?_
                      refine V_aload_n h 116 1 rfl dX7_digest_115 rfl ?_
                      refine V_iload_n h 117 2 rfl dX7_digest_116 rfl ?_
                      refine V_iconst h 118 (v := 3) (by decide) dX7_digest_117 rfl ?_
                      refine V_callV h 121 (rm := { frames := 4, cells := 32, slots := 239, locals := 95 }) (As := [.int (nI (ρ p)), .int 3]) (q_reapNow (agr_s hA7 (show q < n by omega) hmS) (agr_p hA7 (show q < n by omega) hmP) hqr (agr_L hA7 hL hrn) (agr_S hA7 hS1 hm8 hk8 hL.2.2.2.1 hrn) hI (by omega) hz hG hdd hl3 hp 3) rfl (agr_s hA7 (show q < n by omega) hmS) qL_X7_165 qI_X7_reapNow qS_X7_reapNow qZ_X7 qC_X7_reapNow hd_X7_reapNow ⟨Nat.le_of_ble_eq_true rfl, Nat.le_of_ble_eq_true rfl⟩ (Nat.le_of_ble_eq_true rfl) rfl rfl dX7_digest_118 ⟨(by show 16 + kv * 64 + 64 ≤ 1392; omega), (by show 256 + kv * 478 + 478 ≤ 10533; omega)⟩ (fun v8 n8 S8 P8 D8 E8 hq8 => ?_)
                      obtain ⟨hn8, q48, hB8, an8, q58, ea8⟩ := hq8
                      subst q58
                      have q4z8 := q48.symm
                      subst q4z8
                      have hA8 := agr_tr hA7 (by omega) hB8
                      refine V_i2l h 122 dX7_digest_121 rfl ?_
                      refine V_ladd h 123 dX7_digest_122 rfl ?_
                      refine V_lstore_n h 124 [(1, .long (((((digM (askO o ρ p m V) x1 14) * (31 : Int64)) + ((an7).toInt64)) * (31 : Int64)) + ((an8).toInt64))), (0, .ref q), (3, .int (nI (ρ p))), (4, .int (nI 14))] (by decide) rfl dX7_digest_123 rfl ?_
                      refine V_iinc h 127 [(3, .int ((nI (ρ p)) + 1)), (1, .long (((((digM (askO o ρ p m V) x1 14) * (31 : Int64)) + ((an7).toInt64)) * (31 : Int64)) + ((an8).toInt64))), (0, .ref q), (4, .int (nI 14))] 2 rfl (by rfl) (by decide) rfl dX7_digest_124 rfl ?_
                      refine V_goto h 38 dX7_digest_127 (by decide) ?_
                      refine V_lsub [(0, .ref q), (1, .long (((((digM (askO o ρ p m V) x1 14) * (31 : Int64)) + ((an7).toInt64)) * (31 : Int64)) + ((an8).toInt64))), (3, .int ((nI (ρ p)) + 1))] [2, 1, 0] rfl ?_
                      refine V_kcs (kc2 := 16 + (kv + 1) * 64) (ks2 := 256 + (kv + 1) * 478) (by show 16 + kv * 64 + 32 + 32 = _; omega) (by show 256 + kv * 478 + 239 + 239 = _; omega) ?_
                      exact ih (ρ p + 1) _ _ n8 (kv + 1) S8 P8 D8 (by omega) (by rw [ownDig, if_neg c57, plc_at hinj hp, ← e1, hB2 _ hp10, hB3 _ hp10, ← ea7, ← ea8]) (nI_1 (ρ p)) (by omega) (by omega) hA8 (by omega)
                    · skip
                      have hltw : w < 14 := by have := (nI_leI (a := w) (b := 13) (by omega) (by decide)).mp (Int32.not_lt.mp c70); omega
                      refine V_lload_n h 74 1 rfl dX7_digest_73 rfl ?_
                      refine V_ldc2 h 77 qG_X7_170 dX7_digest_74 rfl ?_
                      refine V_lmul h 78 dX7_digest_77 rfl ?_
                      refine V_aload_n h 79 0 rfl dX7_digest_78 rfl ?_
                      refine V_iload_n h 80 2 rfl dX7_digest_79 rfl ?_
                      refine V_iload h 82 3 rfl dX7_digest_80 rfl ?_
                      refine CVI h 85 (As := [.int (nI (ρ p)), .int (nI w)]) (q_ownerNow (agr_s hAl (show q < n by omega) hmS) (agr_p hAl (show q < n by omega) hmP) hqr (agr_L hAl hL hrn) (agr_S hAl hS1 hm8 hk8 hL.2.2.2.1 hrn) hI hb0 hp (w := w) hltw) rfl (agr_s hAl (show q < n by omega) hmS) qL_X7_118 qI_X7_ownerNow qS_X7_ownerNow qZ_X7 qC_X7_ownerNow hd_X7_ownerNow ⟨Nat.le_of_ble_eq_true rfl, Nat.le_of_ble_eq_true rfl⟩ (Nat.le_of_ble_eq_true rfl) rfl rfl dX7_digest_82 (by show (16 + kv * 64) ≤ 1392; omega) (by show (256 + kv * 478) ≤ 10533; omega) (fun r9 D9 hq9 => ?_)
                      rw [hq9.1, hq9.2]
                      refine V_i2l h 86 dX7_digest_85 rfl ?_
                      refine V_ladd h 87 dX7_digest_86 rfl ?_
                      refine V_lstore_n h 88 [(1, .long (((digM (askO o ρ p m V) x1 w) * (31 : Int64)) + ((askO o ρ p m V w).toInt64))), (0, .ref q), (3, .int (nI (ρ p))), (4, .int (nI w))] (by decide) rfl dX7_digest_87 rfl ?_
                      refine V_iinc h 91 [(4, .int ((nI w) + 1)), (1, .long (((digM (askO o ρ p m V) x1 w) * (31 : Int64)) + ((askO o ρ p m V w).toInt64))), (0, .ref q), (3, .int (nI (ρ p)))] 3 rfl (by rfl) (by decide) rfl dX7_digest_88 rfl ?_
                      refine V_goto h 66 dX7_digest_91 (by decide) ?_
                      refine V_lsub [(0, .ref q), (1, .long (((digM (askO o ρ p m V) x1 w) * (31 : Int64)) + ((askO o ρ p m V w).toInt64))), (3, .int (nI (ρ p))), (4, .int ((nI w) + 1))] [2, 1, 3, 0] rfl ?_
                      exact jh (w + 1) _ _ (by omega) rfl (nI_1 w) (by omega)
                refine V_lsub [(0, .ref q), (1, .long x1), (3, .int (nI (ρ p))), (4, .int 0)] [1, 2, 3, 0] rfl ?_
                exact LP66 _ 0 _ _ (Nat.zero_le _) rfl rfl (Nat.lt_succ_self _)
              · skip
                refine V_goto h 124 dX7_digest_60 (by decide) ?_
                refine V_iinc h 127 [(3, .int ((nI i) + 1)), (0, .ref q), (1, .long x1)] 2 rfl (by rfl) (by decide) rfl dX7_digest_124 rfl ?_
                refine V_goto h 38 dX7_digest_127 (by decide) ?_
                refine V_lsub [(0, .ref q), (1, .long x1), (3, .int ((nI i) + 1))] [1, 2, 0] rfl ?_
                exact ih (i + 1) _ _ nl kv Sl Pl Dl (by omega) (by rw [ownDig, if_pos c57]; exact e1) (nI_1 i) hnl (by omega) hAl (by omega)
        refine V_lsub [(0, .ref q), (1, .long x1), (3, .int 0)] [1, 2, 0] rfl ?_
        exact LP38 _ 0 _ _ nk 0 Sk Pk Dk (Nat.zero_le _) (by rw [ownDig]; exact e1) rfl hnk (Nat.le_refl _) hAk (Nat.lt_succ_self _)
      · skip
        have hltw : w < 16 := by have := (nI_leI (a := w) (b := 15) (by omega) (by decide)).mp (Int32.not_lt.mp c14); omega
        refine V_lload_n h 18 1 rfl dX7_digest_17 rfl ?_
        refine V_ldc2 h 21 qG_X7_170 dX7_digest_18 rfl ?_
        refine V_lmul h 22 dX7_digest_21 rfl ?_
        refine V_aload_n h 23 0 rfl dX7_digest_22 rfl ?_
        refine V_iload_n h 24 2 rfl dX7_digest_23 rfl ?_
        refine V_callV h 27 (rm := { frames := 2, cells := 1, slots := 16, locals := 41 }) (As := [.int (nI w)]) (q_manyNow (agr_s hAk (show q < n by omega) hmS) (agr_p hAk (show q < n by omega) hmP) hqr (agr_L hAk hL hrn) (agr_S hAk hS1 hm8 hk8 hL.2.2.2.1 hrn) hI (by omega) (w := w) (by omega)) rfl (agr_s hAk (show q < n by omega) hmS) qL_X7_142 qI_X7_manyNow qS_X7_manyNow qZ_X7 qC_X7_manyNow hd_X7_manyNow ⟨Nat.le_of_ble_eq_true rfl, Nat.le_of_ble_eq_true rfl⟩ (Nat.le_of_ble_eq_true rfl) rfl rfl dX7_digest_24 ⟨(by show w + 1 ≤ 1392; omega), (by show w * 16 + 16 ≤ 10533; omega)⟩ (fun v10 n10 S10 P10 D10 E10 hq10 => ?_)
        obtain ⟨hn10, q410, hB10, an10, q510, ea10⟩ := hq10
        subst q510
        have q4z10 := q410.symm
        subst q4z10
        have hA10 := agr_tr hAk (by omega) hB10
        refine V_i2l h 28 dX7_digest_27 rfl ?_
        refine V_ladd h 29 dX7_digest_28 rfl ?_
        refine V_lstore_n h 30 [(1, .long ((x1 * (31 : Int64)) + ((an10).toInt64))), (0, .ref q), (3, .int (nI w))] (by decide) rfl dX7_digest_29 rfl ?_
        refine V_iinc h 33 [(3, .int ((nI w) + 1)), (1, .long ((x1 * (31 : Int64)) + ((an10).toInt64))), (0, .ref q)] 2 rfl (by rfl) (by decide) rfl dX7_digest_30 rfl ?_
        refine V_goto h 11 dX7_digest_33 (by decide) ?_
        refine V_lsub [(0, .ref q), (1, .long ((x1 * (31 : Int64)) + ((an10).toInt64))), (3, .int ((nI w) + 1))] [2, 1, 0] rfl ?_
        rw [show w * 16 + 16 = (w + 1) * 16 by omega]
        exact ih (w + 1) _ _ n10 S10 P10 D10 (by omega) (by rw [digM, ← e1, ← ea10]) (nI_1 w) (by omega) hA10 (by omega)
  refine V_lsub [(0, .ref q), (1, .long (7803 : Int64)), (3, .int 0)] [2, 1, 0] rfl ?_
  exact LP11 _ 0 _ _ n sh P D1 (Nat.zero_le _) rfl rfl (Nat.le_refl _) agr_rfl (Nat.lt_succ_self _)
