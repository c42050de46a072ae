/-! the law: what is asked, and the pump -/
theorem pump_back {u : Nat} {z : Int32} {D8 D9 D10 D11 : mDt} (h9 : D9 = upd2 D8 (u + 2 + 1) 3 z) (hA : askFr u D9 D10) (h11 : D11 = upd2 D10 (u + 2 + 1) 3 (D8 (u + 2 + 1) 3)) : askFr u D8 D11 := by
  refine ⟨fun a ha => ?_, fun i hi => ?_, fun i hi => ?_⟩
  · by_cases q : a = u + 2 + 1
    · subst q
      funext j
      by_cases q2 : j = 3
      · subst q2; rw [h11, upd2_eq]
      · rw [h11, upd2_nk q2, hA.1 _ (by omega), h9, upd2_nk q2]
    · rw [h11, upd2_ra q, hA.1 a ha, h9, upd2_ra q]
  · rw [h11, upd2_ra (by omega)]; exact hA.2.1 i hi
  · rw [h11, upd2_ra (by omega)]; exact hA.2.2 i hi
theorem would_at {o L m k d : Nat} {ρ : Nat → Nat} {x r : Int32} {D V : mDt} {i : Nat} (hW : cW o L ρ m k D) (h : ∀ a, o ≤ a → a < o + 20 → V a = D a) (hi : i < 10) (hr : r = (daysD o ρ L x (D, m, k) d).1 (o + 6 + i) 13 - D (o + 6 + i) 13) : r = (daysD o ρ L x (V, m, k) d).1 (o + 6 + i) 13 - V (o + 6 + i) 13 := by
  rw [hr, days_blk hW h i hi 13 (by decide) (by decide), h _ (by omega) (by omega)]
theorem takes_at {t u m d : Nat} {x z : Int32} {D V A B : mDt} (hW : cW (t + 2) 4 (rhoN 4) m 0 D) (hWA : cW (t + 2) 4 (rhoN 4) m 0 A) (hWB : cW (u + 2) 4 (rhoN 4) m 0 V) (hA : ∀ a, t + 2 ≤ a → a < t + 22 → A a = D a) (hv : ev true (t + 2) (u + 2) m 0 D V) (hB : B = upd2 V (u + 2 + 1) 3 z) : daysS (t + 2) (rhoN 4) 4 x (A, m, 0) d - daysS (u + 2) (rhoN 4) 4 x (B, m, 0) d = daysS (t + 2) (rhoN 4) 4 x (D, m, 0) d - daysS (t + 2) (rhoN 4) 4 x (upd2 D (t + 2 + 1) 3 z, m, 0) d := by
  rw [hB, daysS_ev (x := x) (Or.inl rfl) hW hWA (ev_blk (fun a a1 a2 => hA a a1 (by omega))) d, daysS_ev (x := x) (Or.inl rfl) (lk_days (j := 3) (v := z) hW) (lk_days (j := 3) (v := z) hWB) (ev_u1 hv 3 rfl) d]
section LWC
variable {Γ : mC} {κ : mKp} {Q : State → Prop} {kc ks n : Nat} {sh : mSh} {P : mPt} {D : mDt} {E : mEt} {bs Ls : Nat} {xs : Nat → Int32}
set_option maxRecDepth 100000 in
set_option maxHeartbeats 4000000 in
theorem law_B3 (h : mOk Γ κ RL cL_law 25 (Option.some Jvm.ClassFile.FieldType.boolean) { frames := 13, cells := 600104, slots := 7301313, locals := 486 }) (hX : mOkS Γ bs Ls xs) (hst : κ.1.stackTraces = false) (hLs : Ls < 2 ^ 31) {τ t u dr dru m dd c a b r d pm w : Nat} {y5 : Int32} (hp : prI t u bs dr dru m dd c n sh P D) (hz3 : D (t + 2 + 1) 3 = 0) (hdr : dr < 1000000) (hc : c ≤ 500) (hdd : dd ≤ 1000) (ha : a < 4) (hr : r < 60) (hd1 : 1 ≤ d) (hd2 : d ≤ 9) (hkc : kc + 30 ≤ 600104) (hks : ks + 200 ≤ 7301313) (kk : ∀ D' y14 jb v, jb ≤ 20 → v ≤ 1980 → y14 = (daysD (t + 2) (rhoN 4) 4 (nI r) (D', m, 0) d).1 (t + 2 + 6 + a) 13 - D' (t + 2 + 6 + a) 13 → prI t u bs (dr + 1) dru m dd c n sh P D' → D' (t + 2 + 1) = D (t + 2 + 1) → mV Γ Q (kc + 24) (ks + 144) n sh P D' E [(0, .ref bs), (1, .int (nI τ)), (2, .ref t), (3, .ref u), (4, .ref (t + 1)), (5, .int y5), (6, .int (nI a)), (7, .int (nI b)), (8, .int (nI r)), (9, .int (nI d)), (10, .int (nI pm)), (11, .int (nI w)), (14, .int y14), (15, .int (nI jb)), (18, .int (nI v))] [] 370) : mV Γ Q kc ks n sh P D E [(0, .ref bs), (1, .int (nI τ)), (2, .ref t), (3, .ref u), (4, .ref (t + 1)), (5, .int y5), (6, .int (nI a)), (7, .int (nI b)), (8, .int (nI r)), (9, .int (nI d)), (10, .int (nI pm)), (11, .int (nI w))] [] 228 := by
  have ht := hp.2.1.2.1
  have hu := hp.2.2.1.2.1
  have hpt := hp.2.1.2.2.1
  have hpu := hp.2.2.1.2.2.1
  have hbt := hp.2.1.2.2.2.2.2.2.1.1
  have hbu := hp.2.2.1.2.2.2.2.2.2.1.1
  have htu := hp.1
  have hx : wP (nI r) 0 99 := wP_n (a := 0) (b := 99) (by omega) (by omega) (by decide)
  have hcI := hp.2.1.2.2.2.2.2.2.2.1.1
  refine V_aload h 230 4 rfl dL_law_228 rfl ?_
  refine CVL h 233 (As := []) (o_digest hp.2.1.2.2.2.2.2) rfl hbt qL_L_42 qI_X5_digest qS_X5_digest qZ_X5 qC_X5_digest hd_X5_digest ⟨Nat.le_of_ble_eq_true rfl, Nat.le_of_ble_eq_true rfl⟩ (Nat.le_of_ble_eq_true rfl) rfl rfl dL_law_230 (by show kc ≤ 600104; omega) (by show ks ≤ 7301313; omega) (fun r1 D1 hq1 => ?_)
  obtain ⟨hr1, hf1⟩ := hq1
  have hp1 := pr_askt hp hf1
  have bt1 : ∀ a, t + 2 ≤ a → a < t + 22 → D1 a = D a := fun a a1 a2 => by rw [hf1.1 a (by omega)]
  refine V_lstore h 235 [(12, .long r1), (0, .ref bs), (1, .int (nI τ)), (2, .ref t), (3, .ref u), (4, .ref (t + 1)), (5, .int y5), (6, .int (nI a)), (7, .int (nI b)), (8, .int (nI r)), (9, .int (nI d)), (10, .int (nI pm)), (11, .int (nI w))] (by decide) rfl dL_law_233 rfl ?_
  refine V_aload h 237 5 rfl dL_law_235 rfl ?_
  refine V_iload h 239 7 rfl dL_law_237 rfl ?_
  refine V_iload h 241 9 rfl dL_law_239 rfl ?_
  refine V_iload h 243 10 rfl dL_law_241 rfl ?_
  refine NVI h hX (kc + 2) (ks + 12) 246 (As := [.int (nI a), .int (nI r), .int (nI d)]) (o_come hst hp1.2.1.2.2.2.2.2 (a := a) (d := d) ha hd1 (by omega) hx) rfl hbt qL_L_46 qI_X5_wouldCome qS_X5_wouldCome qZ_X5 qC_X5_wouldCome hd_X5_wouldCome ⟨Nat.le_of_ble_eq_true rfl, Nat.le_of_ble_eq_true rfl⟩ (Nat.le_of_ble_eq_true rfl) rfl rfl dL_law_243 ⟨by show kc + 2 ≤ 600104; omega, by show ks + 12 ≤ 7301313; omega⟩ rfl rfl (fun X9 hk => hk) (fun r2 D2 hq2 => ?_)
  obtain ⟨hr2, hf2⟩ := hq2
  have hp2 := pr_askt hp1 hf2
  have bt2 : ∀ a, t + 2 ≤ a → a < t + 22 → D2 a = D a := fun a a1 a2 => by rw [hf2.1 a (by omega), hf1.1 a (by omega)]
  refine V_istore h 248 [(14, .int r2), (12, .long r1), (0, .ref bs), (1, .int (nI τ)), (2, .ref t), (3, .ref u), (4, .ref (t + 1)), (5, .int y5), (6, .int (nI a)), (7, .int (nI b)), (8, .int (nI r)), (9, .int (nI d)), (10, .int (nI pm)), (11, .int (nI w))] (by decide) rfl dL_law_246 rfl ?_
  refine V_aload h 250 6 rfl dL_law_248 rfl ?_
  refine V_iload h 252 10 rfl dL_law_250 rfl ?_
  refine V_iload h 254 11 rfl dL_law_252 rfl ?_
  refine NVI h hX (kc + 3) (ks + 18) 257 (As := [.int (nI r), .int (nI d)]) (o_best hst hp2.2.1.2.2.2.2.2 (d := d) hd1 (by omega) hx) rfl hbt qL_L_50 qI_X5_bestDig qS_X5_bestDig qZ_X5 qC_X5_bestDig hd_X5_bestDig ⟨Nat.le_of_ble_eq_true rfl, Nat.le_of_ble_eq_true rfl⟩ (Nat.le_of_ble_eq_true rfl) rfl rfl dL_law_254 ⟨by show kc + 3 ≤ 600104; omega, by show ks + 18 ≤ 7301313; omega⟩ rfl rfl (fun X9 hk => hk) (fun r3 D3 hq3 => ?_)
  obtain ⟨hr3, hf3⟩ := hq3
  have hp3 := pr_askt hp2 hf3
  have bt3 : ∀ a, t + 2 ≤ a → a < t + 22 → D3 a = D a := fun a a1 a2 => by rw [hf3.1 a (by omega), hf2.1 a (by omega), hf1.1 a (by omega)]
  obtain ⟨jb, hjb, ejb⟩ := digB_rng (F := fun i => daysS (t + 2) (rhoN 4) 4 (nI r) (upd2 D2 (t + 2 + 1) 1 (D2 (t + 2 + 1) 1 + nI i), m, 0) d) (len := D2 (t + 2 + 1) 1) 21
  rw [← hr3] at ejb
  rw [ejb]
  refine V_istore h 259 [(15, .int (nI jb)), (14, .int r2), (12, .long r1), (0, .ref bs), (1, .int (nI τ)), (2, .ref t), (3, .ref u), (4, .ref (t + 1)), (5, .int y5), (6, .int (nI a)), (7, .int (nI b)), (8, .int (nI r)), (9, .int (nI d)), (10, .int (nI pm)), (11, .int (nI w))] (by decide) rfl dL_law_257 rfl ?_
  refine V_aload_n h 260 5 rfl dL_law_259 rfl ?_
  refine V_bipush h 262 (v := 21) (by decide) dL_law_260 rfl ?_
  refine SVI h hX 265 (As := [.int (nI 21)]) (c_draw (dr := dr) (N := 21) ht hp3.2.1.2.2.2.1 hp3.2.1.2.2.2.2.1 (by omega) hLs (by decide) (by decide)) rfl ht qL_L_22 qI_X6_draw qS_X6_draw qZ_X6 qC_X6_draw hd_X6_draw ⟨Nat.le_of_ble_eq_true rfl, Nat.le_of_ble_eq_true rfl⟩ (Nat.le_of_ble_eq_true rfl) rfl rfl dL_law_262 (by show kc + 3 ≤ 600104; omega) (by show ks + 18 ≤ 7301313; omega) (fun r4 D4 hq4 => ?_)
  obtain ⟨eD4, er4⟩ := hq4
  obtain ⟨z, hz, ez⟩ := drwI_lt (Ls := Ls) (xs := xs) (dr := dr) (N := 21) (by decide) (by decide)
  have hp4 := pr_draw hp3 (dr + 1)
  rw [← eD4] at hp4
  rw [er4, ez]
  have hz2 : wP (nI z) 0 20 := wP_n (a := 0) (b := 20) (by omega) (by omega) (by decide)
  refine V_istore h 267 [(16, .int (nI z)), (15, .int (nI jb)), (14, .int r2), (12, .long r1), (0, .ref bs), (1, .int (nI τ)), (2, .ref t), (3, .ref u), (4, .ref (t + 1)), (5, .int y5), (6, .int (nI a)), (7, .int (nI b)), (8, .int (nI r)), (9, .int (nI d)), (10, .int (nI pm)), (11, .int (nI w))] (by decide) rfl dL_law_265 rfl ?_
  refine V_aload h 269 8 rfl dL_law_267 rfl ?_
  refine V_iload h 271 0 rfl dL_law_269 rfl ?_
  refine V_iload h 273 12 rfl dL_law_271 rfl ?_
  refine V_iload h 275 13 rfl dL_law_273 rfl ?_
  refine NVI h hX (kc + 4) (ks + 24) 278 (As := [.int (nI z), .int (nI r), .int (nI d)]) (o_takes hst hp4.2.1.2.2.2.2.2 (d := d) hd1 (by omega) hz2 hx) rfl hbt qL_L_53 qI_X5_pumpTakes qS_X5_pumpTakes qZ_X5 qC_X5_pumpTakes hd_X5_pumpTakes ⟨Nat.le_of_ble_eq_true rfl, Nat.le_of_ble_eq_true rfl⟩ (Nat.le_of_ble_eq_true rfl) rfl rfl dL_law_275 ⟨by show kc + 4 ≤ 600104; omega, by show ks + 24 ≤ 7301313; omega⟩ rfl rfl (fun X9 hk => hk) (fun r5 D5 hq5 => ?_)
  obtain ⟨hr5, hf5⟩ := hq5
  have hp5 := pr_askt hp4 hf5
  have bt5 : ∀ a, t + 2 ≤ a → a < t + 22 → D5 a = D a := fun a a1 a2 => by rw [hf5.1 a (by omega), eD4, upd2_ra (by omega), hf3.1 a (by omega), hf2.1 a (by omega), hf1.1 a (by omega)]
  refine V_istore h 280 [(17, .int r5), (16, .int (nI z)), (15, .int (nI jb)), (14, .int r2), (12, .long r1), (0, .ref bs), (1, .int (nI τ)), (2, .ref t), (3, .ref u), (4, .ref (t + 1)), (5, .int y5), (6, .int (nI a)), (7, .int (nI b)), (8, .int (nI r)), (9, .int (nI d)), (10, .int (nI pm)), (11, .int (nI w))] (by decide) rfl dL_law_278 rfl ?_
  refine V_aload h 282 9 rfl dL_law_280 rfl ?_
  refine V_iload h 284 11 rfl dL_law_282 rfl ?_
  refine V_iload h 286 13 rfl dL_law_284 rfl ?_
  refine NVI h hX (kc + 6) (ks + 36) 289 (As := [.int (nI a), .int (nI r)]) (o_reap hst hp5.2.1.2.2.2.2.2 ha hx) rfl hbt qL_L_56 qI_X5_wouldReap qS_X5_wouldReap qZ_X5 qC_X5_wouldReap hd_X5_wouldReap ⟨Nat.le_of_ble_eq_true rfl, Nat.le_of_ble_eq_true rfl⟩ (Nat.le_of_ble_eq_true rfl) rfl rfl dL_law_286 ⟨by show kc + 6 ≤ 600104; omega, by show ks + 36 ≤ 7301313; omega⟩ rfl rfl (fun X9 hk => hk) (fun r6 D6 hq6 => ?_)
  obtain ⟨hr6, hf6⟩ := hq6
  have hp6 := pr_askt hp5 hf6
  have bt6 : ∀ a, t + 2 ≤ a → a < t + 22 → D6 a = D a := fun a a1 a2 => by rw [hf6.1 a (by omega), hf5.1 a (by omega), eD4, upd2_ra (by omega), hf3.1 a (by omega), hf2.1 a (by omega), hf1.1 a (by omega)]
  have hw14 := (to_harv (x := nI r) hp5.2.1.2.2.2.2.2.2.2.1 (by omega) (by have := (harvN_le dd).2; omega)).2.2.1 a ha
  rw [rho4 ha] at hw14
  obtain ⟨v, hv, ev14⟩ := hw14
  rw [← hr6] at ev14
  rw [ev14]
  refine V_istore h 291 [(18, .int (nI v)), (17, .int r5), (16, .int (nI z)), (15, .int (nI jb)), (14, .int r2), (12, .long r1), (0, .ref bs), (1, .int (nI τ)), (2, .ref t), (3, .ref u), (4, .ref (t + 1)), (5, .int y5), (6, .int (nI a)), (7, .int (nI b)), (8, .int (nI r)), (9, .int (nI d)), (10, .int (nI pm)), (11, .int (nI w))] (by decide) rfl dL_law_289 rfl ?_
  refine V_aload h 293 10 rfl dL_law_291 rfl ?_
  refine CVL h 296 (As := []) (o_digest hp6.2.1.2.2.2.2.2) rfl hbt qL_L_42 qI_X5_digest qS_X5_digest qZ_X5 qC_X5_digest hd_X5_digest ⟨Nat.le_of_ble_eq_true rfl, Nat.le_of_ble_eq_true rfl⟩ (Nat.le_of_ble_eq_true rfl) rfl rfl dL_law_293 (by show kc + 6 ≤ 600104; omega) (by show ks + 36 ≤ 7301313; omega) (fun r7 D7 hq7 => ?_)
  obtain ⟨hr7, hf7⟩ := hq7
  have hp7 := pr_askt hp6 hf7
  have bt7 : ∀ a, t + 2 ≤ a → a < t + 22 → D7 a = D a := fun a a1 a2 => by rw [hf7.1 a (by omega), hf6.1 a (by omega), hf5.1 a (by omega), eD4, upd2_ra (by omega), hf3.1 a (by omega), hf2.1 a (by omega), hf1.1 a (by omega)]
  have e7 : r7 = r1 := isDig_eq hcI hp6.2.1.2.2.2.2.2.2.2.1.1 (ev_blk (fun a a1 a2 => bt6 a a1 (by omega))) hr1 hr7
  refine V_lload h 298 5 rfl dL_law_296 rfl ?_
  refine V_lcmp h 299 dL_law_298 rfl ?_
  refine V_top (y := 0) (by rw [e7]; exact lg_cmp_0) ?_
  refine V_if_ne h 315 302 dL_law_299 (by decide) rfl (fun c299 => absurd rfl c299) (fun c299 => ?_)
  refine V_aload_n h 303 9 rfl dL_law_302 rfl ?_
  refine g_L_14 h 306 (b := u + 1) hu hpu dL_law_303 rfl ?_
  refine CVL h 309 (As := []) (o_digest hp7.2.2.1.2.2.2.2.2) rfl hbu qL_L_42 qI_X5_digest qS_X5_digest qZ_X5 qC_X5_digest hd_X5_digest ⟨Nat.le_of_ble_eq_true rfl, Nat.le_of_ble_eq_true rfl⟩ (Nat.le_of_ble_eq_true rfl) rfl rfl dL_law_306 (by show kc + 6 ≤ 600104; omega) (by show ks + 36 ≤ 7301313; omega) (fun r8 D8 hq8 => ?_)
  obtain ⟨hr8, hf8⟩ := hq8
  have hp8 := pr_asku hp7 hf8
  have bt8 : ∀ a, t + 2 ≤ a → a < t + 22 → D8 a = D a := fun a a1 a2 => by rw [hf8.1 a (by omega), hf7.1 a (by omega), hf6.1 a (by omega), hf5.1 a (by omega), eD4, upd2_ra (by omega), hf3.1 a (by omega), hf2.1 a (by omega), hf1.1 a (by omega)]
  have e8 : r8 = r1 := isDig_eq hcI hp7.2.2.1.2.2.2.2.2.2.2.1.1 (ev_trans (ev_blk (fun a a1 a2 => bt7 a a1 (by omega))) hp7.2.2.2) hr1 hr8
  refine V_lload h 311 5 rfl dL_law_309 rfl ?_
  refine V_lcmp h 312 dL_law_311 rfl ?_
  refine V_top (y := 0) (by rw [e8]; exact lg_cmp_0) ?_
  refine V_if_eq h 317 315 dL_law_312 (by decide) rfl (fun c312 => ?_) (fun c312 => absurd rfl c312)
  refine V_aload_n h 318 9 rfl dL_law_317 rfl ?_
  refine g_L_14 h 321 (b := u + 1) hu hpu dL_law_318 rfl ?_
  refine V_iload h 323 2 rfl dL_law_321 rfl ?_
  refine NVI h hX (kc + 7) (ks + 42) 326 (As := [.int (nI z)]) (o_pump hst hp8.2.2.1.2.2.2.2.2 hz2) rfl hbu qL_L_59 qI_X5_pump qS_X5_pump qZ_X5 qC_X5_pump hd_X5_pump ⟨Nat.le_of_ble_eq_true rfl, Nat.le_of_ble_eq_true rfl⟩ (Nat.le_of_ble_eq_true rfl) rfl rfl dL_law_323 ⟨by show kc + 7 ≤ 600104; omega, by show ks + 42 ≤ 7301313; omega⟩ rfl rfl (fun X9 hk => hk) (fun r9 D9 hq9 => ?_)
  obtain ⟨hr9, hD9⟩ := hq9
  have hO9 : oI u m dd (c) n sh P D9 := oI_tell hp8.2.2.1.2.2.2.2.2 (by rw [hD9]; exact gI_ch0 hp8.2.2.1.2.2.2.2.2.2.2.1 (fun q => absurd q (by decide))) (fun x a1 a2 => by rw [hD9, upd2_ra (by omega)])
  refine V_istore h 328 [(19, .int r9), (18, .int (nI v)), (17, .int r5), (16, .int (nI z)), (15, .int (nI jb)), (14, .int r2), (12, .long r1), (0, .ref bs), (1, .int (nI τ)), (2, .ref t), (3, .ref u), (4, .ref (t + 1)), (5, .int y5), (6, .int (nI a)), (7, .int (nI b)), (8, .int (nI r)), (9, .int (nI d)), (10, .int (nI pm)), (11, .int (nI w))] (by decide) rfl dL_law_326 rfl ?_
  refine V_aload_n h 329 10 rfl dL_law_328 rfl ?_
  refine g_L_14 h 332 (b := u + 1) hu hpu dL_law_329 rfl ?_
  refine V_iload h 334 15 rfl dL_law_332 rfl ?_
  refine V_iload h 336 16 rfl dL_law_334 rfl ?_
  refine S_callS h hX 339 (rm := { frames := 9, cells := 8, slots := 48, locals := 192 }) (As := [.ref (u + 1), .int (nI r), .int (nI d)]) (m_all hst hO9 (d := d) hd1 (by omega) hx) qL_L_62 qT_L_all qZ_L qC_L_all hd_L_all ⟨Nat.le_of_ble_eq_true rfl, Nat.le_of_ble_eq_true rfl⟩ (Nat.le_of_ble_eq_true rfl) rfl rfl dL_law_336 ⟨by show kc + 15 ≤ 600104; omega, by show ks + 90 ≤ 7301313; omega⟩ (fun v10 n10 S10 P10 D10 E10 hq10 => ?_)
  obtain ⟨v1, v2, v3, v4, v5, hf10⟩ := hq10
  rw [v1, v2, v3, v4, v5]
  have hO10 := oI_ask hO9 hf10
  refine V_istore h 341 [(20, .int (daysS (u + 2) (rhoN 4) 4 (nI r) (D9, m, 0) d)), (19, .int r9), (18, .int (nI v)), (17, .int r5), (16, .int (nI z)), (15, .int (nI jb)), (14, .int r2), (12, .long r1), (0, .ref bs), (1, .int (nI τ)), (2, .ref t), (3, .ref u), (4, .ref (t + 1)), (5, .int y5), (6, .int (nI a)), (7, .int (nI b)), (8, .int (nI r)), (9, .int (nI d)), (10, .int (nI pm)), (11, .int (nI w))] (by decide) rfl dL_law_339 rfl ?_
  have hwas : wP r9 0 20 := by
    rw [hr9, hp8.2.2.2.2.1 3 (by decide), bt8 _ (by omega) (by omega), hz3]
    exact wP_n (d := 0) (a := 0) (b := 20) (by omega) (by omega) (by decide)
  refine V_aload_n h 342 11 rfl dL_law_341 rfl ?_
  refine g_L_14 h 345 (b := u + 1) hu hpu dL_law_342 rfl ?_
  refine V_iload h 347 1 rfl dL_law_345 rfl ?_
  refine NVI h hX (kc + 16) (ks + 96) 350 (As := [.int r9]) (o_pump hst hO10 hwas) rfl hbu qL_L_59 qI_X5_pump qS_X5_pump qZ_X5 qC_X5_pump hd_X5_pump ⟨Nat.le_of_ble_eq_true rfl, Nat.le_of_ble_eq_true rfl⟩ (Nat.le_of_ble_eq_true rfl) rfl rfl dL_law_347 ⟨by show kc + 16 ≤ 600104; omega, by show ks + 96 ≤ 7301313; omega⟩ rfl rfl (fun X9 hk => hk) (fun r11 D11 hq11 => ?_)
  obtain ⟨-, hD11⟩ := hq11
  rw [hr9] at hD11
  have hb11 := pump_back hD9 hf10 hD11
  have hp11 := pr_asku hp8 hb11
  refine V_pop h 351 rfl dL_law_350 rfl ?_
  refine V_aload h 353 12 rfl dL_law_351 rfl ?_
  refine V_iload h 355 16 rfl dL_law_353 rfl ?_
  refine V_iload h 357 17 rfl dL_law_355 rfl ?_
  refine S_callS h hX 360 (rm := { frames := 9, cells := 8, slots := 48, locals := 192 }) (As := [.ref (t + 1), .int (nI r), .int (nI d)]) (m_all hst hp11.2.1.2.2.2.2.2 (d := d) hd1 (by omega) hx) qL_L_62 qT_L_all qZ_L qC_L_all hd_L_all ⟨Nat.le_of_ble_eq_true rfl, Nat.le_of_ble_eq_true rfl⟩ (Nat.le_of_ble_eq_true rfl) rfl rfl dL_law_357 ⟨by show kc + 24 ≤ 600104; omega, by show ks + 144 ≤ 7301313; omega⟩ (fun v12 n12 S12 P12 D12 E12 hq12 => ?_)
  obtain ⟨v6, v7, v8, v9, v10, hf12⟩ := hq12
  rw [v6, v7, v8, v9, v10]
  have hp12 := pr_askt hp11 hf12
  have bt11 : ∀ a, t + 2 ≤ a → a < t + 22 → D11 a = D4 a := fun a a1 a2 => by rw [hb11.1 a (by omega), bt8 a a1 a2, eD4, upd2_ra (by omega), hf3.1 a (by omega), hf2.1 a (by omega), hf1.1 a (by omega)]
  have ht5 := takes_at (x := nI r) (z := nI z) (d := d) hp4.2.1.2.2.2.2.2.2.2.1.1.1 hp11.2.1.2.2.2.2.2.2.2.1.1.1 hp8.2.2.1.2.2.2.2.2.2.2.1.1.1 bt11 (ev_trans (ev_blk (fun a a1 a2 => by rw [bt8 a a1 (by omega), eD4, upd2_ra (by omega), hf3.1 a (by omega), hf2.1 a (by omega), hf1.1 a (by omega)]) : ev true (t + 2) (t + 2) m 0 D4 D8) hp8.2.2.2) hD9
  refine V_iload h 362 0 rfl dL_law_360 rfl ?_
  refine V_isub h 363 dL_law_362 rfl ?_
  refine V_iload h 365 3 rfl dL_law_363 rfl ?_
  rw [ht5, ← hr5]
  refine V_icmp_eq h 370 368 dL_law_365 (by decide) rfl (fun _ => ?_) (fun c365 => absurd rfl c365)
  refine V_lsub [(0, .ref bs), (1, .int (nI τ)), (2, .ref t), (3, .ref u), (4, .ref (t + 1)), (5, .int y5), (6, .int (nI a)), (7, .int (nI b)), (8, .int (nI r)), (9, .int (nI d)), (10, .int (nI pm)), (11, .int (nI w)), (14, .int r2), (15, .int (nI jb)), (18, .int (nI v))] [8, 9, 10, 11, 12, 13, 14, 15, 16, 17, 18, 19, 6, 5, 2] rfl ?_
  have btF : ∀ a, t + 2 ≤ a → a < t + 22 → D12 a = D a := fun a a1 a2 => by rw [hf12.1 a (by omega), hb11.1 a (by omega), bt8 a a1 a2]
  refine kk D12 _ jb v (by omega) hv ?_ hp12 (btF _ (by omega) (by omega))
  refine would_at hcI.1 (fun a a1 a2 => btF a a1 (by omega)) (by omega) ?_
  exact would_at (D := D1) (V := D) (hp1.2.1.2.2.2.2.2.2.2.1.1.1) (fun a a1 a2 => (bt1 a a1 (by omega)).symm) (by omega) hr2
end LWC
