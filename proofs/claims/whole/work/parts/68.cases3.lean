theorem Kx_no {g1 g2 : Prop} {X : String} (h : Kx g1 g2 True X) : ¬ (g1 ∧ g2) := by
  rcases h with ⟨-, h⟩ | ⟨-, -, h⟩ | ⟨-, -, -, h⟩
  · exact fun z => h z.1
  · exact fun z => h z.2
  · exact absurd trivial h
theorem w_come {o o2 wv : Nat} {L m k : Nat} {ρ : Nat → Nat} {D D1 : mDt} {E E1 : mEt} {kd : Int32} {cd : String → Int32} {v x w : Int32} (hA : (kd = 0 ∧ ∃ r, (livP L ρ v ∧ (wP x 0 99 ∧ wP w 1 70) ∧ ∃ d, 1 ≤ d ∧ d ≤ 70 ∧ w = nI d ∧ wouldD o o2 L ρ m k x d D D1 ∧ r = D1 (numb o2 v) 13 - D1 (numb o v) 13) ∧ E1 = updE E wv 0 r.toInt64) ∨ (∃ X, Kx (livP L ρ v) (wP x 0 99 ∧ wP w 1 70) True X ∧ kd = cd X ∧ D1 = D ∧ E1 = E)) (hW : cW o L ρ m k D) (hN : ∀ i, i < 10 → D (o2 + 6 + i) 0 = nI i) : ∃ V2, (livP L ρ v → (wP x 0 99 ∧ wP w 1 70) → lkV o o2 L ρ m k D V2) ∧ (∀ a, (a < o2 ∨ o2 + 20 ≤ a) → D1 a = D a) ∧ (∀ i, i < 10 → D1 (o2 + 6 + i) 0 = nI i) ∧ ((kd = 0 ∧ ∃ r, (livP L ρ v ∧ (wP x 0 99 ∧ wP w 1 70) ∧ ∃ d, 1 ≤ d ∧ d ≤ 70 ∧ w = nI d ∧ D1 = (daysD o2 ρ L x (V2, m, k) d).1 ∧ r = D1 (numb o2 v) 13 - D1 (numb o v) 13) ∧ E1 = updE E wv 0 r.toInt64) ∨ (∃ X, Kx (livP L ρ v) (wP x 0 99 ∧ wP w 1 70) True X ∧ kd = cd X ∧ D1 = D ∧ E1 = E)) := by
  rcases hA with ⟨k0, r, ⟨g1, g2, d, d1, d2, hw, ⟨V2, hl, hD⟩, hr⟩, hE⟩ | ⟨X, hX, kX, hD, hE⟩
  · have lk := like_lkV hl (fun _ _ _ => rfl) hN
    have cw := lk_cW hW lk
    refine ⟨V2, fun _ _ => lk, fun a ha => ?_, fun i hi => ?_, Or.inl ⟨k0, r, ⟨g1, g2, d, d1, d2, hw, hD, hr⟩, hE⟩⟩
    · rw [hD, days_outD cw ha]
      exact hl.2.2.2.2.2.2.2.2.2.2 a ha
    · rw [hD]; exact (cW_days (q := (V2, m, k)) cw d).2.1 i hi
  · exact ⟨D, fun a b => absurd ⟨a, b⟩ (Kx_no hX), fun a _ => by rw [hD], fun i hi => by rw [hD]; exact hN i hi, Or.inr ⟨X, hX, kX, hD, hE⟩⟩
theorem w_reap {o o2 wv : Nat} {L m k : Nat} {ρ : Nat → Nat} {D D1 : mDt} {E E1 : mEt} {kd : Int32} {cd : String → Int32} {v x : Int32} {dn : Nat} (hA : (kd = 0 ∧ ∃ r, (livP L ρ v ∧ wP x 0 99 ∧ wouldD o o2 L ρ m k x dn D D1 ∧ r = D1 (numb o2 v) 14) ∧ E1 = updE E wv 0 r.toInt64) ∨ (∃ X, Kx (livP L ρ v) (wP x 0 99) True X ∧ kd = cd X ∧ D1 = D ∧ E1 = E)) (hW : cW o L ρ m k D) (hN : ∀ i, i < 10 → D (o2 + 6 + i) 0 = nI i) : ∃ V2, (livP L ρ v → wP x 0 99 → lkV o o2 L ρ m k D V2) ∧ (∀ a, (a < o2 ∨ o2 + 20 ≤ a) → D1 a = D a) ∧ (∀ i, i < 10 → D1 (o2 + 6 + i) 0 = nI i) ∧ ((kd = 0 ∧ ∃ r, (livP L ρ v ∧ wP x 0 99 ∧ D1 = (daysD o2 ρ L x (V2, m, k) dn).1 ∧ r = D1 (numb o2 v) 14) ∧ E1 = updE E wv 0 r.toInt64) ∨ (∃ X, Kx (livP L ρ v) (wP x 0 99) True X ∧ kd = cd X ∧ D1 = D ∧ E1 = E)) := by
  rcases hA with ⟨k0, r, ⟨g1, g2, ⟨V2, hl, hD⟩, hr⟩, hE⟩ | ⟨X, hX, kX, hD, hE⟩
  · have lk := like_lkV hl (fun _ _ _ => rfl) hN
    have cw := lk_cW hW lk
    refine ⟨V2, fun _ _ => lk, fun a ha => ?_, fun i hi => ?_, Or.inl ⟨k0, r, ⟨g1, g2, hD, hr⟩, hE⟩⟩
    · rw [hD, days_outD cw ha]
      exact hl.2.2.2.2.2.2.2.2.2.2 a ha
    · rw [hD]; exact (cW_days (q := (V2, m, k)) cw dn).2.1 i hi
  · exact ⟨D, fun a b => absurd ⟨a, b⟩ (Kx_no hX), fun a _ => by rw [hD], fun i hi => by rw [hD]; exact hN i hi, Or.inr ⟨X, hX, kX, hD, hE⟩⟩
theorem w_dig {o o2 wv : Nat} {L m k : Nat} {ρ : Nat → Nat} {D D1 : mDt} {E E1 : mEt} {kd : Int32} {cd : String → Int32} {x w : Int32} (hA : (kd = 0 ∧ ∃ r, ((wP x 0 99 ∧ wP w 1 35) ∧ ∃ d F, 1 ≤ d ∧ d ≤ 35 ∧ w = nI d ∧ digOk o o2 L ρ m k x d D F 21 ∧ r = (digB F (D (o + 1) 1) 21).1 ∧ (∀ a, (a < o2 ∨ o2 + 20 ≤ a) → D1 a = D a) ∧ ∀ i, i < 10 → D1 (o2 + 6 + i) 0 = nI i) ∧ E1 = updE E wv 0 r.toInt64) ∨ (∃ X, Kx True (wP x 0 99 ∧ wP w 1 35) True X ∧ kd = cd X ∧ D1 = D ∧ E1 = E)) (hN : ∀ i, i < 10 → D (o2 + 6 + i) 0 = nI i) : ∃ F, ((wP x 0 99 ∧ wP w 1 35) → ∀ d, 1 ≤ d → d ≤ 35 → w = nI d → digOk o o2 L ρ m k x d D F 21) ∧ (∀ a, (a < o2 ∨ o2 + 20 ≤ a) → D1 a = D a) ∧ (∀ i, i < 10 → D1 (o2 + 6 + i) 0 = nI i) ∧ ((kd = 0 ∧ ∃ r, ((wP x 0 99 ∧ wP w 1 35) ∧ r = (digB F (D (o + 1) 1) 21).1) ∧ E1 = updE E wv 0 r.toInt64) ∨ (∃ X, Kx True (wP x 0 99 ∧ wP w 1 35) True X ∧ kd = cd X ∧ D1 = D ∧ E1 = E)) := by
  rcases hA with ⟨k0, r, ⟨g, d, F, d1, d2, hw, hF, hr, fr, hN'⟩, hE⟩ | ⟨X, hX, kX, hD, hE⟩
  · refine ⟨F, fun _ d' e1 e2 hw' => ?_, fr, hN', Or.inl ⟨k0, r, ⟨g, hr⟩, hE⟩⟩
    have : d' = d := nI_j (hw'.symm.trans hw) (by omega) (by omega)
    subst this
    exact hF
  · exact ⟨fun _ => 0, fun a => absurd ⟨trivial, a⟩ (Kx_no hX), fun a _ => by rw [hD], fun i hi => by rw [hD]; exact hN i hi, Or.inr ⟨X, hX, kX, hD, hE⟩⟩
theorem w_takes {o o2 wv : Nat} {L m k : Nat} {ρ : Nat → Nat} {D D1 : mDt} {E E1 : mEt} {kd : Int32} {cd : String → Int32} {z x w : Int32} (hA : (kd = 0 ∧ ∃ r, ((wP z 0 20 ∧ wP x 0 99 ∧ wP w 1 70) ∧ ∃ d V1 V2, 1 ≤ d ∧ d ≤ 70 ∧ w = nI d ∧ lkV o o2 L ρ m k D V1 ∧ lkV o o2 L ρ m k D V2 ∧ r = daysS o2 ρ L x (V1, m, k) d - daysS o2 ρ L x (upd2 V2 (o2 + 1) 3 z, m, k) d ∧ (∀ a, (a < o2 ∨ o2 + 20 ≤ a) → D1 a = D a) ∧ ∀ i, i < 10 → D1 (o2 + 6 + i) 0 = nI i) ∧ E1 = updE E wv 0 r.toInt64) ∨ (∃ X, Kx True (wP z 0 20 ∧ wP x 0 99 ∧ wP w 1 70) True X ∧ kd = cd X ∧ D1 = D ∧ E1 = E)) (hN : ∀ i, i < 10 → D (o2 + 6 + i) 0 = nI i) : ∃ V1 V2, ((wP z 0 20 ∧ wP x 0 99 ∧ wP w 1 70) → lkV o o2 L ρ m k D V1 ∧ lkV o o2 L ρ m k D V2) ∧ (∀ a, (a < o2 ∨ o2 + 20 ≤ a) → D1 a = D a) ∧ (∀ i, i < 10 → D1 (o2 + 6 + i) 0 = nI i) ∧ ((kd = 0 ∧ ∃ r, ((wP z 0 20 ∧ wP x 0 99 ∧ wP w 1 70) ∧ ∃ d, 1 ≤ d ∧ d ≤ 70 ∧ w = nI d ∧ r = daysS o2 ρ L x (V1, m, k) d - daysS o2 ρ L x (upd2 V2 (o2 + 1) 3 z, m, k) d) ∧ E1 = updE E wv 0 r.toInt64) ∨ (∃ X, Kx True (wP z 0 20 ∧ wP x 0 99 ∧ wP w 1 70) True X ∧ kd = cd X ∧ D1 = D ∧ E1 = E)) := by
  rcases hA with ⟨k0, r, ⟨g, d, V1, V2, d1, d2, hw, h1, h2, hr, fr, hN'⟩, hE⟩ | ⟨X, hX, kX, hD, hE⟩
  · exact ⟨V1, V2, fun _ => ⟨h1, h2⟩, fr, hN', Or.inl ⟨k0, r, ⟨g, d, d1, d2, hw, hr⟩, hE⟩⟩
  · exact ⟨D, D, fun a => absurd ⟨trivial, a⟩ (Kx_no hX), fun a _ => by rw [hD], fun i hi => by rw [hD]; exact hN i hi, Or.inr ⟨X, hX, kX, hD, hE⟩⟩

set_option maxRecDepth 100000 in
set_option maxHeartbeats 4000000 in
theorem k_wouldCome {Γ : mC} {κ : mKp} {Q : State → Prop} (h : mOk Γ κ RL cL_law 9 (Option.some Jvm.ClassFile.FieldType.boolean) { frames := 13, cells := 771262, slots := 6782320, locals := 468 }) (hT : mOkN Γ) (hst : κ.1.stackTraces = false) {bs Ls : Nat} {xs : Nat → Int32} (hX : mScr Γ bs Ls xs) (hLs : Ls < 2 ^ 31) {i : Nat} (hi : i + 5 ≤ Ls) {b cn kc ks n : Nat} {sh : mSh} {P : mPt} {D : mDt} {E : mEt} (hI : lI b cn n sh P D) (hcn : cn ≤ 599) (hkc : kc + 1400 ≤ 771262) (hks : ks + 10600 ≤ 6782320) (kk : ∀ n2 sh2 P2 D2 E2, lI b (cn + 1) n2 sh2 P2 D2 → mV Γ Q (kc + 1400) (ks + 10600) n2 sh2 P2 D2 E2 [(0, .ref bs), (1, .ref b), (2, .ref (b + 61)), (3, .ref (b + 94)), (4, .int (nI i))] [] 1711) : mV Γ Q kc ks n sh P D E [(0, .ref bs), (1, .ref b), (2, .ref (b + 61)), (3, .ref (b + 94)), (4, .int (nI i))] [] 1401 := by
  obtain ⟨L, e, ρ, m, k, dd, lo, hJ⟩ := hI
  obtain ⟨hs, hL, hG, hN2, hN3, hS⟩ := id hJ
  have hcI := hG.1
  have hB := hs.1
  refine V_aload_n h 1402 1 rfl dL_law_1401 rfl ?_
  refine V_aload_n h 1403 0 rfl dL_law_1402 rfl ?_
  refine V_iload h 1405 4 rfl dL_law_1403 rfl ?_
  refine V_iconst h 1406 (v := 1) (by decide) dL_law_1405 rfl ?_
  refine V_iadd h 1407 dL_law_1406 rfl ?_
  refine V_sld h hX 1408 (i + 1) (nI_add (a := i) (b := 1)) (by omega) hLs dL_law_1407 rfl ?_
  refine V_aload_n h 1409 0 rfl dL_law_1408 rfl ?_
  refine V_iload h 1411 4 rfl dL_law_1409 rfl ?_
  refine V_iconst h 1412 (v := 2) (by decide) dL_law_1411 rfl ?_
  refine V_iadd h 1413 dL_law_1412 rfl ?_
  refine V_sld h hX 1414 (i + 2) (nI_add (a := i) (b := 2)) (by omega) hLs dL_law_1413 rfl ?_
  refine V_aload_n h 1415 0 rfl dL_law_1414 rfl ?_
  refine V_iload h 1417 4 rfl dL_law_1415 rfl ?_
  refine V_iconst h 1418 (v := 3) (by decide) dL_law_1417 rfl ?_
  refine V_iadd h 1419 dL_law_1418 rfl ?_
  refine V_sld h hX 1420 (i + 3) (nI_add (a := i) (b := 3)) (by omega) hLs dL_law_1419 rfl ?_
  refine V_aload_n h 1421 3 rfl dL_law_1420 rfl ?_
  refine V_callSW h hT 1424 (As := [.ref b, .int (xs (i + 1)), .int (xs (i + 2)), .int (xs (i + 3)), .ref (b + 94)]) (st := []) (l_wouldCome hB.1 hs.2.2.2.1 (xs (i + 1)) (xs (i + 2)) (xs (i + 3)) (c_wouldCome hst hB hcI hN2 hN3 (xs (i + 1)) (xs (i + 2)) (xs (i + 3))) Kx_IA) qL_L_152 qT_L_wouldCome qZ_L qW_L_wouldCome hd_L_wouldCome ⟨Nat.le_of_ble_eq_true rfl, Nat.le_of_ble_eq_true rfl⟩ (Nat.le_of_ble_eq_true rfl) rfl rfl dL_law_1421 ⟨by show kc + 2 ≤ 771262; omega, by show ks + 12 ≤ 6782320; omega⟩ (fun v1 n1 S1 P1 D1 E1 hq1 => ?_)
  obtain ⟨hn1, q2, q3, kd, q5, hA⟩ := hq1
  rw [q2, q3, q5]
  dsimp only at hA
  have hs1 := lSt_up hs hn1
  have h95 := hs1.2.2.2.2
  obtain ⟨V2, hl, fr, hN2q, hA⟩ := w_come hA hcI.1 hN2
  have hS1 := lJ_mid hJ (D1 := D1) (fun a ha => fr a (Or.inr (by omega)))
  refine V_istore h 1426 [(5, .int kd), (0, .ref bs), (1, .ref b), (2, .ref (b + 61)), (3, .ref (b + 94)), (4, .int (nI i))] (by decide) rfl dL_law_1424 rfl ?_
  refine V_aload_n h 1427 3 rfl dL_law_1426 rfl ?_
  refine V_aload_n h 1428 1 rfl dL_law_1427 rfl ?_
  refine V_iload h 1430 5 rfl dL_law_1428 rfl ?_
  refine V_iconst h 1431 (v := 1) (by decide) dL_law_1430 rfl ?_
  refine V_iadd h 1432 dL_law_1431 rfl ?_
  refine V_sld h hX 1433 (i + 1) (nI_add (a := i) (b := 1)) (by omega) hLs dL_law_1432 rfl ?_
  refine V_aload_n h 1434 1 rfl dL_law_1433 rfl ?_
  refine V_iload h 1436 5 rfl dL_law_1434 rfl ?_
  refine V_iconst h 1437 (v := 2) (by decide) dL_law_1436 rfl ?_
  refine V_iadd h 1438 dL_law_1437 rfl ?_
  refine V_sld h hX 1439 (i + 2) (nI_add (a := i) (b := 2)) (by omega) hLs dL_law_1438 rfl ?_
  refine V_aload_n h 1440 1 rfl dL_law_1439 rfl ?_
  refine V_iload h 1442 5 rfl dL_law_1440 rfl ?_
  refine V_iconst h 1443 (v := 3) (by decide) dL_law_1442 rfl ?_
  refine V_iadd h 1444 dL_law_1443 rfl ?_
  refine V_sld h hX 1445 (i + 3) (nI_add (a := i) (b := 3)) (by omega) hLs dL_law_1444 rfl ?_
  refine V_callV h 1448 (rm := { frames := 6, cells := 32, slots := 239, locals := 143 }) (As := [.int (xs (i + 1)), .int (xs (i + 2)), .int (xs (i + 3))]) (q_wouldCome hs1.2.1 hs1.2.2.1 (by omega) hL hS1 hcI (by omega) (gI_hz hG) hG.2.1 (by have := hG.2.2.1; omega) (xs (i + 1)) (xs (i + 2)) (xs (i + 3)) hl) rfl hs1.2.1 qL_L_154 qI_X7_wouldCome qS_X7_wouldCome qZ_X7 qC_X7_wouldCome hd_X7_wouldCome ⟨Nat.le_of_ble_eq_true rfl, Nat.le_of_ble_eq_true rfl⟩ (Nat.le_of_ble_eq_true rfl) rfl rfl dL_law_1445 ⟨by show kc + 2 + 32 ≤ 771262; omega, by show ks + 12 + 239 ≤ 6782320; omega⟩ (fun v2 n2 S2 P2 D2 E2 hq2 => ?_)
  obtain ⟨hn2, qE, hs2, hP2, ans, qv, lo2, hL2, hD2, hR⟩ := hq2
  rw [qv, qE]
  have hF : kd = D2 (b + 61) 0 ∧ (kd = 0 → E1 (b + 94) 0 = ans.toInt64) ∧ lI b (cn + 1) n2 S2 P2 D2 := by
    rcases hA with ⟨k0, r, res, eE⟩ | ⟨X, hKX, kX, eD, -⟩
    · obtain ⟨t0, ok⟩ := l_ok (⟨res.1, res.2.1, trivial⟩) hR
      obtain ⟨g1, g2, d, d1, d2, hw, hD, rr⟩ := res
      obtain ⟨⟨p, d', hp, hv, d1', d2', hw', ra⟩, R⟩ := ok
      have hdd : d' = d := nI_j (hw'.symm.trans hw) (by omega) (by omega)
      subst hdd
      have hρp := gI_rho hG p hp
      have hbk : ∀ a, b + 1 ≤ a → a < b + 1 + 20 → D1 a = D a := fun a a1 a2 => fr a (Or.inl (by omega))
      have hra : r = ans := by
        rw [rr, ra, hv, numb_nI hρp, numb_nI hρp, hbk (b + 1 + 6 + ρ p) (by omega) (by omega), hD]
      exact ⟨k0.trans t0.symm, fun _ => by rw [eE, updE_at, hra], lI_next hs1 hn2 hs2 hP2 hL2 hD2 (gI_c (gI_blk hG hbk) (Nat.le_succ _)) hN2q (fun i hi => by rw [fr _ (Or.inr (by omega))]; exact hN3 i hi) (rSim_V R hbk)⟩
    · obtain ⟨e1, ne, same⟩ := l_no (cd := cdIA) (fun _ => by decide) (by first | rfl | decide) (fun z => absurd trivial z) (by decide) (by decide) hKX kX hR
      subst eD
      exact ⟨e1, fun z => absurd z ne, lI_next hs1 hn2 hs2 hP2 hL2 hD2 (gI_c hG (Nat.le_succ _)) hN2 hN3 same⟩
  obtain ⟨hk, hv, hI2⟩ := hF
  have hI2s := hI2
  obtain ⟨_, _, _, _, _, _, _, hJ2, -⟩ := hI2s
  refine V_istore h 1450 [(6, .int ans), (5, .int kd), (0, .ref bs), (1, .ref b), (2, .ref (b + 61)), (3, .ref (b + 94)), (4, .int (nI i))] (by decide) rfl dL_law_1448 rfl ?_
  refine V_aload_n h 1451 4 rfl dL_law_1450 rfl ?_
  refine CVI h 1454 (As := []) (q_thrown hJ2.2.1) rfl hJ2.2.1 qL_L_92 qI_X7_thrown qS_X7_thrown qZ_X7 qC_X7_thrown hd_X7_thrown ⟨Nat.le_of_ble_eq_true rfl, Nat.le_of_ble_eq_true rfl⟩ (Nat.le_of_ble_eq_true rfl) rfl rfl dL_law_1451 (by show kc + 2 + 32 ≤ 771262; omega) (by show ks + 12 + 239 ≤ 6782320; omega) (fun th D3 hq3 => ?_)
  rw [hq3.1, hq3.2]
  refine V_iload h 1456 1 rfl dL_law_1454 rfl ?_
  refine V_icmp_eq h 1461 1459 dL_law_1456 (by decide) rfl (fun _ => ?_) (fun z => absurd hk.symm z)
  refine V_iload h 1463 1 rfl dL_law_1461 rfl ?_
  have hend : mV Γ Q (kc + 2 + 32) (ks + 12 + 239) n2 S2 P2 D2 E1 [(6, .int ans), (5, .int kd), (0, .ref bs), (1, .ref b), (2, .ref (b + 61)), (3, .ref (b + 94)), (4, .int (nI i))] [] 1478 := by
    refine V_goto h 1711 dL_law_1478 (by decide) ?_
    refine V_lsub [(0, .ref bs), (1, .ref b), (2, .ref (b + 61)), (3, .ref (b + 94)), (4, .int (nI i))] [2, 3, 4, 5, 6] rfl ?_
    exact V_widen (kc + 1400) (ks + 10600) (by omega) (by omega) (kk _ _ _ _ _ hI2)
  refine V_if_ne h 1478 1466 dL_law_1463 (by decide) rfl (fun _ => hend) (fun z0 => ?_)
  refine V_aload_n h 1467 5 rfl dL_law_1466 rfl ?_
  refine V_iconst h 1468 (v := 0) (by decide) dL_law_1467 rfl ?_
  refine V_lald h 1469 0 hJ2.2.2.2.1 rfl (by decide) (by decide) dL_law_1468 rfl ?_
  rw [hv z0]
  refine V_iload h 1471 0 rfl dL_law_1469 rfl ?_
  refine V_i2l h 1472 dL_law_1471 rfl ?_
  refine V_lcmp h 1473 dL_law_1472 rfl ?_
  exact V_if_eq h 1478 1476 dL_law_1473 (by decide) rfl (fun _ => hend) (fun z => absurd lg_cmp_0 z)

set_option maxRecDepth 100000 in
set_option maxHeartbeats 4000000 in
theorem k_bestDig {Γ : mC} {κ : mKp} {Q : State → Prop} (h : mOk Γ κ RL cL_law 9 (Option.some Jvm.ClassFile.FieldType.boolean) { frames := 13, cells := 771262, slots := 6782320, locals := 468 }) (hT : mOkN Γ) (hst : κ.1.stackTraces = false) {bs Ls : Nat} {xs : Nat → Int32} (hX : mScr Γ bs Ls xs) (hLs : Ls < 2 ^ 31) {i : Nat} (hi : i + 5 ≤ Ls) {b cn kc ks n : Nat} {sh : mSh} {P : mPt} {D : mDt} {E : mEt} (hI : lI b cn n sh P D) (hcn : cn ≤ 599) (hkc : kc + 1400 ≤ 771262) (hks : ks + 10600 ≤ 6782320) (kk : ∀ n2 sh2 P2 D2 E2, lI b (cn + 1) n2 sh2 P2 D2 → mV Γ Q (kc + 1400) (ks + 10600) n2 sh2 P2 D2 E2 [(0, .ref bs), (1, .ref b), (2, .ref (b + 61)), (3, .ref (b + 94)), (4, .int (nI i))] [] 1711) : mV Γ Q kc ks n sh P D E [(0, .ref bs), (1, .ref b), (2, .ref (b + 61)), (3, .ref (b + 94)), (4, .int (nI i))] [] 1481 := by
  obtain ⟨L, e, ρ, m, k, dd, lo, hJ⟩ := hI
  obtain ⟨hs, hL, hG, hN2, hN3, hS⟩ := id hJ
  have hcI := hG.1
  have hB := hs.1
  refine V_aload_n h 1482 1 rfl dL_law_1481 rfl ?_
  refine V_aload_n h 1483 0 rfl dL_law_1482 rfl ?_
  refine V_iload h 1485 4 rfl dL_law_1483 rfl ?_
  refine V_iconst h 1486 (v := 1) (by decide) dL_law_1485 rfl ?_
  refine V_iadd h 1487 dL_law_1486 rfl ?_
  refine V_sld h hX 1488 (i + 1) (nI_add (a := i) (b := 1)) (by omega) hLs dL_law_1487 rfl ?_
  refine V_aload_n h 1489 0 rfl dL_law_1488 rfl ?_
  refine V_iload h 1491 4 rfl dL_law_1489 rfl ?_
  refine V_iconst h 1492 (v := 2) (by decide) dL_law_1491 rfl ?_
  refine V_iadd h 1493 dL_law_1492 rfl ?_
  refine V_sld h hX 1494 (i + 2) (nI_add (a := i) (b := 2)) (by omega) hLs dL_law_1493 rfl ?_
  refine V_aload_n h 1495 3 rfl dL_law_1494 rfl ?_
  refine V_callSW h hT 1498 (As := [.ref b, .int (xs (i + 1)), .int (xs (i + 2)), .ref (b + 94)]) (st := []) (l_bestDig hB.1 hs.2.2.2.1 (xs (i + 1)) (xs (i + 2)) (c_bestDig hst hB hcI hN2 hN3 (xs (i + 1)) (xs (i + 2))) Kx_A) qL_L_155 qT_L_bestDig qZ_L qW_L_bestDig hd_L_bestDig ⟨Nat.le_of_ble_eq_true rfl, Nat.le_of_ble_eq_true rfl⟩ (Nat.le_of_ble_eq_true rfl) rfl rfl dL_law_1495 ⟨by show kc + 1 ≤ 771262; omega, by show ks + 6 ≤ 6782320; omega⟩ (fun v1 n1 S1 P1 D1 E1 hq1 => ?_)
  obtain ⟨hn1, q2, q3, kd, q5, hA⟩ := hq1
  rw [q2, q3, q5]
  dsimp only at hA
  have hs1 := lSt_up hs hn1
  have h95 := hs1.2.2.2.2
  obtain ⟨F, hF, fr, hN2q, hA⟩ := w_dig hA hN2
  have hS1 := lJ_mid hJ (D1 := D1) (fun a ha => fr a (Or.inr (by omega)))
  refine V_istore h 1500 [(5, .int kd), (0, .ref bs), (1, .ref b), (2, .ref (b + 61)), (3, .ref (b + 94)), (4, .int (nI i))] (by decide) rfl dL_law_1498 rfl ?_
  refine V_aload_n h 1501 3 rfl dL_law_1500 rfl ?_
  refine V_aload_n h 1502 1 rfl dL_law_1501 rfl ?_
  refine V_iload h 1504 5 rfl dL_law_1502 rfl ?_
  refine V_iconst h 1505 (v := 1) (by decide) dL_law_1504 rfl ?_
  refine V_iadd h 1506 dL_law_1505 rfl ?_
  refine V_sld h hX 1507 (i + 1) (nI_add (a := i) (b := 1)) (by omega) hLs dL_law_1506 rfl ?_
  refine V_aload_n h 1508 1 rfl dL_law_1507 rfl ?_
  refine V_iload h 1510 5 rfl dL_law_1508 rfl ?_
  refine V_iconst h 1511 (v := 2) (by decide) dL_law_1510 rfl ?_
  refine V_iadd h 1512 dL_law_1511 rfl ?_
  refine V_sld h hX 1513 (i + 2) (nI_add (a := i) (b := 2)) (by omega) hLs dL_law_1512 rfl ?_
  refine V_callV h 1516 (rm := { frames := 6, cells := 672, slots := 5019, locals := 146 }) (As := [.int (xs (i + 1)), .int (xs (i + 2))]) (q_bestDig hs1.2.1 hs1.2.2.1 (by omega) hL hS1 hcI (by omega) (gI_hz hG) hG.2.1 (by have := hG.2.2.1; omega) (gI_len hG) (xs (i + 1)) (xs (i + 2)) hF) rfl hs1.2.1 qL_L_157 qI_X7_bestDig qS_X7_bestDig qZ_X7 qC_X7_bestDig hd_X7_bestDig ⟨Nat.le_of_ble_eq_true rfl, Nat.le_of_ble_eq_true rfl⟩ (Nat.le_of_ble_eq_true rfl) rfl rfl dL_law_1513 ⟨by show kc + 1 + 672 ≤ 771262; omega, by show ks + 6 + 5019 ≤ 6782320; omega⟩ (fun v2 n2 S2 P2 D2 E2 hq2 => ?_)
  obtain ⟨hn2, qE, hs2, hP2, ans, qv, lo2, hL2, hD2, hR⟩ := hq2
  rw [qv, qE]
  have hF : kd = D2 (b + 61) 0 ∧ (kd = 0 → E1 (b + 94) 0 = ans.toInt64) ∧ lI b (cn + 1) n2 S2 P2 D2 := by
    rcases hA with ⟨k0, r, res, eE⟩ | ⟨X, hKX, kX, eD, -⟩
    · obtain ⟨t0, ok⟩ := l_ok (⟨trivial, res.1, trivial⟩) hR
      have hbk : ∀ a, b + 1 ≤ a → a < b + 1 + 20 → D1 a = D a := fun a a1 a2 => fr a (Or.inl (by omega))
      exact ⟨k0.trans t0.symm, fun _ => by rw [eE, updE_at, res.2, ok.1], lI_next hs1 hn2 hs2 hP2 hL2 hD2 (gI_c (gI_blk hG hbk) (Nat.le_succ _)) hN2q (fun i hi => by rw [fr _ (Or.inr (by omega))]; exact hN3 i hi) (rSim_V ok.2 hbk)⟩
    · obtain ⟨e1, ne, same⟩ := l_no (cd := cdA) (fun z => absurd trivial z) (by first | rfl | decide) (fun z => absurd trivial z) (by decide) (by decide) hKX kX hR
      subst eD
      exact ⟨e1, fun z => absurd z ne, lI_next hs1 hn2 hs2 hP2 hL2 hD2 (gI_c hG (Nat.le_succ _)) hN2 hN3 same⟩
  obtain ⟨hk, hv, hI2⟩ := hF
  have hI2s := hI2
  obtain ⟨_, _, _, _, _, _, _, hJ2, -⟩ := hI2s
  refine V_istore h 1518 [(6, .int ans), (5, .int kd), (0, .ref bs), (1, .ref b), (2, .ref (b + 61)), (3, .ref (b + 94)), (4, .int (nI i))] (by decide) rfl dL_law_1516 rfl ?_
  refine V_aload_n h 1519 4 rfl dL_law_1518 rfl ?_
  refine CVI h 1522 (As := []) (q_thrown hJ2.2.1) rfl hJ2.2.1 qL_L_92 qI_X7_thrown qS_X7_thrown qZ_X7 qC_X7_thrown hd_X7_thrown ⟨Nat.le_of_ble_eq_true rfl, Nat.le_of_ble_eq_true rfl⟩ (Nat.le_of_ble_eq_true rfl) rfl rfl dL_law_1519 (by show kc + 1 + 672 ≤ 771262; omega) (by show ks + 6 + 5019 ≤ 6782320; omega) (fun th D3 hq3 => ?_)
  rw [hq3.1, hq3.2]
  refine V_iload h 1524 1 rfl dL_law_1522 rfl ?_
  refine V_icmp_eq h 1529 1527 dL_law_1524 (by decide) rfl (fun _ => ?_) (fun z => absurd hk.symm z)
  refine V_iload h 1531 1 rfl dL_law_1529 rfl ?_
  have hend : mV Γ Q (kc + 1 + 672) (ks + 6 + 5019) n2 S2 P2 D2 E1 [(6, .int ans), (5, .int kd), (0, .ref bs), (1, .ref b), (2, .ref (b + 61)), (3, .ref (b + 94)), (4, .int (nI i))] [] 1546 := by
    refine V_goto h 1711 dL_law_1546 (by decide) ?_
    refine V_lsub [(0, .ref bs), (1, .ref b), (2, .ref (b + 61)), (3, .ref (b + 94)), (4, .int (nI i))] [2, 3, 4, 5, 6] rfl ?_
    exact V_widen (kc + 1400) (ks + 10600) (by omega) (by omega) (kk _ _ _ _ _ hI2)
  refine V_if_ne h 1546 1534 dL_law_1531 (by decide) rfl (fun _ => hend) (fun z0 => ?_)
  refine V_aload_n h 1535 5 rfl dL_law_1534 rfl ?_
  refine V_iconst h 1536 (v := 0) (by decide) dL_law_1535 rfl ?_
  refine V_lald h 1537 0 hJ2.2.2.2.1 rfl (by decide) (by decide) dL_law_1536 rfl ?_
  rw [hv z0]
  refine V_iload h 1539 0 rfl dL_law_1537 rfl ?_
  refine V_i2l h 1540 dL_law_1539 rfl ?_
  refine V_lcmp h 1541 dL_law_1540 rfl ?_
  exact V_if_eq h 1546 1544 dL_law_1541 (by decide) rfl (fun _ => hend) (fun z => absurd lg_cmp_0 z)

set_option maxRecDepth 100000 in
set_option maxHeartbeats 4000000 in
theorem k_pumpTakes {Γ : mC} {κ : mKp} {Q : State → Prop} (h : mOk Γ κ RL cL_law 9 (Option.some Jvm.ClassFile.FieldType.boolean) { frames := 13, cells := 771262, slots := 6782320, locals := 468 }) (hT : mOkN Γ) (hst : κ.1.stackTraces = false) {bs Ls : Nat} {xs : Nat → Int32} (hX : mScr Γ bs Ls xs) (hLs : Ls < 2 ^ 31) {i : Nat} (hi : i + 5 ≤ Ls) {b cn kc ks n : Nat} {sh : mSh} {P : mPt} {D : mDt} {E : mEt} (hI : lI b cn n sh P D) (hcn : cn ≤ 599) (hkc : kc + 1400 ≤ 771262) (hks : ks + 10600 ≤ 6782320) (kk : ∀ n2 sh2 P2 D2 E2, lI b (cn + 1) n2 sh2 P2 D2 → mV Γ Q (kc + 1400) (ks + 10600) n2 sh2 P2 D2 E2 [(0, .ref bs), (1, .ref b), (2, .ref (b + 61)), (3, .ref (b + 94)), (4, .int (nI i))] [] 1711) : mV Γ Q kc ks n sh P D E [(0, .ref bs), (1, .ref b), (2, .ref (b + 61)), (3, .ref (b + 94)), (4, .int (nI i))] [] 1549 := by
  obtain ⟨L, e, ρ, m, k, dd, lo, hJ⟩ := hI
  obtain ⟨hs, hL, hG, hN2, hN3, hS⟩ := id hJ
  have hcI := hG.1
  have hB := hs.1
  refine V_aload_n h 1550 1 rfl dL_law_1549 rfl ?_
  refine V_aload_n h 1551 0 rfl dL_law_1550 rfl ?_
  refine V_iload h 1553 4 rfl dL_law_1551 rfl ?_
  refine V_iconst h 1554 (v := 1) (by decide) dL_law_1553 rfl ?_
  refine V_iadd h 1555 dL_law_1554 rfl ?_
  refine V_sld h hX 1556 (i + 1) (nI_add (a := i) (b := 1)) (by omega) hLs dL_law_1555 rfl ?_
  refine V_aload_n h 1557 0 rfl dL_law_1556 rfl ?_
  refine V_iload h 1559 4 rfl dL_law_1557 rfl ?_
  refine V_iconst h 1560 (v := 2) (by decide) dL_law_1559 rfl ?_
  refine V_iadd h 1561 dL_law_1560 rfl ?_
  refine V_sld h hX 1562 (i + 2) (nI_add (a := i) (b := 2)) (by omega) hLs dL_law_1561 rfl ?_
  refine V_aload_n h 1563 0 rfl dL_law_1562 rfl ?_
  refine V_iload h 1565 4 rfl dL_law_1563 rfl ?_
  refine V_iconst h 1566 (v := 3) (by decide) dL_law_1565 rfl ?_
  refine V_iadd h 1567 dL_law_1566 rfl ?_
  refine V_sld h hX 1568 (i + 3) (nI_add (a := i) (b := 3)) (by omega) hLs dL_law_1567 rfl ?_
  refine V_aload_n h 1569 3 rfl dL_law_1568 rfl ?_
  refine V_callSW h hT 1572 (As := [.ref b, .int (xs (i + 1)), .int (xs (i + 2)), .int (xs (i + 3)), .ref (b + 94)]) (st := []) (l_pumpTakes hB.1 hs.2.2.2.1 (xs (i + 1)) (xs (i + 2)) (xs (i + 3)) (c_pumpTakes hst hB hcI hN2 hN3 (xs (i + 1)) (xs (i + 2)) (xs (i + 3))) Kx_A) qL_L_158 qT_L_pumpTakes qZ_L qW_L_pumpTakes hd_L_pumpTakes ⟨Nat.le_of_ble_eq_true rfl, Nat.le_of_ble_eq_true rfl⟩ (Nat.le_of_ble_eq_true rfl) rfl rfl dL_law_1569 ⟨by show kc + 1 ≤ 771262; omega, by show ks + 6 ≤ 6782320; omega⟩ (fun v1 n1 S1 P1 D1 E1 hq1 => ?_)
  obtain ⟨hn1, q2, q3, kd, q5, hA⟩ := hq1
  rw [q2, q3, q5]
  dsimp only at hA
  have hs1 := lSt_up hs hn1
  have h95 := hs1.2.2.2.2
  obtain ⟨V1, V2, hl, fr, hN2q, hA⟩ := w_takes hA hN2
  have hS1 := lJ_mid hJ (D1 := D1) (fun a ha => fr a (Or.inr (by omega)))
  refine V_istore h 1574 [(5, .int kd), (0, .ref bs), (1, .ref b), (2, .ref (b + 61)), (3, .ref (b + 94)), (4, .int (nI i))] (by decide) rfl dL_law_1572 rfl ?_
  refine V_aload_n h 1575 3 rfl dL_law_1574 rfl ?_
  refine V_aload_n h 1576 1 rfl dL_law_1575 rfl ?_
  refine V_iload h 1578 5 rfl dL_law_1576 rfl ?_
  refine V_iconst h 1579 (v := 1) (by decide) dL_law_1578 rfl ?_
  refine V_iadd h 1580 dL_law_1579 rfl ?_
  refine V_sld h hX 1581 (i + 1) (nI_add (a := i) (b := 1)) (by omega) hLs dL_law_1580 rfl ?_
  refine V_aload_n h 1582 1 rfl dL_law_1581 rfl ?_
  refine V_iload h 1584 5 rfl dL_law_1582 rfl ?_
  refine V_iconst h 1585 (v := 2) (by decide) dL_law_1584 rfl ?_
  refine V_iadd h 1586 dL_law_1585 rfl ?_
  refine V_sld h hX 1587 (i + 2) (nI_add (a := i) (b := 2)) (by omega) hLs dL_law_1586 rfl ?_
  refine V_aload_n h 1588 1 rfl dL_law_1587 rfl ?_
  refine V_iload h 1590 5 rfl dL_law_1588 rfl ?_
  refine V_iconst h 1591 (v := 3) (by decide) dL_law_1590 rfl ?_
  refine V_iadd h 1592 dL_law_1591 rfl ?_
  refine V_sld h hX 1593 (i + 3) (nI_add (a := i) (b := 3)) (by omega) hLs dL_law_1592 rfl ?_
  refine V_callV h 1596 (rm := { frames := 6, cells := 64, slots := 478, locals := 143 }) (As := [.int (xs (i + 1)), .int (xs (i + 2)), .int (xs (i + 3))]) (q_pumpTakes hs1.2.1 hs1.2.2.1 (by omega) hL hS1 hcI (by omega) (gI_hz hG) hG.2.1 (by have := hG.2.2.1; omega) (xs (i + 1)) (xs (i + 2)) (xs (i + 3)) hl) rfl hs1.2.1 qL_L_160 qI_X7_pumpTakes qS_X7_pumpTakes qZ_X7 qC_X7_pumpTakes hd_X7_pumpTakes ⟨Nat.le_of_ble_eq_true rfl, Nat.le_of_ble_eq_true rfl⟩ (Nat.le_of_ble_eq_true rfl) rfl rfl dL_law_1593 ⟨by show kc + 1 + 64 ≤ 771262; omega, by show ks + 6 + 478 ≤ 6782320; omega⟩ (fun v2 n2 S2 P2 D2 E2 hq2 => ?_)
  obtain ⟨hn2, qE, hs2, hP2, ans, qv, lo2, hL2, hD2, hR⟩ := hq2
  rw [qv, qE]
  have hF : kd = D2 (b + 61) 0 ∧ (kd = 0 → E1 (b + 94) 0 = ans.toInt64) ∧ lI b (cn + 1) n2 S2 P2 D2 := by
    rcases hA with ⟨k0, r, res, eE⟩ | ⟨X, hKX, kX, eD, -⟩
    · obtain ⟨t0, ok⟩ := l_ok (⟨trivial, res.1, trivial⟩) hR
      obtain ⟨g1, d, d1, d2, hw, rr⟩ := res
      obtain ⟨⟨d', d1', d2', hw', ra⟩, R⟩ := ok
      have hdd : d' = d := nI_j (hw'.symm.trans hw) (by omega) (by omega)
      subst hdd
      have hbk : ∀ a, b + 1 ≤ a → a < b + 1 + 20 → D1 a = D a := fun a a1 a2 => fr a (Or.inl (by omega))
      exact ⟨k0.trans t0.symm, fun _ => by rw [eE, updE_at, rr, ra], lI_next hs1 hn2 hs2 hP2 hL2 hD2 (gI_c (gI_blk hG hbk) (Nat.le_succ _)) hN2q (fun i hi => by rw [fr _ (Or.inr (by omega))]; exact hN3 i hi) (rSim_V R hbk)⟩
    · obtain ⟨e1, ne, same⟩ := l_no (cd := cdA) (fun z => absurd trivial z) (by first | rfl | decide) (fun z => absurd trivial z) (by decide) (by decide) hKX kX hR
      subst eD
      exact ⟨e1, fun z => absurd z ne, lI_next hs1 hn2 hs2 hP2 hL2 hD2 (gI_c hG (Nat.le_succ _)) hN2 hN3 same⟩
  obtain ⟨hk, hv, hI2⟩ := hF
  have hI2s := hI2
  obtain ⟨_, _, _, _, _, _, _, hJ2, -⟩ := hI2s
  refine V_istore h 1598 [(6, .int ans), (5, .int kd), (0, .ref bs), (1, .ref b), (2, .ref (b + 61)), (3, .ref (b + 94)), (4, .int (nI i))] (by decide) rfl dL_law_1596 rfl ?_
  refine V_aload_n h 1599 4 rfl dL_law_1598 rfl ?_
  refine CVI h 1602 (As := []) (q_thrown hJ2.2.1) rfl hJ2.2.1 qL_L_92 qI_X7_thrown qS_X7_thrown qZ_X7 qC_X7_thrown hd_X7_thrown ⟨Nat.le_of_ble_eq_true rfl, Nat.le_of_ble_eq_true rfl⟩ (Nat.le_of_ble_eq_true rfl) rfl rfl dL_law_1599 (by show kc + 1 + 64 ≤ 771262; omega) (by show ks + 6 + 478 ≤ 6782320; omega) (fun th D3 hq3 => ?_)
  rw [hq3.1, hq3.2]
  refine V_iload h 1604 1 rfl dL_law_1602 rfl ?_
  refine V_icmp_eq h 1609 1607 dL_law_1604 (by decide) rfl (fun _ => ?_) (fun z => absurd hk.symm z)
  refine V_iload h 1611 1 rfl dL_law_1609 rfl ?_
  have hend : mV Γ Q (kc + 1 + 64) (ks + 6 + 478) n2 S2 P2 D2 E1 [(6, .int ans), (5, .int kd), (0, .ref bs), (1, .ref b), (2, .ref (b + 61)), (3, .ref (b + 94)), (4, .int (nI i))] [] 1626 := by
    refine V_goto h 1711 dL_law_1626 (by decide) ?_
    refine V_lsub [(0, .ref bs), (1, .ref b), (2, .ref (b + 61)), (3, .ref (b + 94)), (4, .int (nI i))] [2, 3, 4, 5, 6] rfl ?_
    exact V_widen (kc + 1400) (ks + 10600) (by omega) (by omega) (kk _ _ _ _ _ hI2)
  refine V_if_ne h 1626 1614 dL_law_1611 (by decide) rfl (fun _ => hend) (fun z0 => ?_)
  refine V_aload_n h 1615 5 rfl dL_law_1614 rfl ?_
  refine V_iconst h 1616 (v := 0) (by decide) dL_law_1615 rfl ?_
  refine V_lald h 1617 0 hJ2.2.2.2.1 rfl (by decide) (by decide) dL_law_1616 rfl ?_
  rw [hv z0]
  refine V_iload h 1619 0 rfl dL_law_1617 rfl ?_
  refine V_i2l h 1620 dL_law_1619 rfl ?_
  refine V_lcmp h 1621 dL_law_1620 rfl ?_
  exact V_if_eq h 1626 1624 dL_law_1621 (by decide) rfl (fun _ => hend) (fun z => absurd lg_cmp_0 z)

set_option maxRecDepth 100000 in
set_option maxHeartbeats 4000000 in
theorem k_wouldReap {Γ : mC} {κ : mKp} {Q : State → Prop} (h : mOk Γ κ RL cL_law 9 (Option.some Jvm.ClassFile.FieldType.boolean) { frames := 13, cells := 771262, slots := 6782320, locals := 468 }) (hT : mOkN Γ) (hst : κ.1.stackTraces = false) {bs Ls : Nat} {xs : Nat → Int32} (hX : mScr Γ bs Ls xs) (hLs : Ls < 2 ^ 31) {i : Nat} (hi : i + 5 ≤ Ls) {b cn kc ks n : Nat} {sh : mSh} {P : mPt} {D : mDt} {E : mEt} (hI : lI b cn n sh P D) (hcn : cn ≤ 599) (hkc : kc + 1400 ≤ 771262) (hks : ks + 10600 ≤ 6782320) (kk : ∀ n2 sh2 P2 D2 E2, lI b (cn + 1) n2 sh2 P2 D2 → mV Γ Q (kc + 1400) (ks + 10600) n2 sh2 P2 D2 E2 [(0, .ref bs), (1, .ref b), (2, .ref (b + 61)), (3, .ref (b + 94)), (4, .int (nI i))] [] 1711) : mV Γ Q kc ks n sh P D E [(0, .ref bs), (1, .ref b), (2, .ref (b + 61)), (3, .ref (b + 94)), (4, .int (nI i))] [] 1629 := by
  obtain ⟨L, e, ρ, m, k, dd, lo, hJ⟩ := hI
  obtain ⟨hs, hL, hG, hN2, hN3, hS⟩ := id hJ
  have hcI := hG.1
  have hB := hs.1
  refine V_aload_n h 1630 1 rfl dL_law_1629 rfl ?_
  refine V_aload_n h 1631 0 rfl dL_law_1630 rfl ?_
  refine V_iload h 1633 4 rfl dL_law_1631 rfl ?_
  refine V_iconst h 1634 (v := 1) (by decide) dL_law_1633 rfl ?_
  refine V_iadd h 1635 dL_law_1634 rfl ?_
  refine V_sld h hX 1636 (i + 1) (nI_add (a := i) (b := 1)) (by omega) hLs dL_law_1635 rfl ?_
  refine V_aload_n h 1637 0 rfl dL_law_1636 rfl ?_
  refine V_iload h 1639 4 rfl dL_law_1637 rfl ?_
  refine V_iconst h 1640 (v := 2) (by decide) dL_law_1639 rfl ?_
  refine V_iadd h 1641 dL_law_1640 rfl ?_
  refine V_sld h hX 1642 (i + 2) (nI_add (a := i) (b := 2)) (by omega) hLs dL_law_1641 rfl ?_
  refine V_aload_n h 1643 3 rfl dL_law_1642 rfl ?_
  refine V_callSW h hT 1646 (As := [.ref b, .int (xs (i + 1)), .int (xs (i + 2)), .ref (b + 94)]) (st := []) (l_wouldReap hB.1 hs.2.2.2.1 (xs (i + 1)) (xs (i + 2)) (c_wouldReap hst hB hcI hN2 hN3 hG.2.1.2.2.2.2.2.2 (by have := hG.2.2.1; omega) (xs (i + 1)) (xs (i + 2))) Kx_IA) qL_L_161 qT_L_wouldReap qZ_L qW_L_wouldReap hd_L_wouldReap ⟨Nat.le_of_ble_eq_true rfl, Nat.le_of_ble_eq_true rfl⟩ (Nat.le_of_ble_eq_true rfl) rfl rfl dL_law_1643 ⟨by show kc + 2 ≤ 771262; omega, by show ks + 12 ≤ 6782320; omega⟩ (fun v1 n1 S1 P1 D1 E1 hq1 => ?_)
  obtain ⟨hn1, q2, q3, kd, q5, hA⟩ := hq1
  rw [q2, q3, q5]
  dsimp only at hA
  have hs1 := lSt_up hs hn1
  have h95 := hs1.2.2.2.2
  obtain ⟨V3, hl, fr, hN3q, hA⟩ := w_reap hA hcI.1 hN3
  have hS1 := lJ_mid hJ (D1 := D1) (fun a ha => fr a (Or.inr (by omega)))
  refine V_istore h 1648 [(5, .int kd), (0, .ref bs), (1, .ref b), (2, .ref (b + 61)), (3, .ref (b + 94)), (4, .int (nI i))] (by decide) rfl dL_law_1646 rfl ?_
  refine V_aload_n h 1649 3 rfl dL_law_1648 rfl ?_
  refine V_aload_n h 1650 1 rfl dL_law_1649 rfl ?_
  refine V_iload h 1652 5 rfl dL_law_1650 rfl ?_
  refine V_iconst h 1653 (v := 1) (by decide) dL_law_1652 rfl ?_
  refine V_iadd h 1654 dL_law_1653 rfl ?_
  refine V_sld h hX 1655 (i + 1) (nI_add (a := i) (b := 1)) (by omega) hLs dL_law_1654 rfl ?_
  refine V_aload_n h 1656 1 rfl dL_law_1655 rfl ?_
  refine V_iload h 1658 5 rfl dL_law_1656 rfl ?_
  refine V_iconst h 1659 (v := 2) (by decide) dL_law_1658 rfl ?_
  refine V_iadd h 1660 dL_law_1659 rfl ?_
  refine V_sld h hX 1661 (i + 2) (nI_add (a := i) (b := 2)) (by omega) hLs dL_law_1660 rfl ?_
  refine V_callV h 1664 (rm := { frames := 5, cells := 32, slots := 239, locals := 119 }) (As := [.int (xs (i + 1)), .int (xs (i + 2))]) (q_wouldReap hs1.2.1 hs1.2.2.1 (by omega) hL hS1 hcI (by omega) (gI_hz hG) hG.2.1 (by have := hG.2.2.1; omega) (xs (i + 1)) (xs (i + 2)) hl) rfl hs1.2.1 qL_L_163 qI_X7_wouldReap qS_X7_wouldReap qZ_X7 qC_X7_wouldReap hd_X7_wouldReap ⟨Nat.le_of_ble_eq_true rfl, Nat.le_of_ble_eq_true rfl⟩ (Nat.le_of_ble_eq_true rfl) rfl rfl dL_law_1661 ⟨by show kc + 2 + 32 ≤ 771262; omega, by show ks + 12 + 239 ≤ 6782320; omega⟩ (fun v2 n2 S2 P2 D2 E2 hq2 => ?_)
  obtain ⟨hn2, qE, hs2, hP2, ans, qv, lo2, hL2, hD2, hR⟩ := hq2
  rw [qv, qE]
  have hF : kd = D2 (b + 61) 0 ∧ (kd = 0 → E1 (b + 94) 0 = ans.toInt64) ∧ lI b (cn + 1) n2 S2 P2 D2 := by
    rcases hA with ⟨k0, r, res, eE⟩ | ⟨X, hKX, kX, eD, -⟩
    · obtain ⟨t0, ok⟩ := l_ok (⟨res.1, res.2.1, trivial⟩) hR
      obtain ⟨g1, g2, hD, rr⟩ := res
      obtain ⟨⟨p, hp, hv, ra⟩, R⟩ := ok
      have hρp := gI_rho hG p hp
      have hbk : ∀ a, b + 1 ≤ a → a < b + 1 + 20 → D1 a = D a := fun a a1 a2 => fr a (Or.inl (by omega))
      have hra : r = ans := by
        rw [rr, ra, hv, numb_nI hρp, hD]
      exact ⟨k0.trans t0.symm, fun _ => by rw [eE, updE_at, hra], lI_next hs1 hn2 hs2 hP2 hL2 hD2 (gI_c (gI_blk hG hbk) (Nat.le_succ _)) (fun i hi => by rw [fr _ (Or.inl (by omega))]; exact hN2 i hi) hN3q (rSim_V R hbk)⟩
    · obtain ⟨e1, ne, same⟩ := l_no (cd := cdIA) (fun _ => by decide) (by first | rfl | decide) (fun z => absurd trivial z) (by decide) (by decide) hKX kX hR
      subst eD
      exact ⟨e1, fun z => absurd z ne, lI_next hs1 hn2 hs2 hP2 hL2 hD2 (gI_c hG (Nat.le_succ _)) hN2 hN3 same⟩
  obtain ⟨hk, hv, hI2⟩ := hF
  have hI2s := hI2
  obtain ⟨_, _, _, _, _, _, _, hJ2, -⟩ := hI2s
  refine V_istore h 1666 [(6, .int ans), (5, .int kd), (0, .ref bs), (1, .ref b), (2, .ref (b + 61)), (3, .ref (b + 94)), (4, .int (nI i))] (by decide) rfl dL_law_1664 rfl ?_
  refine V_aload_n h 1667 4 rfl dL_law_1666 rfl ?_
  refine CVI h 1670 (As := []) (q_thrown hJ2.2.1) rfl hJ2.2.1 qL_L_92 qI_X7_thrown qS_X7_thrown qZ_X7 qC_X7_thrown hd_X7_thrown ⟨Nat.le_of_ble_eq_true rfl, Nat.le_of_ble_eq_true rfl⟩ (Nat.le_of_ble_eq_true rfl) rfl rfl dL_law_1667 (by show kc + 2 + 32 ≤ 771262; omega) (by show ks + 12 + 239 ≤ 6782320; omega) (fun th D3 hq3 => ?_)
  rw [hq3.1, hq3.2]
  refine V_iload h 1672 1 rfl dL_law_1670 rfl ?_
  refine V_icmp_eq h 1677 1675 dL_law_1672 (by decide) rfl (fun _ => ?_) (fun z => absurd hk.symm z)
  refine V_iload h 1679 1 rfl dL_law_1677 rfl ?_
  have hend : mV Γ Q (kc + 2 + 32) (ks + 12 + 239) n2 S2 P2 D2 E1 [(6, .int ans), (5, .int kd), (0, .ref bs), (1, .ref b), (2, .ref (b + 61)), (3, .ref (b + 94)), (4, .int (nI i))] [] 1694 := by
    refine V_goto h 1711 dL_law_1694 (by decide) ?_
    refine V_lsub [(0, .ref bs), (1, .ref b), (2, .ref (b + 61)), (3, .ref (b + 94)), (4, .int (nI i))] [2, 3, 4, 5, 6] rfl ?_
    exact V_widen (kc + 1400) (ks + 10600) (by omega) (by omega) (kk _ _ _ _ _ hI2)
  refine V_if_ne h 1694 1682 dL_law_1679 (by decide) rfl (fun _ => hend) (fun z0 => ?_)
  refine V_aload_n h 1683 5 rfl dL_law_1682 rfl ?_
  refine V_iconst h 1684 (v := 0) (by decide) dL_law_1683 rfl ?_
  refine V_lald h 1685 0 hJ2.2.2.2.1 rfl (by decide) (by decide) dL_law_1684 rfl ?_
  rw [hv z0]
  refine V_iload h 1687 0 rfl dL_law_1685 rfl ?_
  refine V_i2l h 1688 dL_law_1687 rfl ?_
  refine V_lcmp h 1689 dL_law_1688 rfl ?_
  exact V_if_eq h 1694 1692 dL_law_1689 (by decide) rfl (fun _ => hend) (fun z => absurd lg_cmp_0 z)

set_option maxRecDepth 100000 in
set_option maxHeartbeats 4000000 in
theorem k_meanMoist {Γ : mC} {κ : mKp} {Q : State → Prop} (h : mOk Γ κ RL cL_law 9 (Option.some Jvm.ClassFile.FieldType.boolean) { frames := 13, cells := 771262, slots := 6782320, locals := 468 }) (hT : mOkN Γ) (hst : κ.1.stackTraces = false) {bs Ls : Nat} {xs : Nat → Int32} (hX : mScr Γ bs Ls xs) (hLs : Ls < 2 ^ 31) {i : Nat} (hi : i + 5 ≤ Ls) {b cn kc ks n : Nat} {sh : mSh} {P : mPt} {D : mDt} {E : mEt} (hI : lI b cn n sh P D) (hcn : cn ≤ 599) (hkc : kc + 1400 ≤ 771262) (hks : ks + 10600 ≤ 6782320) (kk : ∀ n2 sh2 P2 D2 E2, lI b (cn + 1) n2 sh2 P2 D2 → mV Γ Q (kc + 1400) (ks + 10600) n2 sh2 P2 D2 E2 [(0, .ref bs), (1, .ref b), (2, .ref (b + 61)), (3, .ref (b + 94)), (4, .int (nI i))] [] 1711) : mV Γ Q kc ks n sh P D E [(0, .ref bs), (1, .ref b), (2, .ref (b + 61)), (3, .ref (b + 94)), (4, .int (nI i))] [] 1360 := by
  obtain ⟨L, e, ρ, m, k, dd, lo, hJ⟩ := hI
  obtain ⟨hs, hL, hG, hN2, hN3, hS⟩ := id hJ
  have hcI := hG.1
  have hB := hs.1
  have h95 := hs.2.2.2.2
  refine V_aload_n h 1361 1 rfl dL_law_1360 rfl ?_
  refine CVD h 1364 (As := []) (c_meanMoist hB hcI (gI_hM hG)) rfl hB.1 qL_L_147 qI_X5_meanMoist qS_X5_meanMoist qZ_X5 qC_X5_meanMoist hd_X5_meanMoist ⟨Nat.le_of_ble_eq_true rfl, Nat.le_of_ble_eq_true rfl⟩ (Nat.le_of_ble_eq_true rfl) rfl rfl dL_law_1361 (by show kc ≤ 771262; omega) (by show ks ≤ 6782320; omega) (fun r1 D1 hq1 => ?_)
  obtain ⟨qa, e1⟩ := hq1
  rw [qa]
  refine V_dstore h 1366 [(5, .double r1), (0, .ref bs), (1, .ref b), (2, .ref (b + 61)), (3, .ref (b + 94)), (4, .int (nI i))] (by decide) rfl dL_law_1364 rfl ?_
  refine V_aload_n h 1367 3 rfl dL_law_1366 rfl ?_
  refine CVD h 1370 (As := []) (q_meanMoist hs.2.1 hs.2.2.1 (by omega) hL hS hcI (gI_hM hG)) rfl hs.2.1 qL_L_151 qI_X7_meanMoist qS_X7_meanMoist qZ_X7 qC_X7_meanMoist hd_X7_meanMoist ⟨Nat.le_of_ble_eq_true rfl, Nat.le_of_ble_eq_true rfl⟩ (Nat.le_of_ble_eq_true rfl) rfl rfl dL_law_1367 (by show kc ≤ 771262; omega) (by show ks ≤ 6782320; omega) (fun r2 D2 hq2 => ?_)
  obtain ⟨qb, e2⟩ := hq2
  have er : r1 = r2 := by rw [e1, e2]
  rw [er]
  have hI2 : lI b (cn + 1) n sh P D2 := by
    have fr : ∀ a, a ≠ b + 61 → D2 a = D a := fun a ha => by rw [qb, upd2_ra ha]
    exact lI_next hs (Nat.le_refl _) (fun _ _ => rfl) (fun _ _ _ => rfl) hL (fun a _ ha => by
      by_cases q : a = b + 61
      · omega
      · exact fr a q) (gI_c hG (Nat.le_succ _)) hN2 hN3 (rSim_q hS hcI.1.2.2.2.1.1 hcI.1.2.2.2.2.2.1 (rLay_lo hL) (show b + 61 < b + 62 by omega) fr)
  refine V_dstore h 1372 [(7, .double r2), (5, .double r2), (0, .ref bs), (1, .ref b), (2, .ref (b + 61)), (3, .ref (b + 94)), (4, .int (nI i))] (by decide) rfl dL_law_1370 rfl ?_
  have hend : mV Γ Q kc ks n sh P D2 E [(7, .double r2), (5, .double r2), (0, .ref bs), (1, .ref b), (2, .ref (b + 61)), (3, .ref (b + 94)), (4, .int (nI i))] [] 1398 := by
    refine V_goto h 1711 dL_law_1398 (by decide) ?_
    refine V_lsub [(0, .ref bs), (1, .ref b), (2, .ref (b + 61)), (3, .ref (b + 94)), (4, .int (nI i))] [2, 3, 4, 5, 6] rfl ?_
    exact V_widen (kc + 1400) (ks + 10600) (by omega) (by omega) (kk _ _ _ _ _ hI2)
  refine V_dload h 1374 1 rfl dL_law_1372 rfl ?_
  refine V_dload h 1376 0 rfl dL_law_1374 rfl ?_
  refine V_dcmp h 1377 dL_law_1376 rfl ?_
  refine V_if_eq h 1398 1380 dL_law_1377 (by decide) rfl (fun _ => hend) (fun z1 => ?_)
  refine V_dload h 1382 1 rfl dL_law_1380 rfl ?_
  refine V_dload h 1384 1 rfl dL_law_1382 rfl ?_
  refine V_dcmp h 1385 dL_law_1384 rfl ?_
  refine V_if_eq h 1396 1388 dL_law_1385 (by decide) rfl (fun z => absurd z z1) (fun _ => ?_)
  refine V_dload h 1390 0 rfl dL_law_1388 rfl ?_
  refine V_dload h 1392 0 rfl dL_law_1390 rfl ?_
  refine V_dcmp h 1393 dL_law_1392 rfl ?_
  exact V_if_ne h 1398 1396 dL_law_1393 (by decide) rfl (fun _ => hend) (fun z => absurd z z1)

set_option maxRecDepth 100000 in
set_option maxHeartbeats 4000000 in
theorem k_digest {Γ : mC} {κ : mKp} {Q : State → Prop} (h : mOk Γ κ RL cL_law 9 (Option.some Jvm.ClassFile.FieldType.boolean) { frames := 13, cells := 771262, slots := 6782320, locals := 468 }) (hT : mOkN Γ) (hst : κ.1.stackTraces = false) {bs Ls : Nat} {xs : Nat → Int32} (hX : mScr Γ bs Ls xs) (hLs : Ls < 2 ^ 31) {i : Nat} (hi : i + 5 ≤ Ls) {b cn kc ks n : Nat} {sh : mSh} {P : mPt} {D : mDt} {E : mEt} (hI : lI b cn n sh P D) (hcn : cn ≤ 599) (hkc : kc + 1400 ≤ 771262) (hks : ks + 10600 ≤ 6782320) (kk : ∀ n2 sh2 P2 D2 E2, lI b (cn + 1) n2 sh2 P2 D2 → mV Γ Q (kc + 1400) (ks + 10600) n2 sh2 P2 D2 E2 [(0, .ref bs), (1, .ref b), (2, .ref (b + 61)), (3, .ref (b + 94)), (4, .int (nI i))] [] 1711) : mV Γ Q kc ks n sh P D E [(0, .ref bs), (1, .ref b), (2, .ref (b + 61)), (3, .ref (b + 94)), (4, .int (nI i))] [] 1697 := by
  obtain ⟨L, e, ρ, m, k, dd, lo, hJ⟩ := hI
  obtain ⟨hs, hL, hG, hN2, hN3, hS⟩ := id hJ
  have hcI := hG.1
  have hB := hs.1
  have h95 := hs.2.2.2.2
  have hdd := hG.2.2.1
  refine V_aload_n h 1698 1 rfl dL_law_1697 rfl ?_
  refine CVL h 1701 (As := []) (c_digest hB hcI hN2 hN3 hG.2.1.2.2.2.2.2.2 (by omega)) rfl hB.1 qL_L_164 qI_X5_digest qS_X5_digest qZ_X5 qC_X5_digest hd_X5_digest ⟨Nat.le_of_ble_eq_true rfl, Nat.le_of_ble_eq_true rfl⟩ (Nat.le_of_ble_eq_true rfl) rfl rfl dL_law_1698 (by show kc ≤ 771262; omega) (by show ks ≤ 6782320; omega) (fun r1 D1 hq1 => ?_)
  obtain ⟨B, F, W1, W2, hB0, ⟨V2, hl2, hv2⟩, ⟨V3, hl3, hv3⟩, hF, hW1, hW2, er, fr, hN2q, hN3q⟩ := hq1
  have hGB := gI_blk hG hB0
  have hbk : ∀ a, b + 1 ≤ a → a < b + 1 + 20 → D1 a = D a := fun a a1 a2 => fr a (Or.inl (by omega))
  have hS1 := lJ_mid hJ (D1 := D1) (fun a ha => fr a (Or.inr (by omega)))
  refine V_aload_n h 1702 2 rfl dL_law_1701 rfl ?_
  refine V_callV h 1705 (rm := { frames := 6, cells := 1392, slots := 10533, locals := 146 }) (As := []) (q_digest hs.2.1 hs.2.2.1 (by omega) hL (rSim_V hS1 hB0) hGB.1 (by omega) (gI_hz hGB) hGB.2.1 (by omega) (gI_b0 hGB) (gI_bw hGB) (gI_am hGB) (gI_len hGB) hl2 (fun i hi => by rw [hv2 _ (by omega) (by omega)]) hl3 (fun i hi => by rw [hv3 _ (by omega) (by omega)]) hF hW1 hW2) rfl hs.2.1 qL_L_168 qI_X7_digest qS_X7_digest qZ_X7 qC_X7_digest hd_X7_digest ⟨Nat.le_of_ble_eq_true rfl, Nat.le_of_ble_eq_true rfl⟩ (Nat.le_of_ble_eq_true rfl) rfl rfl dL_law_1702 ⟨by show kc + 1392 ≤ 771262; omega, by show ks + 10533 ≤ 6782320; omega⟩ (fun v2 n2 S2 P2 D2 E2 hq2 => ?_)
  obtain ⟨hn2, qE, hag, qv⟩ := hq2
  have em : askA (b + 1) L ρ B = askA (b + 1) L ρ D := by funext w; exact askA_congr hB0 (gI_rho hG) w
  rw [qv, qE, er, em]
  have hI2 : lI b (cn + 1) n2 S2 P2 D2 := by
    have fr2 : ∀ a, a < n → a ≠ b + 61 → D2 a = D1 a := fun a ha hne => by rw [(hag a ha).2.2, upd2_ra hne]
    exact lI_next hs hn2 (fun a ha => (hag a ha).1) (fun a ha _ => (hag a ha).2.1) (rLay_of hL (fun a a1 a2 => (hag a (by omega)).1) (fun a a1 a2 => (hag a (by omega)).2.1)) (fun a ha hq => fr2 a ha (by omega)) (gI_c (gI_blk hG hbk) (Nat.le_succ _)) hN2q hN3q (rSim_V (rSim_fr hS1 hcI.1.2.2.2.1.1 hcI.1.2.2.2.2.2.1 (rLay_lo hL) (fun a a1 a2 => fr2 a (by omega) (by omega))) hbk)
  refine V_lcmp h 1706 dL_law_1705 rfl ?_
  refine V_if_eq h 1711 1709 dL_law_1706 (by decide) rfl (fun _ => ?_) (fun z => absurd lg_cmp_0 z)
  exact V_widen (kc + 1400) (ks + 10600) (by show kc + 1392 ≤ _; omega) (by show ks + 10533 ≤ _; omega) (kk _ _ _ _ _ hI2)
