/-! the law: seven times, and then the harvest -/
theorem pr_mv {t u bs dr dru m dd c n n' : Nat} {sh sh' : mSh} {P P' : mPt} {D D' : mDt} (h : prI t u bs dr dru m dd c n sh P D) (hn : n ≤ n') (h1 : ∀ a, a < n → sh' a = sh a) (h2 : ∀ a, a < n → P' a = P a) (h3 : ∀ a, a < n → D' a = D a) : prI t u bs dr dru m dd c n' sh' P' D' := by
  obtain ⟨q1, q2, q3, q4⟩ := h
  have hn1 := q2.1
  have hn2 := q3.1
  exact ⟨q1, tdI_mv q2 hn (fun a _ _ => h1 a (by omega)) (fun a _ _ => h2 a (by omega)) (fun a _ _ => h3 a (by omega)), tdI_mv q3 hn (fun a _ _ => h1 a (by omega)) (fun a _ _ => h2 a (by omega)) (fun a _ _ => h3 a (by omega)), ev_trans (ev_trans (ev_blk (fun a _ _ => (h3 a (by omega)).symm)) q4) (ev_blk (fun a _ _ => h3 a (by omega)))⟩
/-- one number is written behind all -/
theorem pr_out {t u bs dr dru m dd c n x j : Nat} {v : Int32} {sh : mSh} {P : mPt} {D : mDt} (h : prI t u bs dr dru m dd c n sh P D) (hx : u + 62 ≤ x) : prI t u bs dr dru m dd c n sh P (upd2 D x j v) := by
  obtain ⟨q1, q2, q3, q4⟩ := h
  exact ⟨q1, tdI_fr q2 (fun a _ _ => upd2_ra (by omega)), tdI_fr q3 (fun a _ _ => upd2_ra (by omega)), ev_trans (ev_trans (ev_blk (fun a _ _ => (upd2_ra (by omega)).symm)) q4) (ev_blk (fun a _ _ => upd2_ra (by omega)))⟩
section LWE
variable {Γ : mC} {κ : mKp} {Q : State → Prop} {kc ks n : Nat} {sh : mSh} {P : mPt} {D : mDt} {E : mEt} {bs Ls : Nat} {xs : Nat → Int32}
set_option maxRecDepth 100000 in
set_option maxHeartbeats 4000000 in
theorem law_K (h : mOk Γ κ RL cL_law 25 (Option.some Jvm.ClassFile.FieldType.boolean) { frames := 13, cells := 600104, slots := 7301313, locals := 486 }) (hX : mOkS Γ bs Ls xs) (hst : κ.1.stackTraces = false) (hLs : Ls < 2 ^ 31) {τ t u dr0 dru c0 : Nat} (hdr : dr0 ≤ 100000) (hc0 : c0 ≤ 100) {m0 : Nat} {D0 : mDt} (hkc : kc + 434 ≤ 600104) (hks : ks + 2604 ≤ 7301313) (kk : ∀ m dd c D, dd ≤ 63 → c ≤ 200 → prI t u bs (dr0 + 49) dru m dd c n sh P D → mV Γ Q (kc + 434) (ks + 2604) n sh P D E [(0, .ref bs), (1, .int (nI τ)), (2, .ref t), (3, .ref u), (4, .ref (t + 1))] [] 488) (hp0 : prI t u bs dr0 dru m0 0 c0 n sh P D0) (hz0 : D0 (t + 2 + 1) 3 = 0) : mV Γ Q kc ks n sh P D0 E [(0, .ref bs), (1, .int (nI τ)), (2, .ref t), (3, .ref u), (4, .ref (t + 1))] [] 63 := by
  refine V_iconst h 64 (v := 0) (by decide) dL_law_63 rfl ?_
  refine V_istore h 66 [(5, .int 0), (0, .ref bs), (1, .int (nI τ)), (2, .ref t), (3, .ref u), (4, .ref (t + 1))] (by decide) rfl dL_law_64 rfl ?_
  have LP : ∀ (kk0 i : Nat) (y5 : Int32) (m dd c : Nat) (D : mDt), i ≤ 7 → y5 = nI i → dd ≤ 9 * i → c = c0 + 3 * i → prI t u bs (dr0 + 7 * i) dru m dd c n sh P D → D (t + 2 + 1) 3 = 0 → 7 - i < kk0 → mV Γ Q (kc + 62 * i) (ks + 372 * i) n sh P D E [(0, .ref bs), (1, .int (nI τ)), (2, .ref t), (3, .ref u), (4, .ref (t + 1)), (5, .int y5)] [] 66 := by
    intro kk0
    induction kk0 with
    | zero => intro i y5 m dd c D _ _ _ _ _ _ hm; exact absurd hm (Nat.not_lt_zero _)
    | succ kk0 ih =>
      intro i y5 m dd c D hi e5 hdd hc hp hz hm
      subst e5
      refine V_iload h 68 5 rfl dL_law_66 rfl ?_
      refine V_bipush h 70 (v := 7) (by decide) dL_law_68 rfl ?_
      refine V_icmp_ge h 488 73 dL_law_70 (by decide) rfl (fun c70 => ?_) (fun c70 => ?_)
      · have hi7 : i = 7 := by have := mGeB (i := i) (m := 7) c70 (by omega) (by decide); omega
        subst hi7
        refine V_lsub [(0, .ref bs), (1, .int (nI τ)), (2, .ref t), (3, .ref u), (4, .ref (t + 1))] [0, 1, 2, 3, 4] rfl ?_
        exact kk m dd c D (by omega) (by omega) hp
      · have hi7 : i < 7 := mLtB (i := i) (m := 7) c70 (by omega)
        refine law_B1 h hX hst hLs (by omega) hp (by omega) (by omega) (fun a b r d pm w D1 ha hb hab hr hd1 hd2 hpm1 hpm2 hw1 hw2 hp1 z1 => ?_)
        refine law_B2 h hX hst hLs hp1 (by omega) ha hb hab hpm1 (by omega) hw1 hw2 (by omega) (by omega) (fun m2 D2 hp2 z2 => ?_)
        refine law_B3 h hX hst hLs hp2 (by rw [z2, z1]; exact hz) (by omega) (by omega) (by omega) ha hr hd1 hd2 (by omega) (by omega) (fun D3 y14 jb v hjb hv h14 hp3 z3 => ?_)
        refine law_B5 h hX hst hLs hp3 (by rw [z3, z2, z1]; exact hz) (by omega) (by omega) ha hr hd1 hd2 hjb hv h14 (by omega) (by omega) (fun m4 D4 hp4 z4 => ?_)
        refine V_iinc h 485 [(5, .int (nI i + 1)), (0, .ref bs), (1, .int (nI τ)), (2, .ref t), (3, .ref u), (4, .ref (t + 1))] 5 rfl (by rfl) (by decide) rfl dL_law_482 rfl ?_
        refine V_goto h 66 dL_law_485 (by decide) ?_
        refine V_lsub [(0, .ref bs), (1, .int (nI τ)), (2, .ref t), (3, .ref u), (4, .ref (t + 1)), (5, .int (nI i + 1))] [1, 2, 3, 4, 5, 0] rfl ?_
        refine V_widen (kc + 62 * (i + 1)) (ks + 372 * (i + 1)) (by omega) (by omega) ?_
        exact ih (i + 1) _ m4 (dd + d) (c + 3) D4 (by omega) (nI_1 i) (by omega) (by omega) (by rw [show dr0 + 7 * (i + 1) = dr0 + 7 * i + 6 + 1 by omega]; exact hp4) z4 (by omega)
  refine V_lsub [(0, .ref bs), (1, .int (nI τ)), (2, .ref t), (3, .ref u), (4, .ref (t + 1)), (5, .int (nI 0))] [1, 2, 3, 4, 5, 0] rfl ?_
  exact LP _ 0 _ m0 0 c0 D0 (by omega) rfl (by omega) (by omega) hp0 hz0 (Nat.lt_succ_self _)
set_option maxRecDepth 100000 in
set_option maxHeartbeats 4000000 in
theorem law_C1 (h : mOk Γ κ RL cL_law 25 (Option.some Jvm.ClassFile.FieldType.boolean) { frames := 13, cells := 600104, slots := 7301313, locals := 486 }) (hX : mOkS Γ bs Ls xs) (hst : κ.1.stackTraces = false) (hLs : Ls < 2 ^ 31) {τ t u dr dru m dd c : Nat} (hp : prI t u bs dr dru m dd c n sh P D) (hdr : dr < 1000000) (hc : c ≤ 500) (hdd : dd ≤ 1000) (hkc : kc + 10 ≤ 600104) (hks : ks + 56 ≤ 7301313) (kk : ∀ R W n' sh' P' D' E', R < 50 → u + 62 ≤ W → sh' W = some (.inr (0, 4)) → sh' (W + 1) = some (.inr (0, 4)) → (∀ j, j < 4 → D' W j = (daysD (t + 2) (rhoN 4) 4 (nI R) (D', m, 0) (harvN dd)).1 (t + 2 + 6 + j) 14) → (∀ j, j < 4 → D' (W + 1) j = D' (t + 2 + 6 + j) 8) → prI t u bs (dr + 1) dru m dd c n' sh' P' D' → mV Γ Q (kc + 10) (ks + 56) n' sh' P' D' E' [(0, .ref bs), (1, .int (nI τ)), (2, .ref t), (3, .ref u), (4, .ref (t + 1)), (5, .int (nI R)), (6, .ref W), (7, .ref (W + 1)), (8, .int (D' (t + 2) 7)), (9, .int (rsum (fun p => (daysD (t + 2) (rhoN 4) 4 (nI R) (D', m, 0) (harvN dd)).1 (t + 2 + 6 + p) 14) 4))] [] 571) : mV Γ Q kc ks n sh P D E [(0, .ref bs), (1, .int (nI τ)), (2, .ref t), (3, .ref u), (4, .ref (t + 1))] [] 488 := by
  obtain ⟨R, hR, eR⟩ := drwI_lt (Ls := Ls) (xs := xs) (dr := dr) (N := 50) (by decide) (by decide)
  have hx : wP (nI R) 0 99 := wP_n (a := 0) (b := 99) (by omega) (by omega) (by decide)
  have ht := hp.2.1.2.1
  have hu := hp.2.2.1.2.1
  have hpt := hp.2.1.2.2.1
  have hpu := hp.2.2.1.2.2.1
  have hbt := hp.2.1.2.2.2.2.2.2.1.1
  have hbu := hp.2.2.1.2.2.2.2.2.2.1.1
  have htu := hp.1
  have hnn := hp.2.2.1.1
  refine V_aload_n h 489 2 rfl dL_law_488 rfl ?_
  refine V_bipush h 491 (v := 50) (by decide) dL_law_489 rfl ?_
  refine SVI h hX 494 (As := [.int (nI 50)]) (c_draw (dr := dr) (N := 50) ht hp.2.1.2.2.2.1 hp.2.1.2.2.2.2.1 (by omega) hLs (by decide) (by decide)) rfl ht qL_L_22 qI_X6_draw qS_X6_draw qZ_X6 qC_X6_draw hd_X6_draw ⟨Nat.le_of_ble_eq_true rfl, Nat.le_of_ble_eq_true rfl⟩ (Nat.le_of_ble_eq_true rfl) rfl rfl dL_law_491 (by show kc ≤ 600104; omega) (by show ks ≤ 7301313; omega) (fun r1 D1 hq1 => ?_)
  obtain ⟨eD1, er1⟩ := hq1
  have hp1 := pr_draw hp (dr + 1)
  rw [← eD1] at hp1
  rw [er1, eR]
  refine V_istore h 496 [(5, .int (nI R)), (0, .ref bs), (1, .int (nI τ)), (2, .ref t), (3, .ref u), (4, .ref (t + 1))] (by decide) rfl dL_law_494 rfl ?_
  refine V_iconst h 497 (v := 4) (by decide) dL_law_496 rfl ?_
  refine V_newI h 499 (n + 1) (kc + 1) (ks + 4) (len := 4) qarrayClass_566 rfl (by decide) (by show kc + 1 ≤ 600104; omega) (by show ks + 4 ≤ 7301313; omega) dL_law_497 rfl (by first | omega | dsimp only | (dsimp only; omega)) (by first | omega | dsimp only | (dsimp only; omega)) (by first | omega | dsimp only | (dsimp only; omega)) ?_
  obtain ⟨S2, eS2⟩ : ∃ zz, zz = updS sh n (.inr (0, 4)) := ⟨_, rfl⟩
  rw [← eS2]
  obtain ⟨P2, eP2⟩ : ∃ zz, zz = clrP P n := ⟨_, rfl⟩
  rw [← eP2]
  obtain ⟨D2, eD2⟩ : ∃ zz, zz = clrD D1 n := ⟨_, rfl⟩
  rw [← eD2]
  have fs2_0 : S2 (t + 1) = some (.inl 5) := by rw [eS2, updS_ne (by omega)]; exact hbt
  have fn3 : S2 n = some (.inr (0, 4)) := by rw [eS2]; exact updS_eq
  refine V_astore h 501 [(6, .ref n), (5, .int (nI R)), (0, .ref bs), (1, .int (nI τ)), (2, .ref t), (3, .ref u), (4, .ref (t + 1))] (by decide) rfl dL_law_499 rfl ?_
  refine V_iconst h 502 (v := 4) (by decide) dL_law_501 rfl ?_
  refine V_newI h 504 (n + 2) (kc + 2) (ks + 8) (len := 4) qarrayClass_566 rfl (by decide) (by show kc + 2 ≤ 600104; omega) (by show ks + 8 ≤ 7301313; omega) dL_law_502 rfl (by first | omega | dsimp only | (dsimp only; omega)) (by first | omega | dsimp only | (dsimp only; omega)) (by first | omega | dsimp only | (dsimp only; omega)) ?_
  obtain ⟨S4, eS4⟩ : ∃ zz, zz = updS S2 (n + 1) (.inr (0, 4)) := ⟨_, rfl⟩
  rw [← eS4]
  obtain ⟨P4, eP4⟩ : ∃ zz, zz = clrP P2 (n + 1) := ⟨_, rfl⟩
  rw [← eP4]
  obtain ⟨D4, eD4⟩ : ∃ zz, zz = clrD D2 (n + 1) := ⟨_, rfl⟩
  rw [← eD4]
  have fs4_0 : S4 (t + 1) = some (.inl 5) := by rw [eS4, updS_ne (by omega)]; exact fs2_0
  have fs4_1 : S4 n = some (.inr (0, 4)) := by rw [eS4, updS_ne (by omega)]; exact fn3
  have fn5 : S4 (n + 1) = some (.inr (0, 4)) := by rw [eS4]; exact updS_eq
  refine V_astore h 506 [(7, .ref (n + 1)), (6, .ref n), (5, .int (nI R)), (0, .ref bs), (1, .int (nI τ)), (2, .ref t), (3, .ref u), (4, .ref (t + 1))] (by decide) rfl dL_law_504 rfl ?_
  have hp2 : prI t u bs (dr + 1) dru m dd c (n + 2) S4 P4 D4 := pr_mv hp1 (by omega) (fun a ha => by rw [eS4, updS_ne (by omega), eS2, updS_ne (by omega)]) (fun a ha => by rw [eP4, clrP_ne (by omega), eP2, clrP_ne (by omega)]) (fun a ha => by rw [eD4, clrD_ne (by omega), eD2, clrD_ne (by omega)])
  have hw1 : S4 n = some (.inr (0, 4)) := fs4_1
  have hw2 : S4 (n + 1) = some (.inr (0, 4)) := fn5
  have hb2 := hp2.2.1.2.2.2.2.2.2.1.1
  refine V_aload h 508 7 rfl dL_law_506 rfl ?_
  refine V_bipush h 510 (v := 14) (by decide) dL_law_508 rfl ?_
  refine CVI h 513 (As := [.int (nI 14)]) (n_many (hp2.2.1.2.2.2.2.2).2.1 (hp2.2.1.2.2.2.2.2).2.2.1.1 (w := 14) (by decide)) rfl hb2 qL_L_36 qI_X5_many qS_X5_many qZ_X5 qC_X5_many hd_X5_many ⟨Nat.le_of_ble_eq_true rfl, Nat.le_of_ble_eq_true rfl⟩ (Nat.le_of_ble_eq_true rfl) rfl rfl dL_law_510 (by show kc + 2 ≤ 600104; omega) (by show ks + 8 ≤ 7301313; omega) (fun r6 D6 hq6 => ?_)
  obtain ⟨hD6, hr6⟩ := hq6
  have e6 : r6 = D4 (t + 2) 7 := by rw [hr6]; rfl
  rw [hD6, e6]
  refine V_istore h 515 [(8, .int (D4 (t + 2) 7)), (7, .ref (n + 1)), (6, .ref n), (5, .int (nI R)), (0, .ref bs), (1, .int (nI τ)), (2, .ref t), (3, .ref u), (4, .ref (t + 1))] (by decide) rfl dL_law_513 rfl ?_
  refine V_iconst h 516 (v := 0) (by decide) dL_law_515 rfl ?_
  refine V_istore h 518 [(9, .int 0), (8, .int (D4 (t + 2) 7)), (7, .ref (n + 1)), (6, .ref n), (5, .int (nI R)), (0, .ref bs), (1, .int (nI τ)), (2, .ref t), (3, .ref u), (4, .ref (t + 1))] (by decide) rfl dL_law_516 rfl ?_
  refine V_iconst h 519 (v := 0) (by decide) dL_law_518 rfl ?_
  refine V_istore h 521 [(10, .int 0), (9, .int 0), (8, .int (D4 (t + 2) 7)), (7, .ref (n + 1)), (6, .ref n), (5, .int (nI R)), (0, .ref bs), (1, .int (nI τ)), (2, .ref t), (3, .ref u), (4, .ref (t + 1))] (by decide) rfl dL_law_519 rfl ?_
  have LP : ∀ (kk0 i : Nat) (y9 y10 : Int32) (Di : mDt), i ≤ 4 → y10 = nI i → y9 = rsum (fun p => (daysD (t + 2) (rhoN 4) 4 (nI R) (D4, m, 0) (harvN dd)).1 (t + 2 + 6 + p) 14) i → prI t u bs (dr + 1) dru m dd c (n + 2) S4 P4 Di → (∀ a, t + 2 ≤ a → a < t + 22 → Di a = D4 a) → (∀ j, j < i → Di n j = (daysD (t + 2) (rhoN 4) 4 (nI R) (D4, m, 0) (harvN dd)).1 (t + 2 + 6 + j) 14) → (∀ j, j < i → Di (n + 1) j = D4 (t + 2 + 6 + j) 8) → 4 - i < kk0 → mV Γ Q (kc + 2 + 2 * i) (ks + 8 + 12 * i) (n + 2) S4 P4 Di E [(0, .ref bs), (1, .int (nI τ)), (2, .ref t), (3, .ref u), (4, .ref (t + 1)), (5, .int (nI R)), (6, .ref n), (7, .ref (n + 1)), (8, .int (D4 (t + 2) 7)), (9, .int y9), (10, .int y10)] [] 521 := by
    intro kk0
    induction kk0 with
    | zero => intro i y9 y10 Di _ _ _ _ _ _ _ hm; exact absurd hm (Nat.not_lt_zero _)
    | succ kk0 ih =>
      intro i y9 y10 Di hi e10 ey9 hpi hbi hW1 hW2 hm
      subst e10
      obtain ⟨K, eK⟩ : ∃ K, K = kc + 2 + 2 * i := ⟨_, rfl⟩
      obtain ⟨S, eS⟩ : ∃ S, S = ks + 8 + 12 * i := ⟨_, rfl⟩
      rw [← eK, ← eS]
      refine V_iload h 523 10 rfl dL_law_521 rfl ?_
      refine V_iconst h 524 (v := 4) (by decide) dL_law_523 rfl ?_
      refine V_icmp_ge h 571 527 dL_law_524 (by decide) rfl (fun c524 => ?_) (fun c524 => ?_)
      · have hi4 : i = 4 := by have := mGeB (i := i) (m := 4) c524 (by omega) (by decide); omega
        subst hi4
        have hXX : ∀ j, j < 4 → (daysD (t + 2) (rhoN 4) 4 (nI R) (Di, m, 0) (harvN dd)).1 (t + 2 + 6 + j) 14 = (daysD (t + 2) (rhoN 4) 4 (nI R) (D4, m, 0) (harvN dd)).1 (t + 2 + 6 + j) 14 := fun j hj => days_blk hp2.2.1.2.2.2.2.2.2.2.1.1.1 (fun a a1 a2 => hbi a a1 (by omega)) j (by omega) 14 (by decide) (by decide)
        have e9' : y9 = rsum (fun p => (daysD (t + 2) (rhoN 4) 4 (nI R) (Di, m, 0) (harvN dd)).1 (t + 2 + 6 + p) 14) 4 := by rw [ey9]; exact rsum_c2 (fun p hp => (hXX p hp).symm)
        rw [e9', show D4 (t + 2) 7 = Di (t + 2) 7 by rw [hbi _ (by omega) (by omega)]]
        refine V_lsub [(0, .ref bs), (1, .int (nI τ)), (2, .ref t), (3, .ref u), (4, .ref (t + 1)), (5, .int (nI R)), (6, .ref n), (7, .ref (n + 1)), (8, .int (Di (t + 2) 7)), (9, .int (rsum (fun p => (daysD (t + 2) (rhoN 4) 4 (nI R) (Di, m, 0) (harvN dd)).1 (t + 2 + 6 + p) 14) 4))] [0, 1, 2, 3, 4, 5, 6, 7, 8, 9] rfl ?_
        refine V_widen (kc + 10) (ks + 56) (by omega) (by omega) ?_
        exact kk R n _ _ _ Di _ hR (by omega) hw1 hw2 (fun j hj => by rw [hW1 j hj, hXX j hj]) (fun j hj => by rw [hW2 j hj, hbi _ (by omega) (by omega)]) hpi
      · have hi4 : i < 4 := mLtB (i := i) (m := 4) c524 (by omega)
        refine V_aload h 529 6 rfl dL_law_527 rfl ?_
        refine V_iload h 531 10 rfl dL_law_529 rfl ?_
        refine V_aload h 533 4 rfl dL_law_531 rfl ?_
        refine V_iload h 535 10 rfl dL_law_533 rfl ?_
        refine V_iload h 537 5 rfl dL_law_535 rfl ?_
        refine NVI h hX (K + 2) (S + 12) 540 (As := [.int (nI i), .int (nI R)]) (o_reap hst (hpi.2.1.2.2.2.2.2) hi4 hx) rfl hb2 qL_L_56 qI_X5_wouldReap qS_X5_wouldReap qZ_X5 qC_X5_wouldReap hd_X5_wouldReap ⟨Nat.le_of_ble_eq_true rfl, Nat.le_of_ble_eq_true rfl⟩ (Nat.le_of_ble_eq_true rfl) rfl rfl dL_law_537 ⟨by show K + 2 ≤ 600104; omega, by show S + 12 ≤ 7301313; omega⟩ rfl rfl (fun X9 hk => hk) (fun r7 D7 hq7 => ?_)
        obtain ⟨hr7, hf7⟩ := hq7
        have hpA := pr_askt hpi hf7
        refine V_iast h 541 i hw1 rfl (by omega) (by first | decide | omega) dL_law_540 rfl ?_
        obtain ⟨D8, eD8⟩ : ∃ zz, zz = upd2 D7 n i r7 := ⟨_, rfl⟩
        rw [← eD8]
        refine V_aload h 543 7 rfl dL_law_541 rfl ?_
        refine V_iload h 545 10 rfl dL_law_543 rfl ?_
        refine V_aload h 547 4 rfl dL_law_545 rfl ?_
        refine V_iload h 549 10 rfl dL_law_547 rfl ?_
        refine V_bipush h 551 (v := 6) (by decide) dL_law_549 rfl ?_
        have hpB : prI t u bs (dr + 1) dru m dd c (n + 2) S4 P4 D8 := by rw [eD8]; exact pr_out hpA (by omega)
        refine CVI h 554 (As := [.int (nI (rhoN 4 i)), .int (nI 6)]) (n_of (hpB.2.1.2.2.2.2.2).2.1 (hpB.2.1.2.2.2.2.2).2.2.1.1 (q := i) (w := 6) hi4 (by decide)) rfl hb2 qL_L_68 qI_X5_of qS_X5_of qZ_X5 qC_X5_of hd_X5_of ⟨Nat.le_of_ble_eq_true rfl, Nat.le_of_ble_eq_true rfl⟩ (Nat.le_of_ble_eq_true rfl) rfl (by rw [rho4 hi4]; rfl) dL_law_551 (by show K + 2 ≤ 600104; omega) (by show S + 12 ≤ 7301313; omega) (fun r9 D9 hq9 => ?_)
        obtain ⟨hD9, hr9⟩ := hq9
        have e9 : r9 = D8 (t + 2 + 6 + i) 8 := by rw [hr9]; show D8 (t + 2 + 6 + rhoN 4 i) 8 = _; rw [rho4 hi4]
        rw [hD9, e9]
        refine V_iast h 555 i hw2 rfl (by omega) (by first | decide | omega) dL_law_554 rfl ?_
        obtain ⟨D10, eD10⟩ : ∃ zz, zz = upd2 D8 (n + 1) i (D8 (t + 2 + 6 + i) 8) := ⟨_, rfl⟩
        rw [← eD10]
        refine V_iload h 557 9 rfl dL_law_555 rfl ?_
        refine V_aload h 559 6 rfl dL_law_557 rfl ?_
        refine V_iload h 561 10 rfl dL_law_559 rfl ?_
        refine V_iald h 562 i hw1 rfl (by omega) (by decide) dL_law_561 rfl ?_
        refine V_top (y := r7) (by rw [eD10, upd2_na (by omega), eD8, upd2_eq]) ?_
        refine V_iadd h 563 dL_law_562 rfl ?_
        refine V_istore h 565 [(9, .int (y9 + r7)), (0, .ref bs), (1, .int (nI τ)), (2, .ref t), (3, .ref u), (4, .ref (t + 1)), (5, .int (nI R)), (6, .ref n), (7, .ref (n + 1)), (8, .int (D4 (t + 2) 7)), (10, .int (nI i))] (by decide) rfl dL_law_563 rfl ?_
        refine V_iinc h 568 [(10, .int ((nI i) + 1)), (9, .int (y9 + r7)), (0, .ref bs), (1, .int (nI τ)), (2, .ref t), (3, .ref u), (4, .ref (t + 1)), (5, .int (nI R)), (6, .ref n), (7, .ref (n + 1)), (8, .int (D4 (t + 2) 7))] 10 rfl (by rfl) (by decide) rfl dL_law_565 rfl ?_
        refine V_goto h 521 dL_law_568 (by decide) ?_
        refine V_lsub [(0, .ref bs), (1, .int (nI τ)), (2, .ref t), (3, .ref u), (4, .ref (t + 1)), (5, .int (nI R)), (6, .ref n), (7, .ref (n + 1)), (8, .int (D4 (t + 2) 7)), (9, .int (y9 + r7)), (10, .int ((nI i) + 1))] [2, 3, 4, 5, 6, 7, 8, 9, 10, 1, 0] rfl ?_
        rw [show K + 2 = kc + 2 + 2 * (i + 1) by omega, show S + 12 = ks + 8 + 12 * (i + 1) by omega]
        have hX14 : r7 = (daysD (t + 2) (rhoN 4) 4 (nI R) (D4, m, 0) (harvN dd)).1 (t + 2 + 6 + i) 14 := by rw [hr7]; exact days_blk hp2.2.1.2.2.2.2.2.2.2.1.1.1 (fun a a1 a2 => hbi a a1 (by omega)) i (by omega) 14 (by decide) (by decide)
        have hfin : ∀ a, t + 2 ≤ a → a < t + 22 → D10 a = D4 a := fun a a1 a2 => by rw [eD10, upd2_ra (by omega), eD8, upd2_ra (by omega), hf7.1 a (by omega), hbi a a1 a2]
        refine ih (i + 1) _ _ _ (by omega) (nI_1 i) ?_ ?_ hfin (fun j hj => ?_) (fun j hj => ?_) (by omega)
        · rw [rsum, ← ey9, ← hX14]
        · rw [eD10]; exact pr_out hpB (by omega)
        · rw [eD10, upd2_ra (by omega), eD8]
          by_cases q : j = i
          · subst q; rw [upd2_eq]; exact hX14
          · rw [upd2_nk q, hf7.1 _ (by omega)]; exact hW1 j (by omega)
        · rw [eD10]
          by_cases q : j = i
          · subst q
            rw [upd2_eq, eD8, upd2_ra (by omega), hf7.1 _ (by omega), hbi _ (by omega) (by omega)]
          · rw [upd2_nk q, eD8, upd2_ra (by omega), hf7.1 _ (by omega)]; exact hW2 j (by omega)
  refine V_lsub [(0, .ref bs), (1, .int (nI τ)), (2, .ref t), (3, .ref u), (4, .ref (t + 1)), (5, .int (nI R)), (6, .ref n), (7, .ref (n + 1)), (8, .int (D4 (t + 2) 7)), (9, .int 0), (10, .int (nI 0))] [6, 7, 8, 9, 10, 5, 4, 3, 2, 1, 0] rfl ?_
  exact LP _ 0 _ _ D4 (by omega) rfl rfl hp2 (fun _ _ _ => rfl) (fun j hj => absurd hj (by omega)) (fun j hj => absurd hj (by omega)) (Nat.lt_succ_self _)

end LWE
