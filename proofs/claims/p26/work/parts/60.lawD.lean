/-! the law: days go by, at once and one by one -/
section D3
variable {o L m k : Nat} {ρ : Nat → Nat} {D : mDt} {x : Int32}
theorem day_c3 (hW : cW o L ρ m k D) : (dayD o ρ L x (D, m, k)).1 (o + 1) 3 = D (o + 1) 3 := by
  have hρ : ∀ p, p < L → ρ p < 10 := fun p hp => (hW.1.2.2 p hp).1
  have hB : dayB o ρ L x m D (o + 1) = dayA o x D (o + 1) := by
    rw [dayB, mapD_row (by omega) hρ, wtrD_row (by omega) hρ (cW_dayA (x := x) hW).2.2.2.1]
  have hC : (dayC o ρ L k (dayB o ρ L x m D)).1 (o + 1) = dayB o ρ L x m D (o + 1) := by
    unfold dayC
    split
    · show dayH o ρ L k (dayB o ρ L x m D) (o + 1) = _
      rw [dayH, upd2_ra (by omega), dsD_row (m := k) (by omega) (cW_dayR (cW_dayB (x := x) hW)).2.2.2.2.2 (Nat.le_refl _), dayR, upd2_ra (by omega), mapD_row (by omega) hρ]
    · rfl
  have hE : ∀ (m : Nat) (X : mDt), (dayE o m X).1 (o + 1) = X (o + 1) := fun m X => by
    unfold dayE
    split
    · show shortD o m X (o + 1) = _
      rw [shortD, upd2_ra (by omega), setRow_ne (by omega)]
    · rfl
  show (dayE o m (dayC o ρ L k (dayB o ρ L x m D)).1).1 (o + 1) 3 = _
  rw [hE, hC, hB]
  unfold dayA chDayD
  split
  · rw [upd2_nk (by decide), upd2_na (by omega)]
  · rw [upd2_nk (by decide), upd2_nk (by decide), upd2_na (by omega)]
theorem days_c3 (hW : cW o L ρ m k D) : ∀ n, (daysD o ρ L x (D, m, k) n).1 (o + 1) 3 = D (o + 1) 3 := by
  intro n
  induction n with
  | zero => rfl
  | succ n ih =>
    have w1 := cW_days (x := x) (q := (D, m, k)) hW n
    exact (day_c3 (x := x) w1).trans ih
end D3
/-- an oasis i days on -/
theorem oI_days {t m dd c n i : Nat} {sh : mSh} {P : mPt} {D : mDt} {x : Int32} (h : oI t m dd c n sh P D) (hc : c ≤ 600) (hi : dd + i ≤ 2000) : oI t (daysD (t + 2) (rhoN 4) 4 x (D, m, 0) i).2.1 (dd + i) c n sh P (daysD (t + 2) (rhoN 4) 4 x (D, m, 0) i).1 ∧ daysD (t + 2) (rhoN 4) 4 x (D, m, 0) i = ((daysD (t + 2) (rhoN 4) 4 x (D, m, 0) i).1, (daysD (t + 2) (rhoN 4) 4 x (D, m, 0) i).2.1, 0) := by
  have k0 : ∀ n, (daysD (t + 2) (rhoN 4) 4 x (D, m, 0) n).2.2 = 0 := fun n => by
    induction n with
    | zero => rfl
    | succ n ih => exact dayD_k0 ih
  have g := gI_days (x := x) h.2.2.1 hc i hi
  rw [k0 i] at g
  exact ⟨oI_tell h g (fun a a1 a2 => days_outD h.2.2.1.1.1 (by omega) i), Prod.ext rfl (Prod.ext rfl (k0 i))⟩
section LWD
variable {Γ : mC} {κ : mKp} {Q : State → Prop} {kc ks n : Nat} {sh : mSh} {P : mPt} {D : mDt} {E : mEt} {bs Ls : Nat} {xs : Nat → Int32}
set_option maxRecDepth 100000 in
set_option maxHeartbeats 4000000 in
theorem law_B5 (h : mOk Γ κ RL cL_law 25 (Option.some Jvm.ClassFile.FieldType.boolean) { frames := 13, cells := 600104, slots := 7301313, locals := 486 }) (hX : mOkS Γ bs Ls xs) (hst : κ.1.stackTraces = false) (hLs : Ls < 2 ^ 31) {τ t u dr dru m dd c a b r d pm w jb v : Nat} {y5 y14 : Int32} (hp : prI t u bs dr dru m dd c n sh P D) (hz3 : D (t + 2 + 1) 3 = 0) (hc : c ≤ 500) (hdd : dd ≤ 1000) (ha : a < 4) (hr : r < 60) (hd1 : 1 ≤ d) (hd2 : d ≤ 9) (hjb : jb ≤ 20) (hv : v ≤ 1980) (h14 : y14 = (daysD (t + 2) (rhoN 4) 4 (nI r) (D, m, 0) d).1 (t + 2 + 6 + a) 13 - D (t + 2 + 6 + a) 13) (hkc : kc + 20 ≤ 600104) (hks : ks + 120 ≤ 7301313) (kk : ∀ m' D', prI t u bs dr dru m' (dd + d) c n sh P D' → D' (t + 2 + 1) 3 = 0 → mV Γ Q (kc + 20) (ks + 120) n sh P D' E [(0, .ref bs), (1, .int (nI τ)), (2, .ref t), (3, .ref u), (4, .ref (t + 1)), (5, .int y5)] [] 482) : mV Γ Q kc ks n sh P D E [(0, .ref bs), (1, .int (nI τ)), (2, .ref t), (3, .ref u), (4, .ref (t + 1)), (5, .int y5), (6, .int (nI a)), (7, .int (nI b)), (8, .int (nI r)), (9, .int (nI d)), (10, .int (nI pm)), (11, .int (nI w)), (14, .int y14), (15, .int (nI jb)), (18, .int (nI v))] [] 370 := by
  have ht := hp.2.1.2.1
  have hu := hp.2.2.1.2.1
  have hpt := hp.2.1.2.2.1
  have hpu := hp.2.2.1.2.2.1
  have hbt := hp.2.1.2.2.2.2.2.2.1.1
  have hbu := hp.2.2.1.2.2.2.2.2.2.1.1
  have htu := hp.1
  have ht := hp.2.1.2.1
  have hu := hp.2.2.1.2.1
  have hpt := hp.2.1.2.2.1
  have hpu := hp.2.2.1.2.2.1
  have hbt := hp.2.1.2.2.2.2.2.2.1.1
  have hbu := hp.2.2.1.2.2.2.2.2.2.1.1
  have htu := hp.1
  have hx : wP (nI r) 0 99 := wP_n (a := 0) (b := 99) (by omega) (by omega) (by decide)
  refine V_aload h 372 4 rfl dL_law_370 rfl ?_
  refine V_iload h 374 6 rfl dL_law_372 rfl ?_
  refine V_bipush h 376 (v := 13) (by decide) dL_law_374 rfl ?_
  refine CVI h 379 (As := [.int (nI (rhoN 4 a)), .int (nI 13)]) (n_of hp.2.1.2.2.2.2.2.2.1 hp.2.1.2.2.2.2.2.2.2.1.1 (q := a) (w := 13) ha (by decide)) rfl hbt qL_L_68 qI_X5_of qS_X5_of qZ_X5 qC_X5_of hd_X5_of ⟨Nat.le_of_ble_eq_true rfl, Nat.le_of_ble_eq_true rfl⟩ (Nat.le_of_ble_eq_true rfl) rfl (by rw [rho4 ha]; rfl) dL_law_376 (by show kc ≤ 600104; omega) (by show ks ≤ 7301313; omega) (fun r1 D1 hq1 => ?_)
  obtain ⟨hD1, hr1⟩ := hq1
  have e1 : r1 = D (t + 2 + 6 + a) 13 := by rw [hr1]; show D (t + 2 + 6 + rhoN 4 a) 13 = _; rw [rho4 ha]
  rw [hD1, e1]
  refine V_istore h 381 [(21, .int (D (t + 2 + 6 + a) 13)), (0, .ref bs), (1, .int (nI τ)), (2, .ref t), (3, .ref u), (4, .ref (t + 1)), (5, .int y5), (6, .int (nI a)), (7, .int (nI b)), (8, .int (nI r)), (9, .int (nI d)), (10, .int (nI pm)), (11, .int (nI w)), (14, .int y14), (15, .int (nI jb)), (18, .int (nI v))] (by decide) rfl dL_law_379 rfl ?_
  refine V_aload h 383 5 rfl dL_law_381 rfl ?_
  refine V_iload h 385 9 rfl dL_law_383 rfl ?_
  refine V_iload h 387 10 rfl dL_law_385 rfl ?_
  refine NVI h hX (kc + 2) (ks + 12) 390 (As := [.int (nI r), .int (nI d)]) (o_pass hst hp.2.1.2.2.2.2.2 (d := d) hd1 (by omega) (by omega) hx) rfl hbt qL_L_71 qI_X5_pass qS_X5_pass qZ_X5 qC_X5_pass hd_X5_pass ⟨Nat.le_of_ble_eq_true rfl, Nat.le_of_ble_eq_true rfl⟩ (Nat.le_of_ble_eq_true rfl) rfl rfl dL_law_387 ⟨by show kc + 2 ≤ 600104; omega, by show ks + 12 ≤ 7301313; omega⟩ rfl rfl (fun X9 hk => hk) (fun r2 D2 hq2 => ?_)
  obtain ⟨hr2, hD1⟩ := hq2
  rw [hr2]
  have f1 : ∀ x, (x < t + 2 ∨ t + 22 ≤ x) → D2 x = D x := fun x hx => by rw [hD1]; exact days_outD hp.2.1.2.2.2.2.2.2.2.1.1.1 (by omega) d
  have hu1 := tdI_fr hp.2.2.1 (D' := D2) (fun x a1 a2 => f1 x (by omega))
  refine V_istore h 392 [(22, .int (daysS (t + 2) (rhoN 4) 4 (nI r) (D, m, 0) d)), (21, .int (D (t + 2 + 6 + a) 13)), (0, .ref bs), (1, .int (nI τ)), (2, .ref t), (3, .ref u), (4, .ref (t + 1)), (5, .int y5), (6, .int (nI a)), (7, .int (nI b)), (8, .int (nI r)), (9, .int (nI d)), (10, .int (nI pm)), (11, .int (nI w)), (14, .int y14), (15, .int (nI jb)), (18, .int (nI v))] (by decide) rfl dL_law_390 rfl ?_
  refine V_iconst h 393 (v := 0) (by decide) dL_law_392 rfl ?_
  refine V_istore h 395 [(23, .int 0), (22, .int (daysS (t + 2) (rhoN 4) 4 (nI r) (D, m, 0) d)), (21, .int (D (t + 2 + 6 + a) 13)), (0, .ref bs), (1, .int (nI τ)), (2, .ref t), (3, .ref u), (4, .ref (t + 1)), (5, .int y5), (6, .int (nI a)), (7, .int (nI b)), (8, .int (nI r)), (9, .int (nI d)), (10, .int (nI pm)), (11, .int (nI w)), (14, .int y14), (15, .int (nI jb)), (18, .int (nI v))] (by decide) rfl dL_law_393 rfl ?_
  refine V_iconst h 396 (v := 0) (by decide) dL_law_395 rfl ?_
  refine V_istore h 398 [(24, .int 0), (23, .int 0), (22, .int (daysS (t + 2) (rhoN 4) 4 (nI r) (D, m, 0) d)), (21, .int (D (t + 2 + 6 + a) 13)), (0, .ref bs), (1, .int (nI τ)), (2, .ref t), (3, .ref u), (4, .ref (t + 1)), (5, .int y5), (6, .int (nI a)), (7, .int (nI b)), (8, .int (nI r)), (9, .int (nI d)), (10, .int (nI pm)), (11, .int (nI w)), (14, .int y14), (15, .int (nI jb)), (18, .int (nI v))] (by decide) rfl dL_law_396 rfl ?_
  have LP : ∀ (kk0 : Nat) (i : Nat) (y23 y24 : Int32) (Di : mDt), i ≤ d → y24 = nI i → y23 = daysS (u + 2) (rhoN 4) 4 (nI r) (D2, m, 0) i → Di = (daysD (u + 2) (rhoN 4) 4 (nI r) (D2, m, 0) i).1 → d - i < kk0 → mV Γ Q (kc + 2 + 2 * i) (ks + 12 + 12 * i) n sh P Di E [(0, .ref bs), (1, .int (nI τ)), (2, .ref t), (3, .ref u), (4, .ref (t + 1)), (5, .int y5), (6, .int (nI a)), (8, .int (nI r)), (9, .int (nI d)), (14, .int y14), (15, .int (nI jb)), (18, .int (nI v)), (21, .int (D (t + 2 + 6 + a) 13)), (22, .int (daysS (t + 2) (rhoN 4) 4 (nI r) (D, m, 0) d)), (23, .int y23), (24, .int y24)] [] 398 := by
    intro kk0
    induction kk0 with
    | zero => intro i y23 y24 Di _ _ _ _ hm; exact absurd hm (Nat.not_lt_zero _)
    | succ kk0 ih =>
      intro i y23 y24 Di hi e24 e23 eDi hm
      subst e24
      obtain ⟨K, eK⟩ : ∃ K, K = kc + 2 + 2 * i := ⟨_, rfl⟩
      obtain ⟨S, eS⟩ : ∃ S, S = ks + 12 + 12 * i := ⟨_, rfl⟩
      rw [← eK, ← eS]
      refine V_iload h 400 15 rfl dL_law_398 rfl ?_
      refine V_iload h 402 8 rfl dL_law_400 rfl ?_
      refine V_icmp_ge h 426 405 dL_law_402 (by decide) rfl (fun c402 => ?_) (fun c402 => ?_)
      · have hid : i = d := by have := mGeB (i := i) (m := d) c402 (by omega) (by omega); omega
        subst hid
        obtain ⟨hsum, hpF, -⟩ := pr_pass hp (by omega) (by omega) hD1 eDi
        obtain ⟨DF, eDF⟩ : ∃ z, z = Di := ⟨_, rfl⟩
        rw [← eDF] at hpF eDi ⊢
        have hcame : DF (t + 2 + 6 + a) 13 = D (t + 2 + 6 + a) 13 + y14 := by
          rw [h14, i_as, eDi, days_outD hu1.2.2.2.2.2.2.2.1.1.1 (by omega) _, hD1]
        refine V_iload h 428 13 rfl dL_law_426 rfl ?_
        refine V_iload h 430 14 rfl dL_law_428 rfl ?_
        refine V_icmp_ne h 466 433 dL_law_430 (by decide) rfl (fun c430 => absurd (by rw [e23]; exact hsum.symm) c430) (fun c430 => ?_)
        refine V_aload h 435 4 rfl dL_law_433 rfl ?_
        refine V_iload h 437 6 rfl dL_law_435 rfl ?_
        refine V_bipush h 439 (v := 13) (by decide) dL_law_437 rfl ?_
        refine CVI h 442 (As := [.int (nI (rhoN 4 a)), .int (nI 13)]) (n_of hpF.2.1.2.2.2.2.2.2.1 hpF.2.1.2.2.2.2.2.2.2.1.1 (q := a) (w := 13) ha (by decide)) rfl hbt qL_L_68 qI_X5_of qS_X5_of qZ_X5 qC_X5_of hd_X5_of ⟨Nat.le_of_ble_eq_true rfl, Nat.le_of_ble_eq_true rfl⟩ (Nat.le_of_ble_eq_true rfl) rfl (by rw [rho4 ha]; rfl) dL_law_439 (by show K ≤ 600104; omega) (by show S ≤ 7301313; omega) (fun r4 D4 hq4 => ?_)
        obtain ⟨hD4, hr4⟩ := hq4
        have e4 : r4 = DF (t + 2 + 6 + a) 13 := by rw [hr4]; show DF (t + 2 + 6 + rhoN 4 a) 13 = _; rw [rho4 ha]
        rw [hD4, e4]
        refine V_iload h 444 12 rfl dL_law_442 rfl ?_
        refine V_iload h 446 9 rfl dL_law_444 rfl ?_
        refine V_iadd h 447 dL_law_446 rfl ?_
        refine V_icmp_ne h 466 450 dL_law_447 (by decide) rfl (fun c447 => absurd hcame c447) (fun c447 => ?_)
        refine V_aload h 452 4 rfl dL_law_450 rfl ?_
        refine CVL h 455 (As := []) (o_digest hpF.2.1.2.2.2.2.2) rfl hbt qL_L_42 qI_X5_digest qS_X5_digest qZ_X5 qC_X5_digest hd_X5_digest ⟨Nat.le_of_ble_eq_true rfl, Nat.le_of_ble_eq_true rfl⟩ (Nat.le_of_ble_eq_true rfl) rfl rfl dL_law_452 (by show K ≤ 600104; omega) (by show S ≤ 7301313; omega) (fun r5 D5 hq5 => ?_)
        obtain ⟨hr5, hf5⟩ := hq5
        have hpa := pr_askt hpF hf5
        refine V_aload_n h 456 3 rfl dL_law_455 rfl ?_
        refine g_L_14 h 459 (b := u + 1) hu hpu dL_law_456 rfl ?_
        refine CVL h 462 (As := []) (o_digest hpa.2.2.1.2.2.2.2.2) rfl hbu qL_L_42 qI_X5_digest qS_X5_digest qZ_X5 qC_X5_digest hd_X5_digest ⟨Nat.le_of_ble_eq_true rfl, Nat.le_of_ble_eq_true rfl⟩ (Nat.le_of_ble_eq_true rfl) rfl rfl dL_law_459 (by show K ≤ 600104; omega) (by show S ≤ 7301313; omega) (fun r6 D6 hq6 => ?_)
        obtain ⟨hr6, hf6⟩ := hq6
        have hpb := pr_asku hpa hf6
        have e9 : r6 = r5 := isDig_eq hpF.2.1.2.2.2.2.2.2.2.1.1 hpa.2.2.1.2.2.2.2.2.2.2.1.1 (ev_trans (ev_blk (fun a a1 a2 => hf5.1 a (by omega))) hpa.2.2.2) hr5 hr6
        refine V_lcmp h 463 dL_law_462 rfl ?_
        refine V_top (y := 0) (by rw [e9]; exact lg_cmp_0) ?_
        refine V_if_eq h 468 466 dL_law_463 (by decide) rfl (fun c463 => ?_) (fun c463 => absurd rfl c463)
        refine V_iload h 470 10 rfl dL_law_468 rfl ?_
        refine V_bipush h 472 (v := 20) (by decide) dL_law_470 rfl ?_
        refine V_icmp_gt h 480 475 dL_law_472 (by decide) rfl (fun c => absurd c (nI_nlt (a := 20) (b := jb) hjb (by decide))) (fun _ => ?_)
        refine V_iload h 477 11 rfl dL_law_475 rfl ?_
        refine V_if_ge h 482 480 dL_law_477 (by decide) rfl (fun _ => ?_) (fun c => absurd (nI_pos' (by omega)) c)
        refine V_lsub [(0, .ref bs), (1, .int (nI τ)), (2, .ref t), (3, .ref u), (4, .ref (t + 1)), (5, .int y5)] [0, 1, 2, 3, 4, 5] rfl ?_
        refine V_widen (kc + 20) (ks + 120) (by omega) (by omega) ?_
        refine kk _ _ hpb ?_
        rw [hf6.1 _ (by omega), hf5.1 _ (by omega), eDi, days_outD hu1.2.2.2.2.2.2.2.1.1.1 (by omega) _, hD1, days_c3 hp.2.1.2.2.2.2.2.2.2.1.1.1]
        exact hz3
      · have hid : i < d := mLtB (i := i) (m := d) c402 (by omega)
        obtain ⟨hOi, eqi⟩ := oI_days (x := nI r) (i := i) hu1.2.2.2.2.2 (by omega) (by omega)
        have hOi : oI u _ (dd + i) c n sh P Di ∧ True := ⟨by rw [eDi]; exact hOi, trivial⟩
        refine V_iload h 407 14 rfl dL_law_405 rfl ?_
        refine V_aload_n h 408 3 rfl dL_law_407 rfl ?_
        refine g_L_14 h 411 (b := u + 1) hu hpu dL_law_408 rfl ?_
        refine V_iload h 413 7 rfl dL_law_411 rfl ?_
        refine V_iconst h 414 (v := 1) (by decide) dL_law_413 rfl ?_
        refine NVI h hX (K + 2) (S + 12) 417 (As := [.int (nI r), .int (nI 1)]) (o_pass hst hOi.1 (d := 1) (by decide) (by decide) (by omega) hx) rfl hbu qL_L_71 qI_X5_pass qS_X5_pass qZ_X5 qC_X5_pass hd_X5_pass ⟨Nat.le_of_ble_eq_true rfl, Nat.le_of_ble_eq_true rfl⟩ (Nat.le_of_ble_eq_true rfl) rfl rfl dL_law_414 ⟨by show K + 2 ≤ 600104; omega, by show S + 12 ≤ 7301313; omega⟩ rfl rfl (fun X9 hk => hk) (fun r3 D3 hq3 => ?_)
        obtain ⟨hr3, hD3⟩ := hq3
        refine V_iadd h 418 dL_law_417 rfl ?_
        refine V_istore h 420 [(23, .int (y23 + r3)), (0, .ref bs), (1, .int (nI τ)), (2, .ref t), (3, .ref u), (4, .ref (t + 1)), (5, .int y5), (6, .int (nI a)), (8, .int (nI r)), (9, .int (nI d)), (14, .int y14), (15, .int (nI jb)), (18, .int (nI v)), (21, .int (D (t + 2 + 6 + a) 13)), (22, .int (daysS (t + 2) (rhoN 4) 4 (nI r) (D, m, 0) d)), (24, .int (nI i))] (by decide) rfl dL_law_418 rfl ?_
        refine V_iinc h 423 [(24, .int ((nI i) + 1)), (23, .int (y23 + r3)), (0, .ref bs), (1, .int (nI τ)), (2, .ref t), (3, .ref u), (4, .ref (t + 1)), (5, .int y5), (6, .int (nI a)), (8, .int (nI r)), (9, .int (nI d)), (14, .int y14), (15, .int (nI jb)), (18, .int (nI v)), (21, .int (D (t + 2 + 6 + a) 13)), (22, .int (daysS (t + 2) (rhoN 4) 4 (nI r) (D, m, 0) d))] 15 rfl (by rfl) (by decide) rfl dL_law_420 rfl ?_
        refine V_goto h 398 dL_law_423 (by decide) ?_
        refine V_lsub [(0, .ref bs), (1, .int (nI τ)), (2, .ref t), (3, .ref u), (4, .ref (t + 1)), (5, .int y5), (6, .int (nI a)), (8, .int (nI r)), (9, .int (nI d)), (14, .int y14), (15, .int (nI jb)), (18, .int (nI v)), (21, .int (D (t + 2 + 6 + a) 13)), (22, .int (daysS (t + 2) (rhoN 4) 4 (nI r) (D, m, 0) d)), (23, .int (y23 + r3)), (24, .int ((nI i) + 1))] [2, 3, 4, 5, 6, 7, 8, 9, 10, 11, 12, 13, 14, 15, 1, 0] rfl ?_
        rw [show K + 2 = kc + 2 + 2 * (i + 1) by omega, show S + 12 = ks + 12 + 12 * (i + 1) by omega]
        refine ih (i + 1) _ _ _ (by omega) (nI_1 i) ?_ ?_ (by omega)
        · rw [e23, hr3]
          show _ + daysS (u + 2) (rhoN 4) 4 (nI r) (Di, _, 0) 1 = daysS (u + 2) (rhoN 4) 4 (nI r) (D2, m, 0) i + dayS (u + 2) (rhoN 4) 4 (nI r) (daysD (u + 2) (rhoN 4) 4 (nI r) (D2, m, 0) i)
          rw [eDi, ← eqi]
          show _ + (0 + dayS _ _ _ _ _) = _
          rw [Int32.zero_add]
          rfl
        · rw [hD3]
          show (dayD (u + 2) (rhoN 4) 4 (nI r) (Di, _, 0)).1 = (dayD (u + 2) (rhoN 4) 4 (nI r) (daysD (u + 2) (rhoN 4) 4 (nI r) (D2, m, 0) i)).1
          rw [eDi, ← eqi]
  refine V_lsub [(0, .ref bs), (1, .int (nI τ)), (2, .ref t), (3, .ref u), (4, .ref (t + 1)), (5, .int y5), (6, .int (nI a)), (8, .int (nI r)), (9, .int (nI d)), (14, .int y14), (15, .int (nI jb)), (18, .int (nI v)), (21, .int (D (t + 2 + 6 + a) 13)), (22, .int (daysS (t + 2) (rhoN 4) 4 (nI r) (D, m, 0) d)), (23, .int 0), (24, .int (nI 0))] [4, 5, 6, 7, 8, 9, 10, 12, 13, 16, 17, 18, 3, 2, 1, 0] rfl ?_
  exact LP _ 0 _ _ D2 (by omega) rfl rfl rfl (Nat.lt_succ_self _)

end LWD
