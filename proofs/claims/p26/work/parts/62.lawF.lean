/-! the law: the harvest comes as it was said; isBest; three times -/
section LWF
variable {Γ : mC} {κ : mKp} {Q : State → Prop} {kc ks n : Nat} {sh : mSh} {P : mPt} {D : mDt} {E : mEt} {bs Ls : Nat} {xs : Nat → Int32}
set_option maxRecDepth 100000 in
set_option maxHeartbeats 4000000 in
theorem law_C2 (h : mOk Γ κ RL cL_law 25 (Option.some Jvm.ClassFile.FieldType.boolean) { frames := 13, cells := 600104, slots := 7301313, locals := 486 }) (hX : mOkS Γ bs Ls xs) (hst : κ.1.stackTraces = false) (hLs : Ls < 2 ^ 31) {τ t u dr dru m dd c R W : Nat} (hτ : τ < 1000) (hp : prI t u bs dr dru m dd c n sh P D) (hc : c ≤ 500) (hdd : dd ≤ 1000) (hR : R < 50) (hW : u + 62 ≤ W) (hs1 : sh W = some (.inr (0, 4))) (hs2 : sh (W + 1) = some (.inr (0, 4))) (hA : ∀ j, j < 4 → D W j = (daysD (t + 2) (rhoN 4) 4 (nI R) (D, m, 0) (harvN dd)).1 (t + 2 + 6 + j) 14) (hB : ∀ j, j < 4 → D (W + 1) j = D (t + 2 + 6 + j) 8) (hkc : kc + 302 ≤ 600104) (hks : ks + 34012 ≤ 7301313) (kk : ∀ n' sh' P' D' E', mV Γ Q (kc + 302) (ks + 34012) n' sh' P' D' E' [(0, .ref bs), (1, .int (nI τ))] [] 690) : mV Γ Q kc ks n sh P D E [(0, .ref bs), (1, .int (nI τ)), (2, .ref t), (3, .ref u), (4, .ref (t + 1)), (5, .int (nI R)), (6, .ref W), (7, .ref (W + 1)), (8, .int (D (t + 2) 7)), (9, .int (rsum (fun p => (daysD (t + 2) (rhoN 4) 4 (nI R) (D, m, 0) (harvN dd)).1 (t + 2 + 6 + p) 14) 4))] [] 571 := by
  have ht := hp.2.1.2.1
  have hu := hp.2.2.1.2.1
  have hpt := hp.2.1.2.2.1
  have hpu := hp.2.2.1.2.2.1
  have hbt := hp.2.1.2.2.2.2.2.2.1.1
  have hbu := hp.2.2.1.2.2.2.2.2.2.1.1
  have htu := hp.1
  have hx : wP (nI R) 0 99 := wP_n (a := 0) (b := 99) (by omega) (by omega) (by decide)
  have hO := hp.2.1.2.2.2.2.2
  have h70 : dd % 70 < 70 := Nat.mod_lt _ (by decide)
  refine V_sipush h 574 (v := 130) (by decide) dL_law_571 rfl ?_
  refine V_aload h 576 4 rfl dL_law_574 rfl ?_
  refine V_iconst h 577 (v := 1) (by decide) dL_law_576 rfl ?_
  refine CVI h 580 (As := [.int (nI 1)]) (n_many hO.2.1 hO.2.2.1.1 (w := 1) (by decide)) rfl hbt qL_L_36 qI_X5_many qS_X5_many qZ_X5 qC_X5_many hd_X5_many ⟨Nat.le_of_ble_eq_true rfl, Nat.le_of_ble_eq_true rfl⟩ (Nat.le_of_ble_eq_true rfl) rfl rfl dL_law_577 (by show kc ≤ 600104; omega) (by show ks ≤ 7301313; omega) (fun r1 D1 hq1 => ?_)
  obtain ⟨hD1, hr1⟩ := hq1
  have e1 : r1 = nI (dd % 70) := by rw [hr1]; show rm70 (D (t + 2) 4) = _; rw [gI4 hO.2.2.1]; exact rm70_nI (by omega)
  rw [hD1, e1]
  refine V_isub h 581 dL_law_580 rfl ?_
  refine V_top (y := nI (130 - dd % 70)) (by rw [show (130 : Int32) = nI 130 from rfl, nI_sub (by omega)]) ?_
  refine V_istore h 583 [(10, .int (nI (130 - dd % 70))), (0, .ref bs), (1, .int (nI τ)), (2, .ref t), (3, .ref u), (4, .ref (t + 1)), (5, .int (nI R)), (6, .ref W), (7, .ref (W + 1)), (8, .int (D (t + 2) 7)), (9, .int (rsum (fun p => (daysD (t + 2) (rhoN 4) 4 (nI R) (D, m, 0) (harvN dd)).1 (t + 2 + 6 + p) 14) 4))] (by decide) rfl dL_law_581 rfl ?_
  have K602 : mV Γ Q kc ks n sh P D E [(11, .int (nI (harvN dd))), (10, .int (nI (130 - dd % 70))), (0, .ref bs), (1, .int (nI τ)), (2, .ref t), (3, .ref u), (4, .ref (t + 1)), (5, .int (nI R)), (6, .ref W), (7, .ref (W + 1)), (8, .int (D (t + 2) 7)), (9, .int (rsum (fun p => (daysD (t + 2) (rhoN 4) 4 (nI R) (D, m, 0) (harvN dd)).1 (t + 2 + 6 + p) 14) 4))] [] 602 := by
    refine V_aload h 604 6 rfl dL_law_602 rfl ?_
    refine V_iload h 606 7 rfl dL_law_604 rfl ?_
    refine V_iload h 608 0 rfl dL_law_606 rfl ?_
    refine NVI h hX (kc + 2) (ks + 12) 611 (As := [.int (nI R), .int (nI (harvN dd))]) (o_pass hst hO (d := harvN dd) (harvN_le dd).1 (harvN_le dd).2 (by have := (harvN_le dd).2; omega) hx) rfl hbt qL_L_71 qI_X5_pass qS_X5_pass qZ_X5 qC_X5_pass hd_X5_pass ⟨Nat.le_of_ble_eq_true rfl, Nat.le_of_ble_eq_true rfl⟩ (Nat.le_of_ble_eq_true rfl) rfl rfl dL_law_608 ⟨by show kc + 2 ≤ 600104; omega, by show ks + 12 ≤ 7301313; omega⟩ rfl rfl (fun X9 hk => hk) (fun r2 D2 hq2 => ?_)
    obtain ⟨hr2, hD1⟩ := hq2
    obtain ⟨hO1, -⟩ := oI_days (x := nI R) (i := harvN dd) hO (by omega) (by have := (harvN_le dd).2; omega)
    rw [← hD1] at hO1
    obtain ⟨th1, th2, -, th4⟩ := to_harv (x := nI R) hO.2.2.1 (by omega) (by have := (harvN_le dd).2; omega)
    rw [← hD1] at th1 th2
    have hb1 := hO1.2.1.1
    have hW1 : ∀ j, j < 4 → D2 W j = D2 (t + 2 + 6 + j) 14 := fun j hj => by rw [hD1, days_outD hO.2.2.1.1.1 (by omega) _]; exact hA j hj
    have hW2 : ∀ j, j < 4 → D2 (W + 1) j = D (t + 2 + 6 + j) 8 := fun j hj => by rw [hD1, days_outD hO.2.2.1.1.1 (by omega) _]; exact hB j hj
    have th3 : rsum (fun p => (daysD (t + 2) (rhoN 4) 4 (nI R) (D, m, 0) (harvN dd)).1 (t + 2 + 6 + p) 14) 4 = rsum (fun p => D2 (t + 2 + 6 + rhoN 4 p) 14) 4 := by rw [← hD1]; exact rsum_c2 (fun p hp => by show _ = D2 (t + 2 + 6 + rhoN 4 p) 14; rw [rho4 hp])
    refine V_pop h 612 rfl dL_law_611 rfl ?_
    refine V_aload h 614 6 rfl dL_law_612 rfl ?_
    refine V_iconst h 615 (v := 1) (by decide) dL_law_614 rfl ?_
    refine CVI h 618 (As := [.int (nI 1)]) (n_many hO1.2.1 hO1.2.2.1.1 (w := 1) (by decide)) rfl hb1 qL_L_36 qI_X5_many qS_X5_many qZ_X5 qC_X5_many hd_X5_many ⟨Nat.le_of_ble_eq_true rfl, Nat.le_of_ble_eq_true rfl⟩ (Nat.le_of_ble_eq_true rfl) rfl rfl dL_law_615 (by show kc + 2 ≤ 600104; omega) (by show ks + 12 ≤ 7301313; omega) (fun r3 D3 hq3 => ?_)
    obtain ⟨hD3, hr3⟩ := hq3
    have e3 : r3 = nI 60 := by rw [hr3]; show rm70 (D2 (t + 2) 4) = _; rw [gI4 hO1.2.2.1, rm70_nI (by have := (harvN_le dd).2; omega), th4]
    rw [hD3, e3]
    refine V_bipush h 620 (v := 60) (by decide) dL_law_618 rfl ?_
    refine V_icmp_ne h 638 623 dL_law_620 (by decide) rfl (fun c620 => absurd rfl c620) (fun c620 => ?_)
    refine V_aload h 625 6 rfl dL_law_623 rfl ?_
    refine V_bipush h 627 (v := 14) (by decide) dL_law_625 rfl ?_
    refine CVI h 630 (As := [.int (nI 14)]) (n_many hO1.2.1 hO1.2.2.1.1 (w := 14) (by decide)) rfl hb1 qL_L_36 qI_X5_many qS_X5_many qZ_X5 qC_X5_many hd_X5_many ⟨Nat.le_of_ble_eq_true rfl, Nat.le_of_ble_eq_true rfl⟩ (Nat.le_of_ble_eq_true rfl) rfl rfl dL_law_627 (by show kc + 2 ≤ 600104; omega) (by show ks + 12 ≤ 7301313; omega) (fun r4 D4 hq4 => ?_)
    obtain ⟨hD4, hr4⟩ := hq4
    have e4 : r4 = D2 (t + 2) 7 := by rw [hr4]; rfl
    rw [hD4, e4]
    refine V_iload h 632 10 rfl dL_law_630 rfl ?_
    refine V_isub h 633 dL_law_632 rfl ?_
    refine V_iload h 635 11 rfl dL_law_633 rfl ?_
    refine V_icmp_eq h 640 638 dL_law_635 (by decide) rfl (fun c635 => ?_) (fun c635 => absurd (by rw [th1, i_sa, ← th3]) c635)
    refine V_iconst h 641 (v := 0) (by decide) dL_law_640 rfl ?_
    refine V_istore h 643 [(12, .int 0), (11, .int (nI (harvN dd))), (10, .int (nI (130 - dd % 70))), (0, .ref bs), (1, .int (nI τ)), (2, .ref t), (3, .ref u), (4, .ref (t + 1)), (5, .int (nI R)), (6, .ref W), (7, .ref (W + 1)), (8, .int (D (t + 2) 7)), (9, .int (rsum (fun p => (daysD (t + 2) (rhoN 4) 4 (nI R) (D, m, 0) (harvN dd)).1 (t + 2 + 6 + p) 14) 4))] (by decide) rfl dL_law_641 rfl ?_
    have LP : ∀ (kk0 i : Nat) (y12 : Int32), i ≤ 4 → y12 = nI i → 4 - i < kk0 → mV Γ Q (kc + 2) (ks + 12) n sh P D2 E [(0, .ref bs), (1, .int (nI τ)), (2, .ref t), (3, .ref u), (4, .ref (t + 1)), (6, .ref W), (7, .ref (W + 1)), (12, .int y12)] [] 643 := by
      intro kk0
      induction kk0 with
      | zero => intro i y12 _ _ hm; exact absurd hm (Nat.not_lt_zero _)
      | succ kk0 ih =>
        intro i y12 hi e12 hm
        subst e12
        refine V_iload h 645 7 rfl dL_law_643 rfl ?_
        refine V_iconst h 646 (v := 4) (by decide) dL_law_645 rfl ?_
        refine V_icmp_ge h 680 649 dL_law_646 (by decide) rfl (fun c646 => ?_) (fun c646 => ?_)
        · have hi4 : i = 4 := by have := mGeB (i := i) (m := 4) c646 (by omega) (by decide); omega
          subst hi4
          refine V_aload_n h 681 0 rfl dL_law_680 rfl ?_
          refine V_iload_n h 682 1 rfl dL_law_681 rfl ?_
          refine S_callS h hX 685 (rm := { frames := 11, cells := 300, slots := 34000, locals := 200 }) (As := [.ref bs, .int (nI τ)]) (m_isBest hst hLs hτ) qL_L_74 qT_L_isBest qZ_L qC_L_isBest hd_L_isBest ⟨Nat.le_of_ble_eq_true rfl, Nat.le_of_ble_eq_true rfl⟩ (Nat.le_of_ble_eq_true rfl) rfl rfl dL_law_682 ⟨by show kc + 302 ≤ 600104; omega, by show ks + 34012 ≤ 7301313; omega⟩ (fun v6 n6 S6 P6 D6 E6 hq6 => ?_)
          rw [hq6]
          refine V_if_ne h 690 688 dL_law_685 (by decide) rfl (fun c685 => ?_) (fun c685 => absurd c685 (by decide))
          refine V_lsub [(0, .ref bs), (1, .int (nI τ))] [0, 1] rfl ?_
          exact kk _ _ _ _ _
        · have hi4 : i < 4 := mLtB (i := i) (m := 4) c646 (by omega)
          have heq := th2 i hi4
          rw [rho4 hi4] at heq
          refine V_aload h 651 4 rfl dL_law_649 rfl ?_
          refine V_iload h 653 7 rfl dL_law_651 rfl ?_
          refine V_bipush h 655 (v := 6) (by decide) dL_law_653 rfl ?_
          refine CVI h 658 (As := [.int (nI (rhoN 4 i)), .int (nI 6)]) (n_of hO1.2.1 hO1.2.2.1.1 (q := i) (w := 6) hi4 (by decide)) rfl hb1 qL_L_68 qI_X5_of qS_X5_of qZ_X5 qC_X5_of hd_X5_of ⟨Nat.le_of_ble_eq_true rfl, Nat.le_of_ble_eq_true rfl⟩ (Nat.le_of_ble_eq_true rfl) rfl (by rw [rho4 hi4]; rfl) dL_law_655 (by show kc + 2 ≤ 600104; omega) (by show ks + 12 ≤ 7301313; omega) (fun r5 D5 hq5 => ?_)
          obtain ⟨hD5, hr5⟩ := hq5
          have e5 : r5 = D2 (t + 2 + 6 + i) 8 := by rw [hr5]; show D2 (t + 2 + 6 + rhoN 4 i) 8 = _; rw [rho4 hi4]
          rw [hD5, e5]
          refine V_aload h 660 6 rfl dL_law_658 rfl ?_
          refine V_iload h 662 7 rfl dL_law_660 rfl ?_
          refine V_iald h 663 i hs2 rfl (by omega) (by decide) dL_law_662 rfl ?_
          refine V_aload h 665 5 rfl dL_law_663 rfl ?_
          refine V_iload h 667 7 rfl dL_law_665 rfl ?_
          refine V_iald h 668 i hs1 rfl (by omega) (by decide) dL_law_667 rfl ?_
          refine V_iadd h 669 dL_law_668 rfl ?_
          refine V_icmp_eq h 674 672 dL_law_669 (by decide) rfl (fun c669 => ?_) (fun c669 => absurd (by rw [hW1 i hi4, hW2 i hi4, heq]) c669)
          refine V_iinc h 677 [(12, .int ((nI i) + 1)), (0, .ref bs), (1, .int (nI τ)), (2, .ref t), (3, .ref u), (4, .ref (t + 1)), (6, .ref W), (7, .ref (W + 1))] 7 rfl (by rfl) (by decide) rfl dL_law_674 rfl ?_
          refine V_goto h 643 dL_law_677 (by decide) ?_
          refine V_lsub [(0, .ref bs), (1, .int (nI τ)), (2, .ref t), (3, .ref u), (4, .ref (t + 1)), (6, .ref W), (7, .ref (W + 1)), (12, .int ((nI i) + 1))] [1, 2, 3, 4, 5, 6, 7, 0] rfl ?_
          exact ih (i + 1) _ (by omega) (nI_1 i) (by omega)
    refine V_lsub [(0, .ref bs), (1, .int (nI τ)), (2, .ref t), (3, .ref u), (4, .ref (t + 1)), (6, .ref W), (7, .ref (W + 1)), (12, .int (nI 0))] [3, 4, 5, 6, 7, 9, 10, 0] rfl ?_
    exact LP _ 0 _ (by omega) rfl (Nat.lt_succ_self _)
  refine V_iload h 585 0 rfl dL_law_583 rfl ?_
  refine V_bipush h 587 (v := 70) (by decide) dL_law_585 rfl ?_
  refine V_icmp_le h 598 590 dL_law_587 (by decide) rfl (fun c587 => ?_) (fun c587 => ?_)
  · have hle : 130 - dd % 70 ≤ 70 := (nI_leI (a := 130 - dd % 70) (b := 70) (by omega) (by decide)).mp c587
    refine V_iload h 600 0 rfl dL_law_598 rfl ?_
    refine V_top (y := nI (harvN dd)) (by unfold harvN; rw [if_pos (by omega)]) ?_
    exact V_istore h 602 [(11, .int (nI (harvN dd))), (10, .int (nI (130 - dd % 70))), (0, .ref bs), (1, .int (nI τ)), (2, .ref t), (3, .ref u), (4, .ref (t + 1)), (5, .int (nI R)), (6, .ref W), (7, .ref (W + 1)), (8, .int (D (t + 2) 7)), (9, .int (rsum (fun p => (daysD (t + 2) (rhoN 4) 4 (nI R) (D, m, 0) (harvN dd)).1 (t + 2 + 6 + p) 14) 4))] (by decide) rfl dL_law_600 rfl K602
  · have hgt : 70 < 130 - dd % 70 := by
      rcases Nat.lt_or_ge 70 (130 - dd % 70) with z | z
      · exact z
      · exact absurd (nI_le (b := 70) z (by decide)) c587
    refine V_iload h 592 0 rfl dL_law_590 rfl ?_
    refine V_bipush h 594 (v := 70) (by decide) dL_law_592 rfl ?_
    refine V_isub h 595 dL_law_594 rfl ?_
    refine V_goto h 600 dL_law_595 (by decide) ?_
    refine V_top (y := nI (harvN dd)) (by unfold harvN; rw [if_neg (by omega), show (70 : Int32) = nI 70 from rfl, nI_sub (by omega)]; congr 1; omega) ?_
    exact V_istore h 602 [(11, .int (nI (harvN dd))), (10, .int (nI (130 - dd % 70))), (0, .ref bs), (1, .int (nI τ)), (2, .ref t), (3, .ref u), (4, .ref (t + 1)), (5, .int (nI R)), (6, .ref W), (7, .ref (W + 1)), (8, .int (D (t + 2) 7)), (9, .int (rsum (fun p => (daysD (t + 2) (rhoN 4) 4 (nI R) (D, m, 0) (harvN dd)).1 (t + 2 + 6 + p) 14) 4))] (by decide) rfl dL_law_600 rfl K602

end LWF
