def dsS (o a b : Nat) (k : Int32) (D : mDt) : mDt := upd2 (upd2 (upd2 (upd2 D a 8 (D a 8 - imin k (D a 8))) b 8 (upd2 D a 8 (D a 8 - imin k (D a 8)) b 8 + imin k (D a 8))) a 3 (upd2 (upd2 D a 8 (D a 8 - imin k (D a 8))) b 8 (upd2 D a 8 (D a 8 - imin k (D a 8)) b 8 + imin k (D a 8)) a 3 - 2 * (k - imin k (D a 8)))) b 3 (upd2 (upd2 (upd2 D a 8 (D a 8 - imin k (D a 8))) b 8 (upd2 D a 8 (D a 8 - imin k (D a 8)) b 8 + imin k (D a 8))) a 3 (upd2 (upd2 D a 8 (D a 8 - imin k (D a 8))) b 8 (upd2 D a 8 (D a 8 - imin k (D a 8)) b 8 + imin k (D a 8)) a 3 - 2 * (k - imin k (D a 8))) b 3 + 2 * (k - imin k (D a 8)))
def dsD (o : Nat) (f : Nat → Int32) (D : mDt) : Nat → mDt
  | 0 => D
  | k + 1 => dsS o (o + 6 + toN (f (k * 4 + 0))) (o + 6 + toN (f (k * 4 + 1))) (f (k * 4 + 2)) (dsD o f D k)
theorem dsD_row {o m : Nat} {f : Nat → Int32} {D : mDt} {k a : Nat} (h : a < o + 6 ∨ o + 16 ≤ a) (hd : dOk f m) (hk : k ≤ m) : dsD o f D k a = D a := by
  induction k with
  | zero => rfl
  | succ k ih =>
    have h1 := (hd.2 k (by omega)).1.1
    have h2 := (hd.2 k (by omega)).2.1
    rw [dsD, dsS, upd2_ra (by omega), upd2_ra (by omega), upd2_ra (by omega), upd2_ra (by omega)]
    exact ih (by omega)
theorem dsD_0 {o : Nat} {f : Nat → Int32} {D : mDt} {k a j : Nat} (hj : j ≠ 8) (hj2 : j ≠ 3) : dsD o f D k a j = D a j := by
  induction k with
  | zero => rfl
  | succ k ih =>
    rw [dsD, dsS, upd2_nk hj2, upd2_nk hj2, upd2_nk hj, upd2_nk hj]
    exact ih

set_option maxRecDepth 100000 in
set_option maxHeartbeats 4000000 in
theorem c_deliver {κ : mKp} {n : Nat} {sh : mSh} {P : mPt} {D : mDt} {E : mEt} {o : Nat} (hL : mLay o sh P) {m : Nat} (hm : D (o + 18) 1 = nI m) (hd : dOk (D (o + 19)) m) : mFnV κ yX2_deliverSales cX2_deliverSales 6 1 23 [.ref o] n sh P D E (fun D' => D' = upd2 (dsD o (D (o + 19)) D m) (o + 18) 1 0) := by
  refine mMet_of (by decide) (Nat.le_of_ble_eq_true rfl) ?_
  intro Γ Q hQ h hin
  have h : mOk Γ κ RX2 cX2_deliverSales 6 (Option.none : Option Jvm.ClassFile.FieldType) { frames := 1, cells := 0, slots := 0, locals := 23 } := h
  have hm8 := hd.1
  show mV Γ Q 0 0 n sh P D E [(0, .ref o)] [] 0
  refine V_iconst h 1 (v := 0) (by decide) dX2_deliverSales_0 rfl ?_
  refine V_istore_n h 2 [(1, .int 0), (0, .ref o)] (by decide) rfl dX2_deliverSales_1 rfl ?_
  have LP2 : ∀ (kk : Nat) (i : Nat) (x1 : Int32), (i ≤ m) → (x1 = nI i) → m - i < kk → mV Γ Q 0 0 n sh P (dsD o (D (o + 19)) D i) E [(0, .ref o), (1, .int x1)] [] 2 := by
    intro kk
    induction kk with
    | zero =>
      intro i x1 _ _ hms
      exact absurd hms (Nat.not_lt_zero _)
    | succ kk ih =>
      intro i x1 hi e1 hms
      subst e1
      refine V_iload_n h 3 1 rfl dX2_deliverSales_2 rfl ?_
      refine V_aload_n h 4 0 rfl dX2_deliverSales_3 rfl ?_
      refine g_X2_32 h 7 (b := o + 18) (L_s0 hL) (L_p3 hL) dX2_deliverSales_4 rfl ?_
      refine CVI h 10 (As := []) (c_dcount (L_s18 hL)) rfl (L_s18 hL) qL_X2_118 qI_X1_count qS_X1_count qZ_X1 qC_X1_count hd_X1_count ⟨Nat.le_of_ble_eq_true rfl, Nat.le_of_ble_eq_true rfl⟩ (Nat.le_of_ble_eq_true rfl) rfl rfl dX2_deliverSales_7 (Nat.zero_le _) (Nat.zero_le _) (fun r1 D1 hq1 => ?_)
      rw [hq1.1, hq1.2]
      refine V_top (y := nI m) (by rw [dsD_row (by omega) hd (by omega)]; exact hm) ?_
      refine V_icmp_ge h 109 13 dX2_deliverSales_10 (by decide) rfl (fun c10 => ?_) (fun c10 => ?_)
      · skip
        have hex : i = m := by have := mGe c10 (by omega) (by omega); omega
        refine V_aload_n h 110 0 rfl dX2_deliverSales_109 rfl ?_
        refine g_X2_32 h 113 (b := o + 18) (L_s0 hL) (L_p3 hL) dX2_deliverSales_110 rfl ?_
        refine CVV h 116 (As := []) (c_dclear (L_s18 hL)) rfl (L_s18 hL) qL_X2_146 qI_X1_clear qS_X1_clear qZ_X1 qC_X1_clear hd_X1_clear ⟨Nat.le_of_ble_eq_true rfl, Nat.le_of_ble_eq_true rfl⟩ (Nat.le_of_ble_eq_true rfl) rfl rfl dX2_deliverSales_113 (Nat.zero_le _) (Nat.zero_le _) (fun D2 hq2 => ?_)
        have eD2 := hq2
        exact V_ret h  hQ (Nat.zero_le _) (Nat.zero_le _) ⟨rfl, rfl, rfl, rfl, rfl, (by rw [eD2, hex])⟩ dX2_deliverSales_116
      · skip
        have hlt := mLt c10 (by omega)
        refine V_aload_n h 14 0 rfl dX2_deliverSales_13 rfl ?_
        refine g_X2_21 h 17 (b := o + 2) (L_s0 hL) (L_p1 hL) dX2_deliverSales_14 rfl ?_
        refine V_aload_n h 18 0 rfl dX2_deliverSales_17 rfl ?_
        refine g_X2_32 h 21 (b := o + 18) (L_s0 hL) (L_p3 hL) dX2_deliverSales_18 rfl ?_
        refine V_iload_n h 22 1 rfl dX2_deliverSales_21 rfl ?_
        refine V_iconst h 23 (v := 0) (by decide) dX2_deliverSales_22 rfl ?_
        refine CVI h 26 (As := [.int (nI i), .int 0]) (c_dget (L_s18 hL) (L_p18 hL) (L_s19 hL) (j := i * 4 + 0) (dealIx i 0) (by omega)) rfl (L_s18 hL) qL_X2_121 qI_X1_get qS_X1_get qZ_X1 qC_X1_get hd_X1_get ⟨Nat.le_of_ble_eq_true rfl, Nat.le_of_ble_eq_true rfl⟩ (Nat.le_of_ble_eq_true rfl) rfl rfl dX2_deliverSales_23 (Nat.zero_le _) (Nat.zero_le _) (fun r3 D3 hq3 => ?_)
        rw [hq3.1, hq3.2]
        refine V_top (y := D (o + 19) (i * 4 + 0)) (by rw [dsD_row (by omega) hd (by omega)]) ?_
        refine V_top (y := nI (toN (D (o + 19) (i * 4 + 0)))) (hd.2 i hlt).1.2 ?_
        refine CVR h 29 (As := [.int (nI (toN (D (o + 19) (i * 4 + 0))))]) (c_numb hL (i := (toN (D (o + 19) (i * 4 + 0)))) (hd.2 i hlt).1.1) rfl (L_s2 hL) qL_X2_128 qI_X4_numbered qS_X4_numbered qZ_X4 qC_X4_numbered hd_X4_numbered ⟨Nat.le_of_ble_eq_true rfl, Nat.le_of_ble_eq_true rfl⟩ (Nat.le_of_ble_eq_true rfl) rfl rfl dX2_deliverSales_26 (Nat.zero_le _) (Nat.zero_le _) (fun r4 D4 hq4 => ?_)
        rw [hq4.1, hq4.2]
        refine V_astore_n h 30 [(2, .ref (o + 6 + (toN (D (o + 19) (i * 4 + 0))))), (0, .ref o), (1, .int (nI i))] (by decide) rfl dX2_deliverSales_29 rfl ?_
        refine V_aload_n h 31 1 rfl dX2_deliverSales_30 rfl ?_
        refine g_X2_21 h 34 (b := o + 2) (L_s0 hL) (L_p1 hL) dX2_deliverSales_31 rfl ?_
        refine V_aload_n h 35 1 rfl dX2_deliverSales_34 rfl ?_
        refine g_X2_32 h 38 (b := o + 18) (L_s0 hL) (L_p3 hL) dX2_deliverSales_35 rfl ?_
        refine V_iload_n h 39 2 rfl dX2_deliverSales_38 rfl ?_
        refine V_iconst h 40 (v := 1) (by decide) dX2_deliverSales_39 rfl ?_
        refine CVI h 43 (As := [.int (nI i), .int 1]) (c_dget (L_s18 hL) (L_p18 hL) (L_s19 hL) (j := i * 4 + 1) (dealIx i 1) (by omega)) rfl (L_s18 hL) qL_X2_121 qI_X1_get qS_X1_get qZ_X1 qC_X1_get hd_X1_get ⟨Nat.le_of_ble_eq_true rfl, Nat.le_of_ble_eq_true rfl⟩ (Nat.le_of_ble_eq_true rfl) rfl rfl dX2_deliverSales_40 (Nat.zero_le _) (Nat.zero_le _) (fun r5 D5 hq5 => ?_)
        rw [hq5.1, hq5.2]
        refine V_top (y := D (o + 19) (i * 4 + 1)) (by rw [dsD_row (by omega) hd (by omega)]) ?_
        refine V_top (y := nI (toN (D (o + 19) (i * 4 + 1)))) (hd.2 i hlt).2.2 ?_
        refine CVR h 46 (As := [.int (nI (toN (D (o + 19) (i * 4 + 1))))]) (c_numb hL (i := (toN (D (o + 19) (i * 4 + 1)))) (hd.2 i hlt).2.1) rfl (L_s2 hL) qL_X2_128 qI_X4_numbered qS_X4_numbered qZ_X4 qC_X4_numbered hd_X4_numbered ⟨Nat.le_of_ble_eq_true rfl, Nat.le_of_ble_eq_true rfl⟩ (Nat.le_of_ble_eq_true rfl) rfl rfl dX2_deliverSales_43 (Nat.zero_le _) (Nat.zero_le _) (fun r6 D6 hq6 => ?_)
        rw [hq6.1, hq6.2]
        refine V_astore_n h 47 [(3, .ref (o + 6 + (toN (D (o + 19) (i * 4 + 1))))), (2, .ref (o + 6 + (toN (D (o + 19) (i * 4 + 0))))), (0, .ref o), (1, .int (nI i))] (by decide) rfl dX2_deliverSales_46 rfl ?_
        refine V_aload_n h 48 2 rfl dX2_deliverSales_47 rfl ?_
        refine g_X2_32 h 51 (b := o + 18) (L_s0 hL) (L_p3 hL) dX2_deliverSales_48 rfl ?_
        refine V_iload_n h 52 3 rfl dX2_deliverSales_51 rfl ?_
        refine V_iconst h 53 (v := 2) (by decide) dX2_deliverSales_52 rfl ?_
        refine CVI h 56 (As := [.int (nI i), .int 2]) (c_dget (L_s18 hL) (L_p18 hL) (L_s19 hL) (j := i * 4 + 2) (dealIx i 2) (by omega)) rfl (L_s18 hL) qL_X2_121 qI_X1_get qS_X1_get qZ_X1 qC_X1_get hd_X1_get ⟨Nat.le_of_ble_eq_true rfl, Nat.le_of_ble_eq_true rfl⟩ (Nat.le_of_ble_eq_true rfl) rfl rfl dX2_deliverSales_53 (Nat.zero_le _) (Nat.zero_le _) (fun r7 D7 hq7 => ?_)
        rw [hq7.1, hq7.2]
        refine V_top (y := D (o + 19) (i * 4 + 2)) (by rw [dsD_row (by omega) hd (by omega)]) ?_
        refine V_istore h 58 [(4, .int (D (o + 19) (i * 4 + 2))), (3, .ref (o + 6 + (toN (D (o + 19) (i * 4 + 1))))), (2, .ref (o + 6 + (toN (D (o + 19) (i * 4 + 0))))), (0, .ref o), (1, .int (nI i))] (by decide) rfl dX2_deliverSales_56 rfl ?_
        refine V_iload h 60 0 rfl dX2_deliverSales_58 rfl ?_
        refine V_aload_n h 61 2 rfl dX2_deliverSales_60 rfl ?_
        refine gN_X2_139 h 64 (L_sw hL (hd.2 i hlt).1.1) dX2_deliverSales_61 rfl ?_
        refine V_mmin h 67 qL_X2_136 (Nat.le_of_ble_eq_true rfl) (Nat.le_of_ble_eq_true rfl) (Nat.zero_le _) (Nat.zero_le _) dX2_deliverSales_64 rfl ?_
        refine V_istore h 69 [(5, .int (imin (D (o + 19) (i * 4 + 2)) ((dsD o (D (o + 19)) D i) (o + 6 + (toN (D (o + 19) (i * 4 + 0)))) 8))), (4, .int (D (o + 19) (i * 4 + 2))), (3, .ref (o + 6 + (toN (D (o + 19) (i * 4 + 1))))), (2, .ref (o + 6 + (toN (D (o + 19) (i * 4 + 0))))), (0, .ref o), (1, .int (nI i))] (by decide) rfl dX2_deliverSales_67 rfl ?_
        refine V_aload_n h 70 3 rfl dX2_deliverSales_69 rfl ?_
        refine V_dup h 71 rfl dX2_deliverSales_70 rfl ?_
        refine gN_X2_139 h 74 (L_sw hL (hd.2 i hlt).1.1) dX2_deliverSales_71 rfl ?_
        refine V_iload h 76 0 rfl dX2_deliverSales_74 rfl ?_
        refine V_isub h 77 dX2_deliverSales_76 rfl ?_
        refine pN_X2_139 h 80 (L_sw hL (hd.2 i hlt).1.1) dX2_deliverSales_77 rfl ?_
        obtain ⟨D8, eD8⟩ : ∃ zz, zz = upd2 (dsD o (D (o + 19)) D i) (o + 6 + (toN (D (o + 19) (i * 4 + 0)))) 8 (((dsD o (D (o + 19)) D i) (o + 6 + (toN (D (o + 19) (i * 4 + 0)))) 8) - (imin (D (o + 19) (i * 4 + 2)) ((dsD o (D (o + 19)) D i) (o + 6 + (toN (D (o + 19) (i * 4 + 0)))) 8))) := ⟨_, rfl⟩
        rw [← eD8]
        refine V_aload_n h 81 2 rfl dX2_deliverSales_80 rfl ?_
        refine V_dup h 82 rfl dX2_deliverSales_81 rfl ?_
        refine gN_X2_139 h 85 (L_sw hL (hd.2 i hlt).2.1) dX2_deliverSales_82 rfl ?_
        refine V_iload h 87 0 rfl dX2_deliverSales_85 rfl ?_
        refine V_iadd h 88 dX2_deliverSales_87 rfl ?_
        refine pN_X2_139 h 91 (L_sw hL (hd.2 i hlt).2.1) dX2_deliverSales_88 rfl ?_
        obtain ⟨D9, eD9⟩ : ∃ zz, zz = upd2 D8 (o + 6 + (toN (D (o + 19) (i * 4 + 1)))) 8 ((D8 (o + 6 + (toN (D (o + 19) (i * 4 + 1)))) 8) + (imin (D (o + 19) (i * 4 + 2)) ((dsD o (D (o + 19)) D i) (o + 6 + (toN (D (o + 19) (i * 4 + 0)))) 8))) := ⟨_, rfl⟩
        rw [← eD9]
        refine V_aload_n h 92 3 rfl dX2_deliverSales_91 rfl ?_
        refine V_aload_n h 93 2 rfl dX2_deliverSales_92 rfl ?_
        refine V_iconst h 94 (v := 2) (by decide) dX2_deliverSales_93 rfl ?_
        refine V_iload h 96 1 rfl dX2_deliverSales_94 rfl ?_
        refine V_iload h 98 0 rfl dX2_deliverSales_96 rfl ?_
        refine V_isub h 99 dX2_deliverSales_98 rfl ?_
        refine V_imul h 100 dX2_deliverSales_99 rfl ?_
        refine CVV h 103 (As := [.ref (o + 6 + (toN (D (o + 19) (i * 4 + 1)))), .int (2 * ((D (o + 19) (i * 4 + 2)) - (imin (D (o + 19) (i * 4 + 2)) ((dsD o (D (o + 19)) D i) (o + 6 + (toN (D (o + 19) (i * 4 + 0)))) 8))))]) (c_payTo (L_sw hL (hd.2 i hlt).1.1) (L_sw hL (hd.2 i hlt).2.1) (2 * ((D (o + 19) (i * 4 + 2)) - (imin (D (o + 19) (i * 4 + 2)) ((dsD o (D (o + 19)) D i) (o + 6 + (toN (D (o + 19) (i * 4 + 0)))) 8))))) rfl (L_sw hL (hd.2 i hlt).1.1) qL_X2_142 qI_X3_payTo qS_X3_payTo qZ_X3 qC_X3_payTo hd_X3_payTo ⟨Nat.le_of_ble_eq_true rfl, Nat.le_of_ble_eq_true rfl⟩ (Nat.le_of_ble_eq_true rfl) rfl rfl dX2_deliverSales_100 (Nat.zero_le _) (Nat.zero_le _) (fun D10 hq10 => ?_)
        rw [show D10 = (upd2 (upd2 D9 (o + 6 + (toN (D (o + 19) (i * 4 + 0)))) 3 (D9 (o + 6 + (toN (D (o + 19) (i * 4 + 0)))) 3 - (2 * ((D (o + 19) (i * 4 + 2)) - (imin (D (o + 19) (i * 4 + 2)) ((dsD o (D (o + 19)) D i) (o + 6 + (toN (D (o + 19) (i * 4 + 0)))) 8)))))) (o + 6 + (toN (D (o + 19) (i * 4 + 1)))) 3 (upd2 D9 (o + 6 + (toN (D (o + 19) (i * 4 + 0)))) 3 (D9 (o + 6 + (toN (D (o + 19) (i * 4 + 0)))) 3 - (2 * ((D (o + 19) (i * 4 + 2)) - (imin (D (o + 19) (i * 4 + 2)) ((dsD o (D (o + 19)) D i) (o + 6 + (toN (D (o + 19) (i * 4 + 0)))) 8))))) (o + 6 + (toN (D (o + 19) (i * 4 + 1)))) 3 + (2 * ((D (o + 19) (i * 4 + 2)) - (imin (D (o + 19) (i * 4 + 2)) ((dsD o (D (o + 19)) D i) (o + 6 + (toN (D (o + 19) (i * 4 + 0)))) 8)))))) from hq10]
        refine V_iinc h 106 [(1, .int ((nI i) + 1)), (5, .int (imin (D (o + 19) (i * 4 + 2)) ((dsD o (D (o + 19)) D i) (o + 6 + (toN (D (o + 19) (i * 4 + 0)))) 8))), (4, .int (D (o + 19) (i * 4 + 2))), (3, .ref (o + 6 + (toN (D (o + 19) (i * 4 + 1))))), (2, .ref (o + 6 + (toN (D (o + 19) (i * 4 + 0))))), (0, .ref o)] 5 rfl (by rfl) (by decide) rfl dX2_deliverSales_103 rfl ?_
        refine V_goto h 2 dX2_deliverSales_106 (by decide) ?_
        refine V_lsub [(0, .ref o), (1, .int ((nI i) + 1))] [5, 0] rfl ?_
        rw [show (upd2 (upd2 D9 (o + 6 + (toN (D (o + 19) (i * 4 + 0)))) 3 (D9 (o + 6 + (toN (D (o + 19) (i * 4 + 0)))) 3 - (2 * ((D (o + 19) (i * 4 + 2)) - (imin (D (o + 19) (i * 4 + 2)) ((dsD o (D (o + 19)) D i) (o + 6 + (toN (D (o + 19) (i * 4 + 0)))) 8)))))) (o + 6 + (toN (D (o + 19) (i * 4 + 1)))) 3 (upd2 D9 (o + 6 + (toN (D (o + 19) (i * 4 + 0)))) 3 (D9 (o + 6 + (toN (D (o + 19) (i * 4 + 0)))) 3 - (2 * ((D (o + 19) (i * 4 + 2)) - (imin (D (o + 19) (i * 4 + 2)) ((dsD o (D (o + 19)) D i) (o + 6 + (toN (D (o + 19) (i * 4 + 0)))) 8))))) (o + 6 + (toN (D (o + 19) (i * 4 + 1)))) 3 + (2 * ((D (o + 19) (i * 4 + 2)) - (imin (D (o + 19) (i * 4 + 2)) ((dsD o (D (o + 19)) D i) (o + 6 + (toN (D (o + 19) (i * 4 + 0)))) 8)))))) = dsD o (D (o + 19)) D (i + 1) from by rw [eD9, eD8]; rfl]
        exact ih (i + 1) _ (by omega) (nI_1 i) (by omega)
  refine V_lsub [(0, .ref o), (1, .int 0)] [1, 0] rfl ?_
  exact LP2 _ 0 _ (Nat.zero_le _) rfl (Nat.lt_succ_self _)

/-- what a block must keep for the walks: the row, the numbers, m loans, k sales -/
def cW (o L : Nat) (ρ : Nat → Nat) (m k : Nat) (D : mDt) : Prop := pOk o L ρ D ∧ (∀ i, i < 10 → D (o + 6 + i) 0 = nI i) ∧ D (o + 16) 1 = nI m ∧ dOk (D (o + 17)) m ∧ D (o + 18) 1 = nI k ∧ dOk (D (o + 19)) k
theorem cW_of {o L : Nat} {ρ : Nat → Nat} {m k : Nat} {D D' : mDt} (h2 : D' (o + 2) = D (o + 2)) (h4 : D' (o + 4) = D (o + 4)) (h16 : D' (o + 16) = D (o + 16)) (h17 : D' (o + 17) = D (o + 17)) (h18 : D' (o + 18) = D (o + 18)) (h19 : D' (o + 19) = D (o + 19)) (h0 : ∀ i, i < 10 → D' (o + 6 + i) 0 = D (o + 6 + i) 0) (h : cW o L ρ m k D) : cW o L ρ m k D' := ⟨pOk_of h2 h4 h.1, fun i hi => by rw [h0 i hi]; exact h.2.1 i hi, by rw [h16]; exact h.2.2.1, by rw [h17]; exact h.2.2.2.1, by rw [h18]; exact h.2.2.2.2.1, by rw [h19]; exact h.2.2.2.2.2⟩
def chDayD (c : Nat) (x z : Int32) (D : mDt) : mDt := if z = 0 then upd2 D c 0 (chTab (D c) x) else upd2 (upd2 D c 0 (chTab (D c) x)) c 2 (chMud (D c) 1)
theorem chDayD_ra {c a : Nat} {x z : Int32} {D : mDt} (h : a ≠ c) : chDayD c x z D a = D a := by
  unfold chDayD
  split
  · exact upd2_ra h
  · rw [upd2_ra h, upd2_ra h]
def tenZ (d : Int32) : Int32 := if rm10 (rm70 d) = 0 then 1 else 0
def dayA (o : Nat) (x : Int32) (D : mDt) : mDt := chDayD (o + 1) x (tenZ (D o 4 + 1)) (upd2 D o 4 (D o 4 + 1))
theorem dayA_ra {o a : Nat} {x : Int32} {D : mDt} (h : o + 1 < a) : dayA o x D a = D a := by
  rw [dayA, chDayD_ra (by omega), upd2_ra (by omega)]
theorem cW_dayA {o L : Nat} {ρ : Nat → Nat} {m k : Nat} {D : mDt} {x : Int32} (h : cW o L ρ m k D) : cW o L ρ m k (dayA o x D) := cW_of (dayA_ra (by omega)) (dayA_ra (by omega)) (dayA_ra (by omega)) (dayA_ra (by omega)) (dayA_ra (by omega)) (dayA_ra (by omega)) (fun i _ => by rw [dayA_ra (by omega)]) h
theorem wtrD_row {o : Nat} {ρ : Nat → Nat} {L m : Nat} {D : mDt} {a : Nat} (h : (a < o ∨ o < a) ∧ (a < o + 6 ∨ o + 16 ≤ a)) (hρ : ∀ p, p < L → ρ p < 10) (hd : dOk (D (o + 17)) m) : wtrD o ρ L m D a = D a := by
  rw [wtrD, tkD_row h hρ, wtrB_row h hρ hd]
theorem cW_wtr {o L : Nat} {ρ : Nat → Nat} {m k : Nat} {D : mDt} (h : cW o L ρ m k D) : cW o L ρ m k (wtrD o ρ L m D) := by
  have hρ : ∀ p, p < L → ρ p < 10 := fun p hp => (h.1.2.2 p hp).1
  have hd := h.2.2.2.1
  exact cW_of (wtrD_row (by omega) hρ hd) (wtrD_row (by omega) hρ hd) (wtrD_row (by omega) hρ hd) (wtrD_row (by omega) hρ hd) (wtrD_row (by omega) hρ hd) (wtrD_row (by omega) hρ hd) (fun i _ => by rw [wtrD, tkD_0 (by decide) (by omega), wtrB_11 (by omega) (by decide)]) h
theorem mapD_row {o L : Nat} {ρ : Nat → Nat} {X : Nat → (Nat → Int32) → Nat → Int32} {D : mDt} {a : Nat} (h : a < o + 6 ∨ o + 16 ≤ a) (hρ : ∀ p, p < L → ρ p < 10) : mapD o ρ X D L a = D a := mapD_other (fun p hp => by have := hρ p hp; omega)
theorem mapD_j {o k : Nat} {ρ : Nat → Nat} {X : Nat → (Nat → Int32) → Nat → Int32} {D : mDt} {a j : Nat} (hX : ∀ p x, X p x j = x j) : mapD o ρ X D k a j = D a j := by
  induction k with
  | zero => rfl
  | succ k ih =>
    rw [mapD]
    by_cases e : a = o + 6 + ρ k
    · subst e
      rw [setRow_eq, hX]; exact ih
    · rw [setRow_ne e]; exact ih
theorem cW_map {o L : Nat} {ρ : Nat → Nat} {m k : Nat} {X : Nat → (Nat → Int32) → Nat → Int32} {D : mDt} (hX : ∀ p x, X p x 0 = x 0) (h : cW o L ρ m k D) : cW o L ρ m k (mapD o ρ X D L) := by
  have hρ : ∀ p, p < L → ρ p < 10 := fun p hp => (h.1.2.2 p hp).1
  exact cW_of (mapD_row (by omega) hρ) (mapD_row (by omega) hρ) (mapD_row (by omega) hρ) (mapD_row (by omega) hρ) (mapD_row (by omega) hρ) (mapD_row (by omega) hρ) (fun i _ => mapD_j hX) h
theorem witherX_j {z : Int32} {x : Nat → Int32} {j : Nat} (h4 : j ≠ 4) (h9 : j ≠ 9) : witherX z x j = x j := by
  unfold witherX
  split
  · rfl
  · split
    · rfl
    · simp [upd, h4, h9]
theorem growX_j {z : Int32} {x : Nat → Int32} {j : Nat} (h4 : j ≠ 4) (h6 : j ≠ 6) (h7 : j ≠ 7) (h9 : j ≠ 9) : growX z x j = x j := by
  unfold growX
  split
  · split
    · rw [witherX_j h4 h9]; simp [moistX, upd, h6]
    · rw [witherX_j h4 h9]; simp [moistX, upd, h6, h7]
  · rfl
theorem growX_0 (z : Int32) (x : Nat → Int32) : growX z x 0 = x 0 := growX_j (by decide) (by decide) (by decide) (by decide)
theorem reapX_0 (x : Nat → Int32) : reapX x 0 = x 0 := by simp [reapX, upd]
def dayB (o : Nat) (ρ : Nat → Nat) (L : Nat) (x : Int32) (m : Nat) (D : mDt) : mDt := mapD o ρ (fun _ => growX (tenZ (D o 4 + 1))) (wtrD o ρ L m (dayA o x D)) L
theorem cW_dayB {o L : Nat} {ρ : Nat → Nat} {m k : Nat} {D : mDt} {x : Int32} (h : cW o L ρ m k D) : cW o L ρ m k (dayB o ρ L x m D) := cW_map (fun _ _ => growX_0 _ _) (cW_wtr (cW_dayA h))
def dayR (o : Nat) (ρ : Nat → Nat) (L : Nat) (D : mDt) : mDt := upd2 (mapD o ρ (fun _ => reapX) D L) o 7 (D o 7 + rsum (fun p => mapD o ρ (fun _ => reapX) D (p + 1) (o + 6 + ρ p) 14) L)
theorem cW_dayR {o L : Nat} {ρ : Nat → Nat} {m k : Nat} {D : mDt} (h : cW o L ρ m k D) : cW o L ρ m k (dayR o ρ L D) := cW_of (upd2_ra (by omega)) (upd2_ra (by omega)) (upd2_ra (by omega)) (upd2_ra (by omega)) (upd2_ra (by omega)) (upd2_ra (by omega)) (fun i _ => upd2_na (by omega)) (cW_map (fun _ _ => reapX_0 _) h)
def dayH (o : Nat) (ρ : Nat → Nat) (L k : Nat) (D : mDt) : mDt := upd2 (dsD o (dayR o ρ L D (o + 19)) (dayR o ρ L D) k) (o + 18) 1 0
theorem dOk_0 (f : Nat → Int32) : dOk f 0 := ⟨by omega, fun i hi => absurd hi (by omega)⟩
theorem cW_dayH {o L : Nat} {ρ : Nat → Nat} {m k : Nat} {D : mDt} (h : cW o L ρ m k D) : cW o L ρ m 0 (dayH o ρ L k D) := by
  have h1 := cW_dayR h
  have hd := h1.2.2.2.2.2
  have e : ∀ a, (a < o + 6 ∨ o + 16 ≤ a) → a ≠ o + 18 → dayH o ρ L k D a = dayR o ρ L D a := fun a ha hb => by rw [dayH, upd2_ra hb, dsD_row ha hd (Nat.le_refl k)]
  refine ⟨pOk_of (e _ (by omega) (by omega)) (e _ (by omega) (by omega)) h1.1, fun i hi => ?_, ?_, ?_, upd2_eq, dOk_0 _⟩
  · rw [dayH, upd2_na (by omega), dsD_0 (by decide) (by decide)]; exact h1.2.1 i hi
  · rw [e _ (by omega) (by omega)]; exact h1.2.2.1
  · rw [e _ (by omega) (by omega)]; exact h1.2.2.2.1
def shortD (o m : Nat) (D : mDt) : mDt := upd2 (setRow D (o + 17) (ageG (D (o + 17)) m).1) (o + 16) 1 (nI (ageG (D (o + 17)) m).2)
theorem dOk_dls {f : Nat → Int32} {m : Nat} : dOk f m ↔ m ≤ 8 ∧ ∀ r ∈ dls f m, (toN r.1 < 10 ∧ r.1 = nI (toN r.1)) ∧ toN r.2.1 < 10 ∧ r.2.1 = nI (toN r.2.1) := by
  constructor
  · rintro ⟨h1, h2⟩
    refine ⟨h1, fun r hr => ?_⟩
    obtain ⟨i, hi, rfl⟩ := List.mem_map.mp hr
    exact h2 i (List.mem_range.mp hi)
  · rintro ⟨h1, h2⟩
    exact ⟨h1, fun i hi => h2 (drow f i) (List.mem_map.mpr ⟨i, List.mem_range.mpr hi, rfl⟩)⟩
theorem dOk_age {f : Nat → Int32} {m : Nat} (h : dOk f m) : dOk (ageG f m).1 (ageG f m).2 := by
  obtain ⟨h1, h2, -⟩ := ageG_ok f m
  rw [dOk_dls] at h ⊢
  refine ⟨by omega, fun r hr => ?_⟩
  rw [h2] at hr
  obtain ⟨q, hq, e⟩ := List.mem_filterMap.mp hr
  have hk := h.2 q hq
  unfold ageR at e
  split at e
  · cases e
  · cases e; exact hk
theorem cW_short {o L : Nat} {ρ : Nat → Nat} {m k : Nat} {D : mDt} (h : cW o L ρ m k D) : cW o L ρ (ageG (D (o + 17)) m).2 k (shortD o m D) := by
  have e : ∀ a, a ≠ o + 16 → a ≠ o + 17 → shortD o m D a = D a := fun a h1 h2 => by rw [shortD, upd2_ra h1, setRow_ne h2]
  refine ⟨pOk_of (e _ (by omega) (by omega)) (e _ (by omega) (by omega)) h.1, fun i hi => ?_, upd2_eq, ?_, ?_, ?_⟩
  · rw [e _ (by omega) (by omega)]; exact h.2.1 i hi
  · rw [shortD, upd2_ra (by omega), setRow_eq]; exact dOk_age h.2.2.2.1
  · rw [e _ (by omega) (by omega)]; exact h.2.2.2.2.1
  · rw [e _ (by omega) (by omega)]; exact h.2.2.2.2.2
/-- behind a day: the memory, the loans, the sales -/
def dayC (o : Nat) (ρ : Nat → Nat) (L k : Nat) (D : mDt) : mDt × Nat := if rm70 (D o 4) = 60 then (dayH o ρ L k D, 0) else (D, k)
def dayE (o m : Nat) (D : mDt) : mDt × Nat := if rm7 (D o 4) = 0 then (shortD o m D, (ageG (D (o + 17)) m).2) else (D, m)
def dayD (o : Nat) (ρ : Nat → Nat) (L : Nat) (x : Int32) (q : mDt × Nat × Nat) : mDt × Nat × Nat := ((dayE o q.2.1 (dayC o ρ L q.2.2 (dayB o ρ L x q.2.1 q.1)).1).1, (dayE o q.2.1 (dayC o ρ L q.2.2 (dayB o ρ L x q.2.1 q.1)).1).2, (dayC o ρ L q.2.2 (dayB o ρ L x q.2.1 q.1)).2)
def dayS (o : Nat) (ρ : Nat → Nat) (L : Nat) (x : Int32) (q : mDt × Nat × Nat) : Int32 := wtrR o ρ L q.2.1 (dayA o x q.1)
theorem cW_dayC {o L : Nat} {ρ : Nat → Nat} {m k : Nat} {D : mDt} (h : cW o L ρ m k D) : cW o L ρ m (dayC o ρ L k D).2 (dayC o ρ L k D).1 := by
  unfold dayC
  split
  · exact cW_dayH h
  · exact h
theorem cW_dayE {o L : Nat} {ρ : Nat → Nat} {m k : Nat} {D : mDt} (h : cW o L ρ m k D) : cW o L ρ (dayE o m D).2 k (dayE o m D).1 := by
  unfold dayE
  split
  · exact cW_short h
  · exact h
theorem cW_day {o L : Nat} {ρ : Nat → Nat} {x : Int32} {q : mDt × Nat × Nat} (h : cW o L ρ q.2.1 q.2.2 q.1) : cW o L ρ (dayD o ρ L x q).2.1 (dayD o ρ L x q).2.2 (dayD o ρ L x q).1 := cW_dayE (cW_dayC (cW_dayB h))
def daysD (o : Nat) (ρ : Nat → Nat) (L : Nat) (x : Int32) (q : mDt × Nat × Nat) : Nat → mDt × Nat × Nat
  | 0 => q
  | k + 1 => dayD o ρ L x (daysD o ρ L x q k)
def daysS (o : Nat) (ρ : Nat → Nat) (L : Nat) (x : Int32) (q : mDt × Nat × Nat) : Nat → Int32 := rsum (fun k => dayS o ρ L x (daysD o ρ L x q k))
theorem cW_days {o L : Nat} {ρ : Nat → Nat} {x : Int32} {q : mDt × Nat × Nat} (h : cW o L ρ q.2.1 q.2.2 q.1) (k : Nat) : cW o L ρ (daysD o ρ L x q k).2.1 (daysD o ρ L x q k).2.2 (daysD o ρ L x q k).1 := by
  induction k with
  | zero => exact h
  | succ k ih => exact cW_day ih

set_option maxRecDepth 100000 in
set_option maxHeartbeats 4000000 in
theorem c_day {κ : mKp} {n : Nat} {sh : mSh} {P : mPt} {D : mDt} {E : mEt} {o : Nat} (hL : mLay o sh P) {L m k : Nat} {ρ : Nat → Nat} (hW : cW o L ρ m k D) (x : Int32) : mFnI κ yX2_letDayGoBy cX2_letDayGoBy 4 (Option.some Jvm.ClassFile.FieldType.int) 4 100 [.ref o, .int x] n sh P D E (fun r D' => D' = (dayD o ρ L x (D, m, k)).1 ∧ r = dayS o ρ L x (D, m, k)) := by
  refine mMet_of (by decide) (Nat.le_of_ble_eq_true rfl) ?_
  intro Γ Q hQ h hin
  have h : mOk Γ κ RX2 cX2_letDayGoBy 4 (Option.some Jvm.ClassFile.FieldType.int) { frames := 4, cells := 0, slots := 0, locals := 100 } := h
  show mV Γ Q 0 0 n sh P D E [(0, .ref o), (1, .int x)] [] 0
  refine V_aload_n h 1 0 rfl dX2_letDayGoBy_0 rfl ?_
  refine V_dup h 2 rfl dX2_letDayGoBy_1 rfl ?_
  refine g_X2_45 h 5 (L_s0 hL) dX2_letDayGoBy_2 rfl ?_
  refine V_iconst h 6 (v := 1) (by decide) dX2_letDayGoBy_5 rfl ?_
  refine V_iadd h 7 dX2_letDayGoBy_6 rfl ?_
  refine p_X2_45 h 10 (L_s0 hL) dX2_letDayGoBy_7 rfl ?_
  obtain ⟨D1, eD1⟩ : ∃ zz, zz = upd2 D o 4 ((D o 4) + 1) := ⟨_, rfl⟩
  rw [← eD1]
  refine V_aload_n h 11 0 rfl dX2_letDayGoBy_10 rfl ?_
  refine CVI h 14 (As := []) (c_date hL) rfl (L_s0 hL) qL_X2_58 qI_X2_date qS_X2_date qZ_X2 qC_X2_date hd_X2_date ⟨Nat.le_of_ble_eq_true rfl, Nat.le_of_ble_eq_true rfl⟩ (Nat.le_of_ble_eq_true rfl) rfl rfl dX2_letDayGoBy_11 (Nat.zero_le _) (Nat.zero_le _) (fun r2 D2 hq2 => ?_)
  rw [hq2.1, hq2.2]
  refine V_top (y := rm70 ((D o 4) + 1)) (by rw [eD1, upd2_eq]) ?_
  refine V_bipush h 16 (v := 10) (by decide) dX2_letDayGoBy_14 rfl ?_
  refine V_irem h 17 (by decide) dX2_letDayGoBy_16 rfl ?_
  refine V_if_ne h 24 20 dX2_letDayGoBy_17 (by decide) rfl (fun c17 => ?_) (fun c17 => ?_)
  · skip
    refine V_iconst h 25 (v := 0) (by decide) dX2_letDayGoBy_24 rfl ?_
    refine V_top (y := tenZ (D o 4 + 1)) (if_neg c17).symm ?_
    refine V_istore_n h 26 [(2, .int (tenZ (D o 4 + 1))), (0, .ref o), (1, .int x)] (by decide) rfl dX2_letDayGoBy_25 rfl ?_
    refine V_aload_n h 27 1 rfl dX2_letDayGoBy_26 rfl ?_
    refine g_X2_12 h 30 (b := o + 1) (L_s0 hL) (L_p0 hL) dX2_letDayGoBy_27 rfl ?_
    refine V_iload_n h 31 2 rfl dX2_letDayGoBy_30 rfl ?_
    refine V_iload_n h 32 0 rfl dX2_letDayGoBy_31 rfl ?_
    refine CVV h 35 (As := [.int x, .int (tenZ (D o 4 + 1))]) (c_chDay (L_s1 hL) x (tenZ (D o 4 + 1))) rfl (L_s1 hL) qL_X2_66 qI_X0_letDayGoBy qS_X0_letDayGoBy qZ_X0 qC_X0_letDayGoBy hd_X0_letDayGoBy ⟨Nat.le_of_ble_eq_true rfl, Nat.le_of_ble_eq_true rfl⟩ (Nat.le_of_ble_eq_true rfl) rfl rfl dX2_letDayGoBy_32 (Nat.zero_le _) (Nat.zero_le _) (fun D3 hq3 => ?_)
    rw [show D3 = (chDayD (o + 1) x (tenZ (D o 4 + 1)) D1) from hq3]
    rw [show (chDayD (o + 1) x (tenZ (D o 4 + 1)) D1) = dayA o x D from by rw [eD1]; rfl]
    have hA := cW_dayA (x := x) hW
    refine V_aload_n h 36 1 rfl dX2_letDayGoBy_35 rfl ?_
    refine CVI h 39 (As := []) (c_giveWater hL hA.1 hA.2.1 hA.2.2.1 hA.2.2.2.1) rfl (L_s0 hL) qL_X2_69 qI_X2_giveWater qS_X2_giveWater qZ_X2 qC_X2_giveWater hd_X2_giveWater ⟨Nat.le_of_ble_eq_true rfl, Nat.le_of_ble_eq_true rfl⟩ (Nat.le_of_ble_eq_true rfl) rfl rfl dX2_letDayGoBy_36 (Nat.zero_le _) (Nat.zero_le _) (fun r4 D4 hq4 => ?_)
    rw [hq4.2, show D4 = (wtrD o ρ L m (dayA o x D)) from hq4.1]
    refine V_istore_n h 40 [(3, .int (wtrR o ρ L m (dayA o x D))), (2, .int (tenZ (D o 4 + 1))), (0, .ref o), (1, .int x)] (by decide) rfl dX2_letDayGoBy_39 rfl ?_
    refine V_aload_n h 41 2 rfl dX2_letDayGoBy_40 rfl ?_
    refine g_X2_21 h 44 (b := o + 2) (L_s0 hL) (L_p1 hL) dX2_letDayGoBy_41 rfl ?_
    refine V_iload_n h 45 1 rfl dX2_letDayGoBy_44 rfl ?_
    refine CVV h 48 (As := [.int (tenZ (D o 4 + 1))]) (c_pplGrow hL (cW_wtr hA).1 (tenZ (D o 4 + 1))) rfl (L_s2 hL) qL_X2_72 qI_X4_growPalms qS_X4_growPalms qZ_X4 qC_X4_growPalms hd_X4_growPalms ⟨Nat.le_of_ble_eq_true rfl, Nat.le_of_ble_eq_true rfl⟩ (Nat.le_of_ble_eq_true rfl) rfl rfl dX2_letDayGoBy_45 (Nat.zero_le _) (Nat.zero_le _) (fun D5 hq5 => ?_)
    rw [show D5 = (mapD o ρ (fun _ => growX (tenZ (D o 4 + 1))) (wtrD o ρ L m (dayA o x D)) L) from hq5]
    have hB := cW_dayB (x := x) hW
    obtain ⟨B, eB⟩ : ∃ zz, zz = dayB o ρ L x m D := ⟨_, rfl⟩
    rw [← eB] at hB
    rw [show (mapD o ρ (fun _ => growX (tenZ (D o 4 + 1))) (wtrD o ρ L m (dayA o x D)) L) = B from by rw [eB]; rfl]
    refine V_aload_n h 49 2 rfl dX2_letDayGoBy_48 rfl ?_
    refine CVI h 52 (As := []) (c_date hL) rfl (L_s0 hL) qL_X2_58 qI_X2_date qS_X2_date qZ_X2 qC_X2_date hd_X2_date ⟨Nat.le_of_ble_eq_true rfl, Nat.le_of_ble_eq_true rfl⟩ (Nat.le_of_ble_eq_true rfl) rfl rfl dX2_letDayGoBy_49 (Nat.zero_le _) (Nat.zero_le _) (fun r6 D6 hq6 => ?_)
    rw [hq6.1, hq6.2]
    refine V_bipush h 54 (v := 60) (by decide) dX2_letDayGoBy_52 rfl ?_
    refine V_icmp_ne h 77 57 dX2_letDayGoBy_54 (by decide) rfl (fun c54 => ?_) (fun c54 => ?_)
    · skip
      have eC : dayC o ρ L k B = (B, k) := if_neg c54
      have hC := cW_dayC (o := o) hB
      rw [eC] at hC
      refine V_aload_n h 78 2 rfl dX2_letDayGoBy_77 rfl ?_
      refine g_X2_45 h 81 (L_s0 hL) dX2_letDayGoBy_78 rfl ?_
      refine V_bipush h 83 (v := 7) (by decide) dX2_letDayGoBy_81 rfl ?_
      refine V_irem h 84 (by decide) dX2_letDayGoBy_83 rfl ?_
      refine V_if_ne h 94 87 dX2_letDayGoBy_84 (by decide) rfl (fun c84 => ?_) (fun c84 => ?_)
      · skip
        have eE : dayE o m B = (B, m) := if_neg c84
        refine V_iload_n h 95 0 rfl dX2_letDayGoBy_94 rfl ?_
        exact V_iret h rfl hQ (Nat.zero_le _) (Nat.zero_le _) ⟨rfl, rfl, rfl, rfl, _, rfl, ⟨by simp only [dayD, ← eB, eC, eE], rfl⟩⟩ dX2_letDayGoBy_95
      · skip
        refine V_aload_n h 88 2 rfl dX2_letDayGoBy_87 rfl ?_
        refine g_X2_28 h 91 (b := o + 16) (L_s0 hL) (L_p2 hL) dX2_letDayGoBy_88 rfl ?_
        refine CVV h 94 (As := []) (c_shorten (L_s16 hL) (L_p16 hL) (L_s17 hL) (by omega) hC.2.2.1 hC.2.2.2.1.1) rfl (L_s16 hL) qL_X2_82 qI_X1_shorten qS_X1_shorten qZ_X1 qC_X1_shorten hd_X1_shorten ⟨Nat.le_of_ble_eq_true rfl, Nat.le_of_ble_eq_true rfl⟩ (Nat.le_of_ble_eq_true rfl) rfl rfl dX2_letDayGoBy_91 (Nat.zero_le _) (Nat.zero_le _) (fun D7 hq7 => ?_)
        rw [show D7 = (shortD o m B) from hq7]
        have eE : dayE o m B = (shortD o m B, (ageG (B (o + 17)) m).2) := if_pos c84
        refine V_iload_n h 95 0 rfl dX2_letDayGoBy_94 rfl ?_
        exact V_iret h rfl hQ (Nat.zero_le _) (Nat.zero_le _) ⟨rfl, rfl, rfl, rfl, _, rfl, ⟨by simp only [dayD, ← eB, eC, eE], rfl⟩⟩ dX2_letDayGoBy_95
    · skip
      refine V_aload_n h 58 2 rfl dX2_letDayGoBy_57 rfl ?_
      refine V_dup h 59 rfl dX2_letDayGoBy_58 rfl ?_
      refine g_X2_55 h 62 (L_s0 hL) dX2_letDayGoBy_59 rfl ?_
      refine V_aload_n h 63 2 rfl dX2_letDayGoBy_62 rfl ?_
      refine g_X2_21 h 66 (b := o + 2) (L_s0 hL) (L_p1 hL) dX2_letDayGoBy_63 rfl ?_
      refine CVI h 69 (As := []) (c_pplReap hL hB.1) rfl (L_s2 hL) qL_X2_76 qI_X4_reap qS_X4_reap qZ_X4 qC_X4_reap hd_X4_reap ⟨Nat.le_of_ble_eq_true rfl, Nat.le_of_ble_eq_true rfl⟩ (Nat.le_of_ble_eq_true rfl) rfl rfl dX2_letDayGoBy_66 (Nat.zero_le _) (Nat.zero_le _) (fun r8 D8 hq8 => ?_)
      rw [hq8.2, show D8 = (mapD o ρ (fun _ => reapX) B L) from hq8.1]
      refine V_iadd h 70 dX2_letDayGoBy_69 rfl ?_
      refine p_X2_55 h 73 (L_s0 hL) dX2_letDayGoBy_70 rfl ?_
      obtain ⟨D9, eD9⟩ : ∃ zz, zz = upd2 (mapD o ρ (fun _ => reapX) B L) o 7 ((B o 7) + (rsum (fun p => mapD o ρ (fun _ => reapX) B (p + 1) (o + 6 + ρ p) 14) L)) := ⟨_, rfl⟩
      rw [← eD9]
      have hR := cW_dayR hB
      have hR2 : D9 = dayR o ρ L B := by rw [eD9]; rfl
      rw [hR2]
      refine V_aload_n h 74 2 rfl dX2_letDayGoBy_73 rfl ?_
      refine CVV h 77 (As := []) (c_deliver hL hR.2.2.2.2.1 hR.2.2.2.2.2) rfl (L_s0 hL) qL_X2_79 qI_X2_deliverSales qS_X2_deliverSales qZ_X2 qC_X2_deliverSales hd_X2_deliverSales ⟨Nat.le_of_ble_eq_true rfl, Nat.le_of_ble_eq_true rfl⟩ (Nat.le_of_ble_eq_true rfl) rfl rfl dX2_letDayGoBy_74 (Nat.zero_le _) (Nat.zero_le _) (fun D10 hq10 => ?_)
      rw [show D10 = (upd2 (dsD o (dayR o ρ L B (o + 19)) (dayR o ρ L B) k) (o + 18) 1 0) from hq10]
      have eC : dayC o ρ L k B = (dayH o ρ L k B, 0) := if_pos c54
      rw [show (upd2 (dsD o (dayR o ρ L B (o + 19)) (dayR o ρ L B) k) (o + 18) 1 0) = dayH o ρ L k B from rfl]
      have hC := cW_dayC (o := o) hB
      rw [eC] at hC
      refine V_aload_n h 78 2 rfl dX2_letDayGoBy_77 rfl ?_
      refine g_X2_45 h 81 (L_s0 hL) dX2_letDayGoBy_78 rfl ?_
      refine V_bipush h 83 (v := 7) (by decide) dX2_letDayGoBy_81 rfl ?_
      refine V_irem h 84 (by decide) dX2_letDayGoBy_83 rfl ?_
      refine V_if_ne h 94 87 dX2_letDayGoBy_84 (by decide) rfl (fun c84 => ?_) (fun c84 => ?_)
      · skip
        have eE : dayE o m (dayH o ρ L k B) = ((dayH o ρ L k B), m) := if_neg c84
        refine V_iload_n h 95 0 rfl dX2_letDayGoBy_94 rfl ?_
        exact V_iret h rfl hQ (Nat.zero_le _) (Nat.zero_le _) ⟨rfl, rfl, rfl, rfl, _, rfl, ⟨by simp only [dayD, ← eB, eC, eE], rfl⟩⟩ dX2_letDayGoBy_95
      · skip
        refine V_aload_n h 88 2 rfl dX2_letDayGoBy_87 rfl ?_
        refine g_X2_28 h 91 (b := o + 16) (L_s0 hL) (L_p2 hL) dX2_letDayGoBy_88 rfl ?_
        refine CVV h 94 (As := []) (c_shorten (L_s16 hL) (L_p16 hL) (L_s17 hL) (by omega) hC.2.2.1 hC.2.2.2.1.1) rfl (L_s16 hL) qL_X2_82 qI_X1_shorten qS_X1_shorten qZ_X1 qC_X1_shorten hd_X1_shorten ⟨Nat.le_of_ble_eq_true rfl, Nat.le_of_ble_eq_true rfl⟩ (Nat.le_of_ble_eq_true rfl) rfl rfl dX2_letDayGoBy_91 (Nat.zero_le _) (Nat.zero_le _) (fun D11 hq11 => ?_)
        rw [show D11 = (shortD o m (dayH o ρ L k B)) from hq11]
        have eE : dayE o m (dayH o ρ L k B) = (shortD o m (dayH o ρ L k B), (ageG ((dayH o ρ L k B) (o + 17)) m).2) := if_pos c84
        refine V_iload_n h 95 0 rfl dX2_letDayGoBy_94 rfl ?_
        exact V_iret h rfl hQ (Nat.zero_le _) (Nat.zero_le _) ⟨rfl, rfl, rfl, rfl, _, rfl, ⟨by simp only [dayD, ← eB, eC, eE], rfl⟩⟩ dX2_letDayGoBy_95
  · skip
    refine V_iconst h 21 (v := 1) (by decide) dX2_letDayGoBy_20 rfl ?_
    refine V_goto h 25 dX2_letDayGoBy_21 (by decide) ?_
    refine V_top (y := tenZ (D o 4 + 1)) (if_pos c17).symm ?_
    refine V_istore_n h 26 [(2, .int (tenZ (D o 4 + 1))), (0, .ref o), (1, .int x)] (by decide) rfl dX2_letDayGoBy_25 rfl ?_
    refine V_aload_n h 27 1 rfl dX2_letDayGoBy_26 rfl ?_
    refine g_X2_12 h 30 (b := o + 1) (L_s0 hL) (L_p0 hL) dX2_letDayGoBy_27 rfl ?_
    refine V_iload_n h 31 2 rfl dX2_letDayGoBy_30 rfl ?_
    refine V_iload_n h 32 0 rfl dX2_letDayGoBy_31 rfl ?_
    refine CVV h 35 (As := [.int x, .int (tenZ (D o 4 + 1))]) (c_chDay (L_s1 hL) x (tenZ (D o 4 + 1))) rfl (L_s1 hL) qL_X2_66 qI_X0_letDayGoBy qS_X0_letDayGoBy qZ_X0 qC_X0_letDayGoBy hd_X0_letDayGoBy ⟨Nat.le_of_ble_eq_true rfl, Nat.le_of_ble_eq_true rfl⟩ (Nat.le_of_ble_eq_true rfl) rfl rfl dX2_letDayGoBy_32 (Nat.zero_le _) (Nat.zero_le _) (fun D12 hq12 => ?_)
    rw [show D12 = (chDayD (o + 1) x (tenZ (D o 4 + 1)) D1) from hq12]
    rw [show (chDayD (o + 1) x (tenZ (D o 4 + 1)) D1) = dayA o x D from by rw [eD1]; rfl]
    have hA := cW_dayA (x := x) hW
    refine V_aload_n h 36 1 rfl dX2_letDayGoBy_35 rfl ?_
    refine CVI h 39 (As := []) (c_giveWater hL hA.1 hA.2.1 hA.2.2.1 hA.2.2.2.1) rfl (L_s0 hL) qL_X2_69 qI_X2_giveWater qS_X2_giveWater qZ_X2 qC_X2_giveWater hd_X2_giveWater ⟨Nat.le_of_ble_eq_true rfl, Nat.le_of_ble_eq_true rfl⟩ (Nat.le_of_ble_eq_true rfl) rfl rfl dX2_letDayGoBy_36 (Nat.zero_le _) (Nat.zero_le _) (fun r13 D13 hq13 => ?_)
    rw [hq13.2, show D13 = (wtrD o ρ L m (dayA o x D)) from hq13.1]
    refine V_istore_n h 40 [(3, .int (wtrR o ρ L m (dayA o x D))), (2, .int (tenZ (D o 4 + 1))), (0, .ref o), (1, .int x)] (by decide) rfl dX2_letDayGoBy_39 rfl ?_
    refine V_aload_n h 41 2 rfl dX2_letDayGoBy_40 rfl ?_
    refine g_X2_21 h 44 (b := o + 2) (L_s0 hL) (L_p1 hL) dX2_letDayGoBy_41 rfl ?_
    refine V_iload_n h 45 1 rfl dX2_letDayGoBy_44 rfl ?_
    refine CVV h 48 (As := [.int (tenZ (D o 4 + 1))]) (c_pplGrow hL (cW_wtr hA).1 (tenZ (D o 4 + 1))) rfl (L_s2 hL) qL_X2_72 qI_X4_growPalms qS_X4_growPalms qZ_X4 qC_X4_growPalms hd_X4_growPalms ⟨Nat.le_of_ble_eq_true rfl, Nat.le_of_ble_eq_true rfl⟩ (Nat.le_of_ble_eq_true rfl) rfl rfl dX2_letDayGoBy_45 (Nat.zero_le _) (Nat.zero_le _) (fun D14 hq14 => ?_)
    rw [show D14 = (mapD o ρ (fun _ => growX (tenZ (D o 4 + 1))) (wtrD o ρ L m (dayA o x D)) L) from hq14]
    have hB := cW_dayB (x := x) hW
    obtain ⟨B, eB⟩ : ∃ zz, zz = dayB o ρ L x m D := ⟨_, rfl⟩
    rw [← eB] at hB
    rw [show (mapD o ρ (fun _ => growX (tenZ (D o 4 + 1))) (wtrD o ρ L m (dayA o x D)) L) = B from by rw [eB]; rfl]
    refine V_aload_n h 49 2 rfl dX2_letDayGoBy_48 rfl ?_
    refine CVI h 52 (As := []) (c_date hL) rfl (L_s0 hL) qL_X2_58 qI_X2_date qS_X2_date qZ_X2 qC_X2_date hd_X2_date ⟨Nat.le_of_ble_eq_true rfl, Nat.le_of_ble_eq_true rfl⟩ (Nat.le_of_ble_eq_true rfl) rfl rfl dX2_letDayGoBy_49 (Nat.zero_le _) (Nat.zero_le _) (fun r15 D15 hq15 => ?_)
    rw [hq15.1, hq15.2]
    refine V_bipush h 54 (v := 60) (by decide) dX2_letDayGoBy_52 rfl ?_
    refine V_icmp_ne h 77 57 dX2_letDayGoBy_54 (by decide) rfl (fun c54 => ?_) (fun c54 => ?_)
    · skip
      have eC : dayC o ρ L k B = (B, k) := if_neg c54
      have hC := cW_dayC (o := o) hB
      rw [eC] at hC
      refine V_aload_n h 78 2 rfl dX2_letDayGoBy_77 rfl ?_
      refine g_X2_45 h 81 (L_s0 hL) dX2_letDayGoBy_78 rfl ?_
      refine V_bipush h 83 (v := 7) (by decide) dX2_letDayGoBy_81 rfl ?_
      refine V_irem h 84 (by decide) dX2_letDayGoBy_83 rfl ?_
      refine V_if_ne h 94 87 dX2_letDayGoBy_84 (by decide) rfl (fun c84 => ?_) (fun c84 => ?_)
      · skip
        have eE : dayE o m B = (B, m) := if_neg c84
        refine V_iload_n h 95 0 rfl dX2_letDayGoBy_94 rfl ?_
        exact V_iret h rfl hQ (Nat.zero_le _) (Nat.zero_le _) ⟨rfl, rfl, rfl, rfl, _, rfl, ⟨by simp only [dayD, ← eB, eC, eE], rfl⟩⟩ dX2_letDayGoBy_95
      · skip
        refine V_aload_n h 88 2 rfl dX2_letDayGoBy_87 rfl ?_
        refine g_X2_28 h 91 (b := o + 16) (L_s0 hL) (L_p2 hL) dX2_letDayGoBy_88 rfl ?_
        refine CVV h 94 (As := []) (c_shorten (L_s16 hL) (L_p16 hL) (L_s17 hL) (by omega) hC.2.2.1 hC.2.2.2.1.1) rfl (L_s16 hL) qL_X2_82 qI_X1_shorten qS_X1_shorten qZ_X1 qC_X1_shorten hd_X1_shorten ⟨Nat.le_of_ble_eq_true rfl, Nat.le_of_ble_eq_true rfl⟩ (Nat.le_of_ble_eq_true rfl) rfl rfl dX2_letDayGoBy_91 (Nat.zero_le _) (Nat.zero_le _) (fun D16 hq16 => ?_)
        rw [show D16 = (shortD o m B) from hq16]
        have eE : dayE o m B = (shortD o m B, (ageG (B (o + 17)) m).2) := if_pos c84
        refine V_iload_n h 95 0 rfl dX2_letDayGoBy_94 rfl ?_
        exact V_iret h rfl hQ (Nat.zero_le _) (Nat.zero_le _) ⟨rfl, rfl, rfl, rfl, _, rfl, ⟨by simp only [dayD, ← eB, eC, eE], rfl⟩⟩ dX2_letDayGoBy_95
    · skip
      refine V_aload_n h 58 2 rfl dX2_letDayGoBy_57 rfl ?_
      refine V_dup h 59 rfl dX2_letDayGoBy_58 rfl ?_
      refine g_X2_55 h 62 (L_s0 hL) dX2_letDayGoBy_59 rfl ?_
      refine V_aload_n h 63 2 rfl dX2_letDayGoBy_62 rfl ?_
      refine g_X2_21 h 66 (b := o + 2) (L_s0 hL) (L_p1 hL) dX2_letDayGoBy_63 rfl ?_
      refine CVI h 69 (As := []) (c_pplReap hL hB.1) rfl (L_s2 hL) qL_X2_76 qI_X4_reap qS_X4_reap qZ_X4 qC_X4_reap hd_X4_reap ⟨Nat.le_of_ble_eq_true rfl, Nat.le_of_ble_eq_true rfl⟩ (Nat.le_of_ble_eq_true rfl) rfl rfl dX2_letDayGoBy_66 (Nat.zero_le _) (Nat.zero_le _) (fun r17 D17 hq17 => ?_)
      rw [hq17.2, show D17 = (mapD o ρ (fun _ => reapX) B L) from hq17.1]
      refine V_iadd h 70 dX2_letDayGoBy_69 rfl ?_
      refine p_X2_55 h 73 (L_s0 hL) dX2_letDayGoBy_70 rfl ?_
      obtain ⟨D18, eD18⟩ : ∃ zz, zz = upd2 (mapD o ρ (fun _ => reapX) B L) o 7 ((B o 7) + (rsum (fun p => mapD o ρ (fun _ => reapX) B (p + 1) (o + 6 + ρ p) 14) L)) := ⟨_, rfl⟩
      rw [← eD18]
      have hR := cW_dayR hB
      have hR2 : D18 = dayR o ρ L B := by rw [eD18]; rfl
      rw [hR2]
      refine V_aload_n h 74 2 rfl dX2_letDayGoBy_73 rfl ?_
      refine CVV h 77 (As := []) (c_deliver hL hR.2.2.2.2.1 hR.2.2.2.2.2) rfl (L_s0 hL) qL_X2_79 qI_X2_deliverSales qS_X2_deliverSales qZ_X2 qC_X2_deliverSales hd_X2_deliverSales ⟨Nat.le_of_ble_eq_true rfl, Nat.le_of_ble_eq_true rfl⟩ (Nat.le_of_ble_eq_true rfl) rfl rfl dX2_letDayGoBy_74 (Nat.zero_le _) (Nat.zero_le _) (fun D19 hq19 => ?_)
      rw [show D19 = (upd2 (dsD o (dayR o ρ L B (o + 19)) (dayR o ρ L B) k) (o + 18) 1 0) from hq19]
      have eC : dayC o ρ L k B = (dayH o ρ L k B, 0) := if_pos c54
      rw [show (upd2 (dsD o (dayR o ρ L B (o + 19)) (dayR o ρ L B) k) (o + 18) 1 0) = dayH o ρ L k B from rfl]
      have hC := cW_dayC (o := o) hB
      rw [eC] at hC
      refine V_aload_n h 78 2 rfl dX2_letDayGoBy_77 rfl ?_
      refine g_X2_45 h 81 (L_s0 hL) dX2_letDayGoBy_78 rfl ?_
      refine V_bipush h 83 (v := 7) (by decide) dX2_letDayGoBy_81 rfl ?_
      refine V_irem h 84 (by decide) dX2_letDayGoBy_83 rfl ?_
      refine V_if_ne h 94 87 dX2_letDayGoBy_84 (by decide) rfl (fun c84 => ?_) (fun c84 => ?_)
      · skip
        have eE : dayE o m (dayH o ρ L k B) = ((dayH o ρ L k B), m) := if_neg c84
        refine V_iload_n h 95 0 rfl dX2_letDayGoBy_94 rfl ?_
        exact V_iret h rfl hQ (Nat.zero_le _) (Nat.zero_le _) ⟨rfl, rfl, rfl, rfl, _, rfl, ⟨by simp only [dayD, ← eB, eC, eE], rfl⟩⟩ dX2_letDayGoBy_95
      · skip
        refine V_aload_n h 88 2 rfl dX2_letDayGoBy_87 rfl ?_
        refine g_X2_28 h 91 (b := o + 16) (L_s0 hL) (L_p2 hL) dX2_letDayGoBy_88 rfl ?_
        refine CVV h 94 (As := []) (c_shorten (L_s16 hL) (L_p16 hL) (L_s17 hL) (by omega) hC.2.2.1 hC.2.2.2.1.1) rfl (L_s16 hL) qL_X2_82 qI_X1_shorten qS_X1_shorten qZ_X1 qC_X1_shorten hd_X1_shorten ⟨Nat.le_of_ble_eq_true rfl, Nat.le_of_ble_eq_true rfl⟩ (Nat.le_of_ble_eq_true rfl) rfl rfl dX2_letDayGoBy_91 (Nat.zero_le _) (Nat.zero_le _) (fun D20 hq20 => ?_)
        rw [show D20 = (shortD o m (dayH o ρ L k B)) from hq20]
        have eE : dayE o m (dayH o ρ L k B) = (shortD o m (dayH o ρ L k B), (ageG ((dayH o ρ L k B) (o + 17)) m).2) := if_pos c84
        refine V_iload_n h 95 0 rfl dX2_letDayGoBy_94 rfl ?_
        exact V_iret h rfl hQ (Nat.zero_le _) (Nat.zero_le _) ⟨rfl, rfl, rfl, rfl, _, rfl, ⟨by simp only [dayD, ← eB, eC, eE], rfl⟩⟩ dX2_letDayGoBy_95

theorem mLtB {i m : Nat} (h : ¬ nI m ≤ nI i) (hi : i < 2 ^ 31) : i < m := Nat.lt_of_not_le (fun q => h (nI_le q hi))
theorem mGeB {i m : Nat} (h : nI m ≤ nI i) (hi : i < 2 ^ 31) (hm : m < 2 ^ 31) : m ≤ i := (nI_leI hm hi).mp h

set_option maxRecDepth 100000 in
set_option maxHeartbeats 4000000 in
theorem c_days {κ : mKp} {n : Nat} {sh : mSh} {P : mPt} {D : mDt} {E : mEt} {o : Nat} (hL : mLay o sh P) {L m k d : Nat} {ρ : Nat → Nat} (hW : cW o L ρ m k D) (hd : d < 2 ^ 31) (x : Int32) : mFnI κ yX2_letDaysGoBy cX2_letDaysGoBy 5 (Option.some Jvm.ClassFile.FieldType.int) 5 123 [.ref o, .int x, .int (nI d)] n sh P D E (fun r D' => D' = (daysD o ρ L x (D, m, k) d).1 ∧ r = daysS o ρ L x (D, m, k) d) := by
  refine mMet_of (by decide) (Nat.le_of_ble_eq_true rfl) ?_
  intro Γ Q hQ h hin
  have h : mOk Γ κ RX2 cX2_letDaysGoBy 5 (Option.some Jvm.ClassFile.FieldType.int) { frames := 5, cells := 0, slots := 0, locals := 123 } := h
  show mV Γ Q 0 0 n sh P D E [(0, .ref o), (1, .int x), (2, .int (nI d))] [] 0
  refine V_iconst h 1 (v := 0) (by decide) dX2_letDaysGoBy_0 rfl ?_
  refine V_istore_n h 2 [(3, .int 0), (0, .ref o), (1, .int x), (2, .int (nI d))] (by decide) rfl dX2_letDaysGoBy_1 rfl ?_
  refine V_iconst h 3 (v := 0) (by decide) dX2_letDaysGoBy_2 rfl ?_
  refine V_istore h 5 [(4, .int 0), (3, .int 0), (0, .ref o), (1, .int x), (2, .int (nI d))] (by decide) rfl dX2_letDaysGoBy_3 rfl ?_
  have LP5 : ∀ (kk : Nat) (i : Nat) (x3 x4 : Int32), (i ≤ d) → (x3 = daysS o ρ L x (D, m, k) i) → (x4 = nI i) → d - i < kk → mV Γ Q 0 0 n sh P (daysD o ρ L x (D, m, k) i).1 E [(0, .ref o), (1, .int x), (2, .int (nI d)), (3, .int x3), (4, .int x4)] [] 5 := by
    intro kk
    induction kk with
    | zero =>
      intro i x3 x4 _ _ _ hms
      exact absurd hms (Nat.not_lt_zero _)
    | succ kk ih =>
      intro i x3 x4 hi e3 e4 hms
      subst e3 e4
      refine V_iload h 7 4 rfl dX2_letDaysGoBy_5 rfl ?_
      refine V_iload_n h 8 2 rfl dX2_letDaysGoBy_7 rfl ?_
      refine V_icmp_ge h 25 11 dX2_letDaysGoBy_8 (by decide) rfl (fun c8 => ?_) (fun c8 => ?_)
      · skip
        have hex : i = d := by have := mGeB c8 (by omega) (by omega); omega
        refine V_iload_n h 26 3 rfl dX2_letDaysGoBy_25 rfl ?_
        exact V_iret h rfl hQ (Nat.zero_le _) (Nat.zero_le _) ⟨rfl, rfl, rfl, rfl, _, rfl, ⟨by rw [hex], by rw [hex]⟩⟩ dX2_letDaysGoBy_26
      · skip
        have hlt := mLtB c8 (by omega)
        refine V_iload_n h 12 3 rfl dX2_letDaysGoBy_11 rfl ?_
        refine V_aload_n h 13 0 rfl dX2_letDaysGoBy_12 rfl ?_
        refine V_iload_n h 14 1 rfl dX2_letDaysGoBy_13 rfl ?_
        refine CVI h 17 (As := [.int x]) (c_day hL (cW_days hW i) x) rfl (L_s0 hL) qL_X2_62 qI_X2_letDayGoBy qS_X2_letDayGoBy qZ_X2 qC_X2_letDayGoBy hd_X2_letDayGoBy ⟨Nat.le_of_ble_eq_true rfl, Nat.le_of_ble_eq_true rfl⟩ (Nat.le_of_ble_eq_true rfl) rfl rfl dX2_letDaysGoBy_14 (Nat.zero_le _) (Nat.zero_le _) (fun r1 D1 hq1 => ?_)
        rw [hq1.2, show D1 = (daysD o ρ L x (D, m, k) (i + 1)).1 from hq1.1]
        refine V_iadd h 18 dX2_letDaysGoBy_17 rfl ?_
        refine V_istore_n h 19 [(3, .int ((daysS o ρ L x (D, m, k) i) + (dayS o ρ L x (daysD o ρ L x (D, m, k) i)))), (0, .ref o), (1, .int x), (2, .int (nI d)), (4, .int (nI i))] (by decide) rfl dX2_letDaysGoBy_18 rfl ?_
        refine V_iinc h 22 [(4, .int ((nI i) + 1)), (3, .int ((daysS o ρ L x (D, m, k) i) + (dayS o ρ L x (daysD o ρ L x (D, m, k) i)))), (0, .ref o), (1, .int x), (2, .int (nI d))] 4 rfl (by rfl) (by decide) rfl dX2_letDaysGoBy_19 rfl ?_
        refine V_goto h 5 dX2_letDaysGoBy_22 (by decide) ?_
        refine V_lsub [(0, .ref o), (1, .int x), (2, .int (nI d)), (3, .int ((daysS o ρ L x (D, m, k) i) + (dayS o ρ L x (daysD o ρ L x (D, m, k) i)))), (4, .int ((nI i) + 1))] [2, 3, 4, 1, 0] rfl ?_
        exact ih (i + 1) _ _ (by omega) rfl (nI_1 i) (by omega)
  refine V_lsub [(0, .ref o), (1, .int x), (2, .int (nI d)), (3, .int 0), (4, .int 0)] [2, 3, 4, 1, 0] rfl ?_
  exact LP5 _ 0 _ _ (Nat.zero_le _) rfl rfl (Nat.lt_succ_self _)
