theorem i_sub {a b : Int32} (h1 : -2147483648 ≤ a.toInt - b.toInt) (h2 : a.toInt - b.toInt < 2147483648) : (a - b).toInt = a.toInt - b.toInt := by
  rw [Int32.toInt_sub, Int.bmod_def]
  split <;> omega
theorem i_add {a b : Int32} (h1 : -2147483648 ≤ a.toInt + b.toInt) (h2 : a.toInt + b.toInt < 2147483648) : (a + b).toInt = a.toInt + b.toInt := by
  rw [Int32.toInt_add, Int.bmod_def]
  split <;> omega
theorem i_mul {a b : Int32} (h1 : -2147483648 ≤ a.toInt * b.toInt) (h2 : a.toInt * b.toInt < 2147483648) : (a * b).toInt = a.toInt * b.toInt := by
  rw [Int32.toInt_mul, Int.bmod_def]
  generalize a.toInt * b.toInt = z at *
  split <;> omega
theorem usr_cmp {x E a : Int32} (x0 : 0 ≤ x.toInt) (x1 : x.toInt ≤ 5039) (e0 : -100000 ≤ E.toInt) (e1 : E.toInt ≤ 5040) (a0 : 0 ≤ a.toInt) (a1 : a.toInt ≤ 5040) : E - 1 - x < a ↔ E - a ≤ x := by
  have h1 : (1 : Int32).toInt = 1 := rfl
  have s1 : (E - 1).toInt = E.toInt - 1 := by rw [i_sub (by omega) (by omega), h1]
  have s2 : (E - 1 - x).toInt = E.toInt - 1 - x.toInt := by rw [i_sub (by omega) (by omega), s1]
  have s3 : (E - a).toInt = E.toInt - a.toInt := i_sub (by omega) (by omega)
  rw [Int32.lt_iff_toInt_lt, Int32.le_iff_toInt_le, s2, s3]
  omega
theorem usr_ring {E x a : Int32} : E - 1 - x - a = E - a - 1 - x := by
  rw [Int32.sub_eq_add_neg, Int32.sub_eq_add_neg, Int32.sub_eq_add_neg, Int32.sub_eq_add_neg, Int32.sub_eq_add_neg, Int32.sub_eq_add_neg]
  rw [Int32.add_assoc, Int32.add_assoc, Int32.add_assoc, Int32.add_assoc]
  congr 1
  rw [← Int32.add_assoc, Int32.add_comm]

set_option maxRecDepth 100000 in
set_option maxHeartbeats 4000000 in
theorem r_userOf0 {κ : mKp} {n : Nat} {sh : mSh} {P : mPt} {D : mDt} {E : mEt} {r : Nat} {lo : Nat → Nat} (hL : rLay r lo sh P) {o L e m k : Nat} {ρ : Nat → Nat} {V : mDt} {t1 t2 t3 : Int32} (hS : rSim o L e ρ m k V r lo t1 t2 t3 D) (hW : cW o L ρ m k V) {v : Int32} (hh : holdF (fun p => V (o + 6 + ρ p) 2) v 0 L = none) : mFnI κ yX6_userOf cX6_userOf 5 (Option.some Jvm.ClassFile.FieldType.int) 1 23 [.ref r, .int v] n sh P D E (fun ans D' => D' = D ∧ ans = -1) := by
  refine mMet_of (by decide) (Nat.le_of_ble_eq_true rfl) ?_
  intro Γ Q hQ h hin
  have h : mOk Γ κ RX6 cX6_userOf 5 (Option.some Jvm.ClassFile.FieldType.int) { frames := 1, cells := 0, slots := 0, locals := 23 } := h
  have hρ : ∀ p, p < L → ρ p < 10 := fun p hp => (hW.1.2.2 p hp).1
  have hL10 := hW.1.2.1
  have hm8 := hW.2.2.2.1.1
  have hk8 := hW.2.2.2.2.2.1
  show mV Γ Q 0 0 n sh P D E [(0, .ref r), (1, .int v)] [] 0
  refine V_aload_n h 1 0 rfl dX6_userOf_0 rfl ?_
  refine V_iload_n h 2 1 rfl dX6_userOf_1 rfl ?_
  refine CVI h 5 (As := [.int v]) (r_ownerOf hL hS hW v) rfl (R_s0 hL) qL_X6_74 qI_X6_ownerOf qS_X6_ownerOf qZ_X6 qC_X6_ownerOf hd_X6_ownerOf ⟨Nat.le_of_ble_eq_true rfl, Nat.le_of_ble_eq_true rfl⟩ (Nat.le_of_ble_eq_true rfl) rfl rfl dX6_userOf_2 (Nat.zero_le _) (Nat.zero_le _) (fun r1 D1 hq1 => ?_)
  rw [hq1.1, hq1.2]
  refine V_top (y := (-1)) (by rw [holdI, hh]) ?_
  refine V_istore_n h 6 [(2, .int (-1)), (0, .ref r), (1, .int v)] (by decide) rfl dX6_userOf_5 rfl ?_
  refine V_iload_n h 7 0 rfl dX6_userOf_6 rfl ?_
  refine V_iconst h 8 (v := (-1)) (by decide) dX6_userOf_7 rfl ?_
  refine V_icmp_ne h 13 11 dX6_userOf_8 (by decide) rfl (fun c8 => absurd rfl c8) (fun c8 => ?_)
  refine V_iconst h 12 (v := (-1)) (by decide) dX6_userOf_11 rfl ?_
  exact V_iret h rfl hQ (Nat.zero_le _) (Nat.zero_le _) ⟨rfl, rfl, rfl, rfl, _, rfl, ⟨rfl, rfl⟩⟩ dX6_userOf_12

set_option maxRecDepth 100000 in
set_option maxHeartbeats 4000000 in
theorem r_userOf1 {κ : mKp} {n : Nat} {sh : mSh} {P : mPt} {D : mDt} {E : mEt} {r : Nat} {lo : Nat → Nat} (hL : rLay r lo sh P) {o L e m k : Nat} {ρ : Nat → Nat} {V : mDt} {t1 t2 t3 : Int32} (hS : rSim o L e ρ m k V r lo t1 t2 t3 D) (hW : cW o L ρ m k V) (hinj : ∀ p q, p < q → q < L → ρ p ≠ ρ q) {v : Int32} (hv : ∃ c, c ≤ 5039 ∧ v = nI c) (hbw : ∀ p, p ≤ L → ∃ w, w ≤ 5040 ∧ rsum (fun p => V (o + 6 + ρ p) 2) p = nI w) (ham : ∀ i, i < m → ∃ a, a ≤ 5040 ∧ V (o + 17) (i * 4 + 2) = nI a) {p : Nat} (hp : p < L) (hh : holdF (fun p => V (o + 6 + ρ p) 2) v 0 L = some p) : mFnI κ yX6_userOf cX6_userOf 5 (Option.some Jvm.ClassFile.FieldType.int) 1 23 [.ref r, .int v] n sh P D E (fun ans D' => D' = D ∧ ans = usr (V (o + 17)) (nI (ρ p)) (rsum (fun p => V (o + 6 + ρ p) 2) p + (fun p => V (o + 6 + ρ p) 2) p - 1 - v) 0 m) := by
  refine mMet_of (by decide) (Nat.le_of_ble_eq_true rfl) ?_
  intro Γ Q hQ h hin
  have h : mOk Γ κ RX6 cX6_userOf 5 (Option.some Jvm.ClassFile.FieldType.int) { frames := 1, cells := 0, slots := 0, locals := 23 } := h
  have hρ : ∀ p, p < L → ρ p < 10 := fun p hp => (hW.1.2.2 p hp).1
  have hL10 := hW.1.2.1
  have hm8 := hW.2.2.2.1.1
  have hk8 := hW.2.2.2.2.2.1
  show mV Γ Q 0 0 n sh P D E [(0, .ref r), (1, .int v)] [] 0
  refine V_aload_n h 1 0 rfl dX6_userOf_0 rfl ?_
  refine V_iload_n h 2 1 rfl dX6_userOf_1 rfl ?_
  refine CVI h 5 (As := [.int v]) (r_ownerOf hL hS hW v) rfl (R_s0 hL) qL_X6_74 qI_X6_ownerOf qS_X6_ownerOf qZ_X6 qC_X6_ownerOf hd_X6_ownerOf ⟨Nat.le_of_ble_eq_true rfl, Nat.le_of_ble_eq_true rfl⟩ (Nat.le_of_ble_eq_true rfl) rfl rfl dX6_userOf_2 (Nat.zero_le _) (Nat.zero_le _) (fun r1 D1 hq1 => ?_)
  rw [hq1.1, hq1.2]
  refine V_top (y := nI (ρ p)) (by rw [holdI, hh]) ?_
  refine V_istore_n h 6 [(2, .int (nI (ρ p))), (0, .ref r), (1, .int v)] (by decide) rfl dX6_userOf_5 rfl ?_
  refine V_iload_n h 7 0 rfl dX6_userOf_6 rfl ?_
  refine V_iconst h 8 (v := (-1)) (by decide) dX6_userOf_7 rfl ?_
  refine V_icmp_ne h 13 11 dX6_userOf_8 (by decide) rfl (fun c8 => ?_) (fun c8 => absurd c8 (nI_ne1 (hρ p hp)))
  refine V_aload_n h 14 1 rfl dX6_userOf_13 rfl ?_
  refine V_iload_n h 15 0 rfl dX6_userOf_14 rfl ?_
  refine CVI h 18 (As := [.int (nI (ρ p))]) (r_first hL hS hW hinj hp) rfl (R_s0 hL) qL_X6_77 qI_X6_first qS_X6_first qZ_X6 qC_X6_first hd_X6_first ⟨Nat.le_of_ble_eq_true rfl, Nat.le_of_ble_eq_true rfl⟩ (Nat.le_of_ble_eq_true rfl) rfl rfl dX6_userOf_15 (Nat.zero_le _) (Nat.zero_le _) (fun r2 D2 hq2 => ?_)
  rw [hq2.1, hq2.2]
  refine V_aload_n h 19 1 rfl dX6_userOf_18 rfl ?_
  refine g_X6_11 h 22 (b := r + 1) (R_s0 hL) (R_p0 hL) dX6_userOf_19 rfl ?_
  refine V_iload_n h 23 0 rfl dX6_userOf_22 rfl ?_
  refine V_aald h 24 (b := r + 2 + (ρ p)) (ρ p) (Or.inr rfl) (R_s1 hL) rfl (hρ p hp) (by decide) (R_pw hL (hρ p hp)) dX6_userOf_23 rfl ?_
  refine V_iconst h 25 (v := 0) (by decide) dX6_userOf_24 rfl ?_
  refine V_iald h 26 0 (R_sw hL (hρ p hp)) (by decide) (by decide) (by decide) dX6_userOf_25 rfl ?_
  refine V_top (y := V (o + 6 + (ρ p)) 2) (hS.1 (ρ p) (hρ p hp) 0 (by decide)) ?_
  refine V_iadd h 27 dX6_userOf_26 rfl ?_
  refine V_istore_n h 28 [(3, .int ((rsum (fun p => V (o + 6 + ρ p) 2) p) + (V (o + 6 + (ρ p)) 2))), (2, .int (nI (ρ p))), (0, .ref r), (1, .int v)] (by decide) rfl dX6_userOf_27 rfl ?_
  refine V_iconst h 29 (v := 0) (by decide) dX6_userOf_28 rfl ?_
  refine V_istore h 31 [(4, .int 0), (3, .int ((rsum (fun p => V (o + 6 + ρ p) 2) p) + (V (o + 6 + (ρ p)) 2))), (2, .int (nI (ρ p))), (0, .ref r), (1, .int v)] (by decide) rfl dX6_userOf_29 rfl ?_
  have LP31 : ∀ (kk : Nat) (i : Nat) (x3 x4 : Int32), (i ≤ m) → (x4 = nI i) → (-(5040 * (i : Int)) ≤ x3.toInt) → (x3.toInt ≤ 5040) → (usr (V (o + 17)) (nI (ρ p)) (rsum (fun p => V (o + 6 + ρ p) 2) p + (fun p => V (o + 6 + ρ p) 2) p - 1 - v) 0 m = usr (V (o + 17)) (nI (ρ p)) (x3 - 1 - v) i (m - i)) → m - i < kk → mV Γ Q 0 0 n sh P D E [(0, .ref r), (1, .int v), (2, .int (nI (ρ p))), (3, .int x3), (4, .int x4)] [] 31 := by
    intro kk
    induction kk with
    | zero =>
      intro i x3 x4 _ _ _ _ _ hms
      exact absurd hms (Nat.not_lt_zero _)
    | succ kk ih =>
      intro i x3 x4 hi e4 b1 b2 eu hms
      subst e4
      refine V_iload h 33 4 rfl dX6_userOf_31 rfl ?_
      refine V_aload_n h 34 0 rfl dX6_userOf_33 rfl ?_
      refine g_X6_46 h 37 (R_s0 hL) dX6_userOf_34 rfl ?_
      refine V_top (y := nI m) hS.2.2.2.2.1.2.2.1 ?_
      refine V_icmp_ge h 89 40 dX6_userOf_37 (by decide) rfl (fun c37 => ?_) (fun c37 => ?_)
      · skip
        have hex : i = m := by have := mGe c37 (by omega) (by omega); omega
        refine V_iload_n h 90 2 rfl dX6_userOf_89 rfl ?_
        exact V_iret h rfl hQ (Nat.zero_le _) (Nat.zero_le _) ⟨rfl, rfl, rfl, rfl, _, rfl, ⟨rfl, by rw [eu, hex, Nat.sub_self]; rfl⟩⟩ dX6_userOf_90
      · skip
        have hlt := mLt c37 (by omega)
        refine V_aload_n h 41 0 rfl dX6_userOf_40 rfl ?_
        refine g_X6_20 h 44 (b := r + 13) (R_s0 hL) (R_p2 hL) dX6_userOf_41 rfl ?_
        refine V_iload h 46 4 rfl dX6_userOf_44 rfl ?_
        refine V_aald h 47 (b := r + 14 + lo i) i (Or.inr rfl) (R_s13 hL) rfl (by omega) (by decide) (R_pl hL (by omega)) dX6_userOf_46 rfl ?_
        refine V_iconst h 48 (v := 0) (by decide) dX6_userOf_47 rfl ?_
        refine V_iald h 49 0 (R_sL hL (by omega)) (by decide) (by decide) (by decide) dX6_userOf_48 rfl ?_
        refine V_top (y := V (o + 17) (i * 4 + 0)) (hS.2.2.1 i (by omega) 0 (by decide)) ?_
        refine V_iload_n h 50 2 rfl dX6_userOf_49 rfl ?_
        refine V_icmp_eq h 56 53 dX6_userOf_50 (by decide) rfl (fun c50 => ?_) (fun c50 => ?_)
        · skip
          obtain ⟨a1, ha1, ea1⟩ := ham i hlt
          obtain ⟨c1, hc1, rfl⟩ := hv
          have a0 := nI_toInt (n := a1) (by omega)
          have v0 := nI_toInt (n := c1) (by omega)
          have hs3 : (x3 - V (o + 17) (i * 4 + 2)).toInt = x3.toInt - (a1 : Int) := by rw [ea1, i_sub (by omega) (by omega), a0]
          have hcm := usr_cmp (x := nI c1) (E := x3) (a := V (o + 17) (i * 4 + 2)) (by omega) (by omega) (by omega) b2 (by rw [ea1]; omega) (by rw [ea1]; omega)
          refine V_iload_n h 57 3 rfl dX6_userOf_56 rfl ?_
          refine V_aload_n h 58 0 rfl dX6_userOf_57 rfl ?_
          refine g_X6_20 h 61 (b := r + 13) (R_s0 hL) (R_p2 hL) dX6_userOf_58 rfl ?_
          refine V_iload h 63 4 rfl dX6_userOf_61 rfl ?_
          refine V_aald h 64 (b := r + 14 + lo i) i (Or.inr rfl) (R_s13 hL) rfl (by omega) (by decide) (R_pl hL (by omega)) dX6_userOf_63 rfl ?_
          refine V_iconst h 65 (v := 2) (by decide) dX6_userOf_64 rfl ?_
          refine V_iald h 66 2 (R_sL hL (by omega)) (by decide) (by decide) (by decide) dX6_userOf_65 rfl ?_
          refine V_top (y := V (o + 17) (i * 4 + 2)) (hS.2.2.1 i (by omega) 2 (by decide)) ?_
          refine V_isub h 67 dX6_userOf_66 rfl ?_
          refine V_istore_n h 68 [(3, .int (x3 - (V (o + 17) (i * 4 + 2)))), (0, .ref r), (1, .int (nI c1)), (2, .int (nI (ρ p))), (4, .int (nI i))] (by decide) rfl dX6_userOf_67 rfl ?_
          refine V_iload_n h 69 2 rfl dX6_userOf_68 rfl ?_
          refine V_iload_n h 70 0 rfl dX6_userOf_69 rfl ?_
          refine V_icmp_lt h 83 73 dX6_userOf_70 (by decide) rfl (fun c70 => ?_) (fun c70 => ?_)
          · skip
            refine V_iinc h 86 [(4, .int ((nI i) + 1)), (3, .int (x3 - (V (o + 17) (i * 4 + 2)))), (0, .ref r), (1, .int (nI c1)), (2, .int (nI (ρ p)))] 4 rfl (by rfl) (by decide) rfl dX6_userOf_83 rfl ?_
            refine V_goto h 31 dX6_userOf_86 (by decide) ?_
            refine V_lsub [(0, .ref r), (1, .int (nI c1)), (2, .int (nI (ρ p))), (3, .int (x3 - (V (o + 17) (i * 4 + 2)))), (4, .int ((nI i) + 1))] [2, 3, 4, 1, 0] rfl ?_
            exact ih (i + 1) _ _ (by omega) (nI_1 i) (by rw [hs3]; omega) (by rw [hs3]; omega) (by rw [eu, show m - i = (m - (i + 1)) + 1 by omega, usr, if_pos c50, if_neg (fun q => absurd (hcm.mp q) (Int32.not_le.mpr c70)), usr_ring]) (by omega)
          · skip
            refine V_aload_n h 74 1 rfl dX6_userOf_73 rfl ?_
            refine g_X6_20 h 77 (b := r + 13) (R_s0 hL) (R_p2 hL) dX6_userOf_74 rfl ?_
            refine V_iload h 79 4 rfl dX6_userOf_77 rfl ?_
            refine V_aald h 80 (b := r + 14 + lo i) i (Or.inr rfl) (R_s13 hL) rfl (by omega) (by decide) (R_pl hL (by omega)) dX6_userOf_79 rfl ?_
            refine V_iconst h 81 (v := 1) (by decide) dX6_userOf_80 rfl ?_
            refine V_iald h 82 1 (R_sL hL (by omega)) (by decide) (by decide) (by decide) dX6_userOf_81 rfl ?_
            refine V_top (y := V (o + 17) (i * 4 + 1)) (hS.2.2.1 i (by omega) 1 (by decide)) ?_
            exact V_iret h rfl hQ (Nat.zero_le _) (Nat.zero_le _) ⟨rfl, rfl, rfl, rfl, _, rfl, ⟨rfl, by rw [eu, show m - i = (m - (i + 1)) + 1 by omega, usr, if_pos c50, if_pos (hcm.mpr (Int32.not_lt.mp c70))]⟩⟩ dX6_userOf_82
        · skip
          refine V_goto h 83 dX6_userOf_53 (by decide) ?_
          refine V_iinc h 86 [(4, .int ((nI i) + 1)), (0, .ref r), (1, .int v), (2, .int (nI (ρ p))), (3, .int x3)] 4 rfl (by rfl) (by decide) rfl dX6_userOf_83 rfl ?_
          refine V_goto h 31 dX6_userOf_86 (by decide) ?_
          refine V_lsub [(0, .ref r), (1, .int v), (2, .int (nI (ρ p))), (3, .int x3), (4, .int ((nI i) + 1))] [1, 2, 3, 4, 0] rfl ?_
          exact ih (i + 1) _ _ (by omega) (nI_1 i) (by omega) b2 (by rw [eu, show m - i = (m - (i + 1)) + 1 by omega, usr, if_neg c50]) (by omega)
  obtain ⟨w1, hw1, ew1⟩ := hbw (p + 1) (by omega)
  have ew : rsum (fun p => V (o + 6 + ρ p) 2) p + (fun p => V (o + 6 + ρ p) 2) p = nI w1 := ew1
  have hE0 : -(5040 * ((0 : Nat) : Int)) ≤ (rsum (fun p => V (o + 6 + ρ p) 2) p + (fun p => V (o + 6 + ρ p) 2) p).toInt := by rw [ew, nI_toInt (by omega)]; omega
  have hE1 : (rsum (fun p => V (o + 6 + ρ p) 2) p + (fun p => V (o + 6 + ρ p) 2) p).toInt ≤ 5040 := by rw [ew, nI_toInt (by omega)]; omega
  refine V_lsub [(0, .ref r), (1, .int v), (2, .int (nI (ρ p))), (3, .int ((rsum (fun p => V (o + 6 + ρ p) 2) p) + (V (o + 6 + (ρ p)) 2))), (4, .int 0)] [3, 4, 2, 1, 0] rfl ?_
  exact LP31 _ 0 _ _ (Nat.zero_le _) rfl hE0 hE1 rfl (Nat.lt_succ_self _)

theorem r_userOf {κ : mKp} {n : Nat} {sh : mSh} {P : mPt} {D : mDt} {E : mEt} {r : Nat} {lo : Nat → Nat} (hL : rLay r lo sh P) {o L e m k : Nat} {ρ : Nat → Nat} {V : mDt} {t1 t2 t3 : Int32} (hS : rSim o L e ρ m k V r lo t1 t2 t3 D) (hW : cW o L ρ m k V) (hinj : ∀ p q, p < q → q < L → ρ p ≠ ρ q) {v : Int32} (hv : ∃ c, c ≤ 5039 ∧ v = nI c) (hbw : ∀ p, p ≤ L → ∃ w, w ≤ 5040 ∧ rsum (fun p => V (o + 6 + ρ p) 2) p = nI w) (ham : ∀ i, i < m → ∃ a, a ≤ 5040 ∧ V (o + 17) (i * 4 + 2) = nI a) : mFnI κ yX6_userOf cX6_userOf 5 (Option.some Jvm.ClassFile.FieldType.int) 1 23 [.ref r, .int v] n sh P D E (fun ans D' => D' = D ∧ ans = userI (fun p => V (o + 6 + ρ p) 2) ρ (V (o + 17)) m v L) := by
  cases hh : holdF (fun p => V (o + 6 + ρ p) 2) v 0 L with
  | none =>
    have h := r_userOf0 (κ := κ) (n := n) (E := E) hL hS hW hh
    rw [userI, hh]
    exact h
  | some p =>
    have hp := (holdF_lt hh).2
    have h := r_userOf1 (κ := κ) (n := n) (E := E) hL hS hW hinj hv hbw ham (by omega) hh
    rw [userI, hh]
    exact h
