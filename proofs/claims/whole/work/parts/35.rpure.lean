set_option maxRecDepth 100000 in
set_option maxHeartbeats 4000000 in
theorem r_flow {κ : mKp} {n : Nat} {sh : mSh} {P : mPt} {D : mDt} {E : mEt} {r : Nat} {lo : Nat → Nat} (hL : rLay r lo sh P) {o L e m k : Nat} {ρ : Nat → Nat} {V : mDt} {t1 t2 t3 : Int32} (hS : rSim o L e ρ m k V r lo t1 t2 t3 D) (hW : cW o L ρ m k V) : mFnI κ yX6_flow cX6_flow 1 (Option.some Jvm.ClassFile.FieldType.int) 1 21 [.ref r] n sh P D E (fun ans D' => D' = D ∧ ans = chFlow (V (o + 1))) := by
  refine mMet_of (by decide) (Nat.le_of_ble_eq_true rfl) ?_
  intro Γ Q hQ h hin
  have h : mOk Γ κ RX6 cX6_flow 1 (Option.some Jvm.ClassFile.FieldType.int) { frames := 1, cells := 0, slots := 0, locals := 21 } := h
  have hρ : ∀ p, p < L → ρ p < 10 := fun p hp => (hW.1.2.2 p hp).1
  have hL10 := hW.1.2.1
  have hm8 := hW.2.2.2.1.1
  have hk8 := hW.2.2.2.2.2.1
  show mV Γ Q 0 0 n sh P D E [(0, .ref r)] [] 0
  refine V_iconst h 1 (v := 0) (by decide) dX6_flow_0 rfl ?_
  refine V_aload_n h 2 0 rfl dX6_flow_1 rfl ?_
  refine g_X6_29 h 5 (R_s0 hL) dX6_flow_2 rfl ?_
  refine V_top (y := V (o + 1) 0) hS.2.2.2.2.1.2.2.2.2.2.1 ?_
  refine V_aload_n h 6 0 rfl dX6_flow_5 rfl ?_
  refine g_X6_33 h 9 (R_s0 hL) dX6_flow_6 rfl ?_
  refine V_top (y := V (o + 1) 1) hS.2.2.2.2.1.2.2.2.2.2.2.1 ?_
  refine V_iadd h 10 dX6_flow_9 rfl ?_
  refine V_bipush h 12 (v := 120) (by decide) dX6_flow_10 rfl ?_
  refine V_isub h 13 dX6_flow_12 rfl ?_
  refine V_iconst h 14 (v := 2) (by decide) dX6_flow_13 rfl ?_
  refine V_aload_n h 15 0 rfl dX6_flow_14 rfl ?_
  refine g_X6_58 h 18 (R_s0 hL) dX6_flow_15 rfl ?_
  refine V_top (y := V (o + 1) 2) hS.2.2.2.2.1.2.2.2.2.2.2.2.1 ?_
  refine V_imul h 19 dX6_flow_18 rfl ?_
  refine V_isub h 20 dX6_flow_19 rfl ?_
  refine V_bipush h 22 (v := 10) (by decide) dX6_flow_20 rfl ?_
  refine V_idiv h 23 (by decide) dX6_flow_22 rfl ?_
  refine V_mmax h 26 qL_X6_64 (Nat.le_of_ble_eq_true rfl) (Nat.le_of_ble_eq_true rfl) (Nat.zero_le _) (Nat.zero_le _) dX6_flow_23 rfl ?_
  exact V_iret h rfl hQ (Nat.zero_le _) (Nat.zero_le _) ⟨rfl, rfl, rfl, rfl, _, rfl, ⟨rfl, rfl⟩⟩ dX6_flow_26

set_option maxRecDepth 100000 in
set_option maxHeartbeats 4000000 in
theorem r_lent {κ : mKp} {n : Nat} {sh : mSh} {P : mPt} {D : mDt} {E : mEt} {r : Nat} {lo : Nat → Nat} (hL : rLay r lo sh P) {o L e m k : Nat} {ρ : Nat → Nat} {V : mDt} {t1 t2 t3 : Int32} (hS : rSim o L e ρ m k V r lo t1 t2 t3 D) (hW : cW o L ρ m k V) (v : Int32) : mFnI κ yX6_lent cX6_lent 4 (Option.some Jvm.ClassFile.FieldType.int) 0 0 [.ref r, .int v] n sh P D E (fun ans D' => D' = D ∧ ans = amtF (V (o + 17)) 0 v m) := by
  refine mMet_of (by decide) (Nat.le_of_ble_eq_true rfl) ?_
  intro Γ Q hQ h hin
  have h : mOk Γ κ RX6 cX6_lent 4 (Option.some Jvm.ClassFile.FieldType.int) { frames := 0, cells := 0, slots := 0, locals := 0 } := h
  have hρ : ∀ p, p < L → ρ p < 10 := fun p hp => (hW.1.2.2 p hp).1
  have hL10 := hW.1.2.1
  have hm8 := hW.2.2.2.1.1
  have hk8 := hW.2.2.2.2.2.1
  show mV Γ Q 0 0 n sh P D E [(0, .ref r), (1, .int v)] [] 0
  refine V_iconst h 1 (v := 0) (by decide) dX6_lent_0 rfl ?_
  refine V_istore_n h 2 [(2, .int 0), (0, .ref r), (1, .int v)] (by decide) rfl dX6_lent_1 rfl ?_
  refine V_iconst h 3 (v := 0) (by decide) dX6_lent_2 rfl ?_
  refine V_istore_n h 4 [(3, .int 0), (2, .int 0), (0, .ref r), (1, .int v)] (by decide) rfl dX6_lent_3 rfl ?_
  have LP4 : ∀ (kk : Nat) (i : Nat) (x2 x3 : Int32), (i ≤ m) → (x2 = amtF (V (o + 17)) 0 v i) → (x3 = nI i) → m - i < kk → mV Γ Q 0 0 n sh P D E [(0, .ref r), (1, .int v), (2, .int x2), (3, .int x3)] [] 4 := by
    intro kk
    induction kk with
    | zero =>
      intro i x2 x3 _ _ _ hms
      exact absurd hms (Nat.not_lt_zero _)
    | succ kk ih =>
      intro i x2 x3 hi e2 e3 hms
      subst e3
      refine V_iload_n h 5 3 rfl dX6_lent_4 rfl ?_
      refine V_aload_n h 6 0 rfl dX6_lent_5 rfl ?_
      refine g_X6_46 h 9 (R_s0 hL) dX6_lent_6 rfl ?_
      refine V_top (y := nI m) hS.2.2.2.2.1.2.2.1 ?_
      refine V_icmp_ge h 45 12 dX6_lent_9 (by decide) rfl (fun c9 => ?_) (fun c9 => ?_)
      · skip
        have hex : i = m := by have := mGe c9 (by omega) (by omega); omega
        refine V_iload_n h 46 2 rfl dX6_lent_45 rfl ?_
        exact V_iret h rfl hQ (Nat.zero_le _) (Nat.zero_le _) ⟨rfl, rfl, rfl, rfl, _, rfl, ⟨rfl, by rw [e2, hex]⟩⟩ dX6_lent_46
      · skip
        have hlt := mLt c9 (by omega)
        refine V_iload_n h 13 2 rfl dX6_lent_12 rfl ?_
        refine V_aload_n h 14 0 rfl dX6_lent_13 rfl ?_
        refine g_X6_20 h 17 (b := r + 13) (R_s0 hL) (R_p2 hL) dX6_lent_14 rfl ?_
        refine V_iload_n h 18 3 rfl dX6_lent_17 rfl ?_
        refine V_aald h 19 (b := r + 14 + lo i) i (Or.inr rfl) (R_s13 hL) rfl (by omega) (by decide) (R_pl hL (by omega)) dX6_lent_18 rfl ?_
        refine V_iconst h 20 (v := 0) (by decide) dX6_lent_19 rfl ?_
        refine V_iald h 21 0 (R_sL hL (by omega)) (by decide) (by decide) (by decide) dX6_lent_20 rfl ?_
        refine V_top (y := V (o + 17) (i * 4 + 0)) (hS.2.2.1 i (by omega) 0 (by decide)) ?_
        refine V_iload_n h 22 1 rfl dX6_lent_21 rfl ?_
        refine V_icmp_ne h 36 25 dX6_lent_22 (by decide) rfl (fun c22 => ?_) (fun c22 => ?_)
        · skip
          refine V_iconst h 37 (v := 0) (by decide) dX6_lent_36 rfl ?_
          refine V_iadd h 38 dX6_lent_37 rfl ?_
          refine V_istore_n h 39 [(2, .int (x2 + 0)), (0, .ref r), (1, .int v), (3, .int (nI i))] (by decide) rfl dX6_lent_38 rfl ?_
          refine V_iinc h 42 [(3, .int ((nI i) + 1)), (2, .int (x2 + 0)), (0, .ref r), (1, .int v)] 3 rfl (by rfl) (by decide) rfl dX6_lent_39 rfl ?_
          refine V_goto h 4 dX6_lent_42 (by decide) ?_
          refine V_lsub [(0, .ref r), (1, .int v), (2, .int (x2 + 0)), (3, .int ((nI i) + 1))] [2, 3, 1, 0] rfl ?_
          exact ih (i + 1) _ _ (by omega) (by rw [amtF, if_neg c22, e2, Int32.add_zero]) (nI_1 i) (by omega)
        · skip
          refine V_aload_n h 26 0 rfl dX6_lent_25 rfl ?_
          refine g_X6_20 h 29 (b := r + 13) (R_s0 hL) (R_p2 hL) dX6_lent_26 rfl ?_
          refine V_iload_n h 30 3 rfl dX6_lent_29 rfl ?_
          refine V_aald h 31 (b := r + 14 + lo i) i (Or.inr rfl) (R_s13 hL) rfl (by omega) (by decide) (R_pl hL (by omega)) dX6_lent_30 rfl ?_
          refine V_iconst h 32 (v := 2) (by decide) dX6_lent_31 rfl ?_
          refine V_iald h 33 2 (R_sL hL (by omega)) (by decide) (by decide) (by decide) dX6_lent_32 rfl ?_
          refine V_top (y := V (o + 17) (i * 4 + 2)) (hS.2.2.1 i (by omega) 2 (by decide)) ?_
          refine V_goto h 37 dX6_lent_33 (by decide) ?_
          refine V_iadd h 38 dX6_lent_37 rfl ?_
          refine V_istore_n h 39 [(2, .int (x2 + (V (o + 17) (i * 4 + 2)))), (0, .ref r), (1, .int v), (3, .int (nI i))] (by decide) rfl dX6_lent_38 rfl ?_
          refine V_iinc h 42 [(3, .int ((nI i) + 1)), (2, .int (x2 + (V (o + 17) (i * 4 + 2)))), (0, .ref r), (1, .int v)] 3 rfl (by rfl) (by decide) rfl dX6_lent_39 rfl ?_
          refine V_goto h 4 dX6_lent_42 (by decide) ?_
          refine V_lsub [(0, .ref r), (1, .int v), (2, .int (x2 + (V (o + 17) (i * 4 + 2)))), (3, .int ((nI i) + 1))] [2, 3, 1, 0] rfl ?_
          exact ih (i + 1) _ _ (by omega) (by rw [amtF, if_pos c22, e2]) (nI_1 i) (by omega)
  refine V_lsub [(0, .ref r), (1, .int v), (2, .int 0), (3, .int 0)] [2, 3, 1, 0] rfl ?_
  exact LP4 _ 0 _ _ (Nat.zero_le _) rfl rfl (Nat.lt_succ_self _)

set_option maxRecDepth 100000 in
set_option maxHeartbeats 4000000 in
theorem r_used {κ : mKp} {n : Nat} {sh : mSh} {P : mPt} {D : mDt} {E : mEt} {r : Nat} {lo : Nat → Nat} (hL : rLay r lo sh P) {o L e m k : Nat} {ρ : Nat → Nat} {V : mDt} {t1 t2 t3 : Int32} (hS : rSim o L e ρ m k V r lo t1 t2 t3 D) (hW : cW o L ρ m k V) {t : Nat} (ht : t < 10) : mFnI κ yX6_used cX6_used 4 (Option.some Jvm.ClassFile.FieldType.int) 1 23 [.ref r, .int (nI t)] n sh P D E (fun ans D' => D' = D ∧ ans = V (o + 6 + t) 2 - amtF (V (o + 17)) 0 (nI t) m + amtF (V (o + 17)) 1 (nI t) m) := by
  refine mMet_of (by decide) (Nat.le_of_ble_eq_true rfl) ?_
  intro Γ Q hQ h hin
  have h : mOk Γ κ RX6 cX6_used 4 (Option.some Jvm.ClassFile.FieldType.int) { frames := 1, cells := 0, slots := 0, locals := 23 } := h
  have hρ : ∀ p, p < L → ρ p < 10 := fun p hp => (hW.1.2.2 p hp).1
  have hL10 := hW.1.2.1
  have hm8 := hW.2.2.2.1.1
  have hk8 := hW.2.2.2.2.2.1
  show mV Γ Q 0 0 n sh P D E [(0, .ref r), (1, .int (nI t))] [] 0
  refine V_aload_n h 1 0 rfl dX6_used_0 rfl ?_
  refine g_X6_11 h 4 (b := r + 1) (R_s0 hL) (R_p0 hL) dX6_used_1 rfl ?_
  refine V_iload_n h 5 1 rfl dX6_used_4 rfl ?_
  refine V_aald h 6 (b := r + 2 + t) t (Or.inr rfl) (R_s1 hL) rfl ht (by decide) (R_pw hL ht) dX6_used_5 rfl ?_
  refine V_iconst h 7 (v := 0) (by decide) dX6_used_6 rfl ?_
  refine V_iald h 8 0 (R_sw hL ht) (by decide) (by decide) (by decide) dX6_used_7 rfl ?_
  refine V_top (y := V (o + 6 + t) 2) (hS.1 t ht 0 (by decide)) ?_
  refine V_aload_n h 9 0 rfl dX6_used_8 rfl ?_
  refine V_iload_n h 10 1 rfl dX6_used_9 rfl ?_
  refine CVI h 13 (As := [.int (nI t)]) (r_lent hL hS hW (nI t)) rfl (R_s0 hL) qL_X6_70 qI_X6_lent qS_X6_lent qZ_X6 qC_X6_lent hd_X6_lent ⟨Nat.le_of_ble_eq_true rfl, Nat.le_of_ble_eq_true rfl⟩ (Nat.le_of_ble_eq_true rfl) rfl rfl dX6_used_10 (Nat.zero_le _) (Nat.zero_le _) (fun r1 D1 hq1 => ?_)
  rw [hq1.1, hq1.2]
  refine V_isub h 14 dX6_used_13 rfl ?_
  refine V_istore_n h 15 [(2, .int ((V (o + 6 + t) 2) - (amtF (V (o + 17)) 0 (nI t) m))), (0, .ref r), (1, .int (nI t))] (by decide) rfl dX6_used_14 rfl ?_
  refine V_iconst h 16 (v := 0) (by decide) dX6_used_15 rfl ?_
  refine V_istore_n h 17 [(3, .int 0), (2, .int ((V (o + 6 + t) 2) - (amtF (V (o + 17)) 0 (nI t) m))), (0, .ref r), (1, .int (nI t))] (by decide) rfl dX6_used_16 rfl ?_
  have LP17 : ∀ (kk : Nat) (i : Nat) (x2 x3 : Int32), (i ≤ m) → (x2 = V (o + 6 + t) 2 - amtF (V (o + 17)) 0 (nI t) m + amtF (V (o + 17)) 1 (nI t) i) → (x3 = nI i) → m - i < kk → mV Γ Q 0 0 n sh P D E [(0, .ref r), (1, .int (nI t)), (2, .int x2), (3, .int x3)] [] 17 := by
    intro kk
    induction kk with
    | zero =>
      intro i x2 x3 _ _ _ hms
      exact absurd hms (Nat.not_lt_zero _)
    | succ kk ih =>
      intro i x2 x3 hi e2 e3 hms
      subst e3
      refine V_iload_n h 18 3 rfl dX6_used_17 rfl ?_
      refine V_aload_n h 19 0 rfl dX6_used_18 rfl ?_
      refine g_X6_46 h 22 (R_s0 hL) dX6_used_19 rfl ?_
      refine V_top (y := nI m) hS.2.2.2.2.1.2.2.1 ?_
      refine V_icmp_ge h 58 25 dX6_used_22 (by decide) rfl (fun c22 => ?_) (fun c22 => ?_)
      · skip
        have hex : i = m := by have := mGe c22 (by omega) (by omega); omega
        refine V_iload_n h 59 2 rfl dX6_used_58 rfl ?_
        exact V_iret h rfl hQ (Nat.zero_le _) (Nat.zero_le _) ⟨rfl, rfl, rfl, rfl, _, rfl, ⟨rfl, by rw [e2, hex]⟩⟩ dX6_used_59
      · skip
        have hlt := mLt c22 (by omega)
        refine V_iload_n h 26 2 rfl dX6_used_25 rfl ?_
        refine V_aload_n h 27 0 rfl dX6_used_26 rfl ?_
        refine g_X6_20 h 30 (b := r + 13) (R_s0 hL) (R_p2 hL) dX6_used_27 rfl ?_
        refine V_iload_n h 31 3 rfl dX6_used_30 rfl ?_
        refine V_aald h 32 (b := r + 14 + lo i) i (Or.inr rfl) (R_s13 hL) rfl (by omega) (by decide) (R_pl hL (by omega)) dX6_used_31 rfl ?_
        refine V_iconst h 33 (v := 1) (by decide) dX6_used_32 rfl ?_
        refine V_iald h 34 1 (R_sL hL (by omega)) (by decide) (by decide) (by decide) dX6_used_33 rfl ?_
        refine V_top (y := V (o + 17) (i * 4 + 1)) (hS.2.2.1 i (by omega) 1 (by decide)) ?_
        refine V_iload_n h 35 1 rfl dX6_used_34 rfl ?_
        refine V_icmp_ne h 49 38 dX6_used_35 (by decide) rfl (fun c35 => ?_) (fun c35 => ?_)
        · skip
          refine V_iconst h 50 (v := 0) (by decide) dX6_used_49 rfl ?_
          refine V_iadd h 51 dX6_used_50 rfl ?_
          refine V_istore_n h 52 [(2, .int (x2 + 0)), (0, .ref r), (1, .int (nI t)), (3, .int (nI i))] (by decide) rfl dX6_used_51 rfl ?_
          refine V_iinc h 55 [(3, .int ((nI i) + 1)), (2, .int (x2 + 0)), (0, .ref r), (1, .int (nI t))] 3 rfl (by rfl) (by decide) rfl dX6_used_52 rfl ?_
          refine V_goto h 17 dX6_used_55 (by decide) ?_
          refine V_lsub [(0, .ref r), (1, .int (nI t)), (2, .int (x2 + 0)), (3, .int ((nI i) + 1))] [2, 3, 1, 0] rfl ?_
          exact ih (i + 1) _ _ (by omega) (by rw [amtF, if_neg c35, e2, Int32.add_zero]) (nI_1 i) (by omega)
        · skip
          refine V_aload_n h 39 0 rfl dX6_used_38 rfl ?_
          refine g_X6_20 h 42 (b := r + 13) (R_s0 hL) (R_p2 hL) dX6_used_39 rfl ?_
          refine V_iload_n h 43 3 rfl dX6_used_42 rfl ?_
          refine V_aald h 44 (b := r + 14 + lo i) i (Or.inr rfl) (R_s13 hL) rfl (by omega) (by decide) (R_pl hL (by omega)) dX6_used_43 rfl ?_
          refine V_iconst h 45 (v := 2) (by decide) dX6_used_44 rfl ?_
          refine V_iald h 46 2 (R_sL hL (by omega)) (by decide) (by decide) (by decide) dX6_used_45 rfl ?_
          refine V_top (y := V (o + 17) (i * 4 + 2)) (hS.2.2.1 i (by omega) 2 (by decide)) ?_
          refine V_goto h 50 dX6_used_46 (by decide) ?_
          refine V_iadd h 51 dX6_used_50 rfl ?_
          refine V_istore_n h 52 [(2, .int (x2 + (V (o + 17) (i * 4 + 2)))), (0, .ref r), (1, .int (nI t)), (3, .int (nI i))] (by decide) rfl dX6_used_51 rfl ?_
          refine V_iinc h 55 [(3, .int ((nI i) + 1)), (2, .int (x2 + (V (o + 17) (i * 4 + 2)))), (0, .ref r), (1, .int (nI t))] 3 rfl (by rfl) (by decide) rfl dX6_used_52 rfl ?_
          refine V_goto h 17 dX6_used_55 (by decide) ?_
          refine V_lsub [(0, .ref r), (1, .int (nI t)), (2, .int (x2 + (V (o + 17) (i * 4 + 2)))), (3, .int ((nI i) + 1))] [2, 3, 1, 0] rfl ?_
          exact ih (i + 1) _ _ (by omega) (by rw [amtF, if_pos c35, e2, Int32.add_assoc]) (nI_1 i) (by omega)
  refine V_lsub [(0, .ref r), (1, .int (nI t)), (2, .int ((V (o + 6 + t) 2) - (amtF (V (o + 17)) 0 (nI t) m))), (3, .int 0)] [2, 3, 1, 0] rfl ?_
  exact LP17 _ 0 _ _ (Nat.zero_le _) (Int32.add_zero _).symm rfl (Nat.lt_succ_self _)

set_option maxRecDepth 100000 in
set_option maxHeartbeats 4000000 in
theorem r_all {κ : mKp} {n : Nat} {sh : mSh} {P : mPt} {D : mDt} {E : mEt} {r : Nat} {lo : Nat → Nat} (hL : rLay r lo sh P) {o L e m k : Nat} {ρ : Nat → Nat} {V : mDt} {t1 t2 t3 : Int32} (hS : rSim o L e ρ m k V r lo t1 t2 t3 D) (hW : cW o L ρ m k V) : mFnI κ yX6_all cX6_all 3 (Option.some Jvm.ClassFile.FieldType.int) 0 0 [.ref r] n sh P D E (fun ans D' => D' = D ∧ ans = rsum (fun p => V (o + 6 + ρ p) 2) L) := by
  refine mMet_of (by decide) (Nat.le_of_ble_eq_true rfl) ?_
  intro Γ Q hQ h hin
  have h : mOk Γ κ RX6 cX6_all 3 (Option.some Jvm.ClassFile.FieldType.int) { frames := 0, cells := 0, slots := 0, locals := 0 } := h
  have hρ : ∀ p, p < L → ρ p < 10 := fun p hp => (hW.1.2.2 p hp).1
  have hL10 := hW.1.2.1
  have hm8 := hW.2.2.2.1.1
  have hk8 := hW.2.2.2.2.2.1
  show mV Γ Q 0 0 n sh P D E [(0, .ref r)] [] 0
  refine V_iconst h 1 (v := 0) (by decide) dX6_all_0 rfl ?_
  refine V_istore_n h 2 [(1, .int 0), (0, .ref r)] (by decide) rfl dX6_all_1 rfl ?_
  refine V_iconst h 3 (v := 0) (by decide) dX6_all_2 rfl ?_
  refine V_istore_n h 4 [(2, .int 0), (1, .int 0), (0, .ref r)] (by decide) rfl dX6_all_3 rfl ?_
  have LP4 : ∀ (kk : Nat) (i : Nat) (x1 x2 : Int32), (i ≤ L) → (x1 = rsum (fun p => V (o + 6 + ρ p) 2) i) → (x2 = nI i) → L - i < kk → mV Γ Q 0 0 n sh P D E [(0, .ref r), (1, .int x1), (2, .int x2)] [] 4 := by
    intro kk
    induction kk with
    | zero =>
      intro i x1 x2 _ _ _ hms
      exact absurd hms (Nat.not_lt_zero _)
    | succ kk ih =>
      intro i x1 x2 hi e1 e2 hms
      subst e2
      refine V_iload_n h 5 2 rfl dX6_all_4 rfl ?_
      refine V_aload_n h 6 0 rfl dX6_all_5 rfl ?_
      refine g_X6_52 h 9 (R_s0 hL) dX6_all_6 rfl ?_
      refine V_top (y := nI L) hS.2.2.2.2.1.2.1 ?_
      refine V_icmp_ge h 34 12 dX6_all_9 (by decide) rfl (fun c9 => ?_) (fun c9 => ?_)
      · skip
        have hex : i = L := by have := mGe c9 (by omega) (by omega); omega
        refine V_iload_n h 35 1 rfl dX6_all_34 rfl ?_
        exact V_iret h rfl hQ (Nat.zero_le _) (Nat.zero_le _) ⟨rfl, rfl, rfl, rfl, _, rfl, ⟨rfl, by rw [e1, hex]⟩⟩ dX6_all_35
      · skip
        have hlt := mLt c9 (by omega)
        refine V_iload_n h 13 1 rfl dX6_all_12 rfl ?_
        refine V_aload_n h 14 0 rfl dX6_all_13 rfl ?_
        refine g_X6_11 h 17 (b := r + 1) (R_s0 hL) (R_p0 hL) dX6_all_14 rfl ?_
        refine V_aload_n h 18 0 rfl dX6_all_17 rfl ?_
        refine g_X6_16 h 21 (b := r + 12) (R_s0 hL) (R_p1 hL) dX6_all_18 rfl ?_
        refine V_iload_n h 22 2 rfl dX6_all_21 rfl ?_
        refine V_iald h 23 i (R_s12 hL) rfl (by omega) (by decide) dX6_all_22 rfl ?_
        refine V_top (y := nI (ρ i)) (hS.2.1 i hlt) ?_
        refine V_aald h 24 (b := r + 2 + (ρ i)) (ρ i) (Or.inr rfl) (R_s1 hL) rfl (hρ i hlt) (by decide) (R_pw hL (hρ i hlt)) dX6_all_23 rfl ?_
        refine V_iconst h 25 (v := 0) (by decide) dX6_all_24 rfl ?_
        refine V_iald h 26 0 (R_sw hL (hρ i hlt)) (by decide) (by decide) (by decide) dX6_all_25 rfl ?_
        refine V_top (y := V (o + 6 + (ρ i)) 2) (hS.1 (ρ i) (hρ i hlt) 0 (by decide)) ?_
        refine V_iadd h 27 dX6_all_26 rfl ?_
        refine V_istore_n h 28 [(1, .int (x1 + (V (o + 6 + (ρ i)) 2))), (0, .ref r), (2, .int (nI i))] (by decide) rfl dX6_all_27 rfl ?_
        refine V_iinc h 31 [(2, .int ((nI i) + 1)), (1, .int (x1 + (V (o + 6 + (ρ i)) 2))), (0, .ref r)] 2 rfl (by rfl) (by decide) rfl dX6_all_28 rfl ?_
        refine V_goto h 4 dX6_all_31 (by decide) ?_
        refine V_lsub [(0, .ref r), (1, .int (x1 + (V (o + 6 + (ρ i)) 2))), (2, .int ((nI i) + 1))] [2, 1, 0] rfl ?_
        exact ih (i + 1) _ _ (by omega) (by rw [rsum, ← e1]) (nI_1 i) (by omega)
  refine V_lsub [(0, .ref r), (1, .int 0), (2, .int 0)] [2, 1, 0] rfl ?_
  exact LP4 _ 0 _ _ (Nat.zero_le _) rfl rfl (Nat.lt_succ_self _)

theorem nIρ {o L : Nat} {ρ : Nat → Nat} {m k : Nat} {V : mDt} (hW : cW o L ρ m k V) (hinj : ∀ p q, p < q → q < L → ρ p ≠ ρ q) {p q : Nat} (hp : p < L) (hq : q < L) : nI (ρ p) = nI (ρ q) ↔ p = q := by
  have h1 := (hW.1.2.2 p hp).1
  have h2 := (hW.1.2.2 q hq).1
  rw [nI_eq (by omega) (by omega)]
  constructor
  · intro h
    rcases Nat.lt_trichotomy p q with z | z | z
    · exact absurd h (hinj p q z hq)
    · exact z
    · exact absurd h.symm (hinj q p z hp)
  · rintro rfl; rfl

set_option maxRecDepth 100000 in
set_option maxHeartbeats 4000000 in
theorem r_place {κ : mKp} {n : Nat} {sh : mSh} {P : mPt} {D : mDt} {E : mEt} {r : Nat} {lo : Nat → Nat} (hL : rLay r lo sh P) {o L e m k : Nat} {ρ : Nat → Nat} {V : mDt} {t1 t2 t3 : Int32} (hS : rSim o L e ρ m k V r lo t1 t2 t3 D) (hW : cW o L ρ m k V) (hinj : ∀ p q, p < q → q < L → ρ p ≠ ρ q) {q : Nat} (hq : q < L) : mFnI κ yX6_place cX6_place 3 (Option.some Jvm.ClassFile.FieldType.int) 0 0 [.ref r, .int (nI (ρ q))] n sh P D E (fun ans D' => D' = D ∧ ans = nI q) := by
  refine mMet_of (by decide) (Nat.le_of_ble_eq_true rfl) ?_
  intro Γ Q hQ h hin
  have h : mOk Γ κ RX6 cX6_place 3 (Option.some Jvm.ClassFile.FieldType.int) { frames := 0, cells := 0, slots := 0, locals := 0 } := h
  have hρ : ∀ p, p < L → ρ p < 10 := fun p hp => (hW.1.2.2 p hp).1
  have hL10 := hW.1.2.1
  have hm8 := hW.2.2.2.1.1
  have hk8 := hW.2.2.2.2.2.1
  show mV Γ Q 0 0 n sh P D E [(0, .ref r), (1, .int (nI (ρ q)))] [] 0
  refine V_iconst h 1 (v := 0) (by decide) dX6_place_0 rfl ?_
  refine V_istore_n h 2 [(2, .int 0), (0, .ref r), (1, .int (nI (ρ q)))] (by decide) rfl dX6_place_1 rfl ?_
  have LP2 : ∀ (kk : Nat) (i : Nat) (x2 : Int32), (i ≤ q) → (x2 = nI i) → q + 1 - i < kk → mV Γ Q 0 0 n sh P D E [(0, .ref r), (1, .int (nI (ρ q))), (2, .int x2)] [] 2 := by
    intro kk
    induction kk with
    | zero =>
      intro i x2 _ _ hms
      exact absurd hms (Nat.not_lt_zero _)
    | succ kk ih =>
      intro i x2 hi e2 hms
      subst e2
      have hlt : i < L := by omega
      refine V_iload_n h 3 2 rfl dX6_place_2 rfl ?_
      refine V_aload_n h 4 0 rfl dX6_place_3 rfl ?_
      refine g_X6_52 h 7 (R_s0 hL) dX6_place_4 rfl ?_
      refine V_top (y := nI L) hS.2.2.2.2.1.2.1 ?_
      refine V_icmp_ge h 28 10 dX6_place_7 (by decide) rfl (fun c7 => absurd c7 (nI_ge hlt (by omega))) (fun c7 => ?_)
      refine V_aload_n h 11 0 rfl dX6_place_10 rfl ?_
      refine g_X6_16 h 14 (b := r + 12) (R_s0 hL) (R_p1 hL) dX6_place_11 rfl ?_
      refine V_iload_n h 15 2 rfl dX6_place_14 rfl ?_
      refine V_iald h 16 i (R_s12 hL) rfl (by omega) (by decide) dX6_place_15 rfl ?_
      refine V_top (y := nI (ρ i)) (hS.2.1 i hlt) ?_
      refine V_iload_n h 17 1 rfl dX6_place_16 rfl ?_
      refine V_icmp_ne h 22 20 dX6_place_17 (by decide) rfl (fun c17 => ?_) (fun c17 => ?_)
      · skip
        refine V_iinc h 25 [(2, .int ((nI i) + 1)), (0, .ref r), (1, .int (nI (ρ q)))] 2 rfl (by rfl) (by decide) rfl dX6_place_22 rfl ?_
        refine V_goto h 2 dX6_place_25 (by decide) ?_
        refine V_lsub [(0, .ref r), (1, .int (nI (ρ q))), (2, .int ((nI i) + 1))] [1, 2, 0] rfl ?_
        exact ih (i + 1) _ (by have : i ≠ q := fun z => c17 ((nIρ hW hinj hlt hq).mpr z); omega) (nI_1 i) (by omega)
      · skip
        refine V_iload_n h 21 2 rfl dX6_place_20 rfl ?_
        exact V_iret h rfl hQ (Nat.zero_le _) (Nat.zero_le _) ⟨rfl, rfl, rfl, rfl, _, rfl, ⟨rfl, by rw [(nIρ hW hinj hlt hq).mp c17]⟩⟩ dX6_place_21
  refine V_lsub [(0, .ref r), (1, .int (nI (ρ q))), (2, .int 0)] [1, 2, 0] rfl ?_
  exact LP2 _ 0 _ (Nat.zero_le _) rfl (Nat.lt_succ_self _)

set_option maxRecDepth 100000 in
set_option maxHeartbeats 4000000 in
theorem r_first {κ : mKp} {n : Nat} {sh : mSh} {P : mPt} {D : mDt} {E : mEt} {r : Nat} {lo : Nat → Nat} (hL : rLay r lo sh P) {o L e m k : Nat} {ρ : Nat → Nat} {V : mDt} {t1 t2 t3 : Int32} (hS : rSim o L e ρ m k V r lo t1 t2 t3 D) (hW : cW o L ρ m k V) (hinj : ∀ p q, p < q → q < L → ρ p ≠ ρ q) {q : Nat} (hq : q < L) : mFnI κ yX6_first cX6_first 4 (Option.some Jvm.ClassFile.FieldType.int) 0 0 [.ref r, .int (nI (ρ q))] n sh P D E (fun ans D' => D' = D ∧ ans = rsum (fun p => V (o + 6 + ρ p) 2) q) := by
  refine mMet_of (by decide) (Nat.le_of_ble_eq_true rfl) ?_
  intro Γ Q hQ h hin
  have h : mOk Γ κ RX6 cX6_first 4 (Option.some Jvm.ClassFile.FieldType.int) { frames := 0, cells := 0, slots := 0, locals := 0 } := h
  have hρ : ∀ p, p < L → ρ p < 10 := fun p hp => (hW.1.2.2 p hp).1
  have hL10 := hW.1.2.1
  have hm8 := hW.2.2.2.1.1
  have hk8 := hW.2.2.2.2.2.1
  show mV Γ Q 0 0 n sh P D E [(0, .ref r), (1, .int (nI (ρ q)))] [] 0
  refine V_iconst h 1 (v := 0) (by decide) dX6_first_0 rfl ?_
  refine V_istore_n h 2 [(2, .int 0), (0, .ref r), (1, .int (nI (ρ q)))] (by decide) rfl dX6_first_1 rfl ?_
  refine V_iconst h 3 (v := 0) (by decide) dX6_first_2 rfl ?_
  refine V_istore_n h 4 [(3, .int 0), (2, .int 0), (0, .ref r), (1, .int (nI (ρ q)))] (by decide) rfl dX6_first_3 rfl ?_
  have LP4 : ∀ (kk : Nat) (i : Nat) (x2 x3 : Int32), (i ≤ q) → (x2 = rsum (fun p => V (o + 6 + ρ p) 2) i) → (x3 = nI i) → q + 1 - i < kk → mV Γ Q 0 0 n sh P D E [(0, .ref r), (1, .int (nI (ρ q))), (2, .int x2), (3, .int x3)] [] 4 := by
    intro kk
    induction kk with
    | zero =>
      intro i x2 x3 _ _ _ hms
      exact absurd hms (Nat.not_lt_zero _)
    | succ kk ih =>
      intro i x2 x3 hi e2 e3 hms
      subst e3
      have hlt : i < L := by omega
      refine V_aload_n h 5 0 rfl dX6_first_4 rfl ?_
      refine g_X6_16 h 8 (b := r + 12) (R_s0 hL) (R_p1 hL) dX6_first_5 rfl ?_
      refine V_iload_n h 9 3 rfl dX6_first_8 rfl ?_
      refine V_iald h 10 i (R_s12 hL) rfl (by omega) (by decide) dX6_first_9 rfl ?_
      refine V_top (y := nI (ρ i)) (hS.2.1 i hlt) ?_
      refine V_iload_n h 11 1 rfl dX6_first_10 rfl ?_
      refine V_icmp_eq h 36 14 dX6_first_11 (by decide) rfl (fun c11 => ?_) (fun c11 => ?_)
      · skip
        refine V_iload_n h 37 2 rfl dX6_first_36 rfl ?_
        exact V_iret h rfl hQ (Nat.zero_le _) (Nat.zero_le _) ⟨rfl, rfl, rfl, rfl, _, rfl, ⟨rfl, by rw [e2, (nIρ hW hinj hlt hq).mp c11]⟩⟩ dX6_first_37
      · skip
        refine V_iload_n h 15 2 rfl dX6_first_14 rfl ?_
        refine V_aload_n h 16 0 rfl dX6_first_15 rfl ?_
        refine g_X6_11 h 19 (b := r + 1) (R_s0 hL) (R_p0 hL) dX6_first_16 rfl ?_
        refine V_aload_n h 20 0 rfl dX6_first_19 rfl ?_
        refine g_X6_16 h 23 (b := r + 12) (R_s0 hL) (R_p1 hL) dX6_first_20 rfl ?_
        refine V_iload_n h 24 3 rfl dX6_first_23 rfl ?_
        refine V_iald h 25 i (R_s12 hL) rfl (by omega) (by decide) dX6_first_24 rfl ?_
        refine V_top (y := nI (ρ i)) (hS.2.1 i hlt) ?_
        refine V_aald h 26 (b := r + 2 + (ρ i)) (ρ i) (Or.inr rfl) (R_s1 hL) rfl (hρ i hlt) (by decide) (R_pw hL (hρ i hlt)) dX6_first_25 rfl ?_
        refine V_iconst h 27 (v := 0) (by decide) dX6_first_26 rfl ?_
        refine V_iald h 28 0 (R_sw hL (hρ i hlt)) (by decide) (by decide) (by decide) dX6_first_27 rfl ?_
        refine V_top (y := V (o + 6 + (ρ i)) 2) (hS.1 (ρ i) (hρ i hlt) 0 (by decide)) ?_
        refine V_iadd h 29 dX6_first_28 rfl ?_
        refine V_istore_n h 30 [(2, .int (x2 + (V (o + 6 + (ρ i)) 2))), (0, .ref r), (1, .int (nI (ρ q))), (3, .int (nI i))] (by decide) rfl dX6_first_29 rfl ?_
        refine V_iinc h 33 [(3, .int ((nI i) + 1)), (2, .int (x2 + (V (o + 6 + (ρ i)) 2))), (0, .ref r), (1, .int (nI (ρ q)))] 3 rfl (by rfl) (by decide) rfl dX6_first_30 rfl ?_
        refine V_goto h 4 dX6_first_33 (by decide) ?_
        refine V_lsub [(0, .ref r), (1, .int (nI (ρ q))), (2, .int (x2 + (V (o + 6 + (ρ i)) 2))), (3, .int ((nI i) + 1))] [2, 3, 1, 0] rfl ?_
        exact ih (i + 1) _ _ (by have : i ≠ q := fun z => c11 ((nIρ hW hinj hlt hq).mpr z); omega) (by rw [rsum, ← e2]) (nI_1 i) (by omega)
  refine V_lsub [(0, .ref r), (1, .int (nI (ρ q))), (2, .int 0), (3, .int 0)] [2, 3, 1, 0] rfl ?_
  exact LP4 _ 0 _ _ (Nat.zero_le _) rfl rfl (Nat.lt_succ_self _)

set_option maxRecDepth 100000 in
set_option maxHeartbeats 4000000 in
theorem r_today {κ : mKp} {n : Nat} {sh : mSh} {P : mPt} {D : mDt} {E : mEt} {r : Nat} {lo : Nat → Nat} (hL : rLay r lo sh P) {o L e m k : Nat} {ρ : Nat → Nat} {V : mDt} {t1 t2 t3 : Int32} (hS : rSim o L e ρ m k V r lo t1 t2 t3 D) (hW : cW o L ρ m k V) (u v : Int32) : mFnI κ yX6_today cX6_today 4 (Option.some Jvm.ClassFile.FieldType.int) 1 21 [.ref r, .int u, .int v] n sh P D E (fun ans D' => D' = D ∧ ans = bodF u v (rm7 (V o 4) * 720)) := by
  refine mMet_of (by decide) (Nat.le_of_ble_eq_true rfl) ?_
  intro Γ Q hQ h hin
  have h : mOk Γ κ RX6 cX6_today 4 (Option.some Jvm.ClassFile.FieldType.int) { frames := 1, cells := 0, slots := 0, locals := 21 } := h
  have hρ : ∀ p, p < L → ρ p < 10 := fun p hp => (hW.1.2.2 p hp).1
  have hL10 := hW.1.2.1
  have hm8 := hW.2.2.2.1.1
  have hk8 := hW.2.2.2.2.2.1
  show mV Γ Q 0 0 n sh P D E [(0, .ref r), (1, .int u), (2, .int v)] [] 0
  refine V_aload_n h 1 0 rfl dX6_today_0 rfl ?_
  refine g_X6_55 h 4 (R_s0 hL) dX6_today_1 rfl ?_
  refine V_top (y := V o 4) hS.2.2.2.2.1.2.2.2.2.1 ?_
  refine V_bipush h 6 (v := 7) (by decide) dX6_today_4 rfl ?_
  refine V_irem h 7 (by decide) dX6_today_6 rfl ?_
  refine V_sipush h 10 (v := 720) (by decide) dX6_today_7 rfl ?_
  refine V_imul h 11 dX6_today_10 rfl ?_
  refine V_istore_n h 12 [(3, .int (((V o 4) - (V o 4) / 7 * 7) * 720)), (0, .ref r), (1, .int u), (2, .int v)] (by decide) rfl dX6_today_11 rfl ?_
  refine V_iconst h 13 (v := 0) (by decide) dX6_today_12 rfl ?_
  refine V_iload_n h 14 3 rfl dX6_today_13 rfl ?_
  refine V_iload_n h 15 0 rfl dX6_today_14 rfl ?_
  refine V_sipush h 18 (v := 720) (by decide) dX6_today_15 rfl ?_
  refine V_iadd h 19 dX6_today_18 rfl ?_
  refine V_mmin h 22 qL_X6_80 (Nat.le_of_ble_eq_true rfl) (Nat.le_of_ble_eq_true rfl) (Nat.zero_le _) (Nat.zero_le _) dX6_today_19 rfl ?_
  refine V_iload_n h 23 2 rfl dX6_today_22 rfl ?_
  refine V_iload_n h 24 0 rfl dX6_today_23 rfl ?_
  refine V_mmax h 27 qL_X6_64 (Nat.le_of_ble_eq_true rfl) (Nat.le_of_ble_eq_true rfl) (Nat.zero_le _) (Nat.zero_le _) dX6_today_24 rfl ?_
  refine V_isub h 28 dX6_today_27 rfl ?_
  refine V_mmax h 31 qL_X6_64 (Nat.le_of_ble_eq_true rfl) (Nat.le_of_ble_eq_true rfl) (Nat.zero_le _) (Nat.zero_le _) dX6_today_28 rfl ?_
  exact V_iret h rfl hQ (Nat.zero_le _) (Nat.zero_le _) ⟨rfl, rfl, rfl, rfl, _, rfl, ⟨rfl, rfl⟩⟩ dX6_today_31

set_option maxRecDepth 100000 in
set_option maxHeartbeats 4000000 in
theorem r_ownerOf {κ : mKp} {n : Nat} {sh : mSh} {P : mPt} {D : mDt} {E : mEt} {r : Nat} {lo : Nat → Nat} (hL : rLay r lo sh P) {o L e m k : Nat} {ρ : Nat → Nat} {V : mDt} {t1 t2 t3 : Int32} (hS : rSim o L e ρ m k V r lo t1 t2 t3 D) (hW : cW o L ρ m k V) (v : Int32) : mFnI κ yX6_ownerOf cX6_ownerOf 4 (Option.some Jvm.ClassFile.FieldType.int) 0 0 [.ref r, .int v] n sh P D E (fun ans D' => D' = D ∧ ans = holdI (fun p => V (o + 6 + ρ p) 2) ρ v L) := by
  refine mMet_of (by decide) (Nat.le_of_ble_eq_true rfl) ?_
  intro Γ Q hQ h hin
  have h : mOk Γ κ RX6 cX6_ownerOf 4 (Option.some Jvm.ClassFile.FieldType.int) { frames := 0, cells := 0, slots := 0, locals := 0 } := h
  have hρ : ∀ p, p < L → ρ p < 10 := fun p hp => (hW.1.2.2 p hp).1
  have hL10 := hW.1.2.1
  have hm8 := hW.2.2.2.1.1
  have hk8 := hW.2.2.2.2.2.1
  show mV Γ Q 0 0 n sh P D E [(0, .ref r), (1, .int v)] [] 0
  refine V_iconst h 1 (v := 0) (by decide) dX6_ownerOf_0 rfl ?_
  refine V_istore_n h 2 [(2, .int 0), (0, .ref r), (1, .int v)] (by decide) rfl dX6_ownerOf_1 rfl ?_
  refine V_iconst h 3 (v := 0) (by decide) dX6_ownerOf_2 rfl ?_
  refine V_istore_n h 4 [(3, .int 0), (2, .int 0), (0, .ref r), (1, .int v)] (by decide) rfl dX6_ownerOf_3 rfl ?_
  have LP4 : ∀ (kk : Nat) (i : Nat) (x2 x3 : Int32), (i ≤ L) → (x2 = rsum (fun p => V (o + 6 + ρ p) 2) i) → (x3 = nI i) → (holdF (fun p => V (o + 6 + ρ p) 2) v 0 L = holdF (fun p => V (o + 6 + ρ p) 2) v i (L - i)) → L - i < kk → mV Γ Q 0 0 n sh P D E [(0, .ref r), (1, .int v), (2, .int x2), (3, .int x3)] [] 4 := by
    intro kk
    induction kk with
    | zero =>
      intro i x2 x3 _ _ _ _ hms
      exact absurd hms (Nat.not_lt_zero _)
    | succ kk ih =>
      intro i x2 x3 hi e2 e3 eh hms
      subst e3
      refine V_iload_n h 5 3 rfl dX6_ownerOf_4 rfl ?_
      refine V_aload_n h 6 0 rfl dX6_ownerOf_5 rfl ?_
      refine g_X6_52 h 9 (R_s0 hL) dX6_ownerOf_6 rfl ?_
      refine V_top (y := nI L) hS.2.2.2.2.1.2.1 ?_
      refine V_icmp_ge h 46 12 dX6_ownerOf_9 (by decide) rfl (fun c9 => ?_) (fun c9 => ?_)
      · skip
        have hex : i = L := by have := mGe c9 (by omega) (by omega); omega
        refine V_iconst h 47 (v := (-1)) (by decide) dX6_ownerOf_46 rfl ?_
        exact V_iret h rfl hQ (Nat.zero_le _) (Nat.zero_le _) ⟨rfl, rfl, rfl, rfl, _, rfl, ⟨rfl, by rw [holdI, eh, hex, Nat.sub_self]; rfl⟩⟩ dX6_ownerOf_47
      · skip
        have hlt := mLt c9 (by omega)
        refine V_iload_n h 13 2 rfl dX6_ownerOf_12 rfl ?_
        refine V_aload_n h 14 0 rfl dX6_ownerOf_13 rfl ?_
        refine g_X6_11 h 17 (b := r + 1) (R_s0 hL) (R_p0 hL) dX6_ownerOf_14 rfl ?_
        refine V_aload_n h 18 0 rfl dX6_ownerOf_17 rfl ?_
        refine g_X6_16 h 21 (b := r + 12) (R_s0 hL) (R_p1 hL) dX6_ownerOf_18 rfl ?_
        refine V_iload_n h 22 3 rfl dX6_ownerOf_21 rfl ?_
        refine V_iald h 23 i (R_s12 hL) rfl (by omega) (by decide) dX6_ownerOf_22 rfl ?_
        refine V_top (y := nI (ρ i)) (hS.2.1 i hlt) ?_
        refine V_aald h 24 (b := r + 2 + (ρ i)) (ρ i) (Or.inr rfl) (R_s1 hL) rfl (hρ i hlt) (by decide) (R_pw hL (hρ i hlt)) dX6_ownerOf_23 rfl ?_
        refine V_iconst h 25 (v := 0) (by decide) dX6_ownerOf_24 rfl ?_
        refine V_iald h 26 0 (R_sw hL (hρ i hlt)) (by decide) (by decide) (by decide) dX6_ownerOf_25 rfl ?_
        refine V_top (y := V (o + 6 + (ρ i)) 2) (hS.1 (ρ i) (hρ i hlt) 0 (by decide)) ?_
        refine V_iadd h 27 dX6_ownerOf_26 rfl ?_
        refine V_istore_n h 28 [(2, .int (x2 + (V (o + 6 + (ρ i)) 2))), (0, .ref r), (1, .int v), (3, .int (nI i))] (by decide) rfl dX6_ownerOf_27 rfl ?_
        refine V_iload_n h 29 2 rfl dX6_ownerOf_28 rfl ?_
        refine V_iload_n h 30 0 rfl dX6_ownerOf_29 rfl ?_
        refine V_icmp_ge h 40 33 dX6_ownerOf_30 (by decide) rfl (fun c30 => ?_) (fun c30 => ?_)
        · skip
          refine V_iinc h 43 [(3, .int ((nI i) + 1)), (2, .int (x2 + (V (o + 6 + (ρ i)) 2))), (0, .ref r), (1, .int v)] 3 rfl (by rfl) (by decide) rfl dX6_ownerOf_40 rfl ?_
          refine V_goto h 4 dX6_ownerOf_43 (by decide) ?_
          refine V_lsub [(0, .ref r), (1, .int v), (2, .int (x2 + (V (o + 6 + (ρ i)) 2))), (3, .int ((nI i) + 1))] [2, 3, 1, 0] rfl ?_
          exact ih (i + 1) _ _ (by omega) (by rw [rsum, ← e2]) (nI_1 i) (by rw [eh, show L - i = (L - (i + 1)) + 1 by omega, holdF, if_neg (by rw [rsum, ← e2]; exact Int32.not_lt.mpr c30)]) (by omega)
        · skip
          refine V_aload_n h 34 1 rfl dX6_ownerOf_33 rfl ?_
          refine g_X6_16 h 37 (b := r + 12) (R_s0 hL) (R_p1 hL) dX6_ownerOf_34 rfl ?_
          refine V_iload_n h 38 3 rfl dX6_ownerOf_37 rfl ?_
          refine V_iald h 39 i (R_s12 hL) rfl (by omega) (by decide) dX6_ownerOf_38 rfl ?_
          refine V_top (y := nI (ρ i)) (hS.2.1 i hlt) ?_
          exact V_iret h rfl hQ (Nat.zero_le _) (Nat.zero_le _) ⟨rfl, rfl, rfl, rfl, _, rfl, ⟨rfl, by rw [holdI, eh, show L - i = (L - (i + 1)) + 1 by omega, holdF, if_pos (by rw [rsum, ← e2]; exact Int32.not_le.mp c30)]⟩⟩ dX6_ownerOf_39
  refine V_lsub [(0, .ref r), (1, .int v), (2, .int 0), (3, .int 0)] [2, 3, 1, 0] rfl ?_
  exact LP4 _ 0 _ _ (Nat.zero_le _) rfl rfl rfl (Nat.lt_succ_self _)
