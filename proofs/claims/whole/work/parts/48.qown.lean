theorem sw7 {w : Nat} (h : w < 14) (h7 : ¬ w < 7) : w = 7 ∨ w = 8 ∨ w = 9 ∨ w = 10 ∨ w = 11 ∨ w = 12 ∨ w = 13 := by omega
theorem ask_lo {o : Nat} {ρ : Nat → Nat} {q m : Nat} {V : mDt} {w : Nat} (h : w < 7) : askO o ρ q m V w = V (o + 6 + ρ q) (clm w) := by
  obtain rfl | rfl | rfl | rfl | rfl | rfl | rfl : w = 0 ∨ w = 1 ∨ w = 2 ∨ w = 3 ∨ w = 4 ∨ w = 5 ∨ w = 6 := by omega
  all_goals rfl
theorem bow_0 {v : Int32} (h : ∃ w, w ≤ 5040 ∧ v = nI w) : v ≤ 0 ↔ v = 0 := by
  obtain ⟨w, hw, rfl⟩ := h
  constructor
  · intro h
    rcases Nat.eq_zero_or_pos w with q | q
    · subst q; rfl
    · exact absurd h (nI_nle q (by omega))
  · intro h; rw [h]; decide

set_option maxRecDepth 100000 in
set_option maxHeartbeats 4000000 in
theorem q_ownerNow0 {κ : mKp} {n : Nat} {sh : mSh} {P : mPt} {D : mDt} {E : mEt} {q r : Nat} {lo : Nat → Nat} (hmS : sh q = some (.inl 7)) (hmP : P q 1 = some r) (hqr : q < r) (hL : rLay r lo sh P) {o L e m k : Nat} {ρ : Nat → Nat} {V : mDt} {t1 t2 t3 : Int32} (hS : rSim o L e ρ m k V r lo t1 t2 t3 D) (hI : cI o L e ρ m k V) (hb0 : ∀ i, i < 10 → ∃ w, w ≤ 5040 ∧ V (o + 6 + i) 2 = nI w) {p : Nat} (hp : p < L) {w : Nat} (hw : w < 7) : mFnI κ yX7_ownerNow cX7_ownerNow 4 (Option.some Jvm.ClassFile.FieldType.int) 2 46 [.ref q, .int (nI (ρ p)), .int (nI w)] n sh P D E (fun ans D' => D' = D ∧ ans = askO o ρ p m V w) := by
  refine mMet_of (by decide) (Nat.le_of_ble_eq_true rfl) ?_
  intro Γ Q hQ h hin
  have h : mOk Γ κ RX7 cX7_ownerNow 4 (Option.some Jvm.ClassFile.FieldType.int) { frames := 2, cells := 0, slots := 0, locals := 46 } := h
  have hW := hI.1
  have hinj := hI.2.2.2.2.1
  have hρ : ∀ p, p < L → ρ p < 10 := fun p hp => (hW.1.2.2 p hp).1
  have hL10 := hW.1.2.1
  have hm8 := hW.2.2.2.1.1
  have hk8 := hW.2.2.2.2.2.1
  have hp10 := hρ p hp
  show mV Γ Q 0 0 n sh P D E [(0, .ref q), (1, .int (nI (ρ p))), (2, .int (nI w))] [] 0
  refine V_aload_n h 1 0 rfl dX7_ownerNow_0 rfl ?_
  refine V_iload_n h 2 1 rfl dX7_ownerNow_1 rfl ?_
  refine CVR h 5 (As := [.int (nI (ρ p))]) (q_at hmS hmP hL (t := (ρ p)) (hρ p hp)) rfl hmS qL_X7_39 qI_X7_at qS_X7_at qZ_X7 qC_X7_at hd_X7_at ⟨Nat.le_of_ble_eq_true rfl, Nat.le_of_ble_eq_true rfl⟩ (Nat.le_of_ble_eq_true rfl) rfl rfl dX7_ownerNow_2 (Nat.zero_le _) (Nat.zero_le _) (fun r1 D1 hq1 => ?_)
  rw [hq1.1, hq1.2]
  refine V_astore_n h 6 [(3, .ref (r + 2 + (ρ p))), (0, .ref q), (1, .int (nI (ρ p))), (2, .int (nI w))] (by decide) rfl dX7_ownerNow_5 rfl ?_
  refine V_iload_n h 7 3 rfl dX7_ownerNow_6 rfl ?_
  refine V_tabOut h 105 dX7_ownerNow_7 (Or.inl (by rw [nI_toInt (by omega)]; omega)) (by decide) ?_
  refine V_aload_n h 106 0 rfl dX7_ownerNow_105 rfl ?_
  refine V_iload_n h 107 3 rfl dX7_ownerNow_106 rfl ?_
  refine V_iald h 108 w (R_sw hL (hρ p hp)) rfl (by omega) (by decide) dX7_ownerNow_107 rfl ?_
  refine V_top (y := V (o + 6 + ρ p) (clm w)) (hS.1 _ hp10 w (by omega)) ?_
  exact V_iret h rfl hQ (Nat.zero_le _) (Nat.zero_le _) ⟨rfl, rfl, rfl, rfl, _, rfl, ⟨rfl, (ask_lo hw).symm⟩⟩ dX7_ownerNow_108

set_option maxRecDepth 100000 in
set_option maxHeartbeats 4000000 in
theorem q_ownerNow1 {κ : mKp} {n : Nat} {sh : mSh} {P : mPt} {D : mDt} {E : mEt} {q r : Nat} {lo : Nat → Nat} (hmS : sh q = some (.inl 7)) (hmP : P q 1 = some r) (hqr : q < r) (hL : rLay r lo sh P) {o L e m k : Nat} {ρ : Nat → Nat} {V : mDt} {t1 t2 t3 : Int32} (hS : rSim o L e ρ m k V r lo t1 t2 t3 D) (hI : cI o L e ρ m k V) (hb0 : ∀ i, i < 10 → ∃ w, w ≤ 5040 ∧ V (o + 6 + i) 2 = nI w) {p : Nat} (hp : p < L) {w : Nat} (hw : w < 14) (hw7 : ¬ w < 7) : mFnI κ yX7_ownerNow cX7_ownerNow 4 (Option.some Jvm.ClassFile.FieldType.int) 2 46 [.ref q, .int (nI (ρ p)), .int (nI w)] n sh P D E (fun ans D' => D' = D ∧ ans = askO o ρ p m V w) := by
  refine mMet_of (by decide) (Nat.le_of_ble_eq_true rfl) ?_
  intro Γ Q hQ h hin
  have h : mOk Γ κ RX7 cX7_ownerNow 4 (Option.some Jvm.ClassFile.FieldType.int) { frames := 2, cells := 0, slots := 0, locals := 46 } := h
  have hW := hI.1
  have hinj := hI.2.2.2.2.1
  have hρ : ∀ p, p < L → ρ p < 10 := fun p hp => (hW.1.2.2 p hp).1
  have hL10 := hW.1.2.1
  have hm8 := hW.2.2.2.1.1
  have hk8 := hW.2.2.2.2.2.1
  have hp10 := hρ p hp
  show mV Γ Q 0 0 n sh P D E [(0, .ref q), (1, .int (nI (ρ p))), (2, .int (nI w))] [] 0
  refine V_aload_n h 1 0 rfl dX7_ownerNow_0 rfl ?_
  refine V_iload_n h 2 1 rfl dX7_ownerNow_1 rfl ?_
  refine CVR h 5 (As := [.int (nI (ρ p))]) (q_at hmS hmP hL (t := (ρ p)) (hρ p hp)) rfl hmS qL_X7_39 qI_X7_at qS_X7_at qZ_X7 qC_X7_at hd_X7_at ⟨Nat.le_of_ble_eq_true rfl, Nat.le_of_ble_eq_true rfl⟩ (Nat.le_of_ble_eq_true rfl) rfl rfl dX7_ownerNow_2 (Nat.zero_le _) (Nat.zero_le _) (fun r1 D1 hq1 => ?_)
  rw [hq1.1, hq1.2]
  refine V_astore_n h 6 [(3, .ref (r + 2 + (ρ p))), (0, .ref q), (1, .int (nI (ρ p))), (2, .int (nI w))] (by decide) rfl dX7_ownerNow_5 rfl ?_
  refine V_iload_n h 7 3 rfl dX7_ownerNow_6 rfl ?_
  rcases sw7 hw hw7 with rfl | rfl | rfl | rfl | rfl | rfl | rfl
  · skip
    refine V_tabIn h 48 (off := 41) dX7_ownerNow_7 (by decide) (by decide) (by decide) (by decide) ?_
    refine V_aload_n h 49 1 rfl dX7_ownerNow_48 rfl ?_
    refine g_X7_10 h 52 (b := r) hmS hmP dX7_ownerNow_49 rfl ?_
    refine V_iload_n h 53 2 rfl dX7_ownerNow_52 rfl ?_
    refine CVI h 56 (As := [.int (nI (ρ p))]) (r_place hL hS hW hinj hp) rfl (R_s0 hL) qL_X7_73 qI_X6_place qS_X6_place qZ_X6 qC_X6_place hd_X6_place ⟨Nat.le_of_ble_eq_true rfl, Nat.le_of_ble_eq_true rfl⟩ (Nat.le_of_ble_eq_true rfl) rfl rfl dX7_ownerNow_53 (Nat.zero_le _) (Nat.zero_le _) (fun r2 D2 hq2 => ?_)
    rw [hq2.1, hq2.2]
    exact V_iret h rfl hQ (Nat.zero_le _) (Nat.zero_le _) ⟨rfl, rfl, rfl, rfl, _, rfl, ⟨rfl, rfl⟩⟩ dX7_ownerNow_56
  · skip
    refine V_tabIn h 57 (off := 50) dX7_ownerNow_7 (by decide) (by decide) (by decide) (by decide) ?_
    refine V_aload_n h 58 0 rfl dX7_ownerNow_57 rfl ?_
    refine V_iconst h 59 (v := 0) (by decide) dX7_ownerNow_58 rfl ?_
    refine V_iald h 60 0 (R_sw hL (hρ p hp)) (by decide) (by decide) (by decide) dX7_ownerNow_59 rfl ?_
    refine V_top (y := V (o + 6 + (ρ p)) 2) (hS.1 (ρ p) (hρ p hp) 0 (by decide)) ?_
    refine V_if_ne h 67 63 dX7_ownerNow_60 (by decide) rfl (fun c60 => ?_) (fun c60 => ?_)
    · skip
      refine V_aload_n h 68 1 rfl dX7_ownerNow_67 rfl ?_
      refine g_X7_10 h 71 (b := r) hmS hmP dX7_ownerNow_68 rfl ?_
      refine V_iload_n h 72 2 rfl dX7_ownerNow_71 rfl ?_
      refine CVI h 75 (As := [.int (nI (ρ p))]) (r_first hL hS hW hinj hp) rfl (R_s0 hL) qL_X7_112 qI_X6_first qS_X6_first qZ_X6 qC_X6_first hd_X6_first ⟨Nat.le_of_ble_eq_true rfl, Nat.le_of_ble_eq_true rfl⟩ (Nat.le_of_ble_eq_true rfl) rfl rfl dX7_ownerNow_72 (Nat.zero_le _) (Nat.zero_le _) (fun r3 D3 hq3 => ?_)
      rw [hq3.1, hq3.2]
      exact V_iret h rfl hQ (Nat.zero_le _) (Nat.zero_le _) ⟨rfl, rfl, rfl, rfl, _, rfl, ⟨rfl, (if_neg (fun z => c60 ((bow_0 (hb0 _ hp10)).mp z))).symm⟩⟩ dX7_ownerNow_75
    · skip
      refine V_iconst h 64 (v := (-1)) (by decide) dX7_ownerNow_63 rfl ?_
      refine V_goto h 75 dX7_ownerNow_64 (by decide) ?_
      exact V_iret h rfl hQ (Nat.zero_le _) (Nat.zero_le _) ⟨rfl, rfl, rfl, rfl, _, rfl, ⟨rfl, (if_pos ((bow_0 (hb0 _ hp10)).mpr c60)).symm⟩⟩ dX7_ownerNow_75
  · skip
    refine V_tabIn h 76 (off := 69) dX7_ownerNow_7 (by decide) (by decide) (by decide) (by decide) ?_
    refine V_aload_n h 77 1 rfl dX7_ownerNow_76 rfl ?_
    refine g_X7_10 h 80 (b := r) hmS hmP dX7_ownerNow_77 rfl ?_
    refine V_iload_n h 81 2 rfl dX7_ownerNow_80 rfl ?_
    refine CVI h 84 (As := [.int (nI (ρ p))]) (r_used hL hS hW (t := ρ p) hp10) rfl (R_s0 hL) qL_X7_115 qI_X6_used qS_X6_used qZ_X6 qC_X6_used hd_X6_used ⟨Nat.le_of_ble_eq_true rfl, Nat.le_of_ble_eq_true rfl⟩ (Nat.le_of_ble_eq_true rfl) rfl rfl dX7_ownerNow_81 (Nat.zero_le _) (Nat.zero_le _) (fun r4 D4 hq4 => ?_)
    rw [hq4.1, hq4.2]
    exact V_iret h rfl hQ (Nat.zero_le _) (Nat.zero_le _) ⟨rfl, rfl, rfl, rfl, _, rfl, ⟨rfl, rfl⟩⟩ dX7_ownerNow_84
  · skip
    refine V_tabIn h 85 (off := 78) dX7_ownerNow_7 (by decide) (by decide) (by decide) (by decide) ?_
    refine V_aload_n h 86 0 rfl dX7_ownerNow_85 rfl ?_
    refine V_bipush h 88 (v := 7) (by decide) dX7_ownerNow_86 rfl ?_
    refine V_iald h 89 7 (R_sw hL (hρ p hp)) (by decide) (by decide) (by decide) dX7_ownerNow_88 rfl ?_
    refine V_top (y := V (o + 6 + (ρ p)) 9) (hS.1 (ρ p) (hρ p hp) 7 (by decide)) ?_
    exact V_iret h rfl hQ (Nat.zero_le _) (Nat.zero_le _) ⟨rfl, rfl, rfl, rfl, _, rfl, ⟨rfl, rfl⟩⟩ dX7_ownerNow_89
  · skip
    refine V_tabIn h 90 (off := 83) dX7_ownerNow_7 (by decide) (by decide) (by decide) (by decide) ?_
    refine V_aload_n h 91 0 rfl dX7_ownerNow_90 rfl ?_
    refine CSI h 94 (As := [.ref (r + 2 + (ρ p))]) (q_pollenOf (R_sw hL hp10) (g := V (o + 6 + ρ p)) (hS.1 _ hp10)) qL_X7_102 qT_X7_pollenOf qZ_X7 qC_X7_pollenOf hd_X7_pollenOf ⟨Nat.le_of_ble_eq_true rfl, Nat.le_of_ble_eq_true rfl⟩ (Nat.le_of_ble_eq_true rfl) rfl rfl dX7_ownerNow_91 (Nat.zero_le _) (Nat.zero_le _) (fun r5 D5 hq5 => ?_)
    rw [hq5.1, hq5.2]
    exact V_iret h rfl hQ (Nat.zero_le _) (Nat.zero_le _) ⟨rfl, rfl, rfl, rfl, _, rfl, ⟨rfl, rfl⟩⟩ dX7_ownerNow_94
  · skip
    refine V_tabIn h 95 (off := 88) dX7_ownerNow_7 (by decide) (by decide) (by decide) (by decide) ?_
    refine V_aload_n h 96 0 rfl dX7_ownerNow_95 rfl ?_
    refine V_bipush h 98 (v := 9) (by decide) dX7_ownerNow_96 rfl ?_
    refine V_iald h 99 9 (R_sw hL (hρ p hp)) (by decide) (by decide) (by decide) dX7_ownerNow_98 rfl ?_
    refine V_top (y := V (o + 6 + (ρ p)) 12) (hS.1 (ρ p) (hρ p hp) 9 (by decide)) ?_
    exact V_iret h rfl hQ (Nat.zero_le _) (Nat.zero_le _) ⟨rfl, rfl, rfl, rfl, _, rfl, ⟨rfl, rfl⟩⟩ dX7_ownerNow_99
  · skip
    refine V_tabIn h 100 (off := 93) dX7_ownerNow_7 (by decide) (by decide) (by decide) (by decide) ?_
    refine V_aload_n h 101 0 rfl dX7_ownerNow_100 rfl ?_
    refine V_bipush h 103 (v := 10) (by decide) dX7_ownerNow_101 rfl ?_
    refine V_iald h 104 10 (R_sw hL (hρ p hp)) (by decide) (by decide) (by decide) dX7_ownerNow_103 rfl ?_
    refine V_top (y := V (o + 6 + (ρ p)) 13) (hS.1 (ρ p) (hρ p hp) 10 (by decide)) ?_
    exact V_iret h rfl hQ (Nat.zero_le _) (Nat.zero_le _) ⟨rfl, rfl, rfl, rfl, _, rfl, ⟨rfl, rfl⟩⟩ dX7_ownerNow_104

theorem q_ownerNow {κ : mKp} {n : Nat} {sh : mSh} {P : mPt} {D : mDt} {E : mEt} {q r : Nat} {lo : Nat → Nat} (hmS : sh q = some (.inl 7)) (hmP : P q 1 = some r) (hqr : q < r) (hL : rLay r lo sh P) {o L e m k : Nat} {ρ : Nat → Nat} {V : mDt} {t1 t2 t3 : Int32} (hS : rSim o L e ρ m k V r lo t1 t2 t3 D) (hI : cI o L e ρ m k V) (hb0 : ∀ i, i < 10 → ∃ w, w ≤ 5040 ∧ V (o + 6 + i) 2 = nI w) {p : Nat} (hp : p < L) {w : Nat} (hw : w < 14) : mFnI κ yX7_ownerNow cX7_ownerNow 4 (Option.some Jvm.ClassFile.FieldType.int) 2 46 [.ref q, .int (nI (ρ p)), .int (nI w)] n sh P D E (fun ans D' => D' = D ∧ ans = askO o ρ p m V w) := by
  by_cases h7 : w < 7
  · exact q_ownerNow0 hmS hmP hqr hL hS hI hb0 hp h7
  · exact q_ownerNow1 hmS hmP hqr hL hS hI hb0 hp hw h7
