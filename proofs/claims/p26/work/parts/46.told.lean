/-! a Told as it is made: itself at t, its OasisBooks at t + 1, its rows behind -/
def toldOk (t bs dr : Nat) (sh : mSh) (P : mPt) (D : mDt) (n' : Nat) (sh' : mSh) (P' : mPt) (D' : mDt) : Prop := n' = t + 78 ∧ bLay (t + 1) (t + 2) (t + 22) (t + 42) sh' P' ∧ (freshD (t + 2) D' ∧ freshD (t + 22) D' ∧ freshD (t + 42) D') ∧ (sh' t = some (.inl 6) ∧ P' t 0 = some (t + 1) ∧ P' t 1 = some bs ∧ P' t 3 = some (t + 62) ∧ P' t 5 = some (t + 73) ∧ sh' (t + 62) = some (.inr (2, 10)) ∧ sh' (t + 73) = some (.inr (0, 0))) ∧ (D' t 2 = nI dr ∧ D' t 4 = 0) ∧ (∀ a, a < t → sh' a = sh a) ∧ (∀ a, a < t → P' a = P a) ∧ ∀ a, a < t → D' a = D a
theorem bLay_mv {b o o2 o3 : Nat} {sh sh' : mSh} {P P' : mPt} (h : bLay b o o2 o3 sh P) (hb : b < o) (hs : ∀ a, b ≤ a → a < o3 + 20 → sh' a = sh a) (hP : ∀ a, b ≤ a → a < o3 + 20 → P' a = P a) : bLay b o o2 o3 sh' P' := by
  obtain ⟨h0, h1, h2, h3, h4, h5, h6, h7, h8⟩ := h
  exact ⟨by rw [hs b (by omega) (by omega)]; exact h0, by rw [hP b (by omega) (by omega)]; exact h1, by rw [hP b (by omega) (by omega)]; exact h2, by rw [hP b (by omega) (by omega)]; exact h3, mLay_of h4 (fun a _ _ => hs a (by omega) (by omega)) (fun a _ _ => hP a (by omega) (by omega)), mLay_of h5 (fun a _ _ => hs a (by omega) (by omega)) (fun a _ _ => hP a (by omega) (by omega)), mLay_of h6 (fun a _ _ => hs a (by omega) (by omega)) (fun a _ _ => hP a (by omega) (by omega)), h7, h8⟩
set_option maxRecDepth 100000 in
set_option maxHeartbeats 4000000 in
theorem m_toldInit {κ : mKp} {sh : mSh} {P : mPt} {D : mDt} {E : mEt} {t bs dr : Nat} (ht : sh t = some (.inl 6)) (hD0 : ∀ k, D t k = 0) : mMet κ yX6_init cX6_init 3 (Option.none : Option Jvm.ClassFile.FieldType) { frames := 5, cells := 77, slots := 11082, locals := 102 } [.ref t, .ref bs, .int (nI dr)] (t + 1) sh P D E (fun v n' sh' P' D' E' => v = none ∧ E' = E ∧ toldOk t bs dr sh P D n' sh' P' D') := by
  refine mMet_of (by decide) (Nat.le_of_ble_eq_true rfl) ?_
  intro Γ Q hQ h hin
  have h : mOk Γ κ RX6 cX6_init 3 (Option.none : Option Jvm.ClassFile.FieldType) { frames := 5, cells := 77, slots := 11082, locals := 102 } := h
  show mV Γ Q 0 0 (t + 1) sh P D E [(0, .ref t), (1, .ref bs), (2, .int (nI dr))] [] 0
  refine V_aload_n h 1 0 rfl dX6_init_0 rfl ?_
  refine V_objInit h 4 qL_X6_1 (Nat.le_of_ble_eq_true rfl) (Nat.le_of_ble_eq_true rfl) dX6_init_1 rfl ?_
  refine V_aload_n h 5 0 rfl dX6_init_4 rfl ?_
  refine V_new (ci := 5) (C := RX5) (T := TX5) h 8 (t + 2) 1 3 tyX5 tyX5_ok (by decide) qU_X5 rfl qK_X6_7 qN_X5 qZ_X5 (Nat.le_of_ble_eq_true rfl) (Nat.le_of_ble_eq_true rfl) dX6_init_5 rfl (by first | omega | dsimp only | (dsimp only; omega)) (by first | omega | dsimp only | (dsimp only; omega)) (by first | omega | dsimp only | (dsimp only; omega)) ?_
  obtain ⟨S1, eS1⟩ : ∃ zz, zz = updS sh (t + 1) (.inl 5) := ⟨_, rfl⟩
  rw [← eS1]
  obtain ⟨P1, eP1⟩ : ∃ zz, zz = clrP P (t + 1) := ⟨_, rfl⟩
  rw [← eP1]
  obtain ⟨D1, eD1⟩ : ∃ zz, zz = clrD D (t + 1) := ⟨_, rfl⟩
  rw [← eD1]
  have fs1_0 : S1 t = some (.inl 6) := by rw [eS1, updS_ne (by omega)]; exact ht
  have fn2 : S1 (t + 1) = some (.inl 5) := by rw [eS1]; exact updS_eq
  refine V_dup h 9 rfl dX6_init_8 rfl ?_
  refine V_callI h 12 (ret2 := none) (rm := { frames := 4, cells := 60, slots := 879, locals := 82 }) (As := []) (m_bokInit (b := t + 1) fn2) rfl qL_X6_9 qI_X5_init qZ_X5 qC_X5_init hd_X5_init ⟨Nat.le_of_ble_eq_true rfl, Nat.le_of_ble_eq_true rfl⟩ (Nat.le_of_ble_eq_true rfl) rfl rfl dX6_init_9 ⟨(Nat.le_of_ble_eq_true rfl), (Nat.le_of_ble_eq_true rfl)⟩ (fun v3 n3 S3 P3 D3 E3 hq3 => ?_)
  obtain ⟨q1, q2, qn, qB, g1, g2, g3, qs, qp, qd⟩ := hq3
  have qn : n3 = t + 62 := qn
  rw [q1, q2, qn]
  have ft3 : S3 t = some (.inl 6) := by rw [qs _ (by omega), eS1, updS_ne (by omega)]; exact ht
  refine p_X6_10 h 15 (hin rfl) ft3 dX6_init_12 rfl ?_
  obtain ⟨P4, eP4⟩ : ∃ zz, zz = updP P3 t 0 (some (t + 1)) := ⟨_, rfl⟩
  rw [← eP4]
  have fq5 : P4 t 0 = some (t + 1) := by rw [eP4]; exact updP_eq
  refine V_aload_n h 16 0 rfl dX6_init_15 rfl ?_
  refine V_bipush h 18 (v := 10) (by decide) dX6_init_16 rfl ?_
  refine V_bipush h 20 (v := 11) (by decide) dX6_init_18 rfl ?_
  refine V_mna h 24 (t + 73) 72 1002 (N := 10) (K := 11) qK_X6_16 qarrayClass_566 rfl rfl (by decide) (by decide) (Nat.le_of_ble_eq_true rfl) (Nat.le_of_ble_eq_true rfl) dX6_init_20 rfl (by first | omega | dsimp only | (dsimp only; omega)) (by first | omega | dsimp only | (dsimp only; omega)) (by first | omega | dsimp only | (dsimp only; omega)) ?_
  obtain ⟨S6, eS6⟩ : ∃ zz, zz = rwS S3 (t + 62) 10 11 := ⟨_, rfl⟩
  rw [← eS6]
  obtain ⟨P6, eP6⟩ : ∃ zz, zz = rwP P4 (t + 62) 10 := ⟨_, rfl⟩
  rw [← eP6]
  obtain ⟨D6, eD6⟩ : ∃ zz, zz = rwD D3 (t + 62) 10 := ⟨_, rfl⟩
  rw [← eD6]
  have fs6_0 : S6 t = some (.inl 6) := by rw [eS6, rwS_o (Or.inl (by omega))]; exact ft3
  have fr6_0 : P6 t 0 = some (t + 1) := by rw [eP6, rwP_o (by omega)]; exact fq5
  have fn7 : S6 (t + 62) = some (.inr (2, 10)) := by rw [eS6]; exact rwS_0
  refine p_X6_18 h 27 (hin rfl) fs6_0 dX6_init_24 rfl ?_
  obtain ⟨P8, eP8⟩ : ∃ zz, zz = updP P6 t 3 (some (t + 62)) := ⟨_, rfl⟩
  rw [← eP8]
  have frp8_0 : P8 t 0 = some (t + 1) := by rw [eP8, updP_nk (by decide)]; exact fr6_0
  have fq9 : P8 t 3 = some (t + 62) := by rw [eP8]; exact updP_eq
  refine V_aload_n h 28 0 rfl dX6_init_27 rfl ?_
  refine V_iconst h 29 (v := 0) (by decide) dX6_init_28 rfl ?_
  refine V_newI h 31 (t + 74) 73 1002 (len := 0) qarrayClass_566 rfl (by decide) (Nat.le_of_ble_eq_true rfl) (Nat.le_of_ble_eq_true rfl) dX6_init_29 rfl (by first | omega | dsimp only | (dsimp only; omega)) (by first | omega | dsimp only | (dsimp only; omega)) (by first | omega | dsimp only | (dsimp only; omega)) ?_
  obtain ⟨S10, eS10⟩ : ∃ zz, zz = updS S6 (t + 73) (.inr (0, 0)) := ⟨_, rfl⟩
  rw [← eS10]
  obtain ⟨P10, eP10⟩ : ∃ zz, zz = clrP P8 (t + 73) := ⟨_, rfl⟩
  rw [← eP10]
  obtain ⟨D10, eD10⟩ : ∃ zz, zz = clrD D6 (t + 73) := ⟨_, rfl⟩
  rw [← eD10]
  have fs10_0 : S10 t = some (.inl 6) := by rw [eS10, updS_ne (by omega)]; exact fs6_0
  have fs10_1 : S10 (t + 62) = some (.inr (2, 10)) := by rw [eS10, updS_ne (by omega)]; exact fn7
  have fr10_0 : P10 t 0 = some (t + 1) := by rw [eP10, clrP_ne (by omega)]; exact frp8_0
  have fr10_1 : P10 t 3 = some (t + 62) := by rw [eP10, clrP_ne (by omega)]; exact fq9
  have fn11 : S10 (t + 73) = some (.inr (0, 0)) := by rw [eS10]; exact updS_eq
  refine p_X6_21 h 34 fs10_0 dX6_init_31 rfl ?_
  obtain ⟨P12, eP12⟩ : ∃ zz, zz = updP P10 t 5 (some (t + 73)) := ⟨_, rfl⟩
  rw [← eP12]
  have frp12_0 : P12 t 0 = some (t + 1) := by rw [eP12, updP_nk (by decide)]; exact fr10_0
  have frp12_1 : P12 t 3 = some (t + 62) := by rw [eP12, updP_nk (by decide)]; exact fr10_1
  have fq13 : P12 t 5 = some (t + 73) := by rw [eP12]; exact updP_eq
  refine V_aload_n h 35 0 rfl dX6_init_34 rfl ?_
  refine V_sipush h 38 (v := 5040) (by decide) dX6_init_35 rfl ?_
  refine V_newI h 40 (t + 75) 74 6042 (len := 5040) qarrayClass_566 rfl (by decide) (Nat.le_of_ble_eq_true rfl) (Nat.le_of_ble_eq_true rfl) dX6_init_38 rfl (by first | omega | dsimp only | (dsimp only; omega)) (by first | omega | dsimp only | (dsimp only; omega)) (by first | omega | dsimp only | (dsimp only; omega)) ?_
  obtain ⟨S14, eS14⟩ : ∃ zz, zz = updS S10 (t + 74) (.inr (0, 5040)) := ⟨_, rfl⟩
  rw [← eS14]
  obtain ⟨P14, eP14⟩ : ∃ zz, zz = clrP P12 (t + 74) := ⟨_, rfl⟩
  rw [← eP14]
  obtain ⟨D14, eD14⟩ : ∃ zz, zz = clrD D10 (t + 74) := ⟨_, rfl⟩
  rw [← eD14]
  have fs14_0 : S14 t = some (.inl 6) := by rw [eS14, updS_ne (by omega)]; exact fs10_0
  have fs14_1 : S14 (t + 62) = some (.inr (2, 10)) := by rw [eS14, updS_ne (by omega)]; exact fs10_1
  have fs14_2 : S14 (t + 73) = some (.inr (0, 0)) := by rw [eS14, updS_ne (by omega)]; exact fn11
  have fr14_0 : P14 t 0 = some (t + 1) := by rw [eP14, clrP_ne (by omega)]; exact frp12_0
  have fr14_1 : P14 t 3 = some (t + 62) := by rw [eP14, clrP_ne (by omega)]; exact frp12_1
  have fr14_2 : P14 t 5 = some (t + 73) := by rw [eP14, clrP_ne (by omega)]; exact fq13
  have fn15 : S14 (t + 74) = some (.inr (0, 5040)) := by rw [eS14]; exact updS_eq
  refine p_X6_25 h 43 (hin rfl) fs14_0 dX6_init_40 rfl ?_
  obtain ⟨P16, eP16⟩ : ∃ zz, zz = updP P14 t 6 (some (t + 74)) := ⟨_, rfl⟩
  rw [← eP16]
  have frp16_0 : P16 t 0 = some (t + 1) := by rw [eP16, updP_nk (by decide)]; exact fr14_0
  have frp16_1 : P16 t 3 = some (t + 62) := by rw [eP16, updP_nk (by decide)]; exact fr14_1
  have frp16_2 : P16 t 5 = some (t + 73) := by rw [eP16, updP_nk (by decide)]; exact fr14_2
  have fq17 : P16 t 6 = some (t + 74) := by rw [eP16]; exact updP_eq
  refine V_aload_n h 44 0 rfl dX6_init_43 rfl ?_
  refine V_sipush h 47 (v := 5040) (by decide) dX6_init_44 rfl ?_
  refine V_newI h 49 (t + 76) 75 11082 (len := 5040) qarrayClass_566 rfl (by decide) (Nat.le_of_ble_eq_true rfl) (Nat.le_of_ble_eq_true rfl) dX6_init_47 rfl (by first | omega | dsimp only | (dsimp only; omega)) (by first | omega | dsimp only | (dsimp only; omega)) (by first | omega | dsimp only | (dsimp only; omega)) ?_
  obtain ⟨S18, eS18⟩ : ∃ zz, zz = updS S14 (t + 75) (.inr (0, 5040)) := ⟨_, rfl⟩
  rw [← eS18]
  obtain ⟨P18, eP18⟩ : ∃ zz, zz = clrP P16 (t + 75) := ⟨_, rfl⟩
  rw [← eP18]
  obtain ⟨D18, eD18⟩ : ∃ zz, zz = clrD D14 (t + 75) := ⟨_, rfl⟩
  rw [← eD18]
  have fs18_0 : S18 t = some (.inl 6) := by rw [eS18, updS_ne (by omega)]; exact fs14_0
  have fs18_1 : S18 (t + 62) = some (.inr (2, 10)) := by rw [eS18, updS_ne (by omega)]; exact fs14_1
  have fs18_2 : S18 (t + 73) = some (.inr (0, 0)) := by rw [eS18, updS_ne (by omega)]; exact fs14_2
  have fs18_3 : S18 (t + 74) = some (.inr (0, 5040)) := by rw [eS18, updS_ne (by omega)]; exact fn15
  have fr18_0 : P18 t 0 = some (t + 1) := by rw [eP18, clrP_ne (by omega)]; exact frp16_0
  have fr18_1 : P18 t 3 = some (t + 62) := by rw [eP18, clrP_ne (by omega)]; exact frp16_1
  have fr18_2 : P18 t 5 = some (t + 73) := by rw [eP18, clrP_ne (by omega)]; exact frp16_2
  have fr18_3 : P18 t 6 = some (t + 74) := by rw [eP18, clrP_ne (by omega)]; exact fq17
  have fn19 : S18 (t + 75) = some (.inr (0, 5040)) := by rw [eS18]; exact updS_eq
  refine p_X6_28 h 52 (hin rfl) fs18_0 dX6_init_49 rfl ?_
  obtain ⟨P20, eP20⟩ : ∃ zz, zz = updP P18 t 7 (some (t + 75)) := ⟨_, rfl⟩
  rw [← eP20]
  have frp20_0 : P20 t 0 = some (t + 1) := by rw [eP20, updP_nk (by decide)]; exact fr18_0
  have frp20_1 : P20 t 3 = some (t + 62) := by rw [eP20, updP_nk (by decide)]; exact fr18_1
  have frp20_2 : P20 t 5 = some (t + 73) := by rw [eP20, updP_nk (by decide)]; exact fr18_2
  have frp20_3 : P20 t 6 = some (t + 74) := by rw [eP20, updP_nk (by decide)]; exact fr18_3
  have fq21 : P20 t 7 = some (t + 75) := by rw [eP20]; exact updP_eq
  refine V_aload_n h 53 0 rfl dX6_init_52 rfl ?_
  refine V_iconst h 54 (v := 0) (by decide) dX6_init_53 rfl ?_
  refine V_newR h 57 (t + 77) 76 11082 (len := 0) qK_X6_31 rfl (by decide) (Nat.le_of_ble_eq_true rfl) (Nat.le_of_ble_eq_true rfl) dX6_init_54 rfl (by first | omega | dsimp only | (dsimp only; omega)) (by first | omega | dsimp only | (dsimp only; omega)) (by first | omega | dsimp only | (dsimp only; omega)) ?_
  obtain ⟨S22, eS22⟩ : ∃ zz, zz = updS S18 (t + 76) (.inr (2, 0)) := ⟨_, rfl⟩
  rw [← eS22]
  obtain ⟨P22, eP22⟩ : ∃ zz, zz = clrP P20 (t + 76) := ⟨_, rfl⟩
  rw [← eP22]
  obtain ⟨D22, eD22⟩ : ∃ zz, zz = clrD D18 (t + 76) := ⟨_, rfl⟩
  rw [← eD22]
  have fs22_0 : S22 t = some (.inl 6) := by rw [eS22, updS_ne (by omega)]; exact fs18_0
  have fs22_1 : S22 (t + 62) = some (.inr (2, 10)) := by rw [eS22, updS_ne (by omega)]; exact fs18_1
  have fs22_2 : S22 (t + 73) = some (.inr (0, 0)) := by rw [eS22, updS_ne (by omega)]; exact fs18_2
  have fs22_3 : S22 (t + 74) = some (.inr (0, 5040)) := by rw [eS22, updS_ne (by omega)]; exact fs18_3
  have fs22_4 : S22 (t + 75) = some (.inr (0, 5040)) := by rw [eS22, updS_ne (by omega)]; exact fn19
  have fr22_0 : P22 t 0 = some (t + 1) := by rw [eP22, clrP_ne (by omega)]; exact frp20_0
  have fr22_1 : P22 t 3 = some (t + 62) := by rw [eP22, clrP_ne (by omega)]; exact frp20_1
  have fr22_2 : P22 t 5 = some (t + 73) := by rw [eP22, clrP_ne (by omega)]; exact frp20_2
  have fr22_3 : P22 t 6 = some (t + 74) := by rw [eP22, clrP_ne (by omega)]; exact frp20_3
  have fr22_4 : P22 t 7 = some (t + 75) := by rw [eP22, clrP_ne (by omega)]; exact fq21
  have fn23 : S22 (t + 76) = some (.inr (2, 0)) := by rw [eS22]; exact updS_eq
  refine p_X6_32 h 60 fs22_0 dX6_init_57 rfl ?_
  obtain ⟨P24, eP24⟩ : ∃ zz, zz = updP P22 t 8 (some (t + 76)) := ⟨_, rfl⟩
  rw [← eP24]
  have frp24_0 : P24 t 0 = some (t + 1) := by rw [eP24, updP_nk (by decide)]; exact fr22_0
  have frp24_1 : P24 t 3 = some (t + 62) := by rw [eP24, updP_nk (by decide)]; exact fr22_1
  have frp24_2 : P24 t 5 = some (t + 73) := by rw [eP24, updP_nk (by decide)]; exact fr22_2
  have frp24_3 : P24 t 6 = some (t + 74) := by rw [eP24, updP_nk (by decide)]; exact fr22_3
  have frp24_4 : P24 t 7 = some (t + 75) := by rw [eP24, updP_nk (by decide)]; exact fr22_4
  have fq25 : P24 t 8 = some (t + 76) := by rw [eP24]; exact updP_eq
  refine V_aload_n h 61 0 rfl dX6_init_60 rfl ?_
  refine V_iconst h 62 (v := 0) (by decide) dX6_init_61 rfl ?_
  refine V_newR h 65 (t + 78) 77 11082 (len := 0) qK_X6_31 rfl (by decide) (Nat.le_of_ble_eq_true rfl) (Nat.le_of_ble_eq_true rfl) dX6_init_62 rfl (by first | omega | dsimp only | (dsimp only; omega)) (by first | omega | dsimp only | (dsimp only; omega)) (by first | omega | dsimp only | (dsimp only; omega)) ?_
  obtain ⟨S26, eS26⟩ : ∃ zz, zz = updS S22 (t + 77) (.inr (2, 0)) := ⟨_, rfl⟩
  rw [← eS26]
  obtain ⟨P26, eP26⟩ : ∃ zz, zz = clrP P24 (t + 77) := ⟨_, rfl⟩
  rw [← eP26]
  obtain ⟨D26, eD26⟩ : ∃ zz, zz = clrD D22 (t + 77) := ⟨_, rfl⟩
  rw [← eD26]
  have fs26_0 : S26 t = some (.inl 6) := by rw [eS26, updS_ne (by omega)]; exact fs22_0
  have fs26_1 : S26 (t + 62) = some (.inr (2, 10)) := by rw [eS26, updS_ne (by omega)]; exact fs22_1
  have fs26_2 : S26 (t + 73) = some (.inr (0, 0)) := by rw [eS26, updS_ne (by omega)]; exact fs22_2
  have fs26_3 : S26 (t + 74) = some (.inr (0, 5040)) := by rw [eS26, updS_ne (by omega)]; exact fs22_3
  have fs26_4 : S26 (t + 75) = some (.inr (0, 5040)) := by rw [eS26, updS_ne (by omega)]; exact fs22_4
  have fs26_5 : S26 (t + 76) = some (.inr (2, 0)) := by rw [eS26, updS_ne (by omega)]; exact fn23
  have fr26_0 : P26 t 0 = some (t + 1) := by rw [eP26, clrP_ne (by omega)]; exact frp24_0
  have fr26_1 : P26 t 3 = some (t + 62) := by rw [eP26, clrP_ne (by omega)]; exact frp24_1
  have fr26_2 : P26 t 5 = some (t + 73) := by rw [eP26, clrP_ne (by omega)]; exact frp24_2
  have fr26_3 : P26 t 6 = some (t + 74) := by rw [eP26, clrP_ne (by omega)]; exact frp24_3
  have fr26_4 : P26 t 7 = some (t + 75) := by rw [eP26, clrP_ne (by omega)]; exact frp24_4
  have fr26_5 : P26 t 8 = some (t + 76) := by rw [eP26, clrP_ne (by omega)]; exact fq25
  have fn27 : S26 (t + 77) = some (.inr (2, 0)) := by rw [eS26]; exact updS_eq
  refine p_X6_35 h 68 fs26_0 dX6_init_65 rfl ?_
  obtain ⟨P28, eP28⟩ : ∃ zz, zz = updP P26 t 9 (some (t + 77)) := ⟨_, rfl⟩
  rw [← eP28]
  have frp28_0 : P28 t 0 = some (t + 1) := by rw [eP28, updP_nk (by decide)]; exact fr26_0
  have frp28_1 : P28 t 3 = some (t + 62) := by rw [eP28, updP_nk (by decide)]; exact fr26_1
  have frp28_2 : P28 t 5 = some (t + 73) := by rw [eP28, updP_nk (by decide)]; exact fr26_2
  have frp28_3 : P28 t 6 = some (t + 74) := by rw [eP28, updP_nk (by decide)]; exact fr26_3
  have frp28_4 : P28 t 7 = some (t + 75) := by rw [eP28, updP_nk (by decide)]; exact fr26_4
  have frp28_5 : P28 t 8 = some (t + 76) := by rw [eP28, updP_nk (by decide)]; exact fr26_5
  have fq29 : P28 t 9 = some (t + 77) := by rw [eP28]; exact updP_eq
  refine V_aload_n h 69 0 rfl dX6_init_68 rfl ?_
  refine V_sipush h 72 (v := 200) (by decide) dX6_init_69 rfl ?_
  refine p_X6_38 h 75 fs26_0 dX6_init_72 rfl ?_
  obtain ⟨D30, eD30⟩ : ∃ zz, zz = upd2 D26 t 11 200 := ⟨_, rfl⟩
  rw [← eD30]
  refine V_aload_n h 76 0 rfl dX6_init_75 rfl ?_
  refine V_bipush h 78 (v := 40) (by decide) dX6_init_76 rfl ?_
  refine p_X6_42 h 81 fs26_0 dX6_init_78 rfl ?_
  obtain ⟨D31, eD31⟩ : ∃ zz, zz = upd2 D30 t 12 40 := ⟨_, rfl⟩
  rw [← eD31]
  refine V_aload_n h 82 0 rfl dX6_init_81 rfl ?_
  refine V_aload_n h 83 1 rfl dX6_init_82 rfl ?_
  refine p_X6_45 h 86 (hin rfl) fs26_0 dX6_init_83 rfl ?_
  obtain ⟨P32, eP32⟩ : ∃ zz, zz = updP P28 t 1 (some bs) := ⟨_, rfl⟩
  rw [← eP32]
  have frp32_0 : P32 t 0 = some (t + 1) := by rw [eP32, updP_nk (by decide)]; exact frp28_0
  have frp32_1 : P32 t 3 = some (t + 62) := by rw [eP32, updP_nk (by decide)]; exact frp28_1
  have frp32_2 : P32 t 5 = some (t + 73) := by rw [eP32, updP_nk (by decide)]; exact frp28_2
  have frp32_3 : P32 t 6 = some (t + 74) := by rw [eP32, updP_nk (by decide)]; exact frp28_3
  have frp32_4 : P32 t 7 = some (t + 75) := by rw [eP32, updP_nk (by decide)]; exact frp28_4
  have frp32_5 : P32 t 8 = some (t + 76) := by rw [eP32, updP_nk (by decide)]; exact frp28_5
  have frp32_6 : P32 t 9 = some (t + 77) := by rw [eP32, updP_nk (by decide)]; exact fq29
  have fq33 : P32 t 1 = some (bs) := by rw [eP32]; exact updP_eq
  refine V_aload_n h 87 0 rfl dX6_init_86 rfl ?_
  refine V_iload_n h 88 2 rfl dX6_init_87 rfl ?_
  refine p_X6_48 h 91 fs26_0 dX6_init_88 rfl ?_
  obtain ⟨D34, eD34⟩ : ∃ zz, zz = upd2 D31 t 2 (nI dr) := ⟨_, rfl⟩
  rw [← eD34]
  have sF : ∀ a, a < t + 62 → S26 a = S3 a := fun a ha => by rw [eS26, updS_ne (by omega), eS22, updS_ne (by omega), eS18, updS_ne (by omega), eS14, updS_ne (by omega), eS10, updS_ne (by omega), eS6, rwS_o (Or.inl (by omega))]
  have pF : ∀ a, a < t + 62 → a ≠ t → P32 a = P3 a := fun a ha hb => by rw [eP32, updP_ra (by omega), eP28, updP_ra (by omega), eP26, clrP_ne (by omega), eP24, updP_ra (by omega), eP22, clrP_ne (by omega), eP20, updP_ra (by omega), eP18, clrP_ne (by omega), eP16, updP_ra (by omega), eP14, clrP_ne (by omega), eP12, updP_ra (by omega), eP10, clrP_ne (by omega), eP8, updP_ra (by omega), eP6, rwP_o (by omega), eP4, updP_ra (by omega)]
  have dF : ∀ a, a < t + 62 → a ≠ t → D34 a = D3 a := fun a ha hb => by rw [eD34, upd2_ra (by omega), eD31, upd2_ra (by omega), eD30, upd2_ra (by omega), eD26, clrD_ne (by omega), eD22, clrD_ne (by omega), eD18, clrD_ne (by omega), eD14, clrD_ne (by omega), eD10, clrD_ne (by omega), eD6, rwD_o (Or.inl (by omega))]
  have d2 : D34 t 2 = nI dr := by rw [eD34, upd2_eq]
  have d4 : D34 t 4 = 0 := by rw [eD34, upd2_nk (by decide), eD31, upd2_nk (by decide), eD30, upd2_nk (by decide), eD26, clrD_ne (by omega), eD22, clrD_ne (by omega), eD18, clrD_ne (by omega), eD14, clrD_ne (by omega), eD10, clrD_ne (by omega), eD6, rwD_o (Or.inl (by omega)), qd t (by omega), eD1, clrD_ne (by omega)]; exact hD0 4
  exact V_ret h  hQ (Nat.le_of_ble_eq_true rfl) (Nat.le_of_ble_eq_true rfl) ⟨rfl, rfl, rfl, bLay_mv qB (by omega) (fun a a1 a2 => sF a (by omega)) (fun a a1 a2 => pF a (by omega) (by omega)), ⟨freshD_of g1 (fun a a1 a2 => dF a (by omega) (by omega)), freshD_of g2 (fun a a1 a2 => dF a (by omega) (by omega)), freshD_of g3 (fun a a1 a2 => dF a (by omega) (by omega))⟩, ⟨fs26_0, frp32_0, fq33, frp32_1, frp32_2, fs26_1, fs26_2⟩, ⟨d2, d4⟩, fun a ha => by rw [sF a (by omega), qs a (by omega), eS1, updS_ne (by omega)], fun a ha => by rw [pF a (by omega) (by omega), qp a (by omega), eP1, clrP_ne (by omega)], fun a ha => by rw [dF a (by omega) (by omega), qd a (by omega), eD1, clrD_ne (by omega)]⟩ dX6_init_91

