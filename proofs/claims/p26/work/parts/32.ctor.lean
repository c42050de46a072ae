set_option maxRecDepth 100000 in
set_option maxHeartbeats 4000000 in
theorem m_dealsInit {κ : mKp} {sh : mSh} {P : mPt} {D : mDt} {E : mEt} {a : Nat} (hs : sh a = some (.inl 1)) : mMet κ yX1_init cX1_init 1 (Option.none : Option Jvm.ClassFile.FieldType) { frames := 1, cells := 1, slots := 32, locals := 20 } [.ref a] (a + 1) sh P D E (fun v n' sh' P' D' E' => v = none ∧ E' = E ∧ n' = a + 2 ∧ sh' = updS sh (a + 1) (.inr (0, 32)) ∧ P' = updP (clrP P (a + 1)) a 0 (some (a + 1)) ∧ D' = clrD D (a + 1)) := by
  refine mMet_of (by decide) (Nat.le_of_ble_eq_true rfl) ?_
  intro Γ Q hQ h hin
  have h : mOk Γ κ RX1 cX1_init 1 (Option.none : Option Jvm.ClassFile.FieldType) { frames := 1, cells := 1, slots := 32, locals := 20 } := h
  show mV Γ Q 0 0 (a + 1) sh P D E [(0, .ref a)] [] 0
  refine V_aload_n h 1 0 rfl dX1_init_0 rfl ?_
  refine V_objInit h 4 qL_X1_3 (Nat.le_of_ble_eq_true rfl) (Nat.le_of_ble_eq_true rfl) dX1_init_1 rfl ?_
  refine V_aload_n h 5 0 rfl dX1_init_4 rfl ?_
  refine V_bipush h 7 (v := 32) (by decide) dX1_init_5 rfl ?_
  refine V_newI h 9 (a + 2) 1 32 (len := 32) qarrayClass_566 rfl (by decide) (Nat.le_of_ble_eq_true rfl) (Nat.le_of_ble_eq_true rfl) dX1_init_7 rfl (by first | omega | dsimp only | (dsimp only; omega)) (by first | omega | dsimp only | (dsimp only; omega)) (by first | omega | dsimp only | (dsimp only; omega)) ?_
  obtain ⟨S1, eS1⟩ : ∃ zz, zz = updS sh (a + 1) (.inr (0, 32)) := ⟨_, rfl⟩
  rw [← eS1]
  obtain ⟨P1, eP1⟩ : ∃ zz, zz = clrP P (a + 1) := ⟨_, rfl⟩
  rw [← eP1]
  obtain ⟨D1, eD1⟩ : ∃ zz, zz = clrD D (a + 1) := ⟨_, rfl⟩
  rw [← eD1]
  have fs1_0 : S1 a = some (.inl 1) := by rw [eS1, updS_ne (by omega)]; exact hs
  have fn2 : S1 (a + 1) = some (.inr (0, 32)) := by rw [eS1]; exact updS_eq
  refine p_X1_11 h 12 (hin rfl) fs1_0 dX1_init_9 rfl ?_
  obtain ⟨P3, eP3⟩ : ∃ zz, zz = updP P1 a 0 (some (a + 1)) := ⟨_, rfl⟩
  rw [← eP3]
  have fq4 : P3 a 0 = some (a + 1) := by rw [eP3]; exact updP_eq
  exact V_ret h  hQ (Nat.le_of_ble_eq_true rfl) (Nat.le_of_ble_eq_true rfl) ⟨rfl, rfl, rfl, by rw [eS1], by rw [eP3, eP1], by rw [eD1]⟩ dX1_init_12

def pplS (S : mSh) (a i : Nat) : mSh := fun b => if a + 4 ≤ b ∧ b < a + 4 + i then some (.inl 3) else S b
def pplP (P : mPt) (a i : Nat) : mPt := fun b j => if b = a + 1 ∧ j < i then some (a + 4 + j) else if a + 4 ≤ b ∧ b < a + 4 + i then none else P b j
def pplD (D : mDt) (a i : Nat) : mDt := fun b j => if a + 4 ≤ b ∧ b < a + 4 + i then upd (fun _ => 0) 0 (nI (b - (a + 4))) j else D b j
theorem pplS_0 {S : mSh} {a : Nat} : pplS S a 0 = S := by funext b; unfold pplS; rw [if_neg (by omega)]
theorem pplP_0 {P : mPt} {a : Nat} : pplP P a 0 = P := by funext b j; unfold pplP; rw [if_neg (by omega), if_neg (by omega)]
theorem pplD_0 {D : mDt} {a : Nat} : pplD D a 0 = D := by funext b j; unfold pplD; rw [if_neg (by omega)]
theorem pplS_1 {S : mSh} {a i : Nat} : updS (pplS S a i) (a + 4 + i) (.inl 3) = pplS S a (i + 1) := by
  funext b
  unfold updS pplS
  by_cases h : b = a + 4 + i
  · rw [if_pos h, if_pos (by omega)]
  · rw [if_neg h]
    by_cases h2 : a + 4 ≤ b ∧ b < a + 4 + i
    · rw [if_pos h2, if_pos (by omega)]
    · rw [if_neg h2, if_neg (by omega)]
theorem pplP_1 {P : mPt} {a i : Nat} (h0 : ∀ j, P (a + 1) j = none) : updP (clrP (pplP P a i) (a + 4 + i)) (a + 1) i (some (a + 4 + i)) = pplP P a (i + 1) := by
  funext b j
  unfold updP clrP pplP
  by_cases h : b = a + 1
  · by_cases h2 : j = i
    · rw [if_pos ⟨h, h2⟩, if_pos (by omega), h2]
    · rw [if_neg (fun q => h2 q.2), if_neg (by omega)]
      by_cases h3 : j < i
      · rw [if_pos ⟨h, h3⟩, if_pos (by omega)]
      · rw [if_neg (fun q => h3 q.2), if_neg (by omega), if_neg (by omega), if_neg (by omega)]
  · rw [if_neg (fun q => h q.1)]
    by_cases h2 : b = a + 4 + i
    · rw [if_pos h2, if_neg (by omega), if_pos (by omega)]
    · rw [if_neg h2, if_neg (show ¬ (b = a + 1 ∧ j < i) from fun q => h q.1), if_neg (show ¬ (b = a + 1 ∧ j < i + 1) from fun q => h q.1)]
      by_cases h3 : a + 4 ≤ b ∧ b < a + 4 + i
      · rw [if_pos h3, if_pos (by omega)]
      · rw [if_neg h3, if_neg (by omega)]
theorem pplD_1 {D : mDt} {a i : Nat} : upd2 (clrD (pplD D a i) (a + 4 + i)) (a + 4 + i) 0 (nI i) = pplD D a (i + 1) := by
  funext b j
  unfold upd2 clrD pplD upd
  by_cases h : b = a + 4 + i
  · rw [if_pos (show a + 4 ≤ b ∧ b < a + 4 + (i + 1) by omega)]
    by_cases h2 : j = 0
    · rw [if_pos ⟨h, h2⟩, if_pos h2, show b - (a + 4) = i by omega]
    · rw [if_neg (fun q => h2 q.2), if_pos h, if_neg h2]
  · rw [if_neg (fun q => h q.1), if_neg h]
    by_cases h3 : a + 4 ≤ b ∧ b < a + 4 + i
    · rw [if_pos h3, if_pos (show a + 4 ≤ b ∧ b < a + 4 + (i + 1) by omega)]
    · rw [if_neg h3, if_neg (show ¬ (a + 4 ≤ b ∧ b < a + 4 + (i + 1)) by omega)]
def pplOk (a : Nat) (sh : mSh) (P : mPt) (D : mDt) (n' : Nat) (sh' : mSh) (P' : mPt) (D' : mDt) : Prop := n' = a + 14 ∧ (∀ b, b ≤ a → sh' b = sh b) ∧ (∀ b, b < a → P' b = P b) ∧ (∀ b, b ≤ a → D' b = D b) ∧ P' a 0 = some (a + 1) ∧ P' a 1 = some (a + 2) ∧ P' a 2 = some (a + 3) ∧ sh' (a + 1) = some (.inr (1, 10)) ∧ sh' (a + 2) = some (.inr (0, 10)) ∧ sh' (a + 3) = some (.inl 3) ∧ (∀ i, i < 10 → sh' (a + 4 + i) = some (.inl 3)) ∧ (∀ i, i < 10 → P' (a + 1) i = some (a + 4 + i)) ∧ D' (a + 2) = (fun _ => 0) ∧ D' (a + 3) = upd (fun _ => 0) 0 (-1) ∧ ∀ i, i < 10 → D' (a + 4 + i) = upd (fun _ => 0) 0 (nI i)
theorem ppl_ok {a : Nat} {sh S : mSh} {P P0 : mPt} {D D0 : mDt} (eS : S = updS (updS (updS sh (a + 1) (.inr (1, 10))) (a + 2) (.inr (0, 10))) (a + 3) (.inl 3)) (eP : P0 = updP (clrP (updP (clrP (updP (clrP P (a + 1)) a 0 (some (a + 1))) (a + 2)) a 1 (some (a + 2))) (a + 3)) a 2 (some (a + 3))) (eD : D0 = upd2 (clrD (clrD (clrD D (a + 1)) (a + 2)) (a + 3)) (a + 3) 0 (-1)) : pplOk a sh P D (a + 14) (pplS S a 10) (pplP P0 a 10) (pplD D0 a 10) := by
  have s1 : ∀ b, b < a + 4 → pplS S a 10 b = S b := fun b h => by unfold pplS; rw [if_neg (by omega)]
  have p1 : ∀ b, b < a + 4 → b ≠ a + 1 → pplP P0 a 10 b = P0 b := fun b h h2 => by funext j; unfold pplP; rw [if_neg (by omega), if_neg (by omega)]
  have d1 : ∀ b, b < a + 4 → pplD D0 a 10 b = D0 b := fun b h => by funext j; unfold pplD; rw [if_neg (by omega)]
  refine ⟨rfl, fun b hb => ?_, fun b hb => ?_, fun b hb => ?_, ?_, ?_, ?_, ?_, ?_, ?_, fun i hi => ?_, fun i hi => ?_, ?_, ?_, fun i hi => ?_⟩
  · rw [s1 _ (by omega), eS, updS_ne (by omega), updS_ne (by omega), updS_ne (by omega)]
  · rw [p1 _ (by omega) (by omega), eP, updP_ra (by omega), clrP_ne (by omega), updP_ra (by omega), clrP_ne (by omega), updP_ra (by omega), clrP_ne (by omega)]
  · rw [d1 _ (by omega), eD, upd2_ra (by omega), clrD_ne (by omega), clrD_ne (by omega), clrD_ne (by omega)]
  · rw [p1 _ (by omega) (by omega), eP, updP_nk (by decide), clrP_ne (by omega), updP_nk (by decide), clrP_ne (by omega), updP_eq]
  · rw [p1 _ (by omega) (by omega), eP, updP_nk (by decide), clrP_ne (by omega), updP_eq]
  · rw [p1 _ (by omega) (by omega), eP, updP_eq]
  · rw [s1 _ (by omega), eS, updS_ne (by omega), updS_ne (by omega), updS_eq]
  · rw [s1 _ (by omega), eS, updS_ne (by omega), updS_eq]
  · rw [s1 _ (by omega), eS, updS_eq]
  · unfold pplS; rw [if_pos (by omega)]
  · unfold pplP; rw [if_pos (by omega)]
  · rw [d1 _ (by omega), eD, upd2_ra (by omega), clrD_ne (by omega), clrD_eq]
  · rw [d1 _ (by omega), eD, upd2_row, clrD_eq]
  · funext j; unfold pplD; rw [if_pos (by omega), show a + 4 + i - (a + 4) = i by omega]

set_option maxRecDepth 100000 in
set_option maxHeartbeats 4000000 in
theorem m_pplInit {κ : mKp} {sh : mSh} {P : mPt} {D : mDt} {E : mEt} {a : Nat} (hs : sh a = some (.inl 4)) : mMet κ yX4_init cX4_init 2 (Option.none : Option Jvm.ClassFile.FieldType) { frames := 2, cells := 13, slots := 185, locals := 41 } [.ref a] (a + 1) sh P D E (fun v n' sh' P' D' E' => v = none ∧ E' = E ∧ pplOk a sh P D n' sh' P' D') := by
  refine mMet_of (by decide) (Nat.le_of_ble_eq_true rfl) ?_
  intro Γ Q hQ h hin
  have h : mOk Γ κ RX4 cX4_init 2 (Option.none : Option Jvm.ClassFile.FieldType) { frames := 2, cells := 13, slots := 185, locals := 41 } := h
  show mV Γ Q 0 0 (a + 1) sh P D E [(0, .ref a)] [] 0
  refine V_aload_n h 1 0 rfl dX4_init_0 rfl ?_
  refine V_objInit h 4 qL_X4_3 (Nat.le_of_ble_eq_true rfl) (Nat.le_of_ble_eq_true rfl) dX4_init_1 rfl ?_
  refine V_aload_n h 5 0 rfl dX4_init_4 rfl ?_
  refine V_bipush h 7 (v := 10) (by decide) dX4_init_5 rfl ?_
  refine V_newQ h 10 (a + 2) 1 10 (len := 10) qK_X4_9 rfl (by decide) (Nat.le_of_ble_eq_true rfl) (Nat.le_of_ble_eq_true rfl) dX4_init_7 rfl (by first | omega | dsimp only | (dsimp only; omega)) (by first | omega | dsimp only | (dsimp only; omega)) (by first | omega | dsimp only | (dsimp only; omega)) ?_
  obtain ⟨S1, eS1⟩ : ∃ zz, zz = updS sh (a + 1) (.inr (1, 10)) := ⟨_, rfl⟩
  rw [← eS1]
  obtain ⟨P1, eP1⟩ : ∃ zz, zz = clrP P (a + 1) := ⟨_, rfl⟩
  rw [← eP1]
  obtain ⟨D1, eD1⟩ : ∃ zz, zz = clrD D (a + 1) := ⟨_, rfl⟩
  rw [← eD1]
  have fs1_0 : S1 a = some (.inl 4) := by rw [eS1, updS_ne (by omega)]; exact hs
  have fn2 : S1 (a + 1) = some (.inr (1, 10)) := by rw [eS1]; exact updS_eq
  refine p_X4_11 h 13 (hin rfl) fs1_0 dX4_init_10 rfl ?_
  obtain ⟨P3, eP3⟩ : ∃ zz, zz = updP P1 a 0 (some (a + 1)) := ⟨_, rfl⟩
  rw [← eP3]
  have fq4 : P3 a 0 = some (a + 1) := by rw [eP3]; exact updP_eq
  refine V_aload_n h 14 0 rfl dX4_init_13 rfl ?_
  refine V_bipush h 16 (v := 10) (by decide) dX4_init_14 rfl ?_
  refine V_newI h 18 (a + 3) 2 20 (len := 10) qarrayClass_566 rfl (by decide) (Nat.le_of_ble_eq_true rfl) (Nat.le_of_ble_eq_true rfl) dX4_init_16 rfl (by first | omega | dsimp only | (dsimp only; omega)) (by first | omega | dsimp only | (dsimp only; omega)) (by first | omega | dsimp only | (dsimp only; omega)) ?_
  obtain ⟨S5, eS5⟩ : ∃ zz, zz = updS S1 (a + 2) (.inr (0, 10)) := ⟨_, rfl⟩
  rw [← eS5]
  obtain ⟨P5, eP5⟩ : ∃ zz, zz = clrP P3 (a + 2) := ⟨_, rfl⟩
  rw [← eP5]
  obtain ⟨D5, eD5⟩ : ∃ zz, zz = clrD D1 (a + 2) := ⟨_, rfl⟩
  rw [← eD5]
  have fs5_0 : S5 a = some (.inl 4) := by rw [eS5, updS_ne (by omega)]; exact fs1_0
  have fs5_1 : S5 (a + 1) = some (.inr (1, 10)) := by rw [eS5, updS_ne (by omega)]; exact fn2
  have fr5_0 : P5 a 0 = some (a + 1) := by rw [eP5, clrP_ne (by omega)]; exact fq4
  have fn6 : S5 (a + 2) = some (.inr (0, 10)) := by rw [eS5]; exact updS_eq
  refine p_X4_17 h 21 (hin rfl) fs5_0 dX4_init_18 rfl ?_
  obtain ⟨P7, eP7⟩ : ∃ zz, zz = updP P5 a 1 (some (a + 2)) := ⟨_, rfl⟩
  rw [← eP7]
  have frp7_0 : P7 a 0 = some (a + 1) := by rw [eP7, updP_nk (by decide)]; exact fr5_0
  have fq8 : P7 a 1 = some (a + 2) := by rw [eP7]; exact updP_eq
  refine V_aload_n h 22 0 rfl dX4_init_21 rfl ?_
  refine V_new (ci := 3) (C := RX3) (T := TX3) h 25 (a + 4) 3 35 tyX3 tyX3_ok (by decide) qU_X3 rfl qK_X4_9 qN_X3 qZ_X3 (Nat.le_of_ble_eq_true rfl) (Nat.le_of_ble_eq_true rfl) dX4_init_22 rfl (by first | omega | dsimp only | (dsimp only; omega)) (by first | omega | dsimp only | (dsimp only; omega)) (by first | omega | dsimp only | (dsimp only; omega)) ?_
  obtain ⟨S9, eS9⟩ : ∃ zz, zz = updS S5 (a + 3) (.inl 3) := ⟨_, rfl⟩
  rw [← eS9]
  obtain ⟨P9, eP9⟩ : ∃ zz, zz = clrP P7 (a + 3) := ⟨_, rfl⟩
  rw [← eP9]
  obtain ⟨D9, eD9⟩ : ∃ zz, zz = clrD D5 (a + 3) := ⟨_, rfl⟩
  rw [← eD9]
  have fs9_0 : S9 a = some (.inl 4) := by rw [eS9, updS_ne (by omega)]; exact fs5_0
  have fs9_1 : S9 (a + 1) = some (.inr (1, 10)) := by rw [eS9, updS_ne (by omega)]; exact fs5_1
  have fs9_2 : S9 (a + 2) = some (.inr (0, 10)) := by rw [eS9, updS_ne (by omega)]; exact fn6
  have fr9_0 : P9 a 0 = some (a + 1) := by rw [eP9, clrP_ne (by omega)]; exact frp7_0
  have fr9_1 : P9 a 1 = some (a + 2) := by rw [eP9, clrP_ne (by omega)]; exact fq8
  have fn10 : S9 (a + 3) = some (.inl 3) := by rw [eS9]; exact updS_eq
  refine V_dup h 26 rfl dX4_init_25 rfl ?_
  refine V_iconst h 27 (v := (-1)) (by decide) dX4_init_26 rfl ?_
  refine V_callI h 30 (ret2 := none) (rm := { frames := 1, cells := 0, slots := 0, locals := 20 }) (As := [.int (-1)]) (c_owInit fn10 (-1)) rfl qL_X4_21 qI_X3_init qZ_X3 qC_X3_init hd_X3_init ⟨Nat.le_of_ble_eq_true rfl, Nat.le_of_ble_eq_true rfl⟩ (Nat.le_of_ble_eq_true rfl) rfl rfl dX4_init_27 ⟨(Nat.le_of_ble_eq_true rfl), (Nat.le_of_ble_eq_true rfl)⟩ (fun v11 n11 S11 P11 D11 E11 hq11 => ?_)
  obtain ⟨q1, q2, q3, q4, q5, hq11⟩ := hq11
  subst q5
  rw [q1, q2, q3, q4]
  have eD11 := hq11
  refine p_X4_24 h 33 (hin rfl) fs9_0 dX4_init_30 rfl ?_
  obtain ⟨P12, eP12⟩ : ∃ zz, zz = updP P9 a 2 (some (a + 3)) := ⟨_, rfl⟩
  rw [← eP12]
  have frp12_0 : P12 a 0 = some (a + 1) := by rw [eP12, updP_nk (by decide)]; exact fr9_0
  have frp12_1 : P12 a 1 = some (a + 2) := by rw [eP12, updP_nk (by decide)]; exact fr9_1
  have fq13 : P12 a 2 = some (a + 3) := by rw [eP12]; exact updP_eq
  refine V_iconst h 34 (v := 0) (by decide) dX4_init_33 rfl ?_
  refine V_istore_n h 35 [(1, .int 0), (0, .ref a)] (by decide) rfl dX4_init_34 rfl ?_
  have hE : ∀ j, P12 (a + 1) j = none := fun j => by rw [eP12, eP9, eP7, eP5, eP3, eP1]; simp [updP, clrP]
  have eSx : S9 = updS (updS (updS sh (a + 1) (.inr (1, 10))) (a + 2) (.inr (0, 10))) (a + 3) (.inl 3) := by rw [eS9, eS5, eS1]
  have ePx : P12 = updP (clrP (updP (clrP (updP (clrP P (a + 1)) a 0 (some (a + 1))) (a + 2)) a 1 (some (a + 2))) (a + 3)) a 2 (some (a + 3)) := by rw [eP12, eP9, eP7, eP5, eP3, eP1]
  have eDx : D11 = upd2 (clrD (clrD (clrD D (a + 1)) (a + 2)) (a + 3)) (a + 3) 0 (-1) := by rw [eD11, eD9, eD5, eD1]
  have LP35 : ∀ (kk : Nat) (i : Nat) (x1 : Int32), (i ≤ 10) → (x1 = nI i) → 10 - i < kk → mV Γ Q (3 + i) (35 + 15 * i) (a + 4 + i) (pplS S9 a i) (pplP P12 a i) (pplD D11 a i) E [(0, .ref a), (1, .int x1)] [] 35 := by
    intro kk
    induction kk with
    | zero =>
      intro i x1 _ _ hms
      exact absurd hms (Nat.not_lt_zero _)
    | succ kk ih =>
      intro i x1 hi e1 hms
      subst e1
      refine V_iload_n h 36 1 rfl dX4_init_35 rfl ?_
      refine V_aload_n h 37 0 rfl dX4_init_36 rfl ?_
      refine g_X4_11 h 40 (b := a + 1) (show pplS S9 a i a = _ from by unfold pplS; rw [if_neg (by omega)]; exact fs9_0) (show pplP P12 a i a 0 = _ from by unfold pplP; rw [if_neg (by omega), if_neg (by omega)]; exact frp12_0) dX4_init_37 rfl ?_
      refine V_alen h 41 1 (by decide) (show pplS S9 a i (a + 1) = _ from by unfold pplS; rw [if_neg (by omega)]; exact fs9_1) (v := 10) (by decide) dX4_init_40 rfl ?_
      refine V_icmp_ge h 64 44 dX4_init_41 (by decide) rfl (fun c41 => ?_) (fun c41 => ?_)
      · skip
        have hex : i = 10 := by have := mGe (m := 10) c41 (by omega) (by omega); omega
        subst hex
        exact V_ret h  hQ (Nat.le_of_ble_eq_true rfl) (Nat.le_of_ble_eq_true rfl) ⟨rfl, rfl, ppl_ok eSx ePx eDx⟩ dX4_init_64
      · skip
        have hlt : i < 10 := mLt (m := 10) c41 (by omega)
        refine V_aload_n h 45 0 rfl dX4_init_44 rfl ?_
        refine g_X4_11 h 48 (b := a + 1) (show pplS S9 a i a = _ from by unfold pplS; rw [if_neg (by omega)]; exact fs9_0) (show pplP P12 a i a 0 = _ from by unfold pplP; rw [if_neg (by omega), if_neg (by omega)]; exact frp12_0) dX4_init_45 rfl ?_
        refine V_iload_n h 49 1 rfl dX4_init_48 rfl ?_
        refine V_new (ci := 3) (C := RX3) (T := TX3) h 52 (a + 4 + i + 1) (3 + i + 1) (35 + 15 * i + 15) tyX3 tyX3_ok (by decide) qU_X3 rfl qK_X4_9 qN_X3 qZ_X3 (by dsimp only; omega) (by dsimp only; omega) dX4_init_49 rfl (by first | omega | dsimp only | (dsimp only; omega)) (by first | omega | dsimp only | (dsimp only; omega)) (by first | omega | dsimp only | (dsimp only; omega)) ?_
        obtain ⟨S14, eS14⟩ : ∃ zz, zz = updS (pplS S9 a i) (a + 4 + i) (.inl 3) := ⟨_, rfl⟩
        rw [← eS14]
        obtain ⟨P14, eP14⟩ : ∃ zz, zz = clrP (pplP P12 a i) (a + 4 + i) := ⟨_, rfl⟩
        rw [← eP14]
        obtain ⟨D14, eD14⟩ : ∃ zz, zz = clrD (pplD D11 a i) (a + 4 + i) := ⟨_, rfl⟩
        rw [← eD14]
        have fs14_0 : S14 a = some (.inl 4) := by rw [eS14, updS_ne (by omega)]; exact (show pplS S9 a i a = _ from by unfold pplS; rw [if_neg (by omega)]; exact fs9_0)
        have fs14_1 : S14 (a + 1) = some (.inr (1, 10)) := by rw [eS14, updS_ne (by omega)]; exact (show pplS S9 a i (a + 1) = _ from by unfold pplS; rw [if_neg (by omega)]; exact fs9_1)
        have fr14_0 : P14 a 0 = some (a + 1) := by rw [eP14, clrP_ne (by omega)]; exact (show pplP P12 a i a 0 = _ from by unfold pplP; rw [if_neg (by omega), if_neg (by omega)]; exact frp12_0)
        have fn15 : S14 (a + 4 + i) = some (.inl 3) := by rw [eS14]; exact updS_eq
        refine V_dup h 53 rfl dX4_init_52 rfl ?_
        refine V_iload_n h 54 1 rfl dX4_init_53 rfl ?_
        refine V_callI h 57 (ret2 := none) (rm := { frames := 1, cells := 0, slots := 0, locals := 20 }) (As := [.int (nI i)]) (c_owInit fn15 (nI i)) rfl qL_X4_21 qI_X3_init qZ_X3 qC_X3_init hd_X3_init ⟨Nat.le_of_ble_eq_true rfl, Nat.le_of_ble_eq_true rfl⟩ (Nat.le_of_ble_eq_true rfl) rfl rfl dX4_init_54 ⟨(by dsimp only; omega), (by dsimp only; omega)⟩ (fun v16 n16 S16 P16 D16 E16 hq16 => ?_)
        obtain ⟨q1, q2, q3, q4, q5, hq16⟩ := hq16
        subst q5
        rw [q1, q2, q3, q4]
        have eD16 := hq16
        refine V_aast h 58 i fs14_1 fn15 rfl hlt (by decide) dX4_init_57 rfl ?_
        obtain ⟨P17, eP17⟩ : ∃ zz, zz = updP P14 (a + 1) i (some (a + 4 + i)) := ⟨_, rfl⟩
        rw [← eP17]
        have frp17_0 : P17 a 0 = some (a + 1) := by rw [eP17, updP_ra (by omega)]; exact fr14_0
        have fq18 : P17 (a + 1) i = some ((a + 4 + i)) := by rw [eP17]; exact updP_eq
        refine V_iinc h 61 [(1, .int ((nI i) + 1)), (0, .ref a)] 1 rfl (by rfl) (by decide) rfl dX4_init_58 rfl ?_
        refine V_goto h 35 dX4_init_61 (by decide) ?_
        refine V_lsub [(0, .ref a), (1, .int ((nI i) + 1))] [1, 0] rfl ?_
        rw [show S14 = pplS S9 a (i + 1) from by rw [eS14]; exact pplS_1, show P17 = pplP P12 a (i + 1) from by rw [eP17, eP14]; exact pplP_1 hE, show D16 = pplD D11 a (i + 1) from by rw [eD16, eD14]; exact pplD_1]
        exact ih (i + 1) _ (by omega) (nI_1 i) (by omega)
  rw [← pplS_0 (S := S9) (a := a), ← pplP_0 (P := P12) (a := a), ← pplD_0 (D := D11) (a := a)]
  refine V_lsub [(0, .ref a), (1, .int 0)] [1, 0] rfl ?_
  exact LP35 _ 0 _ (Nat.zero_le _) rfl (Nat.lt_succ_self _)

def oasOk (o : Nat) (sh : mSh) (P : mPt) (D : mDt) (n' : Nat) (sh' : mSh) (P' : mPt) (D' : mDt) : Prop := n' = o + 20 ∧ mLay o sh' P' ∧ (∀ b, b ≤ o → sh' b = sh b) ∧ (∀ b, b < o → P' b = P b) ∧ (∀ b, b ≤ o → D' b = D b) ∧ D' (o + 1) = upd (upd (fun _ => 0) 0 200) 1 40 ∧ D' (o + 2) = (fun _ => 0) ∧ D' (o + 4) = (fun _ => 0) ∧ D' (o + 5) = upd (fun _ => 0) 0 (-1) ∧ (∀ i, i < 10 → D' (o + 6 + i) = upd (fun _ => 0) 0 (nI i)) ∧ D' (o + 16) = (fun _ => 0) ∧ D' (o + 17) = (fun _ => 0) ∧ D' (o + 18) = (fun _ => 0) ∧ D' (o + 19) = (fun _ => 0)

theorem oas_ok {o : Nat} {sh S6 S8 S21 : mSh} {P P6 P8 P23 : mPt} {D D6 D8 D21 : mDt} (hs : sh o = some (.inl 2)) (e1 : S6 = updS (updS sh (o + 1) (.inl 0)) (o + 2) (.inl 4)) (hp : pplOk (o + 2) S6 P6 D6 (o + 16) S8 P8 D8) (e2 : S21 = updS (updS (updS (updS S8 (o + 16) (.inl 1)) (o + 17) (.inr (0, 32))) (o + 18) (.inl 1)) (o + 19) (.inr (0, 32)))
    (p1 : P6 = clrP (updP (clrP P (o + 1)) o 0 (some (o + 1))) (o + 2)) (p2 : P23 = updP (updP (clrP (clrP (updP (updP (clrP (clrP (updP P8 o 1 (some (o + 2))) (o + 16)) (o + 17)) (o + 16) 0 (some (o + 17))) o 2 (some (o + 16))) (o + 18)) (o + 19)) (o + 18) 0 (some (o + 19))) o 3 (some (o + 18)))
    (d1 : D6 = clrD (upd2 (upd2 (clrD D (o + 1)) (o + 1) 0 200) (o + 1) 1 40) (o + 2)) (d2 : D21 = clrD (clrD (clrD (clrD D8 (o + 16)) (o + 17)) (o + 18)) (o + 19)) : oasOk o sh P D (o + 20) S21 P23 D21 := by
  refine ⟨rfl, ?_, fun b hb => ?_, fun b hb => ?_, fun b hb => ?_, ?_, ?_, ?_, ?_, fun i hi => ?_, ?_, ?_, ?_, ?_⟩
  · refine ⟨?_, ?_, ?_, ?_, ?_, ?_, ?_, ?_, ?_, ?_, ?_, ?_, ?_, ?_, ?_, ?_, ?_, ?_, ?_, ?_, ?_⟩
    · rw [e2, updS_ne (by omega), updS_ne (by omega), updS_ne (by omega), updS_ne (by omega)]; rw [hp.2.1 _ (by omega), e1, updS_ne (by omega), updS_ne (by omega)]; exact hs
    · rw [e2, updS_ne (by omega), updS_ne (by omega), updS_ne (by omega), updS_ne (by omega)]; rw [hp.2.1 _ (by omega), e1, updS_ne (by omega), updS_eq]
    · rw [e2, updS_ne (by omega), updS_ne (by omega), updS_ne (by omega), updS_ne (by omega)]; rw [hp.2.1 _ (by omega), e1, updS_eq]
    · rw [e2, updS_ne (by omega), updS_ne (by omega), updS_ne (by omega), updS_ne (by omega)]; exact hp.2.2.2.2.2.2.2.1
    · rw [e2, updS_ne (by omega), updS_ne (by omega), updS_ne (by omega), updS_ne (by omega)]; exact hp.2.2.2.2.2.2.2.2.1
    · rw [e2, updS_ne (by omega), updS_ne (by omega), updS_ne (by omega), updS_ne (by omega)]; exact hp.2.2.2.2.2.2.2.2.2.1
    · intro i hi; rw [e2, updS_ne (by omega), updS_ne (by omega), updS_ne (by omega), updS_ne (by omega), show o + 6 + i = o + 2 + 4 + i by omega]; exact hp.2.2.2.2.2.2.2.2.2.2.1 i hi
    · rw [e2, updS_ne (by omega), updS_ne (by omega), updS_ne (by omega), updS_eq]
    · rw [e2, updS_ne (by omega), updS_ne (by omega), updS_eq]
    · rw [e2, updS_ne (by omega), updS_eq]
    · rw [e2, updS_eq]
    · rw [p2, updP_nk (by decide), updP_ra (by omega), clrP_ne (by omega), clrP_ne (by omega), updP_nk (by decide), updP_ra (by omega), clrP_ne (by omega), clrP_ne (by omega), updP_nk (by decide)]; rw [hp.2.2.1 _ (by omega), p1, clrP_ne (by omega), updP_eq]
    · rw [p2, updP_nk (by decide), updP_ra (by omega), clrP_ne (by omega), clrP_ne (by omega), updP_nk (by decide), updP_ra (by omega), clrP_ne (by omega), clrP_ne (by omega), updP_eq]
    · rw [p2, updP_nk (by decide), updP_ra (by omega), clrP_ne (by omega), clrP_ne (by omega), updP_eq]
    · rw [p2, updP_eq]
    · rw [p2, updP_ra (by omega), updP_ra (by omega), clrP_ne (by omega), clrP_ne (by omega), updP_ra (by omega), updP_ra (by omega), clrP_ne (by omega), clrP_ne (by omega), updP_ra (by omega)]; exact hp.2.2.2.2.1
    · rw [p2, updP_ra (by omega), updP_ra (by omega), clrP_ne (by omega), clrP_ne (by omega), updP_ra (by omega), updP_ra (by omega), clrP_ne (by omega), clrP_ne (by omega), updP_ra (by omega)]; exact hp.2.2.2.2.2.1
    · rw [p2, updP_ra (by omega), updP_ra (by omega), clrP_ne (by omega), clrP_ne (by omega), updP_ra (by omega), updP_ra (by omega), clrP_ne (by omega), clrP_ne (by omega), updP_ra (by omega)]; exact hp.2.2.2.2.2.2.1
    · intro i hi; rw [p2, updP_ra (by omega), updP_ra (by omega), clrP_ne (by omega), clrP_ne (by omega), updP_ra (by omega), updP_ra (by omega), clrP_ne (by omega), clrP_ne (by omega), updP_ra (by omega), show o + 6 + i = o + 2 + 4 + i by omega]; exact hp.2.2.2.2.2.2.2.2.2.2.2.1 i hi
    · rw [p2, updP_ra (by omega), updP_ra (by omega), clrP_ne (by omega), clrP_ne (by omega), updP_ra (by omega), updP_eq]
    · rw [p2, updP_ra (by omega), updP_eq]
  · rw [e2, updS_ne (by omega), updS_ne (by omega), updS_ne (by omega), updS_ne (by omega), hp.2.1 _ (by omega), e1, updS_ne (by omega), updS_ne (by omega)]
  · rw [p2, updP_ra (by omega), updP_ra (by omega), clrP_ne (by omega), clrP_ne (by omega), updP_ra (by omega), updP_ra (by omega), clrP_ne (by omega), clrP_ne (by omega), updP_ra (by omega), hp.2.2.1 _ (by omega), p1, clrP_ne (by omega), updP_ra (by omega), clrP_ne (by omega)]
  · rw [d2, clrD_ne (by omega), clrD_ne (by omega), clrD_ne (by omega), clrD_ne (by omega)]; rw [hp.2.2.2.1 _ (by omega), d1, clrD_ne (by omega), upd2_ra (by omega), upd2_ra (by omega), clrD_ne (by omega)]
  · rw [d2, clrD_ne (by omega), clrD_ne (by omega), clrD_ne (by omega), clrD_ne (by omega)]; rw [hp.2.2.2.1 _ (by omega), d1, clrD_ne (by omega), upd2_row, upd2_row, clrD_eq]
  · rw [d2, clrD_ne (by omega), clrD_ne (by omega), clrD_ne (by omega), clrD_ne (by omega)]; rw [hp.2.2.2.1 _ (by omega), d1, clrD_eq]
  · rw [d2, clrD_ne (by omega), clrD_ne (by omega), clrD_ne (by omega), clrD_ne (by omega)]; exact hp.2.2.2.2.2.2.2.2.2.2.2.2.1
  · rw [d2, clrD_ne (by omega), clrD_ne (by omega), clrD_ne (by omega), clrD_ne (by omega)]; exact hp.2.2.2.2.2.2.2.2.2.2.2.2.2.1
  · rw [d2, clrD_ne (by omega), clrD_ne (by omega), clrD_ne (by omega), clrD_ne (by omega)]; rw [show o + 6 + i = o + 2 + 4 + i by omega]; exact hp.2.2.2.2.2.2.2.2.2.2.2.2.2.2 i hi
  · rw [d2, clrD_ne (by omega), clrD_ne (by omega), clrD_ne (by omega), clrD_eq]
  · rw [d2, clrD_ne (by omega), clrD_ne (by omega), clrD_eq]
  · rw [d2, clrD_ne (by omega), clrD_eq]
  · rw [d2, clrD_eq]

set_option maxRecDepth 100000 in
set_option maxHeartbeats 4000000 in
theorem m_oasInit {κ : mKp} {sh : mSh} {P : mPt} {D : mDt} {E : mEt} {o : Nat} (hs : sh o = some (.inl 2)) : mMet κ yX2_init cX2_init 1 (Option.none : Option Jvm.ClassFile.FieldType) { frames := 3, cells := 19, slots := 285, locals := 62 } [.ref o] (o + 1) sh P D E (fun v n' sh' P' D' E' => v = none ∧ E' = E ∧ oasOk o sh P D n' sh' P' D') := by
  refine mMet_of (by decide) (Nat.le_of_ble_eq_true rfl) ?_
  intro Γ Q hQ h hin
  have h : mOk Γ κ RX2 cX2_init 1 (Option.none : Option Jvm.ClassFile.FieldType) { frames := 3, cells := 19, slots := 285, locals := 62 } := h
  show mV Γ Q 0 0 (o + 1) sh P D E [(0, .ref o)] [] 0
  refine V_aload_n h 1 0 rfl dX2_init_0 rfl ?_
  refine V_objInit h 4 qL_X2_3 (Nat.le_of_ble_eq_true rfl) (Nat.le_of_ble_eq_true rfl) dX2_init_1 rfl ?_
  refine V_aload_n h 5 0 rfl dX2_init_4 rfl ?_
  refine V_new (ci := 0) (C := RX0) (T := TX0) h 8 (o + 2) 1 4 tyX0 tyX0_ok (by decide) qU_X0 rfl qK_X2_9 qN_X0 qZ_X0 (Nat.le_of_ble_eq_true rfl) (Nat.le_of_ble_eq_true rfl) dX2_init_5 rfl (by first | omega | dsimp only | (dsimp only; omega)) (by first | omega | dsimp only | (dsimp only; omega)) (by first | omega | dsimp only | (dsimp only; omega)) ?_
  obtain ⟨S1, eS1⟩ : ∃ zz, zz = updS sh (o + 1) (.inl 0) := ⟨_, rfl⟩
  rw [← eS1]
  obtain ⟨P1, eP1⟩ : ∃ zz, zz = clrP P (o + 1) := ⟨_, rfl⟩
  rw [← eP1]
  obtain ⟨D1, eD1⟩ : ∃ zz, zz = clrD D (o + 1) := ⟨_, rfl⟩
  rw [← eD1]
  have fs1_0 : S1 o = some (.inl 2) := by rw [eS1, updS_ne (by omega)]; exact hs
  have fn2 : S1 (o + 1) = some (.inl 0) := by rw [eS1]; exact updS_eq
  refine V_dup h 9 rfl dX2_init_8 rfl ?_
  refine V_callIN h 12 (ret2 := none) (host := "OasisBooks") (rm := { frames := 1, cells := 0, slots := 0, locals := 20 }) (As := []) (c_chInit fn2) rfl (List.mem_of_getElem? (i := 1) (by decide +kernel)) qI_X0_init qZ_X0 qC_X0_init hd_X0_init ⟨Nat.le_of_ble_eq_true rfl, Nat.le_of_ble_eq_true rfl⟩ (Nat.le_of_ble_eq_true rfl) rfl rfl dX2_init_9 ⟨(Nat.le_of_ble_eq_true rfl), (Nat.le_of_ble_eq_true rfl)⟩ (fun v3 n3 S3 P3 D3 E3 hq3 => ?_)
  obtain ⟨q1, q2, q3, q4, q5, hq3⟩ := hq3
  subst q5
  rw [q1, q2, q3, q4]
  have eD3 := hq3
  refine p_X2_12 h 15 (hin rfl) fs1_0 dX2_init_12 rfl ?_
  obtain ⟨P4, eP4⟩ : ∃ zz, zz = updP P1 o 0 (some (o + 1)) := ⟨_, rfl⟩
  rw [← eP4]
  have fq5 : P4 o 0 = some (o + 1) := by rw [eP4]; exact updP_eq
  refine V_aload_n h 16 0 rfl dX2_init_15 rfl ?_
  refine V_new (ci := 4) (C := RX4) (T := TX4) h 19 (o + 3) 2 9 tyX4 tyX4_ok (by decide) qU_X4 rfl qK_X2_18 qN_X4 qZ_X4 (Nat.le_of_ble_eq_true rfl) (Nat.le_of_ble_eq_true rfl) dX2_init_16 rfl (by first | omega | dsimp only | (dsimp only; omega)) (by first | omega | dsimp only | (dsimp only; omega)) (by first | omega | dsimp only | (dsimp only; omega)) ?_
  obtain ⟨S6, eS6⟩ : ∃ zz, zz = updS S1 (o + 2) (.inl 4) := ⟨_, rfl⟩
  rw [← eS6]
  obtain ⟨P6, eP6⟩ : ∃ zz, zz = clrP P4 (o + 2) := ⟨_, rfl⟩
  rw [← eP6]
  obtain ⟨D6, eD6⟩ : ∃ zz, zz = clrD D3 (o + 2) := ⟨_, rfl⟩
  rw [← eD6]
  have fs6_0 : S6 o = some (.inl 2) := by rw [eS6, updS_ne (by omega)]; exact fs1_0
  have fs6_1 : S6 (o + 1) = some (.inl 0) := by rw [eS6, updS_ne (by omega)]; exact fn2
  have fr6_0 : P6 o 0 = some (o + 1) := by rw [eP6, clrP_ne (by omega)]; exact fq5
  have fn7 : S6 (o + 2) = some (.inl 4) := by rw [eS6]; exact updS_eq
  refine V_dup h 20 rfl dX2_init_19 rfl ?_
  refine V_callI h 23 (ret2 := none) (rm := { frames := 2, cells := 13, slots := 185, locals := 41 }) (As := []) (m_pplInit fn7) rfl qL_X2_20 qI_X4_init qZ_X4 qC_X4_init hd_X4_init ⟨Nat.le_of_ble_eq_true rfl, Nat.le_of_ble_eq_true rfl⟩ (Nat.le_of_ble_eq_true rfl) rfl rfl dX2_init_20 ⟨(Nat.le_of_ble_eq_true rfl), (Nat.le_of_ble_eq_true rfl)⟩ (fun v8 n8 S8 P8 D8 E8 hq8 => ?_)
  obtain ⟨q5, q4, q1, hq8⟩ := hq8
  subst q5
  subst q4
  rw [q1]
  have ft8_0 : S8 o = some (.inl 2) := (hq8.1 _ (by omega)).trans fs6_0
  have ft8_1 : S8 (o + 1) = some (.inl 0) := (hq8.1 _ (by omega)).trans fs6_1
  have ft8_2 : S8 (o + 2) = some (.inl 4) := (hq8.1 _ (by omega)).trans fn7
  have fu8_0 : P8 o 0 = some (o + 1) := by rw [hq8.2.1 _ (by omega)]; exact fr6_0
  refine p_X2_21 h 26 (hin rfl) ft8_0 dX2_init_23 rfl ?_
  obtain ⟨P9, eP9⟩ : ∃ zz, zz = updP P8 o 1 (some (o + 2)) := ⟨_, rfl⟩
  rw [← eP9]
  have frp9_0 : P9 o 0 = some (o + 1) := by rw [eP9, updP_nk (by decide)]; exact fu8_0
  have fq10 : P9 o 1 = some (o + 2) := by rw [eP9]; exact updP_eq
  refine V_aload_n h 27 0 rfl dX2_init_26 rfl ?_
  refine V_new (ci := 1) (C := RX1) (T := TX1) h 30 (o + 17) 16 196 tyX1 tyX1_ok (by decide) qU_X1 rfl qK_X2_25 qN_X1 qZ_X1 (Nat.le_of_ble_eq_true rfl) (Nat.le_of_ble_eq_true rfl) dX2_init_27 rfl (by first | omega | dsimp only | (dsimp only; omega)) (by first | omega | dsimp only | (dsimp only; omega)) (by first | omega | dsimp only | (dsimp only; omega)) ?_
  obtain ⟨S11, eS11⟩ : ∃ zz, zz = updS S8 (o + 16) (.inl 1) := ⟨_, rfl⟩
  rw [← eS11]
  obtain ⟨P11, eP11⟩ : ∃ zz, zz = clrP P9 (o + 16) := ⟨_, rfl⟩
  rw [← eP11]
  obtain ⟨D11, eD11⟩ : ∃ zz, zz = clrD D8 (o + 16) := ⟨_, rfl⟩
  rw [← eD11]
  have fs11_0 : S11 o = some (.inl 2) := by rw [eS11, updS_ne (by omega)]; exact ft8_0
  have fs11_1 : S11 (o + 1) = some (.inl 0) := by rw [eS11, updS_ne (by omega)]; exact ft8_1
  have fs11_2 : S11 (o + 2) = some (.inl 4) := by rw [eS11, updS_ne (by omega)]; exact ft8_2
  have fr11_0 : P11 o 0 = some (o + 1) := by rw [eP11, clrP_ne (by omega)]; exact frp9_0
  have fr11_1 : P11 o 1 = some (o + 2) := by rw [eP11, clrP_ne (by omega)]; exact fq10
  have fn12 : S11 (o + 16) = some (.inl 1) := by rw [eS11]; exact updS_eq
  refine V_dup h 31 rfl dX2_init_30 rfl ?_
  refine V_callIN h 34 (ret2 := none) (host := "OasisBooks") (rm := { frames := 1, cells := 1, slots := 32, locals := 20 }) (As := []) (m_dealsInit fn12) rfl (List.mem_of_getElem? (i := 31) (by decide +kernel)) qI_X1_init qZ_X1 qC_X1_init hd_X1_init ⟨Nat.le_of_ble_eq_true rfl, Nat.le_of_ble_eq_true rfl⟩ (Nat.le_of_ble_eq_true rfl) rfl rfl dX2_init_31 ⟨(Nat.le_of_ble_eq_true rfl), (Nat.le_of_ble_eq_true rfl)⟩ (fun v13 n13 S13 P13 D13 E13 hq13 => ?_)
  obtain ⟨q5, q4, q1, q2, q3, q6⟩ := hq13
  subst q5
  subst q4
  rw [q1, q2, q3, q6]
  obtain ⟨S14, eS14⟩ : ∃ zz, zz = updS S11 (o + 17) (.inr (0, 32)) := ⟨_, rfl⟩
  rw [← eS14]
  obtain ⟨P14, eP14⟩ : ∃ zz, zz = clrP P11 (o + 17) := ⟨_, rfl⟩
  rw [← eP14]
  obtain ⟨D14, eD14⟩ : ∃ zz, zz = clrD D11 (o + 17) := ⟨_, rfl⟩
  rw [← eD14]
  have fs14_0 : S14 o = some (.inl 2) := by rw [eS14, updS_ne (by omega)]; exact fs11_0
  have fs14_1 : S14 (o + 1) = some (.inl 0) := by rw [eS14, updS_ne (by omega)]; exact fs11_1
  have fs14_2 : S14 (o + 2) = some (.inl 4) := by rw [eS14, updS_ne (by omega)]; exact fs11_2
  have fs14_3 : S14 (o + 16) = some (.inl 1) := by rw [eS14, updS_ne (by omega)]; exact fn12
  have fr14_0 : P14 o 0 = some (o + 1) := by rw [eP14, clrP_ne (by omega)]; exact fr11_0
  have fr14_1 : P14 o 1 = some (o + 2) := by rw [eP14, clrP_ne (by omega)]; exact fr11_1
  obtain ⟨P14x, eP14x⟩ : ∃ zz, zz = updP P14 (o + 16) 0 (some (o + 17)) := ⟨_, rfl⟩
  rw [← eP14x]
  have frp14x_0 : P14x o 0 = some (o + 1) := by rw [eP14x, updP_ra (by omega)]; exact fr14_0
  have frp14x_1 : P14x o 1 = some (o + 2) := by rw [eP14x, updP_ra (by omega)]; exact fr14_1
  have fq15 : P14x (o + 16) 0 = some (o + 17) := by rw [eP14x]; exact updP_eq
  refine p_X2_28 h 37 (hin rfl) fs14_0 dX2_init_34 rfl ?_
  obtain ⟨P16, eP16⟩ : ∃ zz, zz = updP P14x o 2 (some (o + 16)) := ⟨_, rfl⟩
  rw [← eP16]
  have frp16_0 : P16 o 0 = some (o + 1) := by rw [eP16, updP_nk (by decide)]; exact frp14x_0
  have frp16_1 : P16 o 1 = some (o + 2) := by rw [eP16, updP_nk (by decide)]; exact frp14x_1
  have frp16_2 : P16 (o + 16) 0 = some (o + 17) := by rw [eP16, updP_ra (by omega)]; exact fq15
  have fq17 : P16 o 2 = some (o + 16) := by rw [eP16]; exact updP_eq
  refine V_aload_n h 38 0 rfl dX2_init_37 rfl ?_
  refine V_new (ci := 1) (C := RX1) (T := TX1) h 41 (o + 19) 18 230 tyX1 tyX1_ok (by decide) qU_X1 rfl qK_X2_25 qN_X1 qZ_X1 (Nat.le_of_ble_eq_true rfl) (Nat.le_of_ble_eq_true rfl) dX2_init_38 rfl (by first | omega | dsimp only | (dsimp only; omega)) (by first | omega | dsimp only | (dsimp only; omega)) (by first | omega | dsimp only | (dsimp only; omega)) ?_
  obtain ⟨S18, eS18⟩ : ∃ zz, zz = updS S14 (o + 18) (.inl 1) := ⟨_, rfl⟩
  rw [← eS18]
  obtain ⟨P18, eP18⟩ : ∃ zz, zz = clrP P16 (o + 18) := ⟨_, rfl⟩
  rw [← eP18]
  obtain ⟨D18, eD18⟩ : ∃ zz, zz = clrD D14 (o + 18) := ⟨_, rfl⟩
  rw [← eD18]
  have fs18_0 : S18 o = some (.inl 2) := by rw [eS18, updS_ne (by omega)]; exact fs14_0
  have fs18_1 : S18 (o + 1) = some (.inl 0) := by rw [eS18, updS_ne (by omega)]; exact fs14_1
  have fs18_2 : S18 (o + 2) = some (.inl 4) := by rw [eS18, updS_ne (by omega)]; exact fs14_2
  have fs18_3 : S18 (o + 16) = some (.inl 1) := by rw [eS18, updS_ne (by omega)]; exact fs14_3
  have fr18_0 : P18 o 0 = some (o + 1) := by rw [eP18, clrP_ne (by omega)]; exact frp16_0
  have fr18_1 : P18 o 1 = some (o + 2) := by rw [eP18, clrP_ne (by omega)]; exact frp16_1
  have fr18_2 : P18 (o + 16) 0 = some (o + 17) := by rw [eP18, clrP_ne (by omega)]; exact frp16_2
  have fr18_3 : P18 o 2 = some (o + 16) := by rw [eP18, clrP_ne (by omega)]; exact fq17
  have fn19 : S18 (o + 18) = some (.inl 1) := by rw [eS18]; exact updS_eq
  refine V_dup h 42 rfl dX2_init_41 rfl ?_
  refine V_callIN h 45 (ret2 := none) (host := "OasisBooks") (rm := { frames := 1, cells := 1, slots := 32, locals := 20 }) (As := []) (m_dealsInit fn19) rfl (List.mem_of_getElem? (i := 31) (by decide +kernel)) qI_X1_init qZ_X1 qC_X1_init hd_X1_init ⟨Nat.le_of_ble_eq_true rfl, Nat.le_of_ble_eq_true rfl⟩ (Nat.le_of_ble_eq_true rfl) rfl rfl dX2_init_42 ⟨(Nat.le_of_ble_eq_true rfl), (Nat.le_of_ble_eq_true rfl)⟩ (fun v20 n20 S20 P20 D20 E20 hq20 => ?_)
  obtain ⟨q5, q4, q1, q2, q3, q6⟩ := hq20
  subst q5
  subst q4
  rw [q1, q2, q3, q6]
  obtain ⟨S21, eS21⟩ : ∃ zz, zz = updS S18 (o + 19) (.inr (0, 32)) := ⟨_, rfl⟩
  rw [← eS21]
  obtain ⟨P21, eP21⟩ : ∃ zz, zz = clrP P18 (o + 19) := ⟨_, rfl⟩
  rw [← eP21]
  obtain ⟨D21, eD21⟩ : ∃ zz, zz = clrD D18 (o + 19) := ⟨_, rfl⟩
  rw [← eD21]
  have fs21_0 : S21 o = some (.inl 2) := by rw [eS21, updS_ne (by omega)]; exact fs18_0
  have fs21_1 : S21 (o + 1) = some (.inl 0) := by rw [eS21, updS_ne (by omega)]; exact fs18_1
  have fs21_2 : S21 (o + 2) = some (.inl 4) := by rw [eS21, updS_ne (by omega)]; exact fs18_2
  have fs21_3 : S21 (o + 16) = some (.inl 1) := by rw [eS21, updS_ne (by omega)]; exact fs18_3
  have fs21_4 : S21 (o + 18) = some (.inl 1) := by rw [eS21, updS_ne (by omega)]; exact fn19
  have fr21_0 : P21 o 0 = some (o + 1) := by rw [eP21, clrP_ne (by omega)]; exact fr18_0
  have fr21_1 : P21 o 1 = some (o + 2) := by rw [eP21, clrP_ne (by omega)]; exact fr18_1
  have fr21_2 : P21 (o + 16) 0 = some (o + 17) := by rw [eP21, clrP_ne (by omega)]; exact fr18_2
  have fr21_3 : P21 o 2 = some (o + 16) := by rw [eP21, clrP_ne (by omega)]; exact fr18_3
  obtain ⟨P21x, eP21x⟩ : ∃ zz, zz = updP P21 (o + 18) 0 (some (o + 19)) := ⟨_, rfl⟩
  rw [← eP21x]
  have frp21x_0 : P21x o 0 = some (o + 1) := by rw [eP21x, updP_ra (by omega)]; exact fr21_0
  have frp21x_1 : P21x o 1 = some (o + 2) := by rw [eP21x, updP_ra (by omega)]; exact fr21_1
  have frp21x_2 : P21x (o + 16) 0 = some (o + 17) := by rw [eP21x, updP_ra (by omega)]; exact fr21_2
  have frp21x_3 : P21x o 2 = some (o + 16) := by rw [eP21x, updP_ra (by omega)]; exact fr21_3
  have fq22 : P21x (o + 18) 0 = some (o + 19) := by rw [eP21x]; exact updP_eq
  refine p_X2_32 h 48 (hin rfl) fs21_0 dX2_init_45 rfl ?_
  obtain ⟨P23, eP23⟩ : ∃ zz, zz = updP P21x o 3 (some (o + 18)) := ⟨_, rfl⟩
  rw [← eP23]
  have frp23_0 : P23 o 0 = some (o + 1) := by rw [eP23, updP_nk (by decide)]; exact frp21x_0
  have frp23_1 : P23 o 1 = some (o + 2) := by rw [eP23, updP_nk (by decide)]; exact frp21x_1
  have frp23_2 : P23 (o + 16) 0 = some (o + 17) := by rw [eP23, updP_ra (by omega)]; exact frp21x_2
  have frp23_3 : P23 o 2 = some (o + 16) := by rw [eP23, updP_nk (by decide)]; exact frp21x_3
  have frp23_4 : P23 (o + 18) 0 = some (o + 19) := by rw [eP23, updP_ra (by omega)]; exact fq22
  have fq24 : P23 o 3 = some (o + 18) := by rw [eP23]; exact updP_eq
  exact V_ret h  hQ (Nat.le_of_ble_eq_true rfl) (Nat.le_of_ble_eq_true rfl) ⟨rfl, rfl, oas_ok hs (by rw [eS6, eS1]) ⟨rfl, hq8⟩ (by rw [eS21, eS18, eS14, eS11]) (by rw [eP6, eP4, eP1]) (by rw [eP23, eP21x, eP21, eP18, eP16, eP14x, eP14, eP11, eP9]) (by rw [eD6, eD3, eD1]) (by rw [eD21, eD18, eD14, eD11])⟩ dX2_init_48
