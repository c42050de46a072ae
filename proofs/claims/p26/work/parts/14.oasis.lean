abbrev rm7 (x : Int32) : Int32 := x - x / 7 * 7
abbrev rm10 (x : Int32) : Int32 := x - x / 10 * 10
abbrev rm70 (x : Int32) : Int32 := x - x / 70 * 70
def bodF (s e f : Int32) : Int32 := imax 0 (imin e (f + 720) - imax s f)
def harvIn (x : Int32) : Int32 := if 60 - rm70 x ≤ 0 then 60 - rm70 x + 70 else 60 - rm70 x
/-- the number in a cell -/
def toN (x : Int32) : Nat := x.toNatClampNeg
/-- where the bowls of x end, behind i loans -/
def lentE (f : Nat → Int32) (x en : Int32) : Nat → Int32
  | 0 => en
  | i + 1 => if f (i * 4 + 0) = x then lentE f x en i - f (i * 4 + 2) else lentE f x en i
/-- what the first i loans of x bring -/
def lentD (o : Nat) (f : Nat → Int32) (x en fb fl : Int32) (D : mDt) : Nat → mDt
  | 0 => D
  | i + 1 => if f (i * 4 + 0) = x then upd2 (lentD o f x en fb fl D i) (o + 6 + toN (f (i * 4 + 1))) 11 (lentD o f x en fb fl D i (o + 6 + toN (f (i * 4 + 1))) 11 + bodF (lentE f x en i - f (i * 4 + 2)) (lentE f x en i) fb * fl) else lentD o f x en fb fl D i
/-- deals whose two sides are numbers of owners -/
def dOk (f : Nat → Int32) (m : Nat) : Prop := m ≤ 8 ∧ ∀ i, i < m → (toN (f (i * 4 + 0)) < 10 ∧ f (i * 4 + 0) = nI (toN (f (i * 4 + 0)))) ∧ toN (f (i * 4 + 1)) < 10 ∧ f (i * 4 + 1) = nI (toN (f (i * 4 + 1)))
theorem lentD_11 {o : Nat} {f : Nat → Int32} {x en fb fl : Int32} {D : mDt} {i a j : Nat} (hj : j ≠ 11) : lentD o f x en fb fl D i a j = D a j := by
  induction i with
  | zero => rfl
  | succ i ih =>
    rw [lentD]
    split
    · rw [upd2_nk hj]; exact ih
    · exact ih
theorem lentD_row {o : Nat} {f : Nat → Int32} {x en fb fl : Int32} {D : mDt} {i a : Nat} (h : a < o + 6 ∨ o + 16 ≤ a) (hf : ∀ k, k < i → toN (f (k * 4 + 1)) < 10) : lentD o f x en fb fl D i a = D a := by
  induction i with
  | zero => rfl
  | succ i ih =>
    have := hf i (by omega)
    rw [lentD]
    split
    · rw [upd2_ra (by omega)]; exact ih (fun k hk => hf k (by omega))
    · exact ih (fun k hk => hf k (by omega))

set_option maxRecDepth 100000 in
set_option maxHeartbeats 4000000 in
theorem c_date {κ : mKp} {n : Nat} {sh : mSh} {P : mPt} {D : mDt} {E : mEt} {o : Nat} (hL : mLay o sh P) : mFnI κ yX2_date cX2_date 1 (Option.some Jvm.ClassFile.FieldType.int) 0 0 [.ref o] n sh P D E (fun r D' => D' = D ∧ r = rm70 (D o 4)) := by
  refine mMet_of (by decide) (Nat.le_of_ble_eq_true rfl) ?_
  intro Γ Q hQ h hin
  have h : mOk Γ κ RX2 cX2_date 1 (Option.some Jvm.ClassFile.FieldType.int) { frames := 0, cells := 0, slots := 0, locals := 0 } := h
  show mV Γ Q 0 0 n sh P D E [(0, .ref o)] [] 0
  refine V_aload_n h 1 0 rfl dX2_date_0 rfl ?_
  refine g_X2_45 h 4 (L_s0 hL) dX2_date_1 rfl ?_
  refine V_bipush h 6 (v := 70) (by decide) dX2_date_4 rfl ?_
  refine V_irem h 7 (by decide) dX2_date_6 rfl ?_
  exact V_iret h rfl hQ (Nat.zero_le _) (Nat.zero_le _) ⟨rfl, rfl, rfl, rfl, _, rfl, ⟨rfl, rfl⟩⟩ dX2_date_7

set_option maxRecDepth 100000 in
set_option maxHeartbeats 4000000 in
theorem c_daysToHarvest {κ : mKp} {n : Nat} {sh : mSh} {P : mPt} {D : mDt} {E : mEt} {o : Nat} (hL : mLay o sh P) : mFnI κ yX2_daysToHarvest cX2_daysToHarvest 2 (Option.some Jvm.ClassFile.FieldType.int) 1 20 [.ref o] n sh P D E (fun r D' => D' = D ∧ r = harvIn (D o 4)) := by
  refine mMet_of (by decide) (Nat.le_of_ble_eq_true rfl) ?_
  intro Γ Q hQ h hin
  have h : mOk Γ κ RX2 cX2_daysToHarvest 2 (Option.some Jvm.ClassFile.FieldType.int) { frames := 1, cells := 0, slots := 0, locals := 20 } := h
  show mV Γ Q 0 0 n sh P D E [(0, .ref o)] [] 0
  refine V_bipush h 2 (v := 60) (by decide) dX2_daysToHarvest_0 rfl ?_
  refine V_aload_n h 3 0 rfl dX2_daysToHarvest_2 rfl ?_
  refine CVI h 6 (As := []) (c_date hL) rfl (L_s0 hL) qL_X2_58 qI_X2_date qS_X2_date qZ_X2 qC_X2_date hd_X2_date ⟨Nat.le_of_ble_eq_true rfl, Nat.le_of_ble_eq_true rfl⟩ (Nat.le_of_ble_eq_true rfl) rfl rfl dX2_daysToHarvest_3 (Nat.zero_le _) (Nat.zero_le _) (fun r1 D1 hq1 => ?_)
  rw [hq1.1, hq1.2]
  refine V_isub h 7 dX2_daysToHarvest_6 rfl ?_
  refine V_istore_n h 8 [(1, .int (60 - (rm70 (D o 4)))), (0, .ref o)] (by decide) rfl dX2_daysToHarvest_7 rfl ?_
  refine V_iload_n h 9 0 rfl dX2_daysToHarvest_8 rfl ?_
  refine V_if_le h 16 12 dX2_daysToHarvest_9 (by decide) rfl (fun c9 => ?_) (fun c9 => ?_)
  · skip
    refine V_iload_n h 17 0 rfl dX2_daysToHarvest_16 rfl ?_
    refine V_bipush h 19 (v := 70) (by decide) dX2_daysToHarvest_17 rfl ?_
    refine V_iadd h 20 dX2_daysToHarvest_19 rfl ?_
    exact V_iret h rfl hQ (Nat.zero_le _) (Nat.zero_le _) ⟨rfl, rfl, rfl, rfl, _, rfl, ⟨rfl, (if_pos c9).symm⟩⟩ dX2_daysToHarvest_20
  · skip
    refine V_iload_n h 13 0 rfl dX2_daysToHarvest_12 rfl ?_
    refine V_goto h 20 dX2_daysToHarvest_13 (by decide) ?_
    exact V_iret h rfl hQ (Nat.zero_le _) (Nat.zero_le _) ⟨rfl, rfl, rfl, rfl, _, rfl, ⟨rfl, (if_neg c9).symm⟩⟩ dX2_daysToHarvest_20

set_option maxRecDepth 100000 in
set_option maxHeartbeats 4000000 in
theorem c_bowlsOfDay {κ : mKp} {n : Nat} {sh : mSh} {P : mPt} {D : mDt} {E : mEt} (x y z : Int32) : mFnI κ yX2_bowlsOfDay cX2_bowlsOfDay 5 (Option.some Jvm.ClassFile.FieldType.int) 1 21 [.int x, .int y, .int z] n sh P D E (fun r D' => D' = D ∧ r = bodF x y z) := by
  refine mMet_of (by decide) (Nat.le_of_ble_eq_true rfl) ?_
  intro Γ Q hQ h hin
  have h : mOk Γ κ RX2 cX2_bowlsOfDay 5 (Option.some Jvm.ClassFile.FieldType.int) { frames := 1, cells := 0, slots := 0, locals := 21 } := h
  show mV Γ Q 0 0 n sh P D E [(0, .int x), (1, .int y), (2, .int z)] [] 0
  refine V_iload_n h 1 0 rfl dX2_bowlsOfDay_0 rfl ?_
  refine V_iload_n h 2 2 rfl dX2_bowlsOfDay_1 rfl ?_
  refine V_mmax h 5 qL_X2_131 (Nat.le_of_ble_eq_true rfl) (Nat.le_of_ble_eq_true rfl) (Nat.zero_le _) (Nat.zero_le _) dX2_bowlsOfDay_2 rfl ?_
  refine V_istore_n h 6 [(3, .int (imax x z)), (0, .int x), (1, .int y), (2, .int z)] (by decide) rfl dX2_bowlsOfDay_5 rfl ?_
  refine V_iload_n h 7 2 rfl dX2_bowlsOfDay_6 rfl ?_
  refine V_iload_n h 8 3 rfl dX2_bowlsOfDay_7 rfl ?_
  refine V_sipush h 11 (v := 720) (by decide) dX2_bowlsOfDay_8 rfl ?_
  refine V_iadd h 12 dX2_bowlsOfDay_11 rfl ?_
  refine V_mmin h 15 qL_X2_136 (Nat.le_of_ble_eq_true rfl) (Nat.le_of_ble_eq_true rfl) (Nat.zero_le _) (Nat.zero_le _) dX2_bowlsOfDay_12 rfl ?_
  refine V_istore h 17 [(4, .int (imin y (z + 720))), (3, .int (imax x z)), (0, .int x), (1, .int y), (2, .int z)] (by decide) rfl dX2_bowlsOfDay_15 rfl ?_
  refine V_iconst h 18 (v := 0) (by decide) dX2_bowlsOfDay_17 rfl ?_
  refine V_iload h 20 0 rfl dX2_bowlsOfDay_18 rfl ?_
  refine V_iload_n h 21 1 rfl dX2_bowlsOfDay_20 rfl ?_
  refine V_isub h 22 dX2_bowlsOfDay_21 rfl ?_
  refine V_mmax h 25 qL_X2_131 (Nat.le_of_ble_eq_true rfl) (Nat.le_of_ble_eq_true rfl) (Nat.zero_le _) (Nat.zero_le _) dX2_bowlsOfDay_22 rfl ?_
  exact V_iret h rfl hQ (Nat.zero_le _) (Nat.zero_le _) ⟨rfl, rfl, rfl, rfl, _, rfl, ⟨rfl, rfl⟩⟩ dX2_bowlsOfDay_25

set_option maxRecDepth 100000 in
set_option maxHeartbeats 4000000 in
theorem c_unlent {κ : mKp} {n : Nat} {sh : mSh} {P : mPt} {D : mDt} {E : mEt} {o : Nat} (hL : mLay o sh P) {t : Nat} (ht : t < 10) (hn : D (o + 6 + t) 0 = nI t) {m : Nat} (hm : D (o + 16) 1 = nI m) (hm8 : m ≤ 8) : mFnI κ yX2_unlentBowls cX2_unlentBowls 2 (Option.some Jvm.ClassFile.FieldType.int) 2 47 [.ref o, .ref (o + 6 + t)] n sh P D E (fun r D' => D' = D ∧ r = D (o + 6 + t) 2 - amtF (D (o + 17)) 0 (nI t) m) := by
  refine mMet_of (by decide) (Nat.le_of_ble_eq_true rfl) ?_
  intro Γ Q hQ h hin
  have h : mOk Γ κ RX2 cX2_unlentBowls 2 (Option.some Jvm.ClassFile.FieldType.int) { frames := 2, cells := 0, slots := 0, locals := 47 } := h
  show mV Γ Q 0 0 n sh P D E [(0, .ref o), (1, .ref (o + 6 + t))] [] 0
  refine V_aload_n h 1 1 rfl dX2_unlentBowls_0 rfl ?_
  refine gN_X2_95 h 4 (L_sw hL ht) dX2_unlentBowls_1 rfl ?_
  refine V_aload_n h 5 0 rfl dX2_unlentBowls_4 rfl ?_
  refine g_X2_28 h 8 (b := o + 16) (L_s0 hL) (L_p2 hL) dX2_unlentBowls_5 rfl ?_
  refine V_iconst h 9 (v := 0) (by decide) dX2_unlentBowls_8 rfl ?_
  refine V_aload_n h 10 1 rfl dX2_unlentBowls_9 rfl ?_
  refine gN_X2_125 h 13 (L_sw hL ht) dX2_unlentBowls_10 rfl ?_
  refine V_top (y := nI t) hn ?_
  refine CVI h 16 (As := [.int 0, .int (nI t)]) (c_amountOf (L_s16 hL) (L_p16 hL) (L_s17 hL) (cl := 0) (by decide) hm hm8 (nI t)) rfl (L_s16 hL) qL_X2_164 qI_X1_amountOf qS_X1_amountOf qZ_X1 qC_X1_amountOf hd_X1_amountOf ⟨Nat.le_of_ble_eq_true rfl, Nat.le_of_ble_eq_true rfl⟩ (Nat.le_of_ble_eq_true rfl) rfl rfl dX2_unlentBowls_13 (Nat.zero_le _) (Nat.zero_le _) (fun r1 D1 hq1 => ?_)
  rw [hq1.1, hq1.2]
  refine V_isub h 17 dX2_unlentBowls_16 rfl ?_
  exact V_iret h rfl hQ (Nat.zero_le _) (Nat.zero_le _) ⟨rfl, rfl, rfl, rfl, _, rfl, ⟨rfl, rfl⟩⟩ dX2_unlentBowls_17

set_option maxRecDepth 100000 in
set_option maxHeartbeats 4000000 in
theorem c_giveLent {κ : mKp} {n : Nat} {sh : mSh} {P : mPt} {D : mDt} {E : mEt} {o : Nat} (hL : mLay o sh P) {t m : Nat} (ht : t < 10) (hn : D (o + 6 + t) 0 = nI t) (hm : D (o + 16) 1 = nI m) (hd : dOk (D (o + 17)) m) (en fb fl : Int32) : mFnI κ yX2_giveLentWater cX2_giveLentWater 9 (Option.some Jvm.ClassFile.FieldType.int) 2 45 [.ref o, .ref (o + 6 + t), .int en, .int fb, .int fl] n sh P D E (fun r D' => D' = lentD o (D (o + 17)) (nI t) en fb fl D m ∧ r = lentE (D (o + 17)) (nI t) en m) := by
  refine mMet_of (by decide) (Nat.le_of_ble_eq_true rfl) ?_
  intro Γ Q hQ h hin
  have h : mOk Γ κ RX2 cX2_giveLentWater 9 (Option.some Jvm.ClassFile.FieldType.int) { frames := 2, cells := 0, slots := 0, locals := 45 } := h
  have hm8 := hd.1
  show mV Γ Q 0 0 n sh P D E [(0, .ref o), (1, .ref (o + 6 + t)), (2, .int en), (3, .int fb), (4, .int fl)] [] 0
  refine V_iload_n h 1 2 rfl dX2_giveLentWater_0 rfl ?_
  refine V_istore h 3 [(5, .int en), (0, .ref o), (1, .ref (o + 6 + t)), (2, .int en), (3, .int fb), (4, .int fl)] (by decide) rfl dX2_giveLentWater_1 rfl ?_
  refine V_iconst h 4 (v := 0) (by decide) dX2_giveLentWater_3 rfl ?_
  refine V_istore h 6 [(6, .int 0), (5, .int en), (0, .ref o), (1, .ref (o + 6 + t)), (2, .int en), (3, .int fb), (4, .int fl)] (by decide) rfl dX2_giveLentWater_4 rfl ?_
  have LP6 : ∀ (kk : Nat) (i : Nat) (x5 x6 : Int32), (i ≤ m) → (x5 = lentE (D (o + 17)) (nI t) en i) → (x6 = nI i) → m - i < kk → mV Γ Q 0 0 n sh P (lentD o (D (o + 17)) (nI t) en fb fl D i) E [(0, .ref o), (1, .ref (o + 6 + t)), (2, .int en), (3, .int fb), (4, .int fl), (5, .int x5), (6, .int x6)] [] 6 := by
    intro kk
    induction kk with
    | zero =>
      intro i x5 x6 _ _ _ hms
      exact absurd hms (Nat.not_lt_zero _)
    | succ kk ih =>
      intro i x5 x6 hi e5 e6 hms
      subst e5 e6
      refine V_iload h 8 6 rfl dX2_giveLentWater_6 rfl ?_
      refine V_aload_n h 9 0 rfl dX2_giveLentWater_8 rfl ?_
      refine g_X2_28 h 12 (b := o + 16) (L_s0 hL) (L_p2 hL) dX2_giveLentWater_9 rfl ?_
      refine CVI h 15 (As := []) (c_dcount (L_s16 hL)) rfl (L_s16 hL) qL_X2_118 qI_X1_count qS_X1_count qZ_X1 qC_X1_count hd_X1_count ⟨Nat.le_of_ble_eq_true rfl, Nat.le_of_ble_eq_true rfl⟩ (Nat.le_of_ble_eq_true rfl) rfl rfl dX2_giveLentWater_12 (Nat.zero_le _) (Nat.zero_le _) (fun r1 D1 hq1 => ?_)
      rw [hq1.1, hq1.2]
      refine V_top (y := nI m) (by rw [lentD_row (by omega) (fun k hk => (hd.2 k (by omega)).2.1)]; exact hm) ?_
      refine V_icmp_ge h 100 18 dX2_giveLentWater_15 (by decide) rfl (fun c15 => ?_) (fun c15 => ?_)
      · skip
        have hex : i = m := by have := mGe c15 (by omega) (by omega); omega
        refine V_iload h 102 5 rfl dX2_giveLentWater_100 rfl ?_
        exact V_iret h rfl hQ (Nat.zero_le _) (Nat.zero_le _) ⟨rfl, rfl, rfl, rfl, _, rfl, ⟨by rw [hex], by rw [hex]⟩⟩ dX2_giveLentWater_102
      · skip
        have hlt := mLt c15 (by omega)
        refine V_aload_n h 19 0 rfl dX2_giveLentWater_18 rfl ?_
        refine g_X2_28 h 22 (b := o + 16) (L_s0 hL) (L_p2 hL) dX2_giveLentWater_19 rfl ?_
        refine V_iload h 24 6 rfl dX2_giveLentWater_22 rfl ?_
        refine V_iconst h 25 (v := 0) (by decide) dX2_giveLentWater_24 rfl ?_
        refine CVI h 28 (As := [.int (nI i), .int 0]) (c_dget (L_s16 hL) (L_p16 hL) (L_s17 hL) (j := i * 4 + 0) (dealIx i 0) (by omega)) rfl (L_s16 hL) qL_X2_121 qI_X1_get qS_X1_get qZ_X1 qC_X1_get hd_X1_get ⟨Nat.le_of_ble_eq_true rfl, Nat.le_of_ble_eq_true rfl⟩ (Nat.le_of_ble_eq_true rfl) rfl rfl dX2_giveLentWater_25 (Nat.zero_le _) (Nat.zero_le _) (fun r2 D2 hq2 => ?_)
        rw [hq2.1, hq2.2]
        refine V_top (y := D (o + 17) (i * 4 + 0)) (by rw [lentD_row (by omega) (fun k hk => (hd.2 k (by omega)).2.1)]) ?_
        refine V_aload_n h 29 1 rfl dX2_giveLentWater_28 rfl ?_
        refine gN_X2_125 h 32 (L_sw hL ht) dX2_giveLentWater_29 rfl ?_
        refine V_top (y := nI t) (by rw [lentD_11 (by decide)]; exact hn) ?_
        refine V_icmp_ne h 94 35 dX2_giveLentWater_32 (by decide) rfl (fun c32 => ?_) (fun c32 => ?_)
        · skip
          refine V_iinc h 97 [(6, .int ((nI i) + 1)), (0, .ref o), (1, .ref (o + 6 + t)), (2, .int en), (3, .int fb), (4, .int fl), (5, .int (lentE (D (o + 17)) (nI t) en i))] 6 rfl (by rfl) (by decide) rfl dX2_giveLentWater_94 rfl ?_
          refine V_goto h 6 dX2_giveLentWater_97 (by decide) ?_
          refine V_lsub [(0, .ref o), (1, .ref (o + 6 + t)), (2, .int en), (3, .int fb), (4, .int fl), (5, .int (lentE (D (o + 17)) (nI t) en i)), (6, .int ((nI i) + 1))] [1, 2, 3, 4, 5, 6, 0] rfl ?_
          rw [show (lentD o (D (o + 17)) (nI t) en fb fl D i) = lentD o (D (o + 17)) (nI t) en fb fl D (i + 1) from (if_neg c32).symm]
          exact ih (i + 1) _ _ (by omega) (if_neg c32).symm (nI_1 i) (by omega)
        · skip
          refine V_iload h 37 5 rfl dX2_giveLentWater_35 rfl ?_
          refine V_aload_n h 38 0 rfl dX2_giveLentWater_37 rfl ?_
          refine g_X2_28 h 41 (b := o + 16) (L_s0 hL) (L_p2 hL) dX2_giveLentWater_38 rfl ?_
          refine V_iload h 43 6 rfl dX2_giveLentWater_41 rfl ?_
          refine V_iconst h 44 (v := 2) (by decide) dX2_giveLentWater_43 rfl ?_
          refine CVI h 47 (As := [.int (nI i), .int 2]) (c_dget (L_s16 hL) (L_p16 hL) (L_s17 hL) (j := i * 4 + 2) (dealIx i 2) (by omega)) rfl (L_s16 hL) qL_X2_121 qI_X1_get qS_X1_get qZ_X1 qC_X1_get hd_X1_get ⟨Nat.le_of_ble_eq_true rfl, Nat.le_of_ble_eq_true rfl⟩ (Nat.le_of_ble_eq_true rfl) rfl rfl dX2_giveLentWater_44 (Nat.zero_le _) (Nat.zero_le _) (fun r3 D3 hq3 => ?_)
          rw [hq3.1, hq3.2]
          refine V_top (y := D (o + 17) (i * 4 + 2)) (by rw [lentD_row (by omega) (fun k hk => (hd.2 k (by omega)).2.1)]) ?_
          refine V_isub h 48 dX2_giveLentWater_47 rfl ?_
          refine V_istore h 50 [(7, .int ((lentE (D (o + 17)) (nI t) en i) - (D (o + 17) (i * 4 + 2)))), (0, .ref o), (1, .ref (o + 6 + t)), (2, .int en), (3, .int fb), (4, .int fl), (5, .int (lentE (D (o + 17)) (nI t) en i)), (6, .int (nI i))] (by decide) rfl dX2_giveLentWater_48 rfl ?_
          refine V_aload_n h 51 1 rfl dX2_giveLentWater_50 rfl ?_
          refine g_X2_21 h 54 (b := o + 2) (L_s0 hL) (L_p1 hL) dX2_giveLentWater_51 rfl ?_
          refine V_aload_n h 55 1 rfl dX2_giveLentWater_54 rfl ?_
          refine g_X2_28 h 58 (b := o + 16) (L_s0 hL) (L_p2 hL) dX2_giveLentWater_55 rfl ?_
          refine V_iload h 60 7 rfl dX2_giveLentWater_58 rfl ?_
          refine V_iconst h 61 (v := 1) (by decide) dX2_giveLentWater_60 rfl ?_
          refine CVI h 64 (As := [.int (nI i), .int 1]) (c_dget (L_s16 hL) (L_p16 hL) (L_s17 hL) (j := i * 4 + 1) (dealIx i 1) (by omega)) rfl (L_s16 hL) qL_X2_121 qI_X1_get qS_X1_get qZ_X1 qC_X1_get hd_X1_get ⟨Nat.le_of_ble_eq_true rfl, Nat.le_of_ble_eq_true rfl⟩ (Nat.le_of_ble_eq_true rfl) rfl rfl dX2_giveLentWater_61 (Nat.zero_le _) (Nat.zero_le _) (fun r4 D4 hq4 => ?_)
          rw [hq4.1, hq4.2]
          refine V_top (y := D (o + 17) (i * 4 + 1)) (by rw [lentD_row (by omega) (fun k hk => (hd.2 k (by omega)).2.1)]) ?_
          refine V_top (y := nI (toN (D (o + 17) (i * 4 + 1)))) (hd.2 i hlt).2.2 ?_
          refine CVR h 67 (As := [.int (nI (toN (D (o + 17) (i * 4 + 1))))]) (c_numb hL (i := (toN (D (o + 17) (i * 4 + 1)))) (hd.2 i hlt).2.1) rfl (L_s2 hL) qL_X2_128 qI_X4_numbered qS_X4_numbered qZ_X4 qC_X4_numbered hd_X4_numbered ⟨Nat.le_of_ble_eq_true rfl, Nat.le_of_ble_eq_true rfl⟩ (Nat.le_of_ble_eq_true rfl) rfl rfl dX2_giveLentWater_64 (Nat.zero_le _) (Nat.zero_le _) (fun r5 D5 hq5 => ?_)
          rw [hq5.1, hq5.2]
          refine V_astore h 69 [(8, .ref (o + 6 + (toN (D (o + 17) (i * 4 + 1))))), (7, .int ((lentE (D (o + 17)) (nI t) en i) - (D (o + 17) (i * 4 + 2)))), (0, .ref o), (1, .ref (o + 6 + t)), (2, .int en), (3, .int fb), (4, .int fl), (5, .int (lentE (D (o + 17)) (nI t) en i)), (6, .int (nI i))] (by decide) rfl dX2_giveLentWater_67 rfl ?_
          refine V_aload h 71 0 rfl dX2_giveLentWater_69 rfl ?_
          refine V_dup h 72 rfl dX2_giveLentWater_71 rfl ?_
          refine gN_X2_104 h 75 (L_sw hL (hd.2 i hlt).2.1) dX2_giveLentWater_72 rfl ?_
          refine V_iload h 77 1 rfl dX2_giveLentWater_75 rfl ?_
          refine V_iload h 79 7 rfl dX2_giveLentWater_77 rfl ?_
          refine V_iload_n h 80 5 rfl dX2_giveLentWater_79 rfl ?_
          refine CSI h 83 (As := [.int ((lentE (D (o + 17)) (nI t) en i) - (D (o + 17) (i * 4 + 2))), .int (lentE (D (o + 17)) (nI t) en i), .int fb]) (c_bowlsOfDay ((lentE (D (o + 17)) (nI t) en i) - (D (o + 17) (i * 4 + 2))) (lentE (D (o + 17)) (nI t) en i) fb) qL_X2_107 qT_X2_bowlsOfDay qZ_X2 qC_X2_bowlsOfDay hd_X2_bowlsOfDay ⟨Nat.le_of_ble_eq_true rfl, Nat.le_of_ble_eq_true rfl⟩ (Nat.le_of_ble_eq_true rfl) rfl rfl dX2_giveLentWater_80 (Nat.zero_le _) (Nat.zero_le _) (fun r6 D6 hq6 => ?_)
          rw [hq6.1, hq6.2]
          refine V_iload h 85 6 rfl dX2_giveLentWater_83 rfl ?_
          refine V_imul h 86 dX2_giveLentWater_85 rfl ?_
          refine V_iadd h 87 dX2_giveLentWater_86 rfl ?_
          refine pN_X2_104 h 90 (L_sw hL (hd.2 i hlt).2.1) dX2_giveLentWater_87 rfl ?_
          obtain ⟨D7, eD7⟩ : ∃ zz, zz = upd2 (lentD o (D (o + 17)) (nI t) en fb fl D i) (o + 6 + (toN (D (o + 17) (i * 4 + 1)))) 11 (((lentD o (D (o + 17)) (nI t) en fb fl D i) (o + 6 + (toN (D (o + 17) (i * 4 + 1)))) 11) + ((bodF ((lentE (D (o + 17)) (nI t) en i) - (D (o + 17) (i * 4 + 2))) (lentE (D (o + 17)) (nI t) en i) fb) * fl)) := ⟨_, rfl⟩
          rw [← eD7]
          refine V_iload h 92 1 rfl dX2_giveLentWater_90 rfl ?_
          refine V_istore h 94 [(5, .int ((lentE (D (o + 17)) (nI t) en i) - (D (o + 17) (i * 4 + 2)))), (8, .ref (o + 6 + (toN (D (o + 17) (i * 4 + 1))))), (7, .int ((lentE (D (o + 17)) (nI t) en i) - (D (o + 17) (i * 4 + 2)))), (0, .ref o), (1, .ref (o + 6 + t)), (2, .int en), (3, .int fb), (4, .int fl), (6, .int (nI i))] (by decide) rfl dX2_giveLentWater_92 rfl ?_
          refine V_iinc h 97 [(6, .int ((nI i) + 1)), (5, .int ((lentE (D (o + 17)) (nI t) en i) - (D (o + 17) (i * 4 + 2)))), (8, .ref (o + 6 + (toN (D (o + 17) (i * 4 + 1))))), (7, .int ((lentE (D (o + 17)) (nI t) en i) - (D (o + 17) (i * 4 + 2)))), (0, .ref o), (1, .ref (o + 6 + t)), (2, .int en), (3, .int fb), (4, .int fl)] 8 rfl (by rfl) (by decide) rfl dX2_giveLentWater_94 rfl ?_
          refine V_goto h 6 dX2_giveLentWater_97 (by decide) ?_
          refine V_lsub [(0, .ref o), (1, .ref (o + 6 + t)), (2, .int en), (3, .int fb), (4, .int fl), (5, .int ((lentE (D (o + 17)) (nI t) en i) - (D (o + 17) (i * 4 + 2)))), (6, .int ((nI i) + 1))] [4, 5, 6, 7, 8, 1, 0] rfl ?_
          rw [show D7 = lentD o (D (o + 17)) (nI t) en fb fl D (i + 1) from by rw [eD7]; exact (if_pos c32).symm]
          exact ih (i + 1) _ _ (by omega) (if_pos c32).symm (nI_1 i) (by omega)
  refine V_lsub [(0, .ref o), (1, .ref (o + 6 + t)), (2, .int en), (3, .int fb), (4, .int fl), (5, .int en), (6, .int 0)] [2, 3, 4, 5, 6, 1, 0] rfl ?_
  exact LP6 _ 0 _ _ (Nat.zero_le _) rfl rfl (Nat.lt_succ_self _)

def gwS (o : Nat) (f : Nat → Int32) (m : Nat) (fb fl : Int32) (t : Nat) (s b : Int32) (D : mDt) : mDt := upd2 (lentD o f (nI t) (s + b) fb fl D m) (o + 6 + t) 11 (lentD o f (nI t) (s + b) fb fl D m (o + 6 + t) 11 + bodF s (lentE f (nI t) (s + b) m) fb * fl)
/-- the water of the first k places -/
def gwD (o : Nat) (ρ : Nat → Nat) (f : Nat → Int32) (m : Nat) (fb fl : Int32) (F : Nat → Int32) (D : mDt) : Nat → mDt
  | 0 => D
  | k + 1 => gwS o f m fb fl (ρ k) (rsum F k) (F k) (gwD o ρ f m fb fl F D k)
theorem gwD_11 {o : Nat} {ρ : Nat → Nat} {f : Nat → Int32} {m : Nat} {fb fl : Int32} {F : Nat → Int32} {D : mDt} {k a j : Nat} (hj : j ≠ 11) : gwD o ρ f m fb fl F D k a j = D a j := by
  induction k with
  | zero => rfl
  | succ k ih =>
    rw [gwD, gwS, upd2_nk hj, lentD_11 hj]; exact ih
theorem gwD_row {o : Nat} {ρ : Nat → Nat} {f : Nat → Int32} {m : Nat} {fb fl : Int32} {F : Nat → Int32} {D : mDt} {k a : Nat} (h : a < o + 6 ∨ o + 16 ≤ a) (hρ : ∀ p, p < k → ρ p < 10) (hd : dOk f m) : gwD o ρ f m fb fl F D k a = D a := by
  induction k with
  | zero => rfl
  | succ k ih =>
    have := hρ k (Nat.lt_succ_self k)
    rw [gwD, gwS, upd2_ra (by omega), lentD_row h (fun i hi => (hd.2 i hi).2.1)]
    exact ih (fun p hp => hρ p (by omega))
def wtrB (o : Nat) (ρ : Nat → Nat) (L m : Nat) (D : mDt) : mDt := upd2 (gwD o ρ (D (o + 17)) m (rm7 (D o 4) * 720) (chFlow (D (o + 1))) (fun p => D (o + 6 + ρ p) 2) D L) o 5 (D o 5 + bodF (rsum (fun p => D (o + 6 + ρ p) 2) L) 5040 (rm7 (D o 4) * 720) * chFlow (D (o + 1)))
def tkM (o a : Nat) (pl : Int32) (D : mDt) : mDt := setRow (upd2 D o 6 (D o 6 + D a 11)) a (takeX pl ((upd2 D o 6 (D o 6 + D a 11)) a))
def tkS (o a : Nat) (pl : Int32) (D : mDt) : mDt := upd2 (tkM o a pl D) o 6 (tkM o a pl D o 6 - tkM o a pl D a 12)
def tkD (o : Nat) (ρ : Nat → Nat) (D : mDt) : Nat → mDt
  | 0 => D
  | k + 1 => tkS o (o + 6 + ρ k) (nI k) (tkD o ρ D k)
theorem tkD_row {o : Nat} {ρ : Nat → Nat} {D : mDt} {k a : Nat} (h : (a < o ∨ o < a) ∧ (a < o + 6 ∨ o + 16 ≤ a)) (hρ : ∀ p, p < k → ρ p < 10) : tkD o ρ D k a = D a := by
  induction k with
  | zero => rfl
  | succ k ih =>
    have := hρ k (Nat.lt_succ_self k)
    rw [tkD, tkS, upd2_ra (by omega), tkM, setRow_ne (by omega), upd2_ra (by omega)]
    exact ih (fun p hp => hρ p (by omega))
theorem tkD_0 {o : Nat} {ρ : Nat → Nat} {D : mDt} {k a j : Nat} (h : j < 11) (ha : o < a) : tkD o ρ D k a j = D a j := by
  induction k with
  | zero => rfl
  | succ k ih =>
    rw [tkD, tkS, upd2_na (by omega), tkM]
    by_cases e : a = o + 6 + ρ k
    · subst e
      rw [setRow_eq]
      simp only [takeX, upd]
      rw [if_neg (by omega), if_neg (by omega), if_neg (by omega), upd2_na (by omega)]
      exact ih
    · rw [setRow_ne e, upd2_na (by omega)]
      exact ih
def wtrD (o : Nat) (ρ : Nat → Nat) (L m : Nat) (D : mDt) : mDt := tkD o ρ (wtrB o ρ L m D) L
def wtrR (o : Nat) (ρ : Nat → Nat) (L m : Nat) (D : mDt) : Int32 := rsum (fun p => tkD o ρ (wtrB o ρ L m D) (p + 1) (o + 6 + ρ p) 12) L
theorem wtrB_row {o : Nat} {ρ : Nat → Nat} {L m : Nat} {D : mDt} {a : Nat} (h : (a < o ∨ o < a) ∧ (a < o + 6 ∨ o + 16 ≤ a)) (hρ : ∀ p, p < L → ρ p < 10) (hd : dOk (D (o + 17)) m) : wtrB o ρ L m D a = D a := by
  rw [wtrB, upd2_ra (by omega), gwD_row h.2 hρ hd]
theorem wtrB_11 {o : Nat} {ρ : Nat → Nat} {L m : Nat} {D : mDt} {a j : Nat} (h : a < o ∨ o < a) (hj : j ≠ 11) : wtrB o ρ L m D a j = D a j := by
  rw [wtrB, upd2_na (by omega), gwD_11 hj]

set_option maxRecDepth 100000 in
set_option maxHeartbeats 4000000 in
theorem c_giveWater {κ : mKp} {n : Nat} {sh : mSh} {P : mPt} {D : mDt} {E : mEt} {o : Nat} (hL : mLay o sh P) {L : Nat} {ρ : Nat → Nat} (hp : pOk o L ρ D) {m : Nat} (hnum : ∀ i, i < 10 → D (o + 6 + i) 0 = nI i) (hm : D (o + 16) 1 = nI m) (hd : dOk (D (o + 17)) m) : mFnI κ yX2_giveWater cX2_giveWater 8 (Option.some Jvm.ClassFile.FieldType.int) 3 73 [.ref o] n sh P D E (fun r D' => D' = wtrD o ρ L m D ∧ r = wtrR o ρ L m D) := by
  refine mMet_of (by decide) (Nat.le_of_ble_eq_true rfl) ?_
  intro Γ Q hQ h hin
  have h : mOk Γ κ RX2 cX2_giveWater 8 (Option.some Jvm.ClassFile.FieldType.int) { frames := 3, cells := 0, slots := 0, locals := 73 } := h
  have hL10 := hp.2.1
  show mV Γ Q 0 0 n sh P D E [(0, .ref o)] [] 0
  refine V_aload_n h 1 0 rfl dX2_giveWater_0 rfl ?_
  refine g_X2_12 h 4 (b := o + 1) (L_s0 hL) (L_p0 hL) dX2_giveWater_1 rfl ?_
  refine CVI h 7 (As := []) (c_flow (L_s1 hL)) rfl (L_s1 hL) qL_X2_85 qI_X0_flow qS_X0_flow qZ_X0 qC_X0_flow hd_X0_flow ⟨Nat.le_of_ble_eq_true rfl, Nat.le_of_ble_eq_true rfl⟩ (Nat.le_of_ble_eq_true rfl) rfl rfl dX2_giveWater_4 (Nat.zero_le _) (Nat.zero_le _) (fun r1 D1 hq1 => ?_)
  rw [hq1.1, hq1.2]
  refine V_topi (fun fl efl => ?_)
  refine V_istore_n h 8 [(1, .int fl), (0, .ref o)] (by decide) rfl dX2_giveWater_7 rfl ?_
  refine V_aload_n h 9 1 rfl dX2_giveWater_8 rfl ?_
  refine g_X2_45 h 12 (L_s0 hL) dX2_giveWater_9 rfl ?_
  refine V_bipush h 14 (v := 7) (by decide) dX2_giveWater_12 rfl ?_
  refine V_irem h 15 (by decide) dX2_giveWater_14 rfl ?_
  refine V_sipush h 18 (v := 720) (by decide) dX2_giveWater_15 rfl ?_
  refine V_imul h 19 dX2_giveWater_18 rfl ?_
  refine V_topi (fun fb efb => ?_)
  refine V_istore_n h 20 [(2, .int fb), (1, .int fl), (0, .ref o)] (by decide) rfl dX2_giveWater_19 rfl ?_
  refine V_iconst h 21 (v := 0) (by decide) dX2_giveWater_20 rfl ?_
  refine V_istore_n h 22 [(3, .int 0), (2, .int fb), (1, .int fl), (0, .ref o)] (by decide) rfl dX2_giveWater_21 rfl ?_
  refine V_iconst h 23 (v := 0) (by decide) dX2_giveWater_22 rfl ?_
  refine V_istore h 25 [(4, .int 0), (3, .int 0), (2, .int fb), (1, .int fl), (0, .ref o)] (by decide) rfl dX2_giveWater_23 rfl ?_
  have LP25 : ∀ (kk : Nat) (i : Nat) (x3 x4 : Int32), (i ≤ L) → (x3 = rsum (fun p => D (o + 6 + ρ p) 2) i) → (x4 = nI i) → L - i < kk → mV Γ Q 0 0 n sh P (gwD o ρ (D (o + 17)) m fb fl (fun p => D (o + 6 + ρ p) 2) D i) E [(0, .ref o), (1, .int fl), (2, .int fb), (3, .int x3), (4, .int x4)] [] 25 := by
    intro kk
    induction kk with
    | zero =>
      intro i x3 x4 _ _ _ hms
      exact absurd hms (Nat.not_lt_zero _)
    | succ kk ih =>
      intro i x3 x4 hi e3 e4 hms
      subst e3 e4
      refine V_iload h 27 4 rfl dX2_giveWater_25 rfl ?_
      refine V_aload_n h 28 0 rfl dX2_giveWater_27 rfl ?_
      refine g_X2_21 h 31 (b := o + 2) (L_s0 hL) (L_p1 hL) dX2_giveWater_28 rfl ?_
      refine CVI h 34 (As := []) (c_countLiving hL) rfl (L_s2 hL) qL_X2_88 qI_X4_countLiving qS_X4_countLiving qZ_X4 qC_X4_countLiving hd_X4_countLiving ⟨Nat.le_of_ble_eq_true rfl, Nat.le_of_ble_eq_true rfl⟩ (Nat.le_of_ble_eq_true rfl) rfl rfl dX2_giveWater_31 (Nat.zero_le _) (Nat.zero_le _) (fun r2 D2 hq2 => ?_)
      rw [hq2.1, hq2.2]
      refine V_top (y := nI L) (by rw [gwD_row (by omega) (fun p hp1 => (hp.2.2 p (by omega)).1) hd]; exact hp.1) ?_
      refine V_icmp_ge h 97 37 dX2_giveWater_34 (by decide) rfl (fun c34 => ?_) (fun c34 => ?_)
      · skip
        have hex : L = i := by have := mGe c34 (by omega) (by omega); omega
        subst hex
        refine V_aload_n h 98 0 rfl dX2_giveWater_97 rfl ?_
        refine V_dup h 99 rfl dX2_giveWater_98 rfl ?_
        refine g_X2_49 h 102 (L_s0 hL) dX2_giveWater_99 rfl ?_
        refine V_top (y := D o 5) (by rw [gwD_row (by omega) (fun p hp1 => (hp.2.2 p (by omega)).1) hd]) ?_
        refine V_iload_n h 103 3 rfl dX2_giveWater_102 rfl ?_
        refine V_sipush h 106 (v := 5040) (by decide) dX2_giveWater_103 rfl ?_
        refine V_iload_n h 107 2 rfl dX2_giveWater_106 rfl ?_
        refine CSI h 110 (As := [.int (rsum (fun p => D (o + 6 + ρ p) 2) L), .int 5040, .int fb]) (c_bowlsOfDay (rsum (fun p => D (o + 6 + ρ p) 2) L) 5040 fb) qL_X2_107 qT_X2_bowlsOfDay qZ_X2 qC_X2_bowlsOfDay hd_X2_bowlsOfDay ⟨Nat.le_of_ble_eq_true rfl, Nat.le_of_ble_eq_true rfl⟩ (Nat.le_of_ble_eq_true rfl) rfl rfl dX2_giveWater_107 (Nat.zero_le _) (Nat.zero_le _) (fun r3 D3 hq3 => ?_)
        rw [hq3.1, hq3.2]
        refine V_iload_n h 111 1 rfl dX2_giveWater_110 rfl ?_
        refine V_imul h 112 dX2_giveWater_111 rfl ?_
        refine V_iadd h 113 dX2_giveWater_112 rfl ?_
        refine p_X2_49 h 116 (L_s0 hL) dX2_giveWater_113 rfl ?_
        obtain ⟨D4, eD4⟩ : ∃ zz, zz = upd2 (gwD o ρ (D (o + 17)) m fb fl (fun p => D (o + 6 + ρ p) 2) D L) o 5 ((D o 5) + ((bodF (rsum (fun p => D (o + 6 + ρ p) 2) L) 5040 fb) * fl)) := ⟨_, rfl⟩
        rw [← eD4]
        obtain ⟨B, eB⟩ : ∃ zz, zz = wtrB o ρ L m D := ⟨_, rfl⟩
        have hpB : pOk o L ρ B := by rw [eB]; exact pOk_of (wtrB_row (by omega) (fun p hp1 => (hp.2.2 p hp1).1) hd) (wtrB_row (by omega) (fun p hp1 => (hp.2.2 p hp1).1) hd) hp
        rw [show D4 = B from by rw [eB, eD4, efb, efl]; rfl]
        refine V_iconst h 117 (v := 0) (by decide) dX2_giveWater_116 rfl ?_
        refine V_istore h 119 [(4, .int 0), (0, .ref o), (1, .int fl), (2, .int fb), (3, .int (rsum (fun p => D (o + 6 + ρ p) 2) L))] (by decide) rfl dX2_giveWater_117 rfl ?_
        refine V_iconst h 120 (v := 0) (by decide) dX2_giveWater_119 rfl ?_
        refine V_istore h 122 [(5, .int 0), (4, .int 0), (0, .ref o), (1, .int fl), (2, .int fb), (3, .int (rsum (fun p => D (o + 6 + ρ p) 2) L))] (by decide) rfl dX2_giveWater_120 rfl ?_
        have LP122 : ∀ (kk : Nat) (i : Nat) (x4 x5 : Int32), (i ≤ L) → (x4 = rsum (fun p => tkD o ρ B (p + 1) (o + 6 + ρ p) 12) i) → (x5 = nI i) → L - i < kk → mV Γ Q 0 0 n sh P (tkD o ρ B i) E [(0, .ref o), (4, .int x4), (5, .int x5)] [] 122 := by
          intro kk
          induction kk with
          | zero =>
            intro i x4 x5 _ _ _ hms
            exact absurd hms (Nat.not_lt_zero _)
          | succ kk ih =>
            intro i x4 x5 hi e4 e5 hms
            subst e4 e5
            refine V_iload h 124 2 rfl dX2_giveWater_122 rfl ?_
            refine V_aload_n h 125 0 rfl dX2_giveWater_124 rfl ?_
            refine g_X2_21 h 128 (b := o + 2) (L_s0 hL) (L_p1 hL) dX2_giveWater_125 rfl ?_
            refine CVI h 131 (As := []) (c_countLiving hL) rfl (L_s2 hL) qL_X2_88 qI_X4_countLiving qS_X4_countLiving qZ_X4 qC_X4_countLiving hd_X4_countLiving ⟨Nat.le_of_ble_eq_true rfl, Nat.le_of_ble_eq_true rfl⟩ (Nat.le_of_ble_eq_true rfl) rfl rfl dX2_giveWater_128 (Nat.zero_le _) (Nat.zero_le _) (fun r5 D5 hq5 => ?_)
            rw [hq5.1, hq5.2]
            refine V_top (y := nI L) (by rw [tkD_row (by omega) (fun p hp1 => (hp.2.2 p (by omega)).1)]; exact hpB.1) ?_
            refine V_icmp_ge h 196 134 dX2_giveWater_131 (by decide) rfl (fun c131 => ?_) (fun c131 => ?_)
            · skip
              have hex : i = L := by have := mGe c131 (by omega) (by omega); omega
              refine V_iload h 198 1 rfl dX2_giveWater_196 rfl ?_
              exact V_iret h rfl hQ (Nat.zero_le _) (Nat.zero_le _) ⟨rfl, rfl, rfl, rfl, _, rfl, ⟨by rw [hex, eB]; rfl, by rw [hex, eB]; rfl⟩⟩ dX2_giveWater_198
            · skip
              have hlt := mLt c131 (by omega)
              refine V_aload_n h 135 0 rfl dX2_giveWater_134 rfl ?_
              refine g_X2_21 h 138 (b := o + 2) (L_s0 hL) (L_p1 hL) dX2_giveWater_135 rfl ?_
              refine V_iload h 140 2 rfl dX2_giveWater_138 rfl ?_
              refine CVR h 143 (As := [.int (nI i)]) (c_standing hL (pOk_of (D := B) (tkD_row (by omega) (fun p hp1 => (hp.2.2 p (by omega)).1)) (tkD_row (by omega) (fun p hp1 => (hp.2.2 p (by omega)).1)) hpB) (q := i) hlt) rfl (L_s2 hL) qL_X2_91 qI_X4_standing qS_X4_standing qZ_X4 qC_X4_standing hd_X4_standing ⟨Nat.le_of_ble_eq_true rfl, Nat.le_of_ble_eq_true rfl⟩ (Nat.le_of_ble_eq_true rfl) rfl rfl dX2_giveWater_140 (Nat.zero_le _) (Nat.zero_le _) (fun r6 D6 hq6 => ?_)
              rw [hq6.1, hq6.2]
              refine V_astore h 145 [(6, .ref (o + 6 + ρ i)), (0, .ref o), (4, .int (rsum (fun p => tkD o ρ B (p + 1) (o + 6 + ρ p) 12) i)), (5, .int (nI i))] (by decide) rfl dX2_giveWater_143 rfl ?_
              refine V_aload_n h 146 1 rfl dX2_giveWater_145 rfl ?_
              refine V_dup h 147 rfl dX2_giveWater_146 rfl ?_
              refine g_X2_52 h 150 (L_s0 hL) dX2_giveWater_147 rfl ?_
              refine V_aload h 152 0 rfl dX2_giveWater_150 rfl ?_
              refine gN_X2_104 h 155 (L_sw hL (hp.2.2 i hlt).1) dX2_giveWater_152 rfl ?_
              refine V_iadd h 156 dX2_giveWater_155 rfl ?_
              refine p_X2_52 h 159 (L_s0 hL) dX2_giveWater_156 rfl ?_
              obtain ⟨D7, eD7⟩ : ∃ zz, zz = upd2 (tkD o ρ B i) o 6 (((tkD o ρ B i) o 6) + ((tkD o ρ B i) (o + 6 + ρ i) 11)) := ⟨_, rfl⟩
              rw [← eD7]
              refine V_aload h 161 0 rfl dX2_giveWater_159 rfl ?_
              refine V_iload h 163 3 rfl dX2_giveWater_161 rfl ?_
              refine CVV h 166 (As := [.int (nI i)]) (c_takeFlowing (L_sw hL (hp.2.2 i hlt).1) (nI i)) rfl (L_sw hL (hp.2.2 i hlt).1) qL_X2_111 qI_X3_takeFlowing qS_X3_takeFlowing qZ_X3 qC_X3_takeFlowing hd_X3_takeFlowing ⟨Nat.le_of_ble_eq_true rfl, Nat.le_of_ble_eq_true rfl⟩ (Nat.le_of_ble_eq_true rfl) rfl rfl dX2_giveWater_163 (Nat.zero_le _) (Nat.zero_le _) (fun D8 hq8 => ?_)
              rw [show D8 = (setRow D7 (o + 6 + ρ i) (takeX (nI i) (D7 (o + 6 + ρ i)))) from hq8]
              refine V_aload_n h 167 1 rfl dX2_giveWater_166 rfl ?_
              refine V_dup h 168 rfl dX2_giveWater_167 rfl ?_
              refine g_X2_52 h 171 (L_s0 hL) dX2_giveWater_168 rfl ?_
              refine V_aload h 173 0 rfl dX2_giveWater_171 rfl ?_
              refine gN_X2_115 h 176 (L_sw hL (hp.2.2 i hlt).1) dX2_giveWater_173 rfl ?_
              refine V_isub h 177 dX2_giveWater_176 rfl ?_
              refine p_X2_52 h 180 (L_s0 hL) dX2_giveWater_177 rfl ?_
              obtain ⟨D9, eD9⟩ : ∃ zz, zz = upd2 (setRow D7 (o + 6 + ρ i) (takeX (nI i) (D7 (o + 6 + ρ i)))) o 6 (((setRow D7 (o + 6 + ρ i) (takeX (nI i) (D7 (o + 6 + ρ i)))) o 6) - ((setRow D7 (o + 6 + ρ i) (takeX (nI i) (D7 (o + 6 + ρ i)))) (o + 6 + ρ i) 12)) := ⟨_, rfl⟩
              rw [← eD9]
              refine V_iload h 182 2 rfl dX2_giveWater_180 rfl ?_
              refine V_aload h 184 0 rfl dX2_giveWater_182 rfl ?_
              refine gN_X2_115 h 187 (L_sw hL (hp.2.2 i hlt).1) dX2_giveWater_184 rfl ?_
              refine V_top (y := (setRow D7 (o + 6 + ρ i) (takeX (nI i) (D7 (o + 6 + ρ i)))) (o + 6 + ρ i) 12) (by rw [eD9, upd2_nk (by decide)]) ?_
              refine V_iadd h 188 dX2_giveWater_187 rfl ?_
              refine V_istore h 190 [(4, .int ((rsum (fun p => tkD o ρ B (p + 1) (o + 6 + ρ p) 12) i) + ((setRow D7 (o + 6 + ρ i) (takeX (nI i) (D7 (o + 6 + ρ i)))) (o + 6 + ρ i) 12))), (6, .ref (o + 6 + ρ i)), (0, .ref o), (5, .int (nI i))] (by decide) rfl dX2_giveWater_188 rfl ?_
              refine V_iinc h 193 [(5, .int ((nI i) + 1)), (4, .int ((rsum (fun p => tkD o ρ B (p + 1) (o + 6 + ρ p) 12) i) + ((setRow D7 (o + 6 + ρ i) (takeX (nI i) (D7 (o + 6 + ρ i)))) (o + 6 + ρ i) 12))), (6, .ref (o + 6 + ρ i)), (0, .ref o)] 3 rfl (by rfl) (by decide) rfl dX2_giveWater_190 rfl ?_
              refine V_goto h 122 dX2_giveWater_193 (by decide) ?_
              refine V_lsub [(0, .ref o), (4, .int ((rsum (fun p => tkD o ρ B (p + 1) (o + 6 + ρ p) 12) i) + ((setRow D7 (o + 6 + ρ i) (takeX (nI i) (D7 (o + 6 + ρ i)))) (o + 6 + ρ i) 12))), (5, .int ((nI i) + 1))] [3, 1, 0] rfl ?_
              have hT : D9 = tkD o ρ B (i + 1) := by rw [eD9, eD7]; rfl
              rw [hT]
              exact ih (i + 1) _ _ (by omega) (by rw [show rsum (fun p => tkD o ρ B (p + 1) (o + 6 + ρ p) 12) (i + 1) = rsum (fun p => tkD o ρ B (p + 1) (o + 6 + ρ p) 12) i + tkD o ρ B (i + 1) (o + 6 + ρ i) 12 from rfl, ← hT, eD9, upd2_na (by omega)]) (nI_1 i) (by omega)
        refine V_lsub [(0, .ref o), (4, .int 0), (5, .int 0)] [2, 1, 0] rfl ?_
        exact LP122 _ 0 _ _ (Nat.zero_le _) rfl rfl (Nat.lt_succ_self _)
      · skip
        have hlt := mLt c34 (by omega)
        refine V_aload_n h 38 0 rfl dX2_giveWater_37 rfl ?_
        refine g_X2_21 h 41 (b := o + 2) (L_s0 hL) (L_p1 hL) dX2_giveWater_38 rfl ?_
        refine V_iload h 43 4 rfl dX2_giveWater_41 rfl ?_
        refine CVR h 46 (As := [.int (nI i)]) (c_standing hL (pOk_of (D := D) (gwD_row (by omega) (fun p hp1 => (hp.2.2 p (by omega)).1) hd) (gwD_row (by omega) (fun p hp1 => (hp.2.2 p (by omega)).1) hd) hp) (q := i) hlt) rfl (L_s2 hL) qL_X2_91 qI_X4_standing qS_X4_standing qZ_X4 qC_X4_standing hd_X4_standing ⟨Nat.le_of_ble_eq_true rfl, Nat.le_of_ble_eq_true rfl⟩ (Nat.le_of_ble_eq_true rfl) rfl rfl dX2_giveWater_43 (Nat.zero_le _) (Nat.zero_le _) (fun r10 D10 hq10 => ?_)
        rw [hq10.1, hq10.2]
        refine V_astore h 48 [(5, .ref (o + 6 + ρ i)), (0, .ref o), (1, .int fl), (2, .int fb), (3, .int (rsum (fun p => D (o + 6 + ρ p) 2) i)), (4, .int (nI i))] (by decide) rfl dX2_giveWater_46 rfl ?_
        refine V_iload_n h 49 4 rfl dX2_giveWater_48 rfl ?_
        refine V_aload h 51 0 rfl dX2_giveWater_49 rfl ?_
        refine gN_X2_95 h 54 (L_sw hL (hp.2.2 i hlt).1) dX2_giveWater_51 rfl ?_
        refine V_top (y := D (o + 6 + ρ i) 2) (gwD_11 (by decide)) ?_
        refine V_iadd h 55 dX2_giveWater_54 rfl ?_
        refine V_istore h 57 [(6, .int ((rsum (fun p => D (o + 6 + ρ p) 2) i) + (D (o + 6 + ρ i) 2))), (5, .ref (o + 6 + ρ i)), (0, .ref o), (1, .int fl), (2, .int fb), (3, .int (rsum (fun p => D (o + 6 + ρ p) 2) i)), (4, .int (nI i))] (by decide) rfl dX2_giveWater_55 rfl ?_
        refine V_aload_n h 58 2 rfl dX2_giveWater_57 rfl ?_
        refine V_aload h 60 1 rfl dX2_giveWater_58 rfl ?_
        refine V_iload h 62 0 rfl dX2_giveWater_60 rfl ?_
        refine V_iload_n h 63 4 rfl dX2_giveWater_62 rfl ?_
        refine V_iload_n h 64 3 rfl dX2_giveWater_63 rfl ?_
        refine CVI h 67 (As := [.ref (o + 6 + ρ i), .int ((rsum (fun p => D (o + 6 + ρ p) 2) i) + (D (o + 6 + ρ i) 2)), .int fb, .int fl]) (c_giveLent (D := (gwD o ρ (D (o + 17)) m fb fl (fun p => D (o + 6 + ρ p) 2) D i)) hL (t := ρ i) (m := m) (hp.2.2 i hlt).1 (by rw [gwD_11 (by decide)]; exact hnum _ (hp.2.2 i hlt).1) (by rw [gwD_row (by omega) (fun p hp1 => (hp.2.2 p (by omega)).1) hd]; exact hm) (by rw [gwD_row (by omega) (fun p hp1 => (hp.2.2 p (by omega)).1) hd]; exact hd) ((rsum (fun p => D (o + 6 + ρ p) 2) i) + (D (o + 6 + ρ i) 2)) fb fl) rfl (L_s0 hL) qL_X2_100 qI_X2_giveLentWater qS_X2_giveLentWater qZ_X2 qC_X2_giveLentWater hd_X2_giveLentWater ⟨Nat.le_of_ble_eq_true rfl, Nat.le_of_ble_eq_true rfl⟩ (Nat.le_of_ble_eq_true rfl) rfl rfl dX2_giveWater_64 (Nat.zero_le _) (Nat.zero_le _) (fun r11 D11 hq11 => ?_)
        rw [show (gwD o ρ (D (o + 17)) m fb fl (fun p => D (o + 6 + ρ p) 2) D i) (o + 17) = D (o + 17) from gwD_row (by omega) (fun p hp1 => (hp.2.2 p (by omega)).1) hd] at hq11
        rw [hq11.2, show D11 = (lentD o (D (o + 17)) (nI (ρ i)) ((rsum (fun p => D (o + 6 + ρ p) 2) i) + (D (o + 6 + ρ i) 2)) fb fl (gwD o ρ (D (o + 17)) m fb fl (fun p => D (o + 6 + ρ p) 2) D i) m) from hq11.1]
        refine V_istore h 69 [(7, .int (lentE (D (o + 17)) (nI (ρ i)) ((rsum (fun p => D (o + 6 + ρ p) 2) i) + (D (o + 6 + ρ i) 2)) m)), (6, .int ((rsum (fun p => D (o + 6 + ρ p) 2) i) + (D (o + 6 + ρ i) 2))), (5, .ref (o + 6 + ρ i)), (0, .ref o), (1, .int fl), (2, .int fb), (3, .int (rsum (fun p => D (o + 6 + ρ p) 2) i)), (4, .int (nI i))] (by decide) rfl dX2_giveWater_67 rfl ?_
        refine V_aload h 71 2 rfl dX2_giveWater_69 rfl ?_
        refine V_dup h 72 rfl dX2_giveWater_71 rfl ?_
        refine gN_X2_104 h 75 (L_sw hL (hp.2.2 i hlt).1) dX2_giveWater_72 rfl ?_
        refine V_iload_n h 76 6 rfl dX2_giveWater_75 rfl ?_
        refine V_iload h 78 0 rfl dX2_giveWater_76 rfl ?_
        refine V_iload_n h 79 5 rfl dX2_giveWater_78 rfl ?_
        refine CSI h 82 (As := [.int (rsum (fun p => D (o + 6 + ρ p) 2) i), .int (lentE (D (o + 17)) (nI (ρ i)) ((rsum (fun p => D (o + 6 + ρ p) 2) i) + (D (o + 6 + ρ i) 2)) m), .int fb]) (c_bowlsOfDay (rsum (fun p => D (o + 6 + ρ p) 2) i) (lentE (D (o + 17)) (nI (ρ i)) ((rsum (fun p => D (o + 6 + ρ p) 2) i) + (D (o + 6 + ρ i) 2)) m) fb) qL_X2_107 qT_X2_bowlsOfDay qZ_X2 qC_X2_bowlsOfDay hd_X2_bowlsOfDay ⟨Nat.le_of_ble_eq_true rfl, Nat.le_of_ble_eq_true rfl⟩ (Nat.le_of_ble_eq_true rfl) rfl rfl dX2_giveWater_79 (Nat.zero_le _) (Nat.zero_le _) (fun r12 D12 hq12 => ?_)
        rw [hq12.1, hq12.2]
        refine V_iload_n h 83 4 rfl dX2_giveWater_82 rfl ?_
        refine V_imul h 84 dX2_giveWater_83 rfl ?_
        refine V_iadd h 85 dX2_giveWater_84 rfl ?_
        refine pN_X2_104 h 88 (L_sw hL (hp.2.2 i hlt).1) dX2_giveWater_85 rfl ?_
        obtain ⟨D13, eD13⟩ : ∃ zz, zz = upd2 (lentD o (D (o + 17)) (nI (ρ i)) ((rsum (fun p => D (o + 6 + ρ p) 2) i) + (D (o + 6 + ρ i) 2)) fb fl (gwD o ρ (D (o + 17)) m fb fl (fun p => D (o + 6 + ρ p) 2) D i) m) (o + 6 + ρ i) 11 (((lentD o (D (o + 17)) (nI (ρ i)) ((rsum (fun p => D (o + 6 + ρ p) 2) i) + (D (o + 6 + ρ i) 2)) fb fl (gwD o ρ (D (o + 17)) m fb fl (fun p => D (o + 6 + ρ p) 2) D i) m) (o + 6 + ρ i) 11) + ((bodF (rsum (fun p => D (o + 6 + ρ p) 2) i) (lentE (D (o + 17)) (nI (ρ i)) ((rsum (fun p => D (o + 6 + ρ p) 2) i) + (D (o + 6 + ρ i) 2)) m) fb) * fl)) := ⟨_, rfl⟩
        rw [← eD13]
        refine V_iload h 90 1 rfl dX2_giveWater_88 rfl ?_
        refine V_istore_n h 91 [(3, .int ((rsum (fun p => D (o + 6 + ρ p) 2) i) + (D (o + 6 + ρ i) 2))), (7, .int (lentE (D (o + 17)) (nI (ρ i)) ((rsum (fun p => D (o + 6 + ρ p) 2) i) + (D (o + 6 + ρ i) 2)) m)), (6, .int ((rsum (fun p => D (o + 6 + ρ p) 2) i) + (D (o + 6 + ρ i) 2))), (5, .ref (o + 6 + ρ i)), (0, .ref o), (1, .int fl), (2, .int fb), (4, .int (nI i))] (by decide) rfl dX2_giveWater_90 rfl ?_
        refine V_iinc h 94 [(4, .int ((nI i) + 1)), (3, .int ((rsum (fun p => D (o + 6 + ρ p) 2) i) + (D (o + 6 + ρ i) 2))), (7, .int (lentE (D (o + 17)) (nI (ρ i)) ((rsum (fun p => D (o + 6 + ρ p) 2) i) + (D (o + 6 + ρ i) 2)) m)), (6, .int ((rsum (fun p => D (o + 6 + ρ p) 2) i) + (D (o + 6 + ρ i) 2))), (5, .ref (o + 6 + ρ i)), (0, .ref o), (1, .int fl), (2, .int fb)] 7 rfl (by rfl) (by decide) rfl dX2_giveWater_91 rfl ?_
        refine V_goto h 25 dX2_giveWater_94 (by decide) ?_
        refine V_lsub [(0, .ref o), (1, .int fl), (2, .int fb), (3, .int ((rsum (fun p => D (o + 6 + ρ p) 2) i) + (D (o + 6 + ρ i) 2))), (4, .int ((nI i) + 1))] [5, 6, 7, 1, 0] rfl ?_
        rw [show D13 = gwD o ρ (D (o + 17)) m fb fl (fun p => D (o + 6 + ρ p) 2) D (i + 1) from by rw [eD13]; rfl]
        exact ih (i + 1) _ _ (by omega) rfl (nI_1 i) (by omega)
  refine V_lsub [(0, .ref o), (1, .int fl), (2, .int fb), (3, .int 0), (4, .int 0)] [4, 3, 2, 1, 0] rfl ?_
  exact LP25 _ 0 _ _ (Nat.zero_le _) rfl rfl (Nat.lt_succ_self _)
