theorem nI_mul (a b : Nat) : nI a * nI b = nI (a * b) := (Int32.ofNat_mul a b).symm
theorem nI_sub {a b : Nat} (h : b ≤ a) : nI a - nI b = nI (a - b) := by
  have e : nI a = nI (a - b) + nI b := by rw [nI_add, Nat.sub_add_cancel h]
  rw [e, Int32.add_sub_cancel]
theorem nI_div {a b : Nat} (ha : a < 2 ^ 31) (hb : b < 2 ^ 31) : nI a / nI b = nI (a / b) := by
  have hd : a / b < 2 ^ 31 := Nat.lt_of_le_of_lt (Nat.div_le_self a b) ha
  apply Int32.toInt_inj.mp
  rw [Int32.toInt_div_of_ne_left _ _ ?_, nI_toInt ha, nI_toInt hb, nI_toInt hd]
  · rfl
  · intro q
    have := congrArg Int32.toInt q
    rw [nI_toInt ha] at this
    have h2 : Int32.minValue.toInt = -2147483648 := rfl
    omega
theorem rm_nI {a b : Nat} (ha : a < 2 ^ 31) (hb : b < 2 ^ 31) : nI a - nI a / nI b * nI b = nI (a % b) := by
  rw [nI_div ha hb, nI_mul, nI_sub (Nat.div_mul_le_self a b)]
  congr 1
  have := Nat.div_add_mod a b
  rw [Nat.mul_comm] at this
  omega
theorem rm70_nI {a : Nat} (ha : a < 2 ^ 31) : rm70 (nI a) = nI (a % 70) := rm_nI (b := 70) ha (by decide)
theorem rm7_nI {a : Nat} (ha : a < 2 ^ 31) : rm7 (nI a) = nI (a % 7) := rm_nI (b := 7) ha (by decide)
theorem rm10_nI {a : Nat} (ha : a < 2 ^ 31) : rm10 (nI a) = nI (a % 10) := rm_nI (b := 10) ha (by decide)
/-- how many days are left to the next harvest -/
def harvN (dd : Nat) : Nat := if 60 ≤ dd % 70 then 130 - dd % 70 else 60 - dd % 70
theorem harvN_le (dd : Nat) : 1 ≤ harvN dd ∧ harvN dd ≤ 70 := by unfold harvN; split <;> omega
theorem harv_nI {dd : Nat} (h : dd < 2 ^ 31) : harvIn (nI dd) = nI (harvN dd) := by
  rw [harvIn, rm70_nI h, harvN]
  have h70 : dd % 70 < 70 := Nat.mod_lt _ (by decide)
  by_cases c : 60 ≤ dd % 70
  · rw [if_pos c]
    rcases Nat.lt_or_ge 60 (dd % 70) with q | q
    · rw [if_pos (show (60 : Int32) - nI (dd % 70) ≤ 0 from ?_)]
      · have e : nI (130 - dd % 70) + nI (dd % 70) = 130 := by rw [nI_add, Nat.sub_add_cancel (by omega)]; rfl
        have e2 : (60 : Int32) - nI (dd % 70) + 70 = 130 - nI (dd % 70) := by rw [Int32.sub_eq_add_neg, Int32.add_assoc, Int32.add_comm (-_), ← Int32.add_assoc, ← Int32.sub_eq_add_neg]; rfl
        rw [e2, ← e, Int32.add_sub_cancel]
      · have e : (60 : Int32) - nI (dd % 70) = -nI (dd % 70 - 60) := by
          rw [← nI_sub (show 60 ≤ dd % 70 from c), Int32.neg_sub]; rfl
        rw [e]
        have : ∀ z, z < 10 → -nI z ≤ 0 := by decide
        exact this _ (by omega)
    · have e : dd % 70 = 60 := by omega
      rw [e]; decide
  · rw [if_neg c, show (60 : Int32) = nI 60 from rfl, nI_sub (by omega), if_neg (nI_nle (by omega) (by omega))]
theorem like_cW {o o2 L : Nat} {ρ : Nat → Nat} {m k : Nat} {D D' : mDt} (h : likeOk o2 o L ρ m k D D') (hW : cW o L ρ m k D) (hn : ∀ i, i < 10 → D (o2 + 6 + i) 0 = nI i) : cW o2 L ρ m k D' := by
  obtain ⟨h1, h2, h3, h4, h5, h6, h7, h8, h9, h10, h11⟩ := h
  refine ⟨⟨h2, hW.1.2.1, fun p hp => ⟨(hW.1.2.2 p hp).1, h4 p hp⟩⟩, fun i hi => ?_, h6, ?_, h8, ?_⟩
  · rw [h5 i hi]
    have : ∀ y x : Nat → Int32, likeX y x 0 = x 0 := fun y x => by simp [likeX, upd]
    rw [this]; exact hn i hi
  · refine ⟨hW.2.2.2.1.1, fun i hi => ?_⟩
    have := hW.2.2.2.1.2 i hi
    rw [← h7 (i * 4 + 0) (by omega), ← h7 (i * 4 + 1) (by omega)] at this
    exact this
  · refine ⟨hW.2.2.2.2.2.1, fun i hi => ?_⟩
    have := hW.2.2.2.2.2.2 i hi
    rw [← h9 (i * 4 + 0) (by omega), ← h9 (i * 4 + 1) (by omega)] at this
    exact this
theorem day_out {o L : Nat} {ρ : Nat → Nat} {x : Int32} {q : mDt × Nat × Nat} (h : cW o L ρ q.2.1 q.2.2 q.1) {a : Nat} (ha : a < o ∨ o + 20 ≤ a) : (dayD o ρ L x q).1 a = q.1 a := by
  have hA := cW_dayA (x := x) h
  have hB := cW_dayB (x := x) h
  have hρ : ∀ p, p < L → ρ p < 10 := fun p hp => (h.1.2.2 p hp).1
  have e1 : dayA o x q.1 a = q.1 a := by rw [dayA, chDayD_ra (by omega), upd2_ra (by omega)]
  have e2 : dayB o ρ L x q.2.1 q.1 a = q.1 a := by rw [dayB, mapD_row (by omega) hρ, wtrD_row (by omega) hρ hA.2.2.2.1, e1]
  have e3 : (dayC o ρ L q.2.2 (dayB o ρ L x q.2.1 q.1)).1 a = q.1 a := by
    unfold dayC
    split
    · show dayH o ρ L q.2.2 (dayB o ρ L x q.2.1 q.1) a = q.1 a
      have hR := cW_dayR hB
      rw [dayH, upd2_ra (by omega), dsD_row (m := q.2.2) (by omega) hR.2.2.2.2.2 (Nat.le_refl _), dayR, upd2_ra (by omega), mapD_row (by omega) hρ, e2]
    · exact e2
  show (dayE o q.2.1 (dayC o ρ L q.2.2 (dayB o ρ L x q.2.1 q.1)).1).1 a = q.1 a
  unfold dayE
  split
  · show shortD o q.2.1 (dayC o ρ L q.2.2 (dayB o ρ L x q.2.1 q.1)).1 a = q.1 a
    rw [shortD, upd2_ra (by omega), setRow_ne (by omega), e3]
  · exact e3
theorem days_out {o L : Nat} {ρ : Nat → Nat} {x : Int32} {q : mDt × Nat × Nat} (h : cW o L ρ q.2.1 q.2.2 q.1) {a : Nat} (ha : a < o ∨ o + 20 ≤ a) (n : Nat) : (daysD o ρ L x q n).1 a = q.1 a := by
  induction n with
  | zero => rfl
  | succ n ih =>
    show (dayD o ρ L x (daysD o ρ L x q n)).1 a = q.1 a
    rw [day_out (cW_days h n) ha, ih]
/-- a block that is made like another and then goes d days on -/
def wouldD (o o2 L : Nat) (ρ : Nat → Nat) (m k : Nat) (x : Int32) (d : Nat) (D D' : mDt) : Prop := ∃ D1, likeOk o2 o L ρ m k D D1 ∧ D' = (daysD o2 ρ L x (D1, m, k) d).1
theorem would_out {o o2 L : Nat} {ρ : Nat → Nat} {m k : Nat} {x : Int32} {d : Nat} {D D' : mDt} (h : wouldD o o2 L ρ m k x d D D') (hW : cW o L ρ m k D) (hn : ∀ i, i < 10 → D (o2 + 6 + i) 0 = nI i) {a : Nat} (ha : a < o2 ∨ o2 + 20 ≤ a) : D' a = D a := by
  obtain ⟨D1, h1, rfl⟩ := h
  rw [days_out (q := (D1, m, k)) (like_cW h1 hW hn) ha]
  exact h1.2.2.2.2.2.2.2.2.2.2 a ha
theorem would_cW {o o2 L : Nat} {ρ : Nat → Nat} {m k : Nat} {x : Int32} {d : Nat} {D D' : mDt} (h : wouldD o o2 L ρ m k x d D D') (hW : cW o L ρ m k D) (hn : ∀ i, i < 10 → D (o2 + 6 + i) 0 = nI i) : ∀ i, i < 10 → D' (o2 + 6 + i) 0 = nI i := by
  obtain ⟨D1, h1, rfl⟩ := h
  exact (cW_days (q := (D1, m, k)) (like_cW h1 hW hn) d).2.1

set_option maxRecDepth 100000 in
set_option maxHeartbeats 4000000 in
theorem c_imLater {κ : mKp} {n : Nat} {sh : mSh} {P : mPt} {D : mDt} {E : mEt} {b o o2 o3 : Nat} (hB : bLay b o o2 o3 sh P) {L e m k : Nat} {ρ : Nat → Nat} (hI : cI o L e ρ m k D) (hN2 : ∀ i, i < 10 → D (o2 + 6 + i) 0 = nI i) (hN3 : ∀ i, i < 10 → D (o3 + 6 + i) 0 = nI i) {d : Nat} (hd : d < 2 ^ 31) (x : Int32) : mFnV κ yX5_imagineLater cX5_imagineLater 3 6 147 [.ref b, .int x, .int (nI d)] n sh P D E (fun D' => wouldD o o2 L ρ m k x d D D') := by
  refine mMet_of (by decide) (Nat.le_of_ble_eq_true rfl) ?_
  intro Γ Q hQ h hin
  have h : mOk Γ κ RX5 cX5_imagineLater 3 (Option.none : Option Jvm.ClassFile.FieldType) { frames := 6, cells := 0, slots := 0, locals := 147 } := h
  have hL := hB.2.2.2.2.1
  have hL2 := hB.2.2.2.2.2.1
  have hL3 := hB.2.2.2.2.2.2.1
  show mV Γ Q 0 0 n sh P D E [(0, .ref b), (1, .int x), (2, .int (nI d))] [] 0
  refine V_aload_n h 1 0 rfl dX5_imagineLater_0 rfl ?_
  refine g_X5_16 h 4 (b := o2) hB.1 hB.2.2.1 dX5_imagineLater_1 rfl ?_
  refine V_aload_n h 5 0 rfl dX5_imagineLater_4 rfl ?_
  refine g_X5_10 h 8 (b := o) hB.1 hB.2.1 dX5_imagineLater_5 rfl ?_
  refine CVV h 11 (As := [.ref o]) (c_oasisLike hL2 hL (by have := hB.2.2.2.2.2.2.2; omega) hI.1 (cI_lv hI)) rfl (L_s0 hL2) qL_X5_179 qI_X2_becomeLike qS_X2_becomeLike qZ_X2 qC_X2_becomeLike hd_X2_becomeLike ⟨Nat.le_of_ble_eq_true rfl, Nat.le_of_ble_eq_true rfl⟩ (Nat.le_of_ble_eq_true rfl) rfl rfl dX5_imagineLater_8 (Nat.zero_le _) (Nat.zero_le _) (fun D1 hq1 => ?_)
  refine V_aload_n h 12 0 rfl dX5_imagineLater_11 rfl ?_
  refine g_X5_16 h 15 (b := o2) hB.1 hB.2.2.1 dX5_imagineLater_12 rfl ?_
  refine V_iload_n h 16 1 rfl dX5_imagineLater_15 rfl ?_
  refine V_iload_n h 17 2 rfl dX5_imagineLater_16 rfl ?_
  refine CVI h 20 (As := [.int x, .int (nI d)]) (c_days hL2 (like_cW hq1 hI.1 hN2) (d := d) (by omega) x) rfl (L_s0 hL2) qL_X5_142 qI_X2_letDaysGoBy qS_X2_letDaysGoBy qZ_X2 qC_X2_letDaysGoBy hd_X2_letDaysGoBy ⟨Nat.le_of_ble_eq_true rfl, Nat.le_of_ble_eq_true rfl⟩ (Nat.le_of_ble_eq_true rfl) rfl rfl dX5_imagineLater_17 (Nat.zero_le _) (Nat.zero_le _) (fun r2 D2 hq2 => ?_)
  refine V_pop h 21 rfl dX5_imagineLater_20 rfl ?_
  exact V_ret h  hQ (Nat.zero_le _) (Nat.zero_le _) ⟨rfl, rfl, rfl, rfl, rfl, ⟨D1, hq1, hq2.1⟩⟩ dX5_imagineLater_21

set_option maxRecDepth 100000 in
set_option maxHeartbeats 4000000 in
theorem c_imHarv {κ : mKp} {n : Nat} {sh : mSh} {P : mPt} {D : mDt} {E : mEt} {b o o2 o3 : Nat} (hB : bLay b o o2 o3 sh P) {L e m k : Nat} {ρ : Nat → Nat} (hI : cI o L e ρ m k D) (hN2 : ∀ i, i < 10 → D (o2 + 6 + i) 0 = nI i) (hN3 : ∀ i, i < 10 → D (o3 + 6 + i) 0 = nI i) {dd : Nat} (h4 : D o 4 = nI dd) (hdd : dd < 2 ^ 31) (x : Int32) : mFnV κ yX5_imagineHarvest cX5_imagineHarvest 2 6 147 [.ref b, .int x] n sh P D E (fun D' => wouldD o o3 L ρ m k x (harvN dd) D D') := by
  refine mMet_of (by decide) (Nat.le_of_ble_eq_true rfl) ?_
  intro Γ Q hQ h hin
  have h : mOk Γ κ RX5 cX5_imagineHarvest 2 (Option.none : Option Jvm.ClassFile.FieldType) { frames := 6, cells := 0, slots := 0, locals := 147 } := h
  have hL := hB.2.2.2.2.1
  have hL2 := hB.2.2.2.2.2.1
  have hL3 := hB.2.2.2.2.2.2.1
  have hh := harvN_le dd
  show mV Γ Q 0 0 n sh P D E [(0, .ref b), (1, .int x)] [] 0
  refine V_aload_n h 1 0 rfl dX5_imagineHarvest_0 rfl ?_
  refine g_X5_19 h 4 (b := o3) hB.1 hB.2.2.2.1 dX5_imagineHarvest_1 rfl ?_
  refine V_aload_n h 5 0 rfl dX5_imagineHarvest_4 rfl ?_
  refine g_X5_10 h 8 (b := o) hB.1 hB.2.1 dX5_imagineHarvest_5 rfl ?_
  refine CVV h 11 (As := [.ref o]) (c_oasisLike hL3 hL (by have := hB.2.2.2.2.2.2.2; omega) hI.1 (cI_lv hI)) rfl (L_s0 hL3) qL_X5_179 qI_X2_becomeLike qS_X2_becomeLike qZ_X2 qC_X2_becomeLike hd_X2_becomeLike ⟨Nat.le_of_ble_eq_true rfl, Nat.le_of_ble_eq_true rfl⟩ (Nat.le_of_ble_eq_true rfl) rfl rfl dX5_imagineHarvest_8 (Nat.zero_le _) (Nat.zero_le _) (fun D1 hq1 => ?_)
  refine V_aload_n h 12 0 rfl dX5_imagineHarvest_11 rfl ?_
  refine g_X5_19 h 15 (b := o3) hB.1 hB.2.2.2.1 dX5_imagineHarvest_12 rfl ?_
  refine V_iload_n h 16 1 rfl dX5_imagineHarvest_15 rfl ?_
  refine V_aload_n h 17 0 rfl dX5_imagineHarvest_16 rfl ?_
  refine g_X5_10 h 20 (b := o) hB.1 hB.2.1 dX5_imagineHarvest_17 rfl ?_
  refine CVI h 23 (As := []) (c_daysToHarvest hL) rfl (L_s0 hL) qL_X5_224 qI_X2_daysToHarvest qS_X2_daysToHarvest qZ_X2 qC_X2_daysToHarvest hd_X2_daysToHarvest ⟨Nat.le_of_ble_eq_true rfl, Nat.le_of_ble_eq_true rfl⟩ (Nat.le_of_ble_eq_true rfl) rfl rfl dX5_imagineHarvest_20 (Nat.zero_le _) (Nat.zero_le _) (fun r2 D2 hq2 => ?_)
  rw [hq2.1, hq2.2]
  refine V_top (y := nI (harvN dd)) (by rw [hq1.2.2.2.2.2.2.2.2.2.2 o (by have := hB.2.2.2.2.2.2.2; omega), h4, harv_nI hdd]) ?_
  refine CVI h 26 (As := [.int x, .int (nI (harvN dd))]) (c_days hL3 (like_cW hq1 hI.1 hN3) (d := harvN dd) (by omega) x) rfl (L_s0 hL3) qL_X5_142 qI_X2_letDaysGoBy qS_X2_letDaysGoBy qZ_X2 qC_X2_letDaysGoBy hd_X2_letDaysGoBy ⟨Nat.le_of_ble_eq_true rfl, Nat.le_of_ble_eq_true rfl⟩ (Nat.le_of_ble_eq_true rfl) rfl rfl dX5_imagineHarvest_23 (Nat.zero_le _) (Nat.zero_le _) (fun r3 D3 hq3 => ?_)
  refine V_pop h 27 rfl dX5_imagineHarvest_26 rfl ?_
  exact V_ret h  hQ (Nat.zero_le _) (Nat.zero_le _) ⟨rfl, rfl, rfl, rfl, rfl, ⟨D1, hq1, hq3.1⟩⟩ dX5_imagineHarvest_27

set_option maxRecDepth 100000 in
set_option maxHeartbeats 4000000 in
theorem c_cameUntil {κ : mKp} {n : Nat} {sh : mSh} {P : mPt} {D : mDt} {E : mEt} {b o o2 o3 : Nat} (hB : bLay b o o2 o3 sh P) (x : Int32) : mFnI κ yX5_cameUntilLater cX5_cameUntilLater 2 (Option.some Jvm.ClassFile.FieldType.int) 1 21 [.ref b, .int x] n sh P D E (fun r D' => D' = D ∧ r = D (numb o2 x) 13 - D (numb o x) 13) := by
  refine mMet_of (by decide) (Nat.le_of_ble_eq_true rfl) ?_
  intro Γ Q hQ h hin
  have h : mOk Γ κ RX5 cX5_cameUntilLater 2 (Option.some Jvm.ClassFile.FieldType.int) { frames := 1, cells := 0, slots := 0, locals := 21 } := h
  have hL := hB.2.2.2.2.1
  have hL2 := hB.2.2.2.2.2.1
  have hL3 := hB.2.2.2.2.2.2.1
  show mV Γ Q 0 0 n sh P D E [(0, .ref b), (1, .int x)] [] 0
  refine V_aload_n h 1 0 rfl dX5_cameUntilLater_0 rfl ?_
  refine g_X5_16 h 4 (b := o2) hB.1 hB.2.2.1 dX5_cameUntilLater_1 rfl ?_
  refine gN_X5_30 h 7 (b := o2 + 2) (L_s0 hL2) (L_p1 hL2) dX5_cameUntilLater_4 rfl ?_
  refine V_iload_n h 8 1 rfl dX5_cameUntilLater_7 rfl ?_
  refine CVR h 11 (As := [.int x]) (c_numbered hL2 x) rfl (L_s2 hL2) qL_X5_55 qI_X4_numbered qS_X4_numbered qZ_X4 qC_X4_numbered hd_X4_numbered ⟨Nat.le_of_ble_eq_true rfl, Nat.le_of_ble_eq_true rfl⟩ (Nat.le_of_ble_eq_true rfl) rfl rfl dX5_cameUntilLater_8 (Nat.zero_le _) (Nat.zero_le _) (fun r1 D1 hq1 => ?_)
  rw [hq1.1, hq1.2]
  refine gN_X5_221 h 14 (numb_sh hL2) dX5_cameUntilLater_11 rfl ?_
  refine V_aload_n h 15 0 rfl dX5_cameUntilLater_14 rfl ?_
  refine g_X5_10 h 18 (b := o) hB.1 hB.2.1 dX5_cameUntilLater_15 rfl ?_
  refine gN_X5_30 h 21 (b := o + 2) (L_s0 hL) (L_p1 hL) dX5_cameUntilLater_18 rfl ?_
  refine V_iload_n h 22 1 rfl dX5_cameUntilLater_21 rfl ?_
  refine CVR h 25 (As := [.int x]) (c_numbered hL x) rfl (L_s2 hL) qL_X5_55 qI_X4_numbered qS_X4_numbered qZ_X4 qC_X4_numbered hd_X4_numbered ⟨Nat.le_of_ble_eq_true rfl, Nat.le_of_ble_eq_true rfl⟩ (Nat.le_of_ble_eq_true rfl) rfl rfl dX5_cameUntilLater_22 (Nat.zero_le _) (Nat.zero_le _) (fun r2 D2 hq2 => ?_)
  rw [hq2.1, hq2.2]
  refine gN_X5_221 h 28 (numb_sh hL) dX5_cameUntilLater_25 rfl ?_
  refine V_isub h 29 dX5_cameUntilLater_28 rfl ?_
  exact V_iret h rfl hQ (Nat.zero_le _) (Nat.zero_le _) ⟨rfl, rfl, rfl, rfl, _, rfl, ⟨rfl, rfl⟩⟩ dX5_cameUntilLater_29

set_option maxRecDepth 100000 in
set_option maxHeartbeats 4000000 in
theorem c_reapedAt {κ : mKp} {n : Nat} {sh : mSh} {P : mPt} {D : mDt} {E : mEt} {b o o2 o3 : Nat} (hB : bLay b o o2 o3 sh P) (x : Int32) : mFnI κ yX5_reapedAtHarvest cX5_reapedAtHarvest 2 (Option.some Jvm.ClassFile.FieldType.int) 1 21 [.ref b, .int x] n sh P D E (fun r D' => D' = D ∧ r = D (numb o3 x) 14) := by
  refine mMet_of (by decide) (Nat.le_of_ble_eq_true rfl) ?_
  intro Γ Q hQ h hin
  have h : mOk Γ κ RX5 cX5_reapedAtHarvest 2 (Option.some Jvm.ClassFile.FieldType.int) { frames := 1, cells := 0, slots := 0, locals := 21 } := h
  have hL := hB.2.2.2.2.1
  have hL2 := hB.2.2.2.2.2.1
  have hL3 := hB.2.2.2.2.2.2.1
  show mV Γ Q 0 0 n sh P D E [(0, .ref b), (1, .int x)] [] 0
  refine V_aload_n h 1 0 rfl dX5_reapedAtHarvest_0 rfl ?_
  refine g_X5_19 h 4 (b := o3) hB.1 hB.2.2.2.1 dX5_reapedAtHarvest_1 rfl ?_
  refine gN_X5_30 h 7 (b := o3 + 2) (L_s0 hL3) (L_p1 hL3) dX5_reapedAtHarvest_4 rfl ?_
  refine V_iload_n h 8 1 rfl dX5_reapedAtHarvest_7 rfl ?_
  refine CVR h 11 (As := [.int x]) (c_numbered hL3 x) rfl (L_s2 hL3) qL_X5_55 qI_X4_numbered qS_X4_numbered qZ_X4 qC_X4_numbered hd_X4_numbered ⟨Nat.le_of_ble_eq_true rfl, Nat.le_of_ble_eq_true rfl⟩ (Nat.le_of_ble_eq_true rfl) rfl rfl dX5_reapedAtHarvest_8 (Nat.zero_le _) (Nat.zero_le _) (fun r1 D1 hq1 => ?_)
  rw [hq1.1, hq1.2]
  refine gN_X5_227 h 14 (numb_sh hL3) dX5_reapedAtHarvest_11 rfl ?_
  exact V_iret h rfl hQ (Nat.zero_le _) (Nat.zero_le _) ⟨rfl, rfl, rfl, rfl, _, rfl, ⟨rfl, rfl⟩⟩ dX5_reapedAtHarvest_14

set_option maxRecDepth 100000 in
set_option maxHeartbeats 4000000 in
theorem c_wouldCome {κ : mKp} (hst : κ.1.stackTraces = false) {n : Nat} {sh : mSh} {P : mPt} {D : mDt} {E : mEt} {b o o2 o3 : Nat} (hB : bLay b o o2 o3 sh P) {L e m k : Nat} {ρ : Nat → Nat} (hI : cI o L e ρ m k D) (hN2 : ∀ i, i < 10 → D (o2 + 6 + i) 0 = nI i) (hN3 : ∀ i, i < 10 → D (o3 + 6 + i) 0 = nI i) (v x w : Int32) : mXnI κ yX5_wouldCome cX5_wouldCome 4 (Option.some Jvm.ClassFile.FieldType.int) 8 169 2 12 [.ref b, .int v, .int x, .int w] n sh P D E (fun r D' => livP L ρ v ∧ (wP x 0 99 ∧ wP w 1 70) ∧ ∃ d, 1 ≤ d ∧ d ≤ 70 ∧ w = nI d ∧ wouldD o o2 L ρ m k x d D D' ∧ r = D' (numb o2 v) 13 - D' (numb o v) 13) (fun X => Kx (livP L ρ v) (wP x 0 99 ∧ wP w 1 70) True X) := by
  refine mXMet_of hst (by decide) (Nat.le_of_ble_eq_true rfl) ?_
  intro Γ Q hQ h hX
  have h : mOk Γ κ RX5 cX5_wouldCome 4 (Option.some Jvm.ClassFile.FieldType.int) { frames := 8, cells := 2, slots := 12, locals := 169 } := h
  have hL := hB.2.2.2.2.1
  have hL2 := hB.2.2.2.2.2.1
  have hL3 := hB.2.2.2.2.2.2.1
  show mV Γ Q 0 0 n sh P D E [(0, .ref b), (1, .int v), (2, .int x), (3, .int w)] [] 0
  refine V_aload_n h 1 0 rfl dX5_wouldCome_0 rfl ?_
  refine V_iload_n h 2 1 rfl dX5_wouldCome_1 rfl ?_
  refine XVV h hX hQ 1 6 5 (As := [.int v]) (c_mustLive hst hB hI v) rfl hB.1 qL_X5_51 qI_X5_mustLive qS_X5_mustLive qZ_X5 qC_X5_mustLive hd_X5_mustLive ⟨Nat.le_of_ble_eq_true rfl, Nat.le_of_ble_eq_true rfl⟩ (Nat.le_of_ble_eq_true rfl) rfl rfl dX5_wouldCome_2 ⟨Nat.le_of_ble_eq_true rfl, Nat.le_of_ble_eq_true rfl⟩ ⟨Nat.le_of_ble_eq_true rfl, Nat.le_of_ble_eq_true rfl⟩ rfl rfl (fun X9 hk => ⟨kI hk.1 (fun q => hk.2 q), rfl⟩) (fun D1 hq1 => ?_)
  rw [hq1.1]
  have hl_v := hq1.2
  refine V_iload_n h 6 2 rfl dX5_wouldCome_5 rfl ?_
  refine V_iconst h 7 (v := 0) (by decide) dX5_wouldCome_6 rfl ?_
  refine V_bipush h 9 (v := 99) (by decide) dX5_wouldCome_7 rfl ?_
  refine CSI h 12 (As := [.int x, .int 0, .int 99]) (c_isWithin x 0 99) qL_X5_22 qT_X5_isWithin qZ_X5 qC_X5_isWithin hd_X5_isWithin ⟨Nat.le_of_ble_eq_true rfl, Nat.le_of_ble_eq_true rfl⟩ (Nat.le_of_ble_eq_true rfl) rfl rfl dX5_wouldCome_9 (Nat.le_of_ble_eq_true rfl) (Nat.le_of_ble_eq_true rfl) (fun r2 D2 hq2 => ?_)
  rw [hq2.1, hq2.2]
  refine V_if_eq h 29 15 dX5_wouldCome_12 (by decide) rfl (fun c12 => ?_) (fun c12 => ?_)
  · skip
    refine V_iconst h 30 (v := 0) (by decide) dX5_wouldCome_29 rfl ?_
    refine XSV h hX hQ 2 12 33 (As := [.int 0]) (c_mustRight hst 0) qL_X5_26 qT_X5_mustBeRight qZ_X5 qC_X5_mustBeRight hd_X5_mustBeRight ⟨Nat.le_of_ble_eq_true rfl, Nat.le_of_ble_eq_true rfl⟩ (Nat.le_of_ble_eq_true rfl) rfl rfl dX5_wouldCome_30 ⟨Nat.le_of_ble_eq_true rfl, Nat.le_of_ble_eq_true rfl⟩ ⟨Nat.le_of_ble_eq_true rfl, Nat.le_of_ble_eq_true rfl⟩ rfl rfl (fun X9 hk => ⟨kA hk.1 hl_v (fun q => wI_0 c12 q.1), rfl⟩) (fun D3 hq3 => ?_)
    exact absurd rfl hq3.2
  · skip
    refine V_iload_n h 16 3 rfl dX5_wouldCome_15 rfl ?_
    refine V_iconst h 17 (v := 1) (by decide) dX5_wouldCome_16 rfl ?_
    refine V_bipush h 19 (v := 70) (by decide) dX5_wouldCome_17 rfl ?_
    refine CSI h 22 (As := [.int w, .int 1, .int 70]) (c_isWithin w 1 70) qL_X5_22 qT_X5_isWithin qZ_X5 qC_X5_isWithin hd_X5_isWithin ⟨Nat.le_of_ble_eq_true rfl, Nat.le_of_ble_eq_true rfl⟩ (Nat.le_of_ble_eq_true rfl) rfl rfl dX5_wouldCome_19 (Nat.le_of_ble_eq_true rfl) (Nat.le_of_ble_eq_true rfl) (fun r4 D4 hq4 => ?_)
    rw [hq4.1, hq4.2]
    refine V_if_eq h 29 25 dX5_wouldCome_22 (by decide) rfl (fun c22 => ?_) (fun c22 => ?_)
    · skip
      refine V_iconst h 30 (v := 0) (by decide) dX5_wouldCome_29 rfl ?_
      refine XSV h hX hQ 2 12 33 (As := [.int 0]) (c_mustRight hst 0) qL_X5_26 qT_X5_mustBeRight qZ_X5 qC_X5_mustBeRight hd_X5_mustBeRight ⟨Nat.le_of_ble_eq_true rfl, Nat.le_of_ble_eq_true rfl⟩ (Nat.le_of_ble_eq_true rfl) rfl rfl dX5_wouldCome_30 ⟨Nat.le_of_ble_eq_true rfl, Nat.le_of_ble_eq_true rfl⟩ ⟨Nat.le_of_ble_eq_true rfl, Nat.le_of_ble_eq_true rfl⟩ rfl rfl (fun X9 hk => ⟨kA hk.1 hl_v (fun q => wI_0 c22 q.2), rfl⟩) (fun D5 hq5 => ?_)
      exact absurd rfl hq5.2
    · skip
      refine V_iconst h 26 (v := 1) (by decide) dX5_wouldCome_25 rfl ?_
      refine V_goto h 30 dX5_wouldCome_26 (by decide) ?_
      refine XSV h hX hQ 2 12 33 (As := [.int 1]) (c_mustRight hst 1) qL_X5_26 qT_X5_mustBeRight qZ_X5 qC_X5_mustBeRight hd_X5_mustBeRight ⟨Nat.le_of_ble_eq_true rfl, Nat.le_of_ble_eq_true rfl⟩ (Nat.le_of_ble_eq_true rfl) rfl rfl dX5_wouldCome_30 ⟨Nat.le_of_ble_eq_true rfl, Nat.le_of_ble_eq_true rfl⟩ ⟨Nat.le_of_ble_eq_true rfl, Nat.le_of_ble_eq_true rfl⟩ rfl rfl (fun X9 hk => (absurd hk.2 (by decide))) (fun D6 hq6 => ?_)
      rw [hq6.1]
      obtain ⟨d, hd1, hd, ed⟩ := wP_N (a := 1) (b := 70) (wI_1 c22) (by decide) (by decide)
      subst ed
      refine V_aload_n h 34 0 rfl dX5_wouldCome_33 rfl ?_
      refine V_iload_n h 35 2 rfl dX5_wouldCome_34 rfl ?_
      refine V_iload_n h 36 3 rfl dX5_wouldCome_35 rfl ?_
      refine CVV h 39 (As := [.int x, .int (nI d)]) (c_imLater hB hI hN2 hN3 (d := d) (by omega) x) rfl hB.1 qL_X5_172 qI_X5_imagineLater qS_X5_imagineLater qZ_X5 qC_X5_imagineLater hd_X5_imagineLater ⟨Nat.le_of_ble_eq_true rfl, Nat.le_of_ble_eq_true rfl⟩ (Nat.le_of_ble_eq_true rfl) rfl rfl dX5_wouldCome_36 (Nat.le_of_ble_eq_true rfl) (Nat.le_of_ble_eq_true rfl) (fun D7 hq7 => ?_)
      refine V_aload_n h 40 0 rfl dX5_wouldCome_39 rfl ?_
      refine V_iload_n h 41 1 rfl dX5_wouldCome_40 rfl ?_
      refine CVI h 44 (As := [.int v]) (c_cameUntil hB v) rfl hB.1 qL_X5_176 qI_X5_cameUntilLater qS_X5_cameUntilLater qZ_X5 qC_X5_cameUntilLater hd_X5_cameUntilLater ⟨Nat.le_of_ble_eq_true rfl, Nat.le_of_ble_eq_true rfl⟩ (Nat.le_of_ble_eq_true rfl) rfl rfl dX5_wouldCome_41 (Nat.le_of_ble_eq_true rfl) (Nat.le_of_ble_eq_true rfl) (fun r8 D8 hq8 => ?_)
      rw [hq8.1, hq8.2]
      exact X_iret h rfl hQ (Nat.le_of_ble_eq_true rfl) (Nat.le_of_ble_eq_true rfl) ⟨rfl, rfl, rfl, rfl, _, rfl, ⟨hl_v, ⟨wI_1 c12, wI_1 c22⟩, d, hd1, hd, rfl, hq7, rfl⟩⟩ dX5_wouldCome_44

set_option maxRecDepth 100000 in
set_option maxHeartbeats 4000000 in
theorem c_wouldReap {κ : mKp} (hst : κ.1.stackTraces = false) {n : Nat} {sh : mSh} {P : mPt} {D : mDt} {E : mEt} {b o o2 o3 : Nat} (hB : bLay b o o2 o3 sh P) {L e m k : Nat} {ρ : Nat → Nat} (hI : cI o L e ρ m k D) (hN2 : ∀ i, i < 10 → D (o2 + 6 + i) 0 = nI i) (hN3 : ∀ i, i < 10 → D (o3 + 6 + i) 0 = nI i) {dd : Nat} (h4 : D o 4 = nI dd) (hdd : dd < 2 ^ 31) (v x : Int32) : mXnI κ yX5_wouldReap cX5_wouldReap 3 (Option.some Jvm.ClassFile.FieldType.int) 8 168 2 12 [.ref b, .int v, .int x] n sh P D E (fun r D' => livP L ρ v ∧ wP x 0 99 ∧ wouldD o o3 L ρ m k x (harvN dd) D D' ∧ r = D' (numb o3 v) 14) (fun X => Kx (livP L ρ v) (wP x 0 99) True X) := by
  refine mXMet_of hst (by decide) (Nat.le_of_ble_eq_true rfl) ?_
  intro Γ Q hQ h hX
  have h : mOk Γ κ RX5 cX5_wouldReap 3 (Option.some Jvm.ClassFile.FieldType.int) { frames := 8, cells := 2, slots := 12, locals := 168 } := h
  have hL := hB.2.2.2.2.1
  have hL2 := hB.2.2.2.2.2.1
  have hL3 := hB.2.2.2.2.2.2.1
  show mV Γ Q 0 0 n sh P D E [(0, .ref b), (1, .int v), (2, .int x)] [] 0
  refine V_aload_n h 1 0 rfl dX5_wouldReap_0 rfl ?_
  refine V_iload_n h 2 1 rfl dX5_wouldReap_1 rfl ?_
  refine XVV h hX hQ 1 6 5 (As := [.int v]) (c_mustLive hst hB hI v) rfl hB.1 qL_X5_51 qI_X5_mustLive qS_X5_mustLive qZ_X5 qC_X5_mustLive hd_X5_mustLive ⟨Nat.le_of_ble_eq_true rfl, Nat.le_of_ble_eq_true rfl⟩ (Nat.le_of_ble_eq_true rfl) rfl rfl dX5_wouldReap_2 ⟨Nat.le_of_ble_eq_true rfl, Nat.le_of_ble_eq_true rfl⟩ ⟨Nat.le_of_ble_eq_true rfl, Nat.le_of_ble_eq_true rfl⟩ rfl rfl (fun X9 hk => ⟨kI hk.1 (fun q => hk.2 q), rfl⟩) (fun D1 hq1 => ?_)
  rw [hq1.1]
  have hl_v := hq1.2
  refine V_iload_n h 6 2 rfl dX5_wouldReap_5 rfl ?_
  refine V_iconst h 7 (v := 0) (by decide) dX5_wouldReap_6 rfl ?_
  refine V_bipush h 9 (v := 99) (by decide) dX5_wouldReap_7 rfl ?_
  refine CSI h 12 (As := [.int x, .int 0, .int 99]) (c_isWithin x 0 99) qL_X5_22 qT_X5_isWithin qZ_X5 qC_X5_isWithin hd_X5_isWithin ⟨Nat.le_of_ble_eq_true rfl, Nat.le_of_ble_eq_true rfl⟩ (Nat.le_of_ble_eq_true rfl) rfl rfl dX5_wouldReap_9 (Nat.le_of_ble_eq_true rfl) (Nat.le_of_ble_eq_true rfl) (fun r2 D2 hq2 => ?_)
  rw [hq2.1, hq2.2]
  refine XSV h hX hQ 2 12 15 (As := [.int (wI x 0 99)]) (c_mustRight hst (wI x 0 99)) qL_X5_26 qT_X5_mustBeRight qZ_X5 qC_X5_mustBeRight hd_X5_mustBeRight ⟨Nat.le_of_ble_eq_true rfl, Nat.le_of_ble_eq_true rfl⟩ (Nat.le_of_ble_eq_true rfl) rfl rfl dX5_wouldReap_12 ⟨Nat.le_of_ble_eq_true rfl, Nat.le_of_ble_eq_true rfl⟩ ⟨Nat.le_of_ble_eq_true rfl, Nat.le_of_ble_eq_true rfl⟩ rfl rfl (fun X9 hk => ⟨kA hk.1 hl_v (fun q => wI_0 hk.2 q), rfl⟩) (fun D3 hq3 => ?_)
  rw [hq3.1]
  refine V_aload_n h 16 0 rfl dX5_wouldReap_15 rfl ?_
  refine V_iload_n h 17 2 rfl dX5_wouldReap_16 rfl ?_
  refine CVV h 20 (As := [.int x]) (c_imHarv hB hI hN2 hN3 h4 hdd x) rfl hB.1 qL_X5_183 qI_X5_imagineHarvest qS_X5_imagineHarvest qZ_X5 qC_X5_imagineHarvest hd_X5_imagineHarvest ⟨Nat.le_of_ble_eq_true rfl, Nat.le_of_ble_eq_true rfl⟩ (Nat.le_of_ble_eq_true rfl) rfl rfl dX5_wouldReap_17 (Nat.le_of_ble_eq_true rfl) (Nat.le_of_ble_eq_true rfl) (fun D4 hq4 => ?_)
  refine V_aload_n h 21 0 rfl dX5_wouldReap_20 rfl ?_
  refine V_iload_n h 22 1 rfl dX5_wouldReap_21 rfl ?_
  refine CVI h 25 (As := [.int v]) (c_reapedAt hB v) rfl hB.1 qL_X5_186 qI_X5_reapedAtHarvest qS_X5_reapedAtHarvest qZ_X5 qC_X5_reapedAtHarvest hd_X5_reapedAtHarvest ⟨Nat.le_of_ble_eq_true rfl, Nat.le_of_ble_eq_true rfl⟩ (Nat.le_of_ble_eq_true rfl) rfl rfl dX5_wouldReap_22 (Nat.le_of_ble_eq_true rfl) (Nat.le_of_ble_eq_true rfl) (fun r5 D5 hq5 => ?_)
  rw [hq5.1, hq5.2]
  exact X_iret h rfl hQ (Nat.le_of_ble_eq_true rfl) (Nat.le_of_ble_eq_true rfl) ⟨rfl, rfl, rfl, rfl, _, rfl, ⟨hl_v, (wI_1 hq3.2), hq4, rfl⟩⟩ dX5_wouldReap_25
