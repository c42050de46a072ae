theorem wI_ok {v a b : Int32} (h : wP v a b) : ¬ wI v a b = 0 := fun q => wI_0 q h

theorem wP_Mi {i m : Nat} (hi : i < m) (hm : m ≤ 8) : wP (nI i) 0 (nI m - 1) := by
  obtain ⟨m, rfl⟩ : ∃ z, m = z + 1 := ⟨m - 1, by omega⟩
  rw [show nI (m + 1) - 1 = nI m from by rw [← nI_1]; exact Int32.add_sub_cancel _ _]
  exact ⟨nI_pos' (by omega), nI_le (by omega) (by omega)⟩
theorem wP_n {d a b : Nat} (h1 : a ≤ d) (h2 : d ≤ b) (hb : b < 2 ^ 31) : wP (nI d) (nI a) (nI b) := ⟨nI_le h1 (by omega), nI_le h2 hb⟩

set_option maxRecDepth 100000 in
set_option maxHeartbeats 4000000 in
theorem n_mustRight {κ : mKp} {n : Nat} {sh : mSh} {P : mPt} {D : mDt} {E : mEt} (x : Int32) (hx : ¬ x = 0) : mFnV κ yX5_mustBeRight cX5_mustBeRight 1 0 0 [.int x] n sh P D E (fun D' => D' = D) := by
  refine mMet_of (by decide) (Nat.le_of_ble_eq_true rfl) ?_
  intro Γ Q hQ h hin
  have h : mOk Γ κ RX5 cX5_mustBeRight 1 (Option.none : Option Jvm.ClassFile.FieldType) { frames := 0, cells := 0, slots := 0, locals := 0 } := h
  show mV Γ Q 0 0 n sh P D E [(0, .int x)] [] 0
  refine V_iload_n h 1 0 rfl dX5_mustBeRight_0 rfl ?_
  refine V_if_ne h 12 4 dX5_mustBeRight_1 (by decide) rfl (fun c1 => ?_) (fun c1 => absurd c1 hx)
  exact V_ret h  hQ (Nat.zero_le _) (Nat.zero_le _) ⟨rfl, rfl, rfl, rfl, rfl, rfl⟩ dX5_mustBeRight_12

set_option maxRecDepth 100000 in
set_option maxHeartbeats 4000000 in
theorem n_mustExist {κ : mKp} {n : Nat} {sh : mSh} {P : mPt} {D : mDt} {E : mEt} (x : Int32) (hx : ¬ x = 0) : mFnV κ yX5_mustExist cX5_mustExist 1 0 0 [.int x] n sh P D E (fun D' => D' = D) := by
  refine mMet_of (by decide) (Nat.le_of_ble_eq_true rfl) ?_
  intro Γ Q hQ h hin
  have h : mOk Γ κ RX5 cX5_mustExist 1 (Option.none : Option Jvm.ClassFile.FieldType) { frames := 0, cells := 0, slots := 0, locals := 0 } := h
  show mV Γ Q 0 0 n sh P D E [(0, .int x)] [] 0
  refine V_iload_n h 1 0 rfl dX5_mustExist_0 rfl ?_
  refine V_if_ne h 12 4 dX5_mustExist_1 (by decide) rfl (fun c1 => ?_) (fun c1 => absurd c1 hx)
  exact V_ret h  hQ (Nat.zero_le _) (Nat.zero_le _) ⟨rfl, rfl, rfl, rfl, rfl, rfl⟩ dX5_mustExist_12

set_option maxRecDepth 100000 in
set_option maxHeartbeats 4000000 in
theorem n_mustLive {κ : mKp} {n : Nat} {sh : mSh} {P : mPt} {D : mDt} {E : mEt} {b o o2 o3 : Nat} (hB : bLay b o o2 o3 sh P) {L e m k : Nat} {ρ : Nat → Nat} (hI : cI o L e ρ m k D) (x : Int32) (hx : livP L ρ x) : mFnV κ yX5_mustLive cX5_mustLive 2 2 42 [.ref b, .int x] n sh P D E (fun D' => D' = D) := by
  refine mMet_of (by decide) (Nat.le_of_ble_eq_true rfl) ?_
  intro Γ Q hQ h hin
  have h : mOk Γ κ RX5 cX5_mustLive 2 (Option.none : Option Jvm.ClassFile.FieldType) { frames := 2, cells := 0, slots := 0, locals := 42 } := h
  have hL := hB.2.2.2.2.1
  have hL2 := hB.2.2.2.2.2.1
  have hL3 := hB.2.2.2.2.2.2.1
  show mV Γ Q 0 0 n sh P D E [(0, .ref b), (1, .int x)] [] 0
  refine V_aload_n h 1 0 rfl dX5_mustLive_0 rfl ?_
  refine g_X5_10 h 4 (b := o) hB.1 hB.2.1 dX5_mustLive_1 rfl ?_
  refine gN_X5_30 h 7 (b := o + 2) (L_s0 hL) (L_p1 hL) dX5_mustLive_4 rfl ?_
  refine V_iload_n h 8 1 rfl dX5_mustLive_7 rfl ?_
  refine CVI h 11 (As := [.int x]) (c_isLiving hL x (cI_hz hI x)) rfl (L_s2 hL) qL_X5_215 qI_X4_isLiving qS_X4_isLiving qZ_X4 qC_X4_isLiving hd_X4_isLiving ⟨Nat.le_of_ble_eq_true rfl, Nat.le_of_ble_eq_true rfl⟩ (Nat.le_of_ble_eq_true rfl) rfl rfl dX5_mustLive_8 (Nat.zero_le _) (Nat.zero_le _) (fun r1 D1 hq1 => ?_)
  rw [hq1.1, hq1.2]
  refine CSV h 14 (As := [.int (D (numb o x) 1)]) (n_mustExist (D (numb o x) 1) (fun q => liv_not hI q hx)) qL_X5_150 qT_X5_mustExist qZ_X5 qC_X5_mustExist hd_X5_mustExist ⟨Nat.le_of_ble_eq_true rfl, Nat.le_of_ble_eq_true rfl⟩ (Nat.le_of_ble_eq_true rfl) rfl rfl dX5_mustLive_11 (Nat.zero_le _) (Nat.zero_le _) (fun D2 hq2 => ?_)
  rw [hq2]
  exact V_ret h  hQ (Nat.zero_le _) (Nat.zero_le _) ⟨rfl, rfl, rfl, rfl, rfl, rfl⟩ dX5_mustLive_14

set_option maxRecDepth 100000 in
set_option maxHeartbeats 4000000 in
theorem n_many {κ : mKp} {n : Nat} {sh : mSh} {P : mPt} {D : mDt} {E : mEt} {b o o2 o3 : Nat} (hB : bLay b o o2 o3 sh P) {L e m k : Nat} {ρ : Nat → Nat} (hI : cI o L e ρ m k D) {w : Nat} (hw : w < 16) : mFnI κ yX5_many cX5_many 2 (Option.some Jvm.ClassFile.FieldType.int) 5 105 [.ref b, .int (nI w)] n sh P D E (fun r D' => D' = D ∧ r = askA o L ρ D w) := by
  refine mMet_of (by decide) (Nat.le_of_ble_eq_true rfl) ?_
  intro Γ Q hQ h hin
  have h : mOk Γ κ RX5 cX5_many 2 (Option.some Jvm.ClassFile.FieldType.int) { frames := 5, cells := 0, slots := 0, locals := 105 } := h
  have hL := hB.2.2.2.2.1
  have hL2 := hB.2.2.2.2.2.1
  have hL3 := hB.2.2.2.2.2.2.1
  show mV Γ Q 0 0 n sh P D E [(0, .ref b), (1, .int (nI w))] [] 0
  refine V_iload_n h 1 1 rfl dX5_many_0 rfl ?_
  refine V_iconst h 2 (v := 0) (by decide) dX5_many_1 rfl ?_
  refine V_bipush h 4 (v := 15) (by decide) dX5_many_2 rfl ?_
  refine CSI h 7 (As := [.int (nI w), .int 0, .int 15]) (c_isWithin (nI w) 0 15) qL_X5_22 qT_X5_isWithin qZ_X5 qC_X5_isWithin hd_X5_isWithin ⟨Nat.le_of_ble_eq_true rfl, Nat.le_of_ble_eq_true rfl⟩ (Nat.le_of_ble_eq_true rfl) rfl rfl dX5_many_4 (Nat.zero_le _) (Nat.zero_le _) (fun r1 D1 hq1 => ?_)
  rw [hq1.1, hq1.2]
  refine CSV h 10 (As := [.int (wI (nI w) 0 15)]) (n_mustRight (wI (nI w) 0 15) (wI_ok ⟨nI_pos' (by omega), nI_le (a := w) (b := 15) (by omega) (by decide)⟩)) qL_X5_26 qT_X5_mustBeRight qZ_X5 qC_X5_mustBeRight hd_X5_mustBeRight ⟨Nat.le_of_ble_eq_true rfl, Nat.le_of_ble_eq_true rfl⟩ (Nat.le_of_ble_eq_true rfl) rfl rfl dX5_many_7 (Nat.zero_le _) (Nat.zero_le _) (fun D2 hq2 => ?_)
  rw [hq2]
  refine V_aload_n h 11 0 rfl dX5_many_10 rfl ?_
  refine g_X5_10 h 14 (b := o) hB.1 hB.2.1 dX5_many_11 rfl ?_
  refine V_iload_n h 15 1 rfl dX5_many_14 rfl ?_
  refine CVI h 18 (As := [.int (nI w)]) (c_askAll hL hI.1 hw) rfl (L_s0 hL) qL_X5_163 qI_X2_askAll qS_X2_askAll qZ_X2 qC_X2_askAll hd_X2_askAll ⟨Nat.le_of_ble_eq_true rfl, Nat.le_of_ble_eq_true rfl⟩ (Nat.le_of_ble_eq_true rfl) rfl rfl dX5_many_15 (Nat.zero_le _) (Nat.zero_le _) (fun r3 D3 hq3 => ?_)
  rw [hq3.1, hq3.2]
  exact V_iret h rfl hQ (Nat.zero_le _) (Nat.zero_le _) ⟨rfl, rfl, rfl, rfl, _, rfl, ⟨rfl, rfl⟩⟩ dX5_many_18

set_option maxRecDepth 100000 in
set_option maxHeartbeats 4000000 in
theorem n_of {κ : mKp} {n : Nat} {sh : mSh} {P : mPt} {D : mDt} {E : mEt} {b o o2 o3 : Nat} (hB : bLay b o o2 o3 sh P) {L e m k : Nat} {ρ : Nat → Nat} (hI : cI o L e ρ m k D) {q w : Nat} (hq : q < L) (hw : w < 14) : mFnI κ yX5_of cX5_of 3 (Option.some Jvm.ClassFile.FieldType.int) 4 90 [.ref b, .int (nI (ρ q)), .int (nI w)] n sh P D E (fun r D' => D' = D ∧ r = askO o ρ q m D w) := by
  refine mMet_of (by decide) (Nat.le_of_ble_eq_true rfl) ?_
  intro Γ Q hQ h hin
  have h : mOk Γ κ RX5 cX5_of 3 (Option.some Jvm.ClassFile.FieldType.int) { frames := 4, cells := 0, slots := 0, locals := 90 } := h
  have hL := hB.2.2.2.2.1
  have hL2 := hB.2.2.2.2.2.1
  have hL3 := hB.2.2.2.2.2.2.1
  show mV Γ Q 0 0 n sh P D E [(0, .ref b), (1, .int (nI (ρ q))), (2, .int (nI w))] [] 0
  refine V_aload_n h 1 0 rfl dX5_of_0 rfl ?_
  refine V_iload_n h 2 1 rfl dX5_of_1 rfl ?_
  refine CVV h 5 (As := [.int (nI (ρ q))]) (n_mustLive hB hI (nI (ρ q)) ⟨q, hq, rfl⟩) rfl hB.1 qL_X5_51 qI_X5_mustLive qS_X5_mustLive qZ_X5 qC_X5_mustLive hd_X5_mustLive ⟨Nat.le_of_ble_eq_true rfl, Nat.le_of_ble_eq_true rfl⟩ (Nat.le_of_ble_eq_true rfl) rfl rfl dX5_of_2 (Nat.zero_le _) (Nat.zero_le _) (fun D1 hq1 => ?_)
  rw [hq1]
  refine V_iload_n h 6 2 rfl dX5_of_5 rfl ?_
  refine V_iconst h 7 (v := 0) (by decide) dX5_of_6 rfl ?_
  refine V_bipush h 9 (v := 13) (by decide) dX5_of_7 rfl ?_
  refine CSI h 12 (As := [.int (nI w), .int 0, .int 13]) (c_isWithin (nI w) 0 13) qL_X5_22 qT_X5_isWithin qZ_X5 qC_X5_isWithin hd_X5_isWithin ⟨Nat.le_of_ble_eq_true rfl, Nat.le_of_ble_eq_true rfl⟩ (Nat.le_of_ble_eq_true rfl) rfl rfl dX5_of_9 (Nat.zero_le _) (Nat.zero_le _) (fun r2 D2 hq2 => ?_)
  rw [hq2.1, hq2.2]
  refine CSV h 15 (As := [.int (wI (nI w) 0 13)]) (n_mustRight (wI (nI w) 0 13) (wI_ok ⟨nI_pos' (by omega), nI_le (a := w) (b := 13) (by omega) (by decide)⟩)) qL_X5_26 qT_X5_mustBeRight qZ_X5 qC_X5_mustBeRight hd_X5_mustBeRight ⟨Nat.le_of_ble_eq_true rfl, Nat.le_of_ble_eq_true rfl⟩ (Nat.le_of_ble_eq_true rfl) rfl rfl dX5_of_12 (Nat.zero_le _) (Nat.zero_le _) (fun D3 hq3 => ?_)
  rw [hq3]
  refine V_aload_n h 16 0 rfl dX5_of_15 rfl ?_
  refine g_X5_10 h 19 (b := o) hB.1 hB.2.1 dX5_of_16 rfl ?_
  refine V_aload_n h 20 0 rfl dX5_of_19 rfl ?_
  refine g_X5_10 h 23 (b := o) hB.1 hB.2.1 dX5_of_20 rfl ?_
  refine gN_X5_30 h 26 (b := o + 2) (L_s0 hL) (L_p1 hL) dX5_of_23 rfl ?_
  refine V_iload_n h 27 1 rfl dX5_of_26 rfl ?_
  refine CVR h 30 (As := [.int (nI (ρ q))]) (c_numbered hL (nI (ρ q))) rfl (L_s2 hL) qL_X5_55 qI_X4_numbered qS_X4_numbered qZ_X4 qC_X4_numbered hd_X4_numbered ⟨Nat.le_of_ble_eq_true rfl, Nat.le_of_ble_eq_true rfl⟩ (Nat.le_of_ble_eq_true rfl) rfl rfl dX5_of_27 (Nat.zero_le _) (Nat.zero_le _) (fun r4 D4 hq4 => ?_)
  rw [hq4.1, hq4.2]
  rw [liv_num hI hq]
  refine V_iload_n h 31 2 rfl dX5_of_30 rfl ?_
  refine CVI h 34 (As := [.ref (o + 6 + ρ q), .int (nI w)]) (c_askOwner hL hI.1 hq (fun p hp => hI.2.2.2.2.1 p q hp hq) hw) rfl (L_s0 hL) qL_X5_146 qI_X2_askOwner qS_X2_askOwner qZ_X2 qC_X2_askOwner hd_X2_askOwner ⟨Nat.le_of_ble_eq_true rfl, Nat.le_of_ble_eq_true rfl⟩ (Nat.le_of_ble_eq_true rfl) rfl rfl dX5_of_31 (Nat.zero_le _) (Nat.zero_le _) (fun r5 D5 hq5 => ?_)
  rw [hq5.1, hq5.2]
  exact V_iret h rfl hQ (Nat.zero_le _) (Nat.zero_le _) ⟨rfl, rfl, rfl, rfl, _, rfl, ⟨rfl, rfl⟩⟩ dX5_of_34

set_option maxRecDepth 100000 in
set_option maxHeartbeats 4000000 in
theorem n_ofBowl {κ : mKp} {n : Nat} {sh : mSh} {P : mPt} {D : mDt} {E : mEt} {b o o2 o3 : Nat} (hB : bLay b o o2 o3 sh P) {L e m k : Nat} {ρ : Nat → Nat} (hI : cI o L e ρ m k D) {x w : Int32} (hx : wP x 0 5039) (hw : wP w 0 1) : mFnI κ yX5_ofBowl cX5_ofBowl 3 (Option.some Jvm.ClassFile.FieldType.int) 4 90 [.ref b, .int x, .int w] n sh P D E (fun r D' => D' = D ∧ r = if w = 0 then holdI (fun p => D (o + 6 + ρ p) 2) ρ x L else userI (fun p => D (o + 6 + ρ p) 2) ρ (D (o + 17)) m x L) := by
  refine mMet_of (by decide) (Nat.le_of_ble_eq_true rfl) ?_
  intro Γ Q hQ h hin
  have h : mOk Γ κ RX5 cX5_ofBowl 3 (Option.some Jvm.ClassFile.FieldType.int) { frames := 4, cells := 0, slots := 0, locals := 90 } := h
  have hL := hB.2.2.2.2.1
  have hL2 := hB.2.2.2.2.2.1
  have hL3 := hB.2.2.2.2.2.2.1
  show mV Γ Q 0 0 n sh P D E [(0, .ref b), (1, .int x), (2, .int w)] [] 0
  refine V_iload_n h 1 1 rfl dX5_ofBowl_0 rfl ?_
  refine V_iconst h 2 (v := 0) (by decide) dX5_ofBowl_1 rfl ?_
  refine V_sipush h 5 (v := 5039) (by decide) dX5_ofBowl_2 rfl ?_
  refine CSI h 8 (As := [.int x, .int 0, .int 5039]) (c_isWithin x 0 5039) qL_X5_22 qT_X5_isWithin qZ_X5 qC_X5_isWithin hd_X5_isWithin ⟨Nat.le_of_ble_eq_true rfl, Nat.le_of_ble_eq_true rfl⟩ (Nat.le_of_ble_eq_true rfl) rfl rfl dX5_ofBowl_5 (Nat.zero_le _) (Nat.zero_le _) (fun r1 D1 hq1 => ?_)
  rw [hq1.1, hq1.2]
  refine CSV h 11 (As := [.int (wI x 0 5039)]) (n_mustExist (wI x 0 5039) (wI_ok hx)) qL_X5_150 qT_X5_mustExist qZ_X5 qC_X5_mustExist hd_X5_mustExist ⟨Nat.le_of_ble_eq_true rfl, Nat.le_of_ble_eq_true rfl⟩ (Nat.le_of_ble_eq_true rfl) rfl rfl dX5_ofBowl_8 (Nat.zero_le _) (Nat.zero_le _) (fun D2 hq2 => ?_)
  rw [hq2]
  refine V_iload_n h 12 2 rfl dX5_ofBowl_11 rfl ?_
  refine V_iconst h 13 (v := 0) (by decide) dX5_ofBowl_12 rfl ?_
  refine V_iconst h 14 (v := 1) (by decide) dX5_ofBowl_13 rfl ?_
  refine CSI h 17 (As := [.int w, .int 0, .int 1]) (c_isWithin w 0 1) qL_X5_22 qT_X5_isWithin qZ_X5 qC_X5_isWithin hd_X5_isWithin ⟨Nat.le_of_ble_eq_true rfl, Nat.le_of_ble_eq_true rfl⟩ (Nat.le_of_ble_eq_true rfl) rfl rfl dX5_ofBowl_14 (Nat.zero_le _) (Nat.zero_le _) (fun r3 D3 hq3 => ?_)
  rw [hq3.1, hq3.2]
  refine CSV h 20 (As := [.int (wI w 0 1)]) (n_mustRight (wI w 0 1) (wI_ok hw)) qL_X5_26 qT_X5_mustBeRight qZ_X5 qC_X5_mustBeRight hd_X5_mustBeRight ⟨Nat.le_of_ble_eq_true rfl, Nat.le_of_ble_eq_true rfl⟩ (Nat.le_of_ble_eq_true rfl) rfl rfl dX5_ofBowl_17 (Nat.zero_le _) (Nat.zero_le _) (fun D4 hq4 => ?_)
  rw [hq4]
  refine V_iload_n h 21 2 rfl dX5_ofBowl_20 rfl ?_
  refine V_if_ne h 38 24 dX5_ofBowl_21 (by decide) rfl (fun c21 => ?_) (fun c21 => ?_)
  · skip
    refine V_aload_n h 39 0 rfl dX5_ofBowl_38 rfl ?_
    refine g_X5_10 h 42 (b := o) hB.1 hB.2.1 dX5_ofBowl_39 rfl ?_
    refine V_iload_n h 43 1 rfl dX5_ofBowl_42 rfl ?_
    refine CVI h 46 (As := [.int x]) (c_userOf hL hI.1 hI.2.2.2.2.1 x) rfl (L_s0 hL) qL_X5_157 qI_X2_userOf qS_X2_userOf qZ_X2 qC_X2_userOf hd_X2_userOf ⟨Nat.le_of_ble_eq_true rfl, Nat.le_of_ble_eq_true rfl⟩ (Nat.le_of_ble_eq_true rfl) rfl rfl dX5_ofBowl_43 (Nat.zero_le _) (Nat.zero_le _) (fun r5 D5 hq5 => ?_)
    rw [hq5.1, hq5.2]
    exact V_iret h rfl hQ (Nat.zero_le _) (Nat.zero_le _) ⟨rfl, rfl, rfl, rfl, _, rfl, ⟨rfl, (by rw [if_neg c21])⟩⟩ dX5_ofBowl_46
  · skip
    refine V_aload_n h 25 0 rfl dX5_ofBowl_24 rfl ?_
    refine g_X5_10 h 28 (b := o) hB.1 hB.2.1 dX5_ofBowl_25 rfl ?_
    refine gN_X5_30 h 31 (b := o + 2) (L_s0 hL) (L_p1 hL) dX5_ofBowl_28 rfl ?_
    refine V_iload_n h 32 1 rfl dX5_ofBowl_31 rfl ?_
    refine CVI h 35 (As := [.int x]) (c_holderOf hL hI.1.1 hI.1.2.1 x) rfl (L_s2 hL) qL_X5_153 qI_X4_holderOf qS_X4_holderOf qZ_X4 qC_X4_holderOf hd_X4_holderOf ⟨Nat.le_of_ble_eq_true rfl, Nat.le_of_ble_eq_true rfl⟩ (Nat.le_of_ble_eq_true rfl) rfl rfl dX5_ofBowl_32 (Nat.zero_le _) (Nat.zero_le _) (fun r6 D6 hq6 => ?_)
    rw [hq6.1, hq6.2]
    refine V_goto h 46 dX5_ofBowl_35 (by decide) ?_
    exact V_iret h rfl hQ (Nat.zero_le _) (Nat.zero_le _) ⟨rfl, rfl, rfl, rfl, _, rfl, ⟨rfl, (by rw [if_pos c21])⟩⟩ dX5_ofBowl_46

set_option maxRecDepth 100000 in
set_option maxHeartbeats 4000000 in
theorem n_ofLoan {κ : mKp} {n : Nat} {sh : mSh} {P : mPt} {D : mDt} {E : mEt} {b o o2 o3 : Nat} (hB : bLay b o o2 o3 sh P) {L e m k : Nat} {ρ : Nat → Nat} (hI : cI o L e ρ m k D) {i j : Nat} (hi : i < m) (hj : j ≤ 3) : mFnI κ yX5_ofLoan cX5_ofLoan 3 (Option.some Jvm.ClassFile.FieldType.int) 1 23 [.ref b, .int (nI i), .int (nI j)] n sh P D E (fun r D' => D' = D ∧ r = D (o + 17) (i * 4 + j)) := by
  refine mMet_of (by decide) (Nat.le_of_ble_eq_true rfl) ?_
  intro Γ Q hQ h hin
  have h : mOk Γ κ RX5 cX5_ofLoan 3 (Option.some Jvm.ClassFile.FieldType.int) { frames := 1, cells := 0, slots := 0, locals := 23 } := h
  have hL := hB.2.2.2.2.1
  have hL2 := hB.2.2.2.2.2.1
  have hL3 := hB.2.2.2.2.2.2.1
  have h8 := hI.1.2.2.2.1.1
  show mV Γ Q 0 0 n sh P D E [(0, .ref b), (1, .int (nI i)), (2, .int (nI j))] [] 0
  refine V_iload_n h 1 1 rfl dX5_ofLoan_0 rfl ?_
  refine V_iconst h 2 (v := 0) (by decide) dX5_ofLoan_1 rfl ?_
  refine V_aload_n h 3 0 rfl dX5_ofLoan_2 rfl ?_
  refine g_X5_10 h 6 (b := o) hB.1 hB.2.1 dX5_ofLoan_3 rfl ?_
  refine gN_X5_76 h 9 (b := o + 16) (L_s0 hL) (L_p2 hL) dX5_ofLoan_6 rfl ?_
  refine CVI h 12 (As := []) (c_dcount (L_s16 hL)) rfl (L_s16 hL) qL_X5_90 qI_X1_count qS_X1_count qZ_X1 qC_X1_count hd_X1_count ⟨Nat.le_of_ble_eq_true rfl, Nat.le_of_ble_eq_true rfl⟩ (Nat.le_of_ble_eq_true rfl) rfl rfl dX5_ofLoan_9 (Nat.zero_le _) (Nat.zero_le _) (fun r1 D1 hq1 => ?_)
  rw [hq1.1, hq1.2]
  refine V_top (y := nI m) hI.1.2.2.1 ?_
  refine V_iconst h 13 (v := 1) (by decide) dX5_ofLoan_12 rfl ?_
  refine V_isub h 14 dX5_ofLoan_13 rfl ?_
  refine CSI h 17 (As := [.int (nI i), .int 0, .int ((nI m) - 1)]) (c_isWithin (nI i) 0 ((nI m) - 1)) qL_X5_22 qT_X5_isWithin qZ_X5 qC_X5_isWithin hd_X5_isWithin ⟨Nat.le_of_ble_eq_true rfl, Nat.le_of_ble_eq_true rfl⟩ (Nat.le_of_ble_eq_true rfl) rfl rfl dX5_ofLoan_14 (Nat.zero_le _) (Nat.zero_le _) (fun r2 D2 hq2 => ?_)
  rw [hq2.1, hq2.2]
  refine CSV h 20 (As := [.int (wI (nI i) 0 ((nI m) - 1))]) (n_mustExist (wI (nI i) 0 ((nI m) - 1)) (wI_ok (wP_Mi hi h8))) qL_X5_150 qT_X5_mustExist qZ_X5 qC_X5_mustExist hd_X5_mustExist ⟨Nat.le_of_ble_eq_true rfl, Nat.le_of_ble_eq_true rfl⟩ (Nat.le_of_ble_eq_true rfl) rfl rfl dX5_ofLoan_17 (Nat.zero_le _) (Nat.zero_le _) (fun D3 hq3 => ?_)
  rw [hq3]
  refine V_iload_n h 21 2 rfl dX5_ofLoan_20 rfl ?_
  refine V_iconst h 22 (v := 0) (by decide) dX5_ofLoan_21 rfl ?_
  refine V_iconst h 23 (v := 3) (by decide) dX5_ofLoan_22 rfl ?_
  refine CSI h 26 (As := [.int (nI j), .int 0, .int 3]) (c_isWithin (nI j) 0 3) qL_X5_22 qT_X5_isWithin qZ_X5 qC_X5_isWithin hd_X5_isWithin ⟨Nat.le_of_ble_eq_true rfl, Nat.le_of_ble_eq_true rfl⟩ (Nat.le_of_ble_eq_true rfl) rfl rfl dX5_ofLoan_23 (Nat.zero_le _) (Nat.zero_le _) (fun r4 D4 hq4 => ?_)
  rw [hq4.1, hq4.2]
  refine CSV h 29 (As := [.int (wI (nI j) 0 3)]) (n_mustRight (wI (nI j) 0 3) (wI_ok ⟨nI_pos' (by omega), nI_le (a := j) (b := 3) (by omega) (by decide)⟩)) qL_X5_26 qT_X5_mustBeRight qZ_X5 qC_X5_mustBeRight hd_X5_mustBeRight ⟨Nat.le_of_ble_eq_true rfl, Nat.le_of_ble_eq_true rfl⟩ (Nat.le_of_ble_eq_true rfl) rfl rfl dX5_ofLoan_26 (Nat.zero_le _) (Nat.zero_le _) (fun D5 hq5 => ?_)
  rw [hq5]
  refine V_aload_n h 30 0 rfl dX5_ofLoan_29 rfl ?_
  refine g_X5_10 h 33 (b := o) hB.1 hB.2.1 dX5_ofLoan_30 rfl ?_
  refine gN_X5_76 h 36 (b := o + 16) (L_s0 hL) (L_p2 hL) dX5_ofLoan_33 rfl ?_
  refine V_iload_n h 37 1 rfl dX5_ofLoan_36 rfl ?_
  refine V_iload_n h 38 2 rfl dX5_ofLoan_37 rfl ?_
  refine CVI h 41 (As := [.int (nI i), .int (nI j)]) (c_dget (L_s16 hL) (L_p16 hL) (L_s17 hL) (j := i * 4 + j) (dealIx i j) (by omega)) rfl (L_s16 hL) qL_X5_160 qI_X1_get qS_X1_get qZ_X1 qC_X1_get hd_X1_get ⟨Nat.le_of_ble_eq_true rfl, Nat.le_of_ble_eq_true rfl⟩ (Nat.le_of_ble_eq_true rfl) rfl rfl dX5_ofLoan_38 (Nat.zero_le _) (Nat.zero_le _) (fun r6 D6 hq6 => ?_)
  rw [hq6.1, hq6.2]
  exact V_iret h rfl hQ (Nat.zero_le _) (Nat.zero_le _) ⟨rfl, rfl, rfl, rfl, _, rfl, ⟨rfl, rfl⟩⟩ dX5_ofLoan_41

set_option maxRecDepth 100000 in
set_option maxHeartbeats 4000000 in
theorem n_ofSale {κ : mKp} {n : Nat} {sh : mSh} {P : mPt} {D : mDt} {E : mEt} {b o o2 o3 : Nat} (hB : bLay b o o2 o3 sh P) {L e m k : Nat} {ρ : Nat → Nat} (hI : cI o L e ρ m k D) {i j : Nat} (hi : i < k) (hj : j ≤ 2) : mFnI κ yX5_ofSale cX5_ofSale 3 (Option.some Jvm.ClassFile.FieldType.int) 1 23 [.ref b, .int (nI i), .int (nI j)] n sh P D E (fun r D' => D' = D ∧ r = D (o + 19) (i * 4 + j)) := by
  refine mMet_of (by decide) (Nat.le_of_ble_eq_true rfl) ?_
  intro Γ Q hQ h hin
  have h : mOk Γ κ RX5 cX5_ofSale 3 (Option.some Jvm.ClassFile.FieldType.int) { frames := 1, cells := 0, slots := 0, locals := 23 } := h
  have hL := hB.2.2.2.2.1
  have hL2 := hB.2.2.2.2.2.1
  have hL3 := hB.2.2.2.2.2.2.1
  have h8 := hI.1.2.2.2.2.2.1
  show mV Γ Q 0 0 n sh P D E [(0, .ref b), (1, .int (nI i)), (2, .int (nI j))] [] 0
  refine V_iload_n h 1 1 rfl dX5_ofSale_0 rfl ?_
  refine V_iconst h 2 (v := 0) (by decide) dX5_ofSale_1 rfl ?_
  refine V_aload_n h 3 0 rfl dX5_ofSale_2 rfl ?_
  refine g_X5_10 h 6 (b := o) hB.1 hB.2.1 dX5_ofSale_3 rfl ?_
  refine gN_X5_136 h 9 (b := o + 18) (L_s0 hL) (L_p3 hL) dX5_ofSale_6 rfl ?_
  refine CVI h 12 (As := []) (c_dcount (L_s18 hL)) rfl (L_s18 hL) qL_X5_90 qI_X1_count qS_X1_count qZ_X1 qC_X1_count hd_X1_count ⟨Nat.le_of_ble_eq_true rfl, Nat.le_of_ble_eq_true rfl⟩ (Nat.le_of_ble_eq_true rfl) rfl rfl dX5_ofSale_9 (Nat.zero_le _) (Nat.zero_le _) (fun r1 D1 hq1 => ?_)
  rw [hq1.1, hq1.2]
  refine V_top (y := nI k) hI.1.2.2.2.2.1 ?_
  refine V_iconst h 13 (v := 1) (by decide) dX5_ofSale_12 rfl ?_
  refine V_isub h 14 dX5_ofSale_13 rfl ?_
  refine CSI h 17 (As := [.int (nI i), .int 0, .int ((nI k) - 1)]) (c_isWithin (nI i) 0 ((nI k) - 1)) qL_X5_22 qT_X5_isWithin qZ_X5 qC_X5_isWithin hd_X5_isWithin ⟨Nat.le_of_ble_eq_true rfl, Nat.le_of_ble_eq_true rfl⟩ (Nat.le_of_ble_eq_true rfl) rfl rfl dX5_ofSale_14 (Nat.zero_le _) (Nat.zero_le _) (fun r2 D2 hq2 => ?_)
  rw [hq2.1, hq2.2]
  refine CSV h 20 (As := [.int (wI (nI i) 0 ((nI k) - 1))]) (n_mustExist (wI (nI i) 0 ((nI k) - 1)) (wI_ok (wP_Mi hi h8))) qL_X5_150 qT_X5_mustExist qZ_X5 qC_X5_mustExist hd_X5_mustExist ⟨Nat.le_of_ble_eq_true rfl, Nat.le_of_ble_eq_true rfl⟩ (Nat.le_of_ble_eq_true rfl) rfl rfl dX5_ofSale_17 (Nat.zero_le _) (Nat.zero_le _) (fun D3 hq3 => ?_)
  rw [hq3]
  refine V_iload_n h 21 2 rfl dX5_ofSale_20 rfl ?_
  refine V_iconst h 22 (v := 0) (by decide) dX5_ofSale_21 rfl ?_
  refine V_iconst h 23 (v := 2) (by decide) dX5_ofSale_22 rfl ?_
  refine CSI h 26 (As := [.int (nI j), .int 0, .int 2]) (c_isWithin (nI j) 0 2) qL_X5_22 qT_X5_isWithin qZ_X5 qC_X5_isWithin hd_X5_isWithin ⟨Nat.le_of_ble_eq_true rfl, Nat.le_of_ble_eq_true rfl⟩ (Nat.le_of_ble_eq_true rfl) rfl rfl dX5_ofSale_23 (Nat.zero_le _) (Nat.zero_le _) (fun r4 D4 hq4 => ?_)
  rw [hq4.1, hq4.2]
  refine CSV h 29 (As := [.int (wI (nI j) 0 2)]) (n_mustRight (wI (nI j) 0 2) (wI_ok ⟨nI_pos' (by omega), nI_le (a := j) (b := 2) (by omega) (by decide)⟩)) qL_X5_26 qT_X5_mustBeRight qZ_X5 qC_X5_mustBeRight hd_X5_mustBeRight ⟨Nat.le_of_ble_eq_true rfl, Nat.le_of_ble_eq_true rfl⟩ (Nat.le_of_ble_eq_true rfl) rfl rfl dX5_ofSale_26 (Nat.zero_le _) (Nat.zero_le _) (fun D5 hq5 => ?_)
  rw [hq5]
  refine V_aload_n h 30 0 rfl dX5_ofSale_29 rfl ?_
  refine g_X5_10 h 33 (b := o) hB.1 hB.2.1 dX5_ofSale_30 rfl ?_
  refine gN_X5_136 h 36 (b := o + 18) (L_s0 hL) (L_p3 hL) dX5_ofSale_33 rfl ?_
  refine V_iload_n h 37 1 rfl dX5_ofSale_36 rfl ?_
  refine V_iload_n h 38 2 rfl dX5_ofSale_37 rfl ?_
  refine CVI h 41 (As := [.int (nI i), .int (nI j)]) (c_dget (L_s18 hL) (L_p18 hL) (L_s19 hL) (j := i * 4 + j) (dealIx i j) (by omega)) rfl (L_s18 hL) qL_X5_160 qI_X1_get qS_X1_get qZ_X1 qC_X1_get hd_X1_get ⟨Nat.le_of_ble_eq_true rfl, Nat.le_of_ble_eq_true rfl⟩ (Nat.le_of_ble_eq_true rfl) rfl rfl dX5_ofSale_38 (Nat.zero_le _) (Nat.zero_le _) (fun r6 D6 hq6 => ?_)
  rw [hq6.1, hq6.2]
  exact V_iret h rfl hQ (Nat.zero_le _) (Nat.zero_le _) ⟨rfl, rfl, rfl, rfl, _, rfl, ⟨rfl, rfl⟩⟩ dX5_ofSale_41

set_option maxRecDepth 100000 in
set_option maxHeartbeats 4000000 in
theorem n_bestDig {κ : mKp} {n : Nat} {sh : mSh} {P : mPt} {D : mDt} {E : mEt} {b o o2 o3 : Nat} (hB : bLay b o o2 o3 sh P) {L e m k : Nat} {ρ : Nat → Nat} (hI : cI o L e ρ m k D) (hN2 : ∀ i, i < 10 → D (o2 + 6 + i) 0 = nI i) (hN3 : ∀ i, i < 10 → D (o3 + 6 + i) 0 = nI i) {d : Nat} (hd1 : 1 ≤ d) (hd : d ≤ 35) (x : Int32) (hx : wP x 0 99) : mFnI κ yX5_bestDig cX5_bestDig 7 (Option.some Jvm.ClassFile.FieldType.int) 6 147 [.ref b, .int x, .int (nI d)] n sh P D E (fun r D' => ∃ F, digOk o o2 L ρ m k x d D F 21 ∧ r = (digB F (D (o + 1) 1) 21).1 ∧ (∀ a, (a < o2 ∨ o2 + 20 ≤ a) → D' a = D a) ∧ ∀ i, i < 10 → D' (o2 + 6 + i) 0 = nI i) := by
  refine mMet_of (by decide) (Nat.le_of_ble_eq_true rfl) ?_
  intro Γ Q hQ h hin
  have h : mOk Γ κ RX5 cX5_bestDig 7 (Option.some Jvm.ClassFile.FieldType.int) { frames := 6, cells := 0, slots := 0, locals := 147 } := h
  have hL := hB.2.2.2.2.1
  have hL2 := hB.2.2.2.2.2.1
  have hL3 := hB.2.2.2.2.2.2.1
  show mV Γ Q 0 0 n sh P D E [(0, .ref b), (1, .int x), (2, .int (nI d))] [] 0
  refine V_iload_n h 1 1 rfl dX5_bestDig_0 rfl ?_
  refine V_iconst h 2 (v := 0) (by decide) dX5_bestDig_1 rfl ?_
  refine V_bipush h 4 (v := 99) (by decide) dX5_bestDig_2 rfl ?_
  refine CSI h 7 (As := [.int x, .int 0, .int 99]) (c_isWithin x 0 99) qL_X5_22 qT_X5_isWithin qZ_X5 qC_X5_isWithin hd_X5_isWithin ⟨Nat.le_of_ble_eq_true rfl, Nat.le_of_ble_eq_true rfl⟩ (Nat.le_of_ble_eq_true rfl) rfl rfl dX5_bestDig_4 (Nat.zero_le _) (Nat.zero_le _) (fun r1 D1 hq1 => ?_)
  rw [hq1.1, hq1.2]
  refine V_if_eq h 24 10 dX5_bestDig_7 (by decide) rfl (fun c7 => absurd c7 (wI_ok hx)) (fun c7 => ?_)
  refine V_iload_n h 11 2 rfl dX5_bestDig_10 rfl ?_
  refine V_iconst h 12 (v := 1) (by decide) dX5_bestDig_11 rfl ?_
  refine V_bipush h 14 (v := 35) (by decide) dX5_bestDig_12 rfl ?_
  refine CSI h 17 (As := [.int (nI d), .int 1, .int 35]) (c_isWithin (nI d) 1 35) qL_X5_22 qT_X5_isWithin qZ_X5 qC_X5_isWithin hd_X5_isWithin ⟨Nat.le_of_ble_eq_true rfl, Nat.le_of_ble_eq_true rfl⟩ (Nat.le_of_ble_eq_true rfl) rfl rfl dX5_bestDig_14 (Nat.zero_le _) (Nat.zero_le _) (fun r2 D2 hq2 => ?_)
  rw [hq2.1, hq2.2]
  refine V_if_eq h 24 20 dX5_bestDig_17 (by decide) rfl (fun c17 => absurd c17 (wI_ok (wP_n (a := 1) (b := 35) hd1 hd (by decide)))) (fun c17 => ?_)
  refine V_iconst h 21 (v := 1) (by decide) dX5_bestDig_20 rfl ?_
  refine V_goto h 25 dX5_bestDig_21 (by decide) ?_
  refine CSV h 28 (As := [.int 1]) (n_mustRight 1 (by decide)) qL_X5_26 qT_X5_mustBeRight qZ_X5 qC_X5_mustBeRight hd_X5_mustBeRight ⟨Nat.le_of_ble_eq_true rfl, Nat.le_of_ble_eq_true rfl⟩ (Nat.le_of_ble_eq_true rfl) rfl rfl dX5_bestDig_25 (Nat.zero_le _) (Nat.zero_le _) (fun D3 hq3 => ?_)
  rw [hq3]
  have hdis := hB.2.2.2.2.2.2.2
  refine V_iconst h 29 (v := 0) (by decide) dX5_bestDig_28 rfl ?_
  refine V_istore_n h 30 [(3, .int 0), (0, .ref b), (1, .int x), (2, .int (nI d))] (by decide) rfl dX5_bestDig_29 rfl ?_
  refine V_iconst h 31 (v := (-1)) (by decide) dX5_bestDig_30 rfl ?_
  refine V_istore h 33 [(4, .int (-1)), (3, .int 0), (0, .ref b), (1, .int x), (2, .int (nI d))] (by decide) rfl dX5_bestDig_31 rfl ?_
  refine V_iconst h 34 (v := 0) (by decide) dX5_bestDig_33 rfl ?_
  refine V_istore h 36 [(5, .int 0), (4, .int (-1)), (3, .int 0), (0, .ref b), (1, .int x), (2, .int (nI d))] (by decide) rfl dX5_bestDig_34 rfl ?_
  have LP36 : ∀ (kk : Nat) (i : Nat) (F : Nat → Int32) (x3 x4 x5 : Int32) (Dk : mDt), (i ≤ 21) → (∀ a, (a < o2 ∨ o2 + 20 ≤ a) → Dk a = D a) → (∀ i, i < 10 → Dk (o2 + 6 + i) 0 = nI i) → (digOk o o2 L ρ m k x d D F i) → (x3 = (digB F (D (o + 1) 1) i).1) → (x4 = (digB F (D (o + 1) 1) i).2) → (x5 = nI i) → 21 - i < kk → mV Γ Q 0 0 n sh P Dk E [(0, .ref b), (1, .int x), (2, .int (nI d)), (3, .int x3), (4, .int x4), (5, .int x5)] [] 36 := by
    intro kk
    induction kk with
    | zero =>
      intro i F x3 x4 x5 Dk _ _ _ _ _ _ _ hms
      exact absurd hms (Nat.not_lt_zero _)
    | succ kk ih =>
      intro i F x3 x4 x5 Dk hi hF hn hO e3 e4 e5 hms
      subst e5
      refine V_iload h 38 5 rfl dX5_bestDig_36 rfl ?_
      refine V_bipush h 40 (v := 20) (by decide) dX5_bestDig_38 rfl ?_
      refine V_icmp_gt h 120 43 dX5_bestDig_40 (by decide) rfl (fun c40 => ?_) (fun c40 => ?_)
      · skip
        have hex : i = 21 := by have := (nI_ltI (a := 20) (b := i) (by decide) (by omega)).mp c40; omega
        subst hex
        refine V_iload_n h 121 3 rfl dX5_bestDig_120 rfl ?_
        exact V_iret h rfl hQ (Nat.zero_le _) (Nat.zero_le _) ⟨rfl, rfl, rfl, rfl, _, rfl, ⟨F, hO, e3, hF, hn⟩⟩ dX5_bestDig_121
      · skip
        have hlt : i < 21 := by have := (nI_leI (a := i) (b := 20) (by omega) (by decide)).mp (Int32.not_lt.mp c40); omega
        refine V_aload_n h 44 0 rfl dX5_bestDig_43 rfl ?_
        refine g_X5_10 h 47 (b := o) hB.1 hB.2.1 dX5_bestDig_44 rfl ?_
        refine gN_X5_97 h 50 (b := o + 1) (L_s0 hL) (L_p0 hL) dX5_bestDig_47 rfl ?_
        refine gN_X5_101 h 53 (L_s1 hL) dX5_bestDig_50 rfl ?_
        refine V_top (y := D (o + 1) 1) (by rw [hF _ (by omega)]) ?_
        refine V_iload h 55 5 rfl dX5_bestDig_53 rfl ?_
        refine V_iadd h 56 dX5_bestDig_55 rfl ?_
        refine V_bipush h 58 (v := 90) (by decide) dX5_bestDig_56 rfl ?_
        refine V_icmp_gt h 114 61 dX5_bestDig_58 (by decide) rfl (fun c58 => ?_) (fun c58 => ?_)
        · skip
          refine V_iinc h 117 [(5, .int ((nI i) + 1)), (0, .ref b), (1, .int x), (2, .int (nI d)), (3, .int x3), (4, .int x4)] 5 rfl (by rfl) (by decide) rfl dX5_bestDig_114 rfl ?_
          refine V_goto h 36 dX5_bestDig_117 (by decide) ?_
          refine V_lsub [(0, .ref b), (1, .int x), (2, .int (nI d)), (3, .int x3), (4, .int x4), (5, .int ((nI i) + 1))] [1, 2, 3, 4, 5, 0] rfl ?_
          exact ih (i + 1) F _ _ _ Dk (by omega) hF hn (digOk_skip hO c58) (by rw [e3, digB, if_pos c58]) (by rw [e4, digB, if_pos c58]) (nI_1 i) (by omega)
        · skip
          refine V_aload_n h 62 0 rfl dX5_bestDig_61 rfl ?_
          refine g_X5_16 h 65 (b := o2) hB.1 hB.2.2.1 dX5_bestDig_62 rfl ?_
          refine V_aload_n h 66 0 rfl dX5_bestDig_65 rfl ?_
          refine g_X5_10 h 69 (b := o) hB.1 hB.2.1 dX5_bestDig_66 rfl ?_
          refine CVV h 72 (As := [.ref o]) (c_oasisLike hL2 hL (by omega) (cI_blk hI (fun a h1 h2 => hF a (by omega))).1 (cI_lv (cI_blk hI (fun a h1 h2 => hF a (by omega))))) rfl (L_s0 hL2) qL_X5_179 qI_X2_becomeLike qS_X2_becomeLike qZ_X2 qC_X2_becomeLike hd_X2_becomeLike ⟨Nat.le_of_ble_eq_true rfl, Nat.le_of_ble_eq_true rfl⟩ (Nat.le_of_ble_eq_true rfl) rfl rfl dX5_bestDig_69 (Nat.zero_le _) (Nat.zero_le _) (fun D4 hq4 => ?_)
          refine V_aload_n h 73 0 rfl dX5_bestDig_72 rfl ?_
          refine g_X5_16 h 76 (b := o2) hB.1 hB.2.2.1 dX5_bestDig_73 rfl ?_
          refine gN_X5_97 h 79 (b := o2 + 1) (L_s0 hL2) (L_p0 hL2) dX5_bestDig_76 rfl ?_
          refine V_dup h 80 rfl dX5_bestDig_79 rfl ?_
          refine gN_X5_101 h 83 (L_s1 hL2) dX5_bestDig_80 rfl ?_
          refine V_iload h 85 5 rfl dX5_bestDig_83 rfl ?_
          refine V_iadd h 86 dX5_bestDig_85 rfl ?_
          refine pN_X5_101 h 89 (L_s1 hL2) dX5_bestDig_86 rfl ?_
          obtain ⟨D5, eD5⟩ : ∃ zz, zz = upd2 D4 (o2 + 1) 1 ((D4 (o2 + 1) 1) + (nI i)) := ⟨_, rfl⟩
          rw [← eD5]
          refine V_aload_n h 90 0 rfl dX5_bestDig_89 rfl ?_
          refine g_X5_16 h 93 (b := o2) hB.1 hB.2.2.1 dX5_bestDig_90 rfl ?_
          refine V_iload_n h 94 1 rfl dX5_bestDig_93 rfl ?_
          refine V_iload_n h 95 2 rfl dX5_bestDig_94 rfl ?_
          have hW2 : cW o2 L ρ m k D5 := by rw [eD5]; exact lk_days (like_cW hq4 (cI_blk hI (fun a h1 h2 => hF a (by omega))).1 hn)
          refine CVI h 98 (As := [.int x, .int (nI d)]) (c_days hL2 hW2 (d := d) (by omega) x) rfl (L_s0 hL2) qL_X5_142 qI_X2_letDaysGoBy qS_X2_letDaysGoBy qZ_X2 qC_X2_letDaysGoBy hd_X2_letDaysGoBy ⟨Nat.le_of_ble_eq_true rfl, Nat.le_of_ble_eq_true rfl⟩ (Nat.le_of_ble_eq_true rfl) rfl rfl dX5_bestDig_95 (Nat.zero_le _) (Nat.zero_le _) (fun r6 D6 hq6 => ?_)
          refine V_istore h 100 [(6, .int r6), (0, .ref b), (1, .int x), (2, .int (nI d)), (3, .int x3), (4, .int x4), (5, .int (nI i))] (by decide) rfl dX5_bestDig_98 rfl ?_
          refine V_iload h 102 0 rfl dX5_bestDig_100 rfl ?_
          refine V_iload h 104 5 rfl dX5_bestDig_102 rfl ?_
          refine V_icmp_le h 114 107 dX5_bestDig_104 (by decide) rfl (fun c104 => ?_) (fun c104 => ?_)
          · skip
            refine V_iinc h 117 [(5, .int ((nI i) + 1)), (6, .int r6), (0, .ref b), (1, .int x), (2, .int (nI d)), (3, .int x3), (4, .int x4)] 6 rfl (by rfl) (by decide) rfl dX5_bestDig_114 rfl ?_
            refine V_goto h 36 dX5_bestDig_117 (by decide) ?_
            refine V_lsub [(0, .ref b), (1, .int x), (2, .int (nI d)), (3, .int x3), (4, .int x4), (5, .int ((nI i) + 1))] [2, 3, 4, 5, 6, 0] rfl ?_
            have hV := like_lkV hq4 (fun a ha1 ha2 => hF a (by omega)) hn
            have hO2 := digOk_more hO hV (show r6 = _ from by rw [hq6.2, eD5])
            have hF2 : ∀ a, (a < o2 ∨ o2 + 20 ≤ a) → D6 a = D a := fun a ha => by rw [hq6.1, days_outD (D := D5) hW2 ha, eD5, upd2_ra (by omega), hq4.2.2.2.2.2.2.2.2.2.2 a ha]; exact hF a ha
            have hn2 : ∀ i, i < 10 → D6 (o2 + 6 + i) 0 = nI i := by rw [hq6.1]; exact (cW_days (q := (D5, m, k)) hW2 d).2.1
            exact ih (i + 1) _ _ _ _ D6 (by omega) hF2 hn2 hO2 (by rw [digB, if_neg c58, digB_new, if_pos (by rw [if_pos rfl, ← e4]; exact c104)]; exact e3) (by rw [digB, if_neg c58, digB_new, if_pos (by rw [if_pos rfl, ← e4]; exact c104)]; exact e4) (nI_1 i) (by omega)
          · skip
            refine V_iload h 109 0 rfl dX5_bestDig_107 rfl ?_
            refine V_istore h 111 [(4, .int r6), (6, .int r6), (0, .ref b), (1, .int x), (2, .int (nI d)), (3, .int x3), (5, .int (nI i))] (by decide) rfl dX5_bestDig_109 rfl ?_
            refine V_iload h 113 6 rfl dX5_bestDig_111 rfl ?_
            refine V_istore_n h 114 [(3, .int (nI i)), (4, .int r6), (6, .int r6), (0, .ref b), (1, .int x), (2, .int (nI d)), (5, .int (nI i))] (by decide) rfl dX5_bestDig_113 rfl ?_
            refine V_iinc h 117 [(5, .int ((nI i) + 1)), (3, .int (nI i)), (4, .int r6), (6, .int r6), (0, .ref b), (1, .int x), (2, .int (nI d))] 6 rfl (by rfl) (by decide) rfl dX5_bestDig_114 rfl ?_
            refine V_goto h 36 dX5_bestDig_117 (by decide) ?_
            refine V_lsub [(0, .ref b), (1, .int x), (2, .int (nI d)), (3, .int (nI i)), (4, .int r6), (5, .int ((nI i) + 1))] [4, 5, 6, 1, 2, 0] rfl ?_
            have hV := like_lkV hq4 (fun a ha1 ha2 => hF a (by omega)) hn
            have hO2 := digOk_more hO hV (show r6 = _ from by rw [hq6.2, eD5])
            have hF2 : ∀ a, (a < o2 ∨ o2 + 20 ≤ a) → D6 a = D a := fun a ha => by rw [hq6.1, days_outD (D := D5) hW2 ha, eD5, upd2_ra (by omega), hq4.2.2.2.2.2.2.2.2.2.2 a ha]; exact hF a ha
            have hn2 : ∀ i, i < 10 → D6 (o2 + 6 + i) 0 = nI i := by rw [hq6.1]; exact (cW_days (q := (D5, m, k)) hW2 d).2.1
            exact ih (i + 1) _ _ _ _ D6 (by omega) hF2 hn2 hO2 (by rw [digB, if_neg c58, digB_new, if_neg (by rw [if_pos rfl, ← e4]; exact c104)]) (by rw [digB, if_neg c58, digB_new, if_neg (by rw [if_pos rfl, ← e4]; exact c104)]; exact (if_pos rfl).symm) (nI_1 i) (by omega)
  refine V_lsub [(0, .ref b), (1, .int x), (2, .int (nI d)), (3, .int 0), (4, .int (-1)), (5, .int 0)] [3, 4, 5, 2, 1, 0] rfl ?_
  exact LP36 _ 0 (fun _ => 0) _ _ _ _ (Nat.zero_le _) (fun a _ => rfl) hN2 (fun i hi => absurd hi (Nat.not_lt_zero _)) rfl rfl rfl (Nat.lt_succ_self _)

set_option maxRecDepth 100000 in
set_option maxHeartbeats 4000000 in
theorem n_pumpTakes {κ : mKp} {n : Nat} {sh : mSh} {P : mPt} {D : mDt} {E : mEt} {b o o2 o3 : Nat} (hB : bLay b o o2 o3 sh P) {L e m k : Nat} {ρ : Nat → Nat} (hI : cI o L e ρ m k D) (hN2 : ∀ i, i < 10 → D (o2 + 6 + i) 0 = nI i) (hN3 : ∀ i, i < 10 → D (o3 + 6 + i) 0 = nI i) {d : Nat} (hd1 : 1 ≤ d) (hd : d ≤ 70) (z x : Int32) (hz : wP z 0 20) (hx : wP x 0 99) : mFnI κ yX5_pumpTakes cX5_pumpTakes 5 (Option.some Jvm.ClassFile.FieldType.int) 6 147 [.ref b, .int z, .int x, .int (nI d)] n sh P D E (fun r D' => ∃ V1 V2, lkV o o2 L ρ m k D V1 ∧ lkV o o2 L ρ m k D V2 ∧ r = daysS o2 ρ L x (V1, m, k) d - daysS o2 ρ L x (upd2 V2 (o2 + 1) 3 z, m, k) d ∧ (∀ a, (a < o2 ∨ o2 + 20 ≤ a) → D' a = D a) ∧ ∀ i, i < 10 → D' (o2 + 6 + i) 0 = nI i) := by
  refine mMet_of (by decide) (Nat.le_of_ble_eq_true rfl) ?_
  intro Γ Q hQ h hin
  have h : mOk Γ κ RX5 cX5_pumpTakes 5 (Option.some Jvm.ClassFile.FieldType.int) { frames := 6, cells := 0, slots := 0, locals := 147 } := h
  have hL := hB.2.2.2.2.1
  have hL2 := hB.2.2.2.2.2.1
  have hL3 := hB.2.2.2.2.2.2.1
  show mV Γ Q 0 0 n sh P D E [(0, .ref b), (1, .int z), (2, .int x), (3, .int (nI d))] [] 0
  refine V_iload_n h 1 1 rfl dX5_pumpTakes_0 rfl ?_
  refine V_iconst h 2 (v := 0) (by decide) dX5_pumpTakes_1 rfl ?_
  refine V_bipush h 4 (v := 20) (by decide) dX5_pumpTakes_2 rfl ?_
  refine CSI h 7 (As := [.int z, .int 0, .int 20]) (c_isWithin z 0 20) qL_X5_22 qT_X5_isWithin qZ_X5 qC_X5_isWithin hd_X5_isWithin ⟨Nat.le_of_ble_eq_true rfl, Nat.le_of_ble_eq_true rfl⟩ (Nat.le_of_ble_eq_true rfl) rfl rfl dX5_pumpTakes_4 (Nat.zero_le _) (Nat.zero_le _) (fun r1 D1 hq1 => ?_)
  rw [hq1.1, hq1.2]
  refine V_if_eq h 34 10 dX5_pumpTakes_7 (by decide) rfl (fun c7 => absurd c7 (wI_ok hz)) (fun c7 => ?_)
  refine V_iload_n h 11 2 rfl dX5_pumpTakes_10 rfl ?_
  refine V_iconst h 12 (v := 0) (by decide) dX5_pumpTakes_11 rfl ?_
  refine V_bipush h 14 (v := 99) (by decide) dX5_pumpTakes_12 rfl ?_
  refine CSI h 17 (As := [.int x, .int 0, .int 99]) (c_isWithin x 0 99) qL_X5_22 qT_X5_isWithin qZ_X5 qC_X5_isWithin hd_X5_isWithin ⟨Nat.le_of_ble_eq_true rfl, Nat.le_of_ble_eq_true rfl⟩ (Nat.le_of_ble_eq_true rfl) rfl rfl dX5_pumpTakes_14 (Nat.zero_le _) (Nat.zero_le _) (fun r2 D2 hq2 => ?_)
  rw [hq2.1, hq2.2]
  refine V_if_eq h 34 20 dX5_pumpTakes_17 (by decide) rfl (fun c17 => absurd c17 (wI_ok hx)) (fun c17 => ?_)
  refine V_iload_n h 21 3 rfl dX5_pumpTakes_20 rfl ?_
  refine V_iconst h 22 (v := 1) (by decide) dX5_pumpTakes_21 rfl ?_
  refine V_bipush h 24 (v := 70) (by decide) dX5_pumpTakes_22 rfl ?_
  refine CSI h 27 (As := [.int (nI d), .int 1, .int 70]) (c_isWithin (nI d) 1 70) qL_X5_22 qT_X5_isWithin qZ_X5 qC_X5_isWithin hd_X5_isWithin ⟨Nat.le_of_ble_eq_true rfl, Nat.le_of_ble_eq_true rfl⟩ (Nat.le_of_ble_eq_true rfl) rfl rfl dX5_pumpTakes_24 (Nat.zero_le _) (Nat.zero_le _) (fun r3 D3 hq3 => ?_)
  rw [hq3.1, hq3.2]
  refine V_if_eq h 34 30 dX5_pumpTakes_27 (by decide) rfl (fun c27 => absurd c27 (wI_ok (wP_n (a := 1) (b := 70) hd1 hd (by decide)))) (fun c27 => ?_)
  refine V_iconst h 31 (v := 1) (by decide) dX5_pumpTakes_30 rfl ?_
  refine V_goto h 35 dX5_pumpTakes_31 (by decide) ?_
  refine CSV h 38 (As := [.int 1]) (n_mustRight 1 (by decide)) qL_X5_26 qT_X5_mustBeRight qZ_X5 qC_X5_mustBeRight hd_X5_mustBeRight ⟨Nat.le_of_ble_eq_true rfl, Nat.le_of_ble_eq_true rfl⟩ (Nat.le_of_ble_eq_true rfl) rfl rfl dX5_pumpTakes_35 (Nat.zero_le _) (Nat.zero_le _) (fun D4 hq4 => ?_)
  rw [hq4]
  have hdis := hB.2.2.2.2.2.2.2
  refine V_aload_n h 39 0 rfl dX5_pumpTakes_38 rfl ?_
  refine g_X5_16 h 42 (b := o2) hB.1 hB.2.2.1 dX5_pumpTakes_39 rfl ?_
  refine V_aload_n h 43 0 rfl dX5_pumpTakes_42 rfl ?_
  refine g_X5_10 h 46 (b := o) hB.1 hB.2.1 dX5_pumpTakes_43 rfl ?_
  refine CVV h 49 (As := [.ref o]) (c_oasisLike hL2 hL (by omega) hI.1 (cI_lv hI)) rfl (L_s0 hL2) qL_X5_179 qI_X2_becomeLike qS_X2_becomeLike qZ_X2 qC_X2_becomeLike hd_X2_becomeLike ⟨Nat.le_of_ble_eq_true rfl, Nat.le_of_ble_eq_true rfl⟩ (Nat.le_of_ble_eq_true rfl) rfl rfl dX5_pumpTakes_46 (Nat.zero_le _) (Nat.zero_le _) (fun D5 hq5 => ?_)
  have hV1 := like_lkV hq5 (fun a _ _ => rfl) hN2
  refine V_aload_n h 50 0 rfl dX5_pumpTakes_49 rfl ?_
  refine g_X5_16 h 53 (b := o2) hB.1 hB.2.2.1 dX5_pumpTakes_50 rfl ?_
  refine V_iload_n h 54 2 rfl dX5_pumpTakes_53 rfl ?_
  refine V_iload_n h 55 3 rfl dX5_pumpTakes_54 rfl ?_
  refine CVI h 58 (As := [.int x, .int (nI d)]) (c_days hL2 (like_cW hq5 hI.1 hN2) (d := d) (by omega) x) rfl (L_s0 hL2) qL_X5_142 qI_X2_letDaysGoBy qS_X2_letDaysGoBy qZ_X2 qC_X2_letDaysGoBy hd_X2_letDaysGoBy ⟨Nat.le_of_ble_eq_true rfl, Nat.le_of_ble_eq_true rfl⟩ (Nat.le_of_ble_eq_true rfl) rfl rfl dX5_pumpTakes_55 (Nat.zero_le _) (Nat.zero_le _) (fun r6 D6 hq6 => ?_)
  refine V_istore h 60 [(4, .int r6), (0, .ref b), (1, .int z), (2, .int x), (3, .int (nI d))] (by decide) rfl dX5_pumpTakes_58 rfl ?_
  refine V_aload_n h 61 1 rfl dX5_pumpTakes_60 rfl ?_
  refine g_X5_16 h 64 (b := o2) hB.1 hB.2.2.1 dX5_pumpTakes_61 rfl ?_
  refine V_aload_n h 65 1 rfl dX5_pumpTakes_64 rfl ?_
  refine g_X5_10 h 68 (b := o) hB.1 hB.2.1 dX5_pumpTakes_65 rfl ?_
  have hF : ∀ a, (a < o2 ∨ o2 + 20 ≤ a) → D6 a = D a := fun a ha => by rw [hq6.1, days_outD (D := D5) (like_cW hq5 hI.1 hN2) ha, hq5.2.2.2.2.2.2.2.2.2.2 a ha]
  have hn : ∀ i, i < 10 → D6 (o2 + 6 + i) 0 = nI i := by rw [hq6.1]; exact (cW_days (q := (D5, m, k)) (like_cW hq5 hI.1 hN2) d).2.1
  refine CVV h 71 (As := [.ref o]) (c_oasisLike hL2 hL (by omega) (cI_blk hI (fun a h1 h2 => hF a (by omega))).1 (cI_lv (cI_blk hI (fun a h1 h2 => hF a (by omega))))) rfl (L_s0 hL2) qL_X5_179 qI_X2_becomeLike qS_X2_becomeLike qZ_X2 qC_X2_becomeLike hd_X2_becomeLike ⟨Nat.le_of_ble_eq_true rfl, Nat.le_of_ble_eq_true rfl⟩ (Nat.le_of_ble_eq_true rfl) rfl rfl dX5_pumpTakes_68 (Nat.zero_le _) (Nat.zero_le _) (fun D7 hq7 => ?_)
  have hV2 := like_lkV hq7 (fun a h1 h2 => hF a (by omega)) hn
  refine V_aload_n h 72 1 rfl dX5_pumpTakes_71 rfl ?_
  refine g_X5_16 h 75 (b := o2) hB.1 hB.2.2.1 dX5_pumpTakes_72 rfl ?_
  refine gN_X5_97 h 78 (b := o2 + 1) (L_s0 hL2) (L_p0 hL2) dX5_pumpTakes_75 rfl ?_
  refine V_iload_n h 79 2 rfl dX5_pumpTakes_78 rfl ?_
  refine pN_X5_118 h 82 (L_s1 hL2) dX5_pumpTakes_79 rfl ?_
  obtain ⟨D8, eD8⟩ : ∃ zz, zz = upd2 D7 (o2 + 1) 3 z := ⟨_, rfl⟩
  rw [← eD8]
  refine V_iload h 84 0 rfl dX5_pumpTakes_82 rfl ?_
  refine V_aload_n h 85 1 rfl dX5_pumpTakes_84 rfl ?_
  refine g_X5_16 h 88 (b := o2) hB.1 hB.2.2.1 dX5_pumpTakes_85 rfl ?_
  refine V_iload_n h 89 3 rfl dX5_pumpTakes_88 rfl ?_
  refine V_iload_n h 90 4 rfl dX5_pumpTakes_89 rfl ?_
  have hW2 : cW o2 L ρ m k D8 := by rw [eD8]; exact lk_days (like_cW hq7 (cI_blk hI (fun a h1 h2 => hF a (by omega))).1 hn)
  refine CVI h 93 (As := [.int x, .int (nI d)]) (c_days hL2 hW2 (d := d) (by omega) x) rfl (L_s0 hL2) qL_X5_142 qI_X2_letDaysGoBy qS_X2_letDaysGoBy qZ_X2 qC_X2_letDaysGoBy hd_X2_letDaysGoBy ⟨Nat.le_of_ble_eq_true rfl, Nat.le_of_ble_eq_true rfl⟩ (Nat.le_of_ble_eq_true rfl) rfl rfl dX5_pumpTakes_90 (Nat.zero_le _) (Nat.zero_le _) (fun r9 D9 hq9 => ?_)
  refine V_isub h 94 dX5_pumpTakes_93 rfl ?_
  exact V_iret h rfl hQ (Nat.zero_le _) (Nat.zero_le _) ⟨rfl, rfl, rfl, rfl, _, rfl, ⟨D5, D7, hV1, hV2, by rw [hq6.2, hq9.2, eD8], fun a ha => by rw [hq9.1, days_outD (D := D8) hW2 ha, eD8, upd2_ra (by omega), hq7.2.2.2.2.2.2.2.2.2.2 a ha]; exact hF a ha, by rw [hq9.1]; exact (cW_days (q := (D8, m, k)) hW2 d).2.1⟩⟩ dX5_pumpTakes_94
