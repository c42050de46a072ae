theorem lt_of0 {x : Int32} (h : ¬ x ≤ 0) : 0 < x := Int32.not_le.mp h
theorem payD_1 {o L : Nat} {ρ : Nat → Nat} {m k : Nat} {D : mDt} {x : Int32} (h : pOk o L ρ D) {a : Nat} (ha : a < o + 6) : payD o ρ L x D a = D a := by
  rw [payD, upd2_ra (by omega), mapD_row (Or.inl ha) (fun p hp => (h.2.2 p hp).1)]

theorem wP_M {x : Int32} {m : Nat} (h : wP x 0 (nI m - 1)) (hm : m ≤ 8) : ∃ i, i < m ∧ x = nI i := by
  rcases m with _ | m
  · exact absurd (Int32.le_trans h.1 h.2) (by decide)
  · have e1 : nI (m + 1) - 1 = nI m := by rw [← nI_1]; exact Int32.add_sub_cancel _ _
    rw [e1] at h
    obtain ⟨d, -, h2, h3⟩ := wP_N (a := 0) (b := m) h (by decide) (by omega)
    exact ⟨d, by omega, h3⟩

set_option maxRecDepth 100000 in
set_option maxHeartbeats 4000000 in
theorem c_dig {κ : mKp} (hst : κ.1.stackTraces = false) {n : Nat} {sh : mSh} {P : mPt} {D : mDt} {E : mEt} {b o o2 o3 : Nat} (hB : bLay b o o2 o3 sh P) {L e m k : Nat} {ρ : Nat → Nat} (hI : cI o L e ρ m k D) (x : Int32) : mXnI κ yX5_dig cX5_dig 3 (Option.some Jvm.ClassFile.FieldType.int) 7 109 2 12 [.ref b, .int x] n sh P D E (fun r D' => wP x 1 80 ∧ (D (o + 1) 1 + x ≤ 90 ∧ 0 < rsum (fun p => D (o + 6 + ρ p) 2) L) ∧ r = (5 + D (o + 1) 1 / 10) * x ∧ D' = upd2 (payD o ρ L ((5 + D (o + 1) 1 / 10) * x) D) (o + 1) 1 (D (o + 1) 1 + x)) (fun X => Kx True (wP x 1 80) (D (o + 1) 1 + x ≤ 90 ∧ 0 < rsum (fun p => D (o + 6 + ρ p) 2) L) X) := by
  refine mXMet_of hst (by decide) (Nat.le_of_ble_eq_true rfl) ?_
  intro Γ Q hQ h hX
  have h : mOk Γ κ RX5 cX5_dig 3 (Option.some Jvm.ClassFile.FieldType.int) { frames := 7, cells := 2, slots := 12, locals := 109 } := h
  have hL := hB.2.2.2.2.1
  have hL2 := hB.2.2.2.2.2.1
  have hL3 := hB.2.2.2.2.2.2.1
  show mV Γ Q 0 0 n sh P D E [(0, .ref b), (1, .int x)] [] 0
  refine V_iload_n h 1 1 rfl dX5_dig_0 rfl ?_
  refine V_iconst h 2 (v := 1) (by decide) dX5_dig_1 rfl ?_
  refine V_bipush h 4 (v := 80) (by decide) dX5_dig_2 rfl ?_
  refine CSI h 7 (As := [.int x, .int 1, .int 80]) (c_isWithin x 1 80) qL_X5_22 qT_X5_isWithin qZ_X5 qC_X5_isWithin hd_X5_isWithin ⟨Nat.le_of_ble_eq_true rfl, Nat.le_of_ble_eq_true rfl⟩ (Nat.le_of_ble_eq_true rfl) rfl rfl dX5_dig_4 (Nat.le_of_ble_eq_true rfl) (Nat.le_of_ble_eq_true rfl) (fun r1 D1 hq1 => ?_)
  rw [hq1.1, hq1.2]
  refine XSV h hX hQ 1 6 10 (As := [.int (wI x 1 80)]) (c_mustRight hst (wI x 1 80)) qL_X5_26 qT_X5_mustBeRight qZ_X5 qC_X5_mustBeRight hd_X5_mustBeRight ⟨Nat.le_of_ble_eq_true rfl, Nat.le_of_ble_eq_true rfl⟩ (Nat.le_of_ble_eq_true rfl) rfl rfl dX5_dig_7 ⟨Nat.le_of_ble_eq_true rfl, Nat.le_of_ble_eq_true rfl⟩ ⟨Nat.le_of_ble_eq_true rfl, Nat.le_of_ble_eq_true rfl⟩ rfl rfl (fun X9 hk => ⟨kA hk.1 trivial (fun q => wI_0 hk.2 q), rfl⟩) (fun D2 hq2 => ?_)
  rw [hq2.1]
  refine V_aload_n h 11 0 rfl dX5_dig_10 rfl ?_
  refine g_X5_10 h 14 (b := o) hB.1 hB.2.1 dX5_dig_11 rfl ?_
  refine gN_X5_97 h 17 (b := o + 1) (L_s0 hL) (L_p0 hL) dX5_dig_14 rfl ?_
  refine gN_X5_101 h 20 (L_s1 hL) dX5_dig_17 rfl ?_
  refine V_iload_n h 21 1 rfl dX5_dig_20 rfl ?_
  refine V_iadd h 22 dX5_dig_21 rfl ?_
  refine V_bipush h 24 (v := 90) (by decide) dX5_dig_22 rfl ?_
  refine V_icmp_gt h 44 27 dX5_dig_24 (by decide) rfl (fun c24 => ?_) (fun c24 => ?_)
  · skip
    refine V_iconst h 45 (v := 0) (by decide) dX5_dig_44 rfl ?_
    refine XSV h hX hQ 2 12 48 (As := [.int 0]) (c_mustPoss hst 0) qL_X5_44 qT_X5_mustBePossible qZ_X5 qC_X5_mustBePossible hd_X5_mustBePossible ⟨Nat.le_of_ble_eq_true rfl, Nat.le_of_ble_eq_true rfl⟩ (Nat.le_of_ble_eq_true rfl) rfl rfl dX5_dig_45 ⟨Nat.le_of_ble_eq_true rfl, Nat.le_of_ble_eq_true rfl⟩ ⟨Nat.le_of_ble_eq_true rfl, Nat.le_of_ble_eq_true rfl⟩ rfl rfl (fun X9 hk => ⟨kS hk.1 trivial (wI_1 hq2.2) (fun q => absurd q.1 (Int32.not_le.mpr c24)), rfl⟩) (fun D3 hq3 => ?_)
    exact absurd rfl hq3.2
  · skip
    refine V_aload_n h 28 0 rfl dX5_dig_27 rfl ?_
    refine g_X5_10 h 31 (b := o) hB.1 hB.2.1 dX5_dig_28 rfl ?_
    refine gN_X5_30 h 34 (b := o + 2) (L_s0 hL) (L_p1 hL) dX5_dig_31 rfl ?_
    refine CVI h 37 (As := []) (c_ownedBowls hL hI.1.1) rfl (L_s2 hL) qL_X5_106 qI_X4_ownedBowls qS_X4_ownedBowls qZ_X4 qC_X4_ownedBowls hd_X4_ownedBowls ⟨Nat.le_of_ble_eq_true rfl, Nat.le_of_ble_eq_true rfl⟩ (Nat.le_of_ble_eq_true rfl) rfl rfl dX5_dig_34 (Nat.le_of_ble_eq_true rfl) (Nat.le_of_ble_eq_true rfl) (fun r4 D4 hq4 => ?_)
    rw [hq4.1, hq4.2]
    refine V_if_le h 44 40 dX5_dig_37 (by decide) rfl (fun c37 => ?_) (fun c37 => ?_)
    · skip
      refine V_iconst h 45 (v := 0) (by decide) dX5_dig_44 rfl ?_
      refine XSV h hX hQ 2 12 48 (As := [.int 0]) (c_mustPoss hst 0) qL_X5_44 qT_X5_mustBePossible qZ_X5 qC_X5_mustBePossible hd_X5_mustBePossible ⟨Nat.le_of_ble_eq_true rfl, Nat.le_of_ble_eq_true rfl⟩ (Nat.le_of_ble_eq_true rfl) rfl rfl dX5_dig_45 ⟨Nat.le_of_ble_eq_true rfl, Nat.le_of_ble_eq_true rfl⟩ ⟨Nat.le_of_ble_eq_true rfl, Nat.le_of_ble_eq_true rfl⟩ rfl rfl (fun X9 hk => ⟨kS hk.1 trivial (wI_1 hq2.2) (fun q => absurd q.2 (Int32.not_lt.mpr c37)), rfl⟩) (fun D5 hq5 => ?_)
      exact absurd rfl hq5.2
    · skip
      refine V_iconst h 41 (v := 1) (by decide) dX5_dig_40 rfl ?_
      refine V_goto h 45 dX5_dig_41 (by decide) ?_
      refine XSV h hX hQ 2 12 48 (As := [.int 1]) (c_mustPoss hst 1) qL_X5_44 qT_X5_mustBePossible qZ_X5 qC_X5_mustBePossible hd_X5_mustBePossible ⟨Nat.le_of_ble_eq_true rfl, Nat.le_of_ble_eq_true rfl⟩ (Nat.le_of_ble_eq_true rfl) rfl rfl dX5_dig_45 ⟨Nat.le_of_ble_eq_true rfl, Nat.le_of_ble_eq_true rfl⟩ ⟨Nat.le_of_ble_eq_true rfl, Nat.le_of_ble_eq_true rfl⟩ rfl rfl (fun X9 hk => (absurd hk.2 (by decide))) (fun D6 hq6 => ?_)
      rw [hq6.1]
      refine V_iconst h 49 (v := 5) (by decide) dX5_dig_48 rfl ?_
      refine V_aload_n h 50 0 rfl dX5_dig_49 rfl ?_
      refine g_X5_10 h 53 (b := o) hB.1 hB.2.1 dX5_dig_50 rfl ?_
      refine gN_X5_97 h 56 (b := o + 1) (L_s0 hL) (L_p0 hL) dX5_dig_53 rfl ?_
      refine gN_X5_101 h 59 (L_s1 hL) dX5_dig_56 rfl ?_
      refine V_bipush h 61 (v := 10) (by decide) dX5_dig_59 rfl ?_
      refine V_idiv h 62 (by decide) dX5_dig_61 rfl ?_
      refine V_iadd h 63 dX5_dig_62 rfl ?_
      refine V_iload_n h 64 1 rfl dX5_dig_63 rfl ?_
      refine V_imul h 65 dX5_dig_64 rfl ?_
      refine V_istore_n h 66 [(2, .int ((5 + ((D (o + 1) 1) / 10)) * x)), (0, .ref b), (1, .int x)] (by decide) rfl dX5_dig_65 rfl ?_
      refine V_aload_n h 67 1 rfl dX5_dig_66 rfl ?_
      refine g_X5_10 h 70 (b := o) hB.1 hB.2.1 dX5_dig_67 rfl ?_
      refine gN_X5_30 h 73 (b := o + 2) (L_s0 hL) (L_p1 hL) dX5_dig_70 rfl ?_
      refine V_iload_n h 74 0 rfl dX5_dig_73 rfl ?_
      refine CVV h 77 (As := [.int ((5 + ((D (o + 1) 1) / 10)) * x)]) (c_shareCost hL hI.1.1 (lt_1 c37) ((5 + ((D (o + 1) 1) / 10)) * x)) rfl (L_s2 hL) qL_X5_109 qI_X4_shareCost qS_X4_shareCost qZ_X4 qC_X4_shareCost hd_X4_shareCost ⟨Nat.le_of_ble_eq_true rfl, Nat.le_of_ble_eq_true rfl⟩ (Nat.le_of_ble_eq_true rfl) rfl rfl dX5_dig_74 (Nat.le_of_ble_eq_true rfl) (Nat.le_of_ble_eq_true rfl) (fun D7 hq7 => ?_)
      refine V_aload_n h 78 1 rfl dX5_dig_77 rfl ?_
      refine g_X5_10 h 81 (b := o) hB.1 hB.2.1 dX5_dig_78 rfl ?_
      refine gN_X5_97 h 84 (b := o + 1) (L_s0 hL) (L_p0 hL) dX5_dig_81 rfl ?_
      refine V_dup h 85 rfl dX5_dig_84 rfl ?_
      refine gN_X5_101 h 88 (L_s1 hL) dX5_dig_85 rfl ?_
      refine V_top (y := D (o + 1) 1) (by rw [hq7, payD_1 (m := m) (k := k) hI.1.1 (by omega)]) ?_
      refine V_iload_n h 89 2 rfl dX5_dig_88 rfl ?_
      refine V_iadd h 90 dX5_dig_89 rfl ?_
      refine pN_X5_101 h 93 (L_s1 hL) dX5_dig_90 rfl ?_
      obtain ⟨D8, eD8⟩ : ∃ zz, zz = upd2 D7 (o + 1) 1 ((D (o + 1) 1) + x) := ⟨_, rfl⟩
      rw [← eD8]
      refine V_iload_n h 94 0 rfl dX5_dig_93 rfl ?_
      exact X_iret h rfl hQ (Nat.le_of_ble_eq_true rfl) (Nat.le_of_ble_eq_true rfl) ⟨rfl, rfl, rfl, rfl, _, rfl, ⟨(wI_1 hq2.2), ⟨Int32.not_lt.mp c24, lt_of0 c37⟩, rfl, by rw [eD8, hq7]⟩⟩ dX5_dig_94

set_option maxRecDepth 100000 in
set_option maxHeartbeats 4000000 in
theorem c_pump {κ : mKp} (hst : κ.1.stackTraces = false) {n : Nat} {sh : mSh} {P : mPt} {D : mDt} {E : mEt} {b o o2 o3 : Nat} (hB : bLay b o o2 o3 sh P) {L e m k : Nat} {ρ : Nat → Nat} (hI : cI o L e ρ m k D) (x : Int32) : mXnI κ yX5_pump cX5_pump 3 (Option.some Jvm.ClassFile.FieldType.int) 7 109 1 6 [.ref b, .int x] n sh P D E (fun r D' => wP x 0 20 ∧ r = D (o + 1) 3 ∧ D' = upd2 D (o + 1) 3 x) (fun X => Kx True (wP x 0 20) True X) := by
  refine mXMet_of hst (by decide) (Nat.le_of_ble_eq_true rfl) ?_
  intro Γ Q hQ h hX
  have h : mOk Γ κ RX5 cX5_pump 3 (Option.some Jvm.ClassFile.FieldType.int) { frames := 7, cells := 1, slots := 6, locals := 109 } := h
  have hL := hB.2.2.2.2.1
  have hL2 := hB.2.2.2.2.2.1
  have hL3 := hB.2.2.2.2.2.2.1
  show mV Γ Q 0 0 n sh P D E [(0, .ref b), (1, .int x)] [] 0
  refine V_iload_n h 1 1 rfl dX5_pump_0 rfl ?_
  refine V_iconst h 2 (v := 0) (by decide) dX5_pump_1 rfl ?_
  refine V_bipush h 4 (v := 20) (by decide) dX5_pump_2 rfl ?_
  refine CSI h 7 (As := [.int x, .int 0, .int 20]) (c_isWithin x 0 20) qL_X5_22 qT_X5_isWithin qZ_X5 qC_X5_isWithin hd_X5_isWithin ⟨Nat.le_of_ble_eq_true rfl, Nat.le_of_ble_eq_true rfl⟩ (Nat.le_of_ble_eq_true rfl) rfl rfl dX5_pump_4 (Nat.le_of_ble_eq_true rfl) (Nat.le_of_ble_eq_true rfl) (fun r1 D1 hq1 => ?_)
  rw [hq1.1, hq1.2]
  refine XSV h hX hQ 1 6 10 (As := [.int (wI x 0 20)]) (c_mustRight hst (wI x 0 20)) qL_X5_26 qT_X5_mustBeRight qZ_X5 qC_X5_mustBeRight hd_X5_mustBeRight ⟨Nat.le_of_ble_eq_true rfl, Nat.le_of_ble_eq_true rfl⟩ (Nat.le_of_ble_eq_true rfl) rfl rfl dX5_pump_7 ⟨Nat.le_of_ble_eq_true rfl, Nat.le_of_ble_eq_true rfl⟩ ⟨Nat.le_of_ble_eq_true rfl, Nat.le_of_ble_eq_true rfl⟩ rfl rfl (fun X9 hk => ⟨kA hk.1 trivial (fun q => wI_0 hk.2 q), rfl⟩) (fun D2 hq2 => ?_)
  rw [hq2.1]
  refine V_aload_n h 11 0 rfl dX5_pump_10 rfl ?_
  refine g_X5_10 h 14 (b := o) hB.1 hB.2.1 dX5_pump_11 rfl ?_
  refine gN_X5_97 h 17 (b := o + 1) (L_s0 hL) (L_p0 hL) dX5_pump_14 rfl ?_
  refine gN_X5_118 h 20 (L_s1 hL) dX5_pump_17 rfl ?_
  refine V_istore_n h 21 [(2, .int (D (o + 1) 3)), (0, .ref b), (1, .int x)] (by decide) rfl dX5_pump_20 rfl ?_
  refine V_aload_n h 22 1 rfl dX5_pump_21 rfl ?_
  refine g_X5_10 h 25 (b := o) hB.1 hB.2.1 dX5_pump_22 rfl ?_
  refine gN_X5_97 h 28 (b := o + 1) (L_s0 hL) (L_p0 hL) dX5_pump_25 rfl ?_
  refine V_iload_n h 29 2 rfl dX5_pump_28 rfl ?_
  refine pN_X5_118 h 32 (L_s1 hL) dX5_pump_29 rfl ?_
  obtain ⟨D3, eD3⟩ : ∃ zz, zz = upd2 D (o + 1) 3 x := ⟨_, rfl⟩
  rw [← eD3]
  refine V_iload_n h 33 0 rfl dX5_pump_32 rfl ?_
  exact X_iret h rfl hQ (Nat.le_of_ble_eq_true rfl) (Nat.le_of_ble_eq_true rfl) ⟨rfl, rfl, rfl, rfl, _, rfl, ⟨(wI_1 hq2.2), rfl, eD3⟩⟩ dX5_pump_33

set_option maxRecDepth 100000 in
set_option maxHeartbeats 4000000 in
theorem c_pollinate {κ : mKp} (hst : κ.1.stackTraces = false) {n : Nat} {sh : mSh} {P : mPt} {D : mDt} {E : mEt} {b o o2 o3 : Nat} (hB : bLay b o o2 o3 sh P) {L e m k : Nat} {ρ : Nat → Nat} (hI : cI o L e ρ m k D) (x w : Int32) : mXnI κ yX5_pollinate cX5_pollinate 5 (Option.some Jvm.ClassFile.FieldType.int) 8 130 2 12 [.ref b, .int x, .int w] n sh P D E (fun r D' => livP L ρ x ∧ wP w 1 200 ∧ (r = if rm70 (D o 4) ≤ 13 then if D (numb o x) 9 + w ≤ D (numb o x) 4 then if D (numb o x) 9 + w ≤ D (numb o x) 5 * 20 + D (numb o x) 10 then D (numb o x) 9 + w else -4 else -3 else -2) ∧ D' = if rm70 (D o 4) ≤ 13 then if D (numb o x) 9 + w ≤ D (numb o x) 4 then if D (numb o x) 9 + w ≤ D (numb o x) 5 * 20 + D (numb o x) 10 then upd2 D (numb o x) 9 (D (numb o x) 9 + w) else D else D else D) (fun X => Kx (livP L ρ x) (wP w 1 200) True X) := by
  refine mXMet_of hst (by decide) (Nat.le_of_ble_eq_true rfl) ?_
  intro Γ Q hQ h hX
  have h : mOk Γ κ RX5 cX5_pollinate 5 (Option.some Jvm.ClassFile.FieldType.int) { frames := 8, cells := 2, slots := 12, locals := 130 } := h
  have hL := hB.2.2.2.2.1
  have hL2 := hB.2.2.2.2.2.1
  have hL3 := hB.2.2.2.2.2.2.1
  show mV Γ Q 0 0 n sh P D E [(0, .ref b), (1, .int x), (2, .int w)] [] 0
  refine V_aload_n h 1 0 rfl dX5_pollinate_0 rfl ?_
  refine V_iload_n h 2 1 rfl dX5_pollinate_1 rfl ?_
  refine XVV h hX hQ 1 6 5 (As := [.int x]) (c_mustLive hst hB hI x) rfl hB.1 qL_X5_51 qI_X5_mustLive qS_X5_mustLive qZ_X5 qC_X5_mustLive hd_X5_mustLive ⟨Nat.le_of_ble_eq_true rfl, Nat.le_of_ble_eq_true rfl⟩ (Nat.le_of_ble_eq_true rfl) rfl rfl dX5_pollinate_2 ⟨Nat.le_of_ble_eq_true rfl, Nat.le_of_ble_eq_true rfl⟩ ⟨Nat.le_of_ble_eq_true rfl, Nat.le_of_ble_eq_true rfl⟩ rfl rfl (fun X9 hk => ⟨kI hk.1 (fun q => hk.2 q), rfl⟩) (fun D1 hq1 => ?_)
  rw [hq1.1]
  have hl_x := hq1.2
  refine V_iload_n h 6 2 rfl dX5_pollinate_5 rfl ?_
  refine V_iconst h 7 (v := 1) (by decide) dX5_pollinate_6 rfl ?_
  refine V_sipush h 10 (v := 200) (by decide) dX5_pollinate_7 rfl ?_
  refine CSI h 13 (As := [.int w, .int 1, .int 200]) (c_isWithin w 1 200) qL_X5_22 qT_X5_isWithin qZ_X5 qC_X5_isWithin hd_X5_isWithin ⟨Nat.le_of_ble_eq_true rfl, Nat.le_of_ble_eq_true rfl⟩ (Nat.le_of_ble_eq_true rfl) rfl rfl dX5_pollinate_10 (Nat.le_of_ble_eq_true rfl) (Nat.le_of_ble_eq_true rfl) (fun r2 D2 hq2 => ?_)
  rw [hq2.1, hq2.2]
  refine XSV h hX hQ 2 12 16 (As := [.int (wI w 1 200)]) (c_mustRight hst (wI w 1 200)) qL_X5_26 qT_X5_mustBeRight qZ_X5 qC_X5_mustBeRight hd_X5_mustBeRight ⟨Nat.le_of_ble_eq_true rfl, Nat.le_of_ble_eq_true rfl⟩ (Nat.le_of_ble_eq_true rfl) rfl rfl dX5_pollinate_13 ⟨Nat.le_of_ble_eq_true rfl, Nat.le_of_ble_eq_true rfl⟩ ⟨Nat.le_of_ble_eq_true rfl, Nat.le_of_ble_eq_true rfl⟩ rfl rfl (fun X9 hk => ⟨kA hk.1 hl_x (fun q => wI_0 hk.2 q), rfl⟩) (fun D3 hq3 => ?_)
  rw [hq3.1]
  refine V_aload_n h 17 0 rfl dX5_pollinate_16 rfl ?_
  refine g_X5_10 h 20 (b := o) hB.1 hB.2.1 dX5_pollinate_17 rfl ?_
  refine gN_X5_30 h 23 (b := o + 2) (L_s0 hL) (L_p1 hL) dX5_pollinate_20 rfl ?_
  refine V_iload_n h 24 1 rfl dX5_pollinate_23 rfl ?_
  refine CVR h 27 (As := [.int x]) (c_numbered hL x) rfl (L_s2 hL) qL_X5_55 qI_X4_numbered qS_X4_numbered qZ_X4 qC_X4_numbered hd_X4_numbered ⟨Nat.le_of_ble_eq_true rfl, Nat.le_of_ble_eq_true rfl⟩ (Nat.le_of_ble_eq_true rfl) rfl rfl dX5_pollinate_24 (Nat.le_of_ble_eq_true rfl) (Nat.le_of_ble_eq_true rfl) (fun r4 D4 hq4 => ?_)
  rw [hq4.1, hq4.2]
  refine V_astore_n h 28 [(3, .ref (numb o x)), (0, .ref b), (1, .int x), (2, .int w)] (by decide) rfl dX5_pollinate_27 rfl ?_
  refine V_aload_n h 29 0 rfl dX5_pollinate_28 rfl ?_
  refine gN_X5_121 h 32 (numb_sh hL) dX5_pollinate_29 rfl ?_
  refine V_iload_n h 33 3 rfl dX5_pollinate_32 rfl ?_
  refine V_iadd h 34 dX5_pollinate_33 rfl ?_
  refine V_istore h 36 [(4, .int ((D (numb o x) 9) + w)), (3, .ref (numb o x)), (0, .ref b), (1, .int x), (2, .int w)] (by decide) rfl dX5_pollinate_34 rfl ?_
  refine V_aload_n h 37 2 rfl dX5_pollinate_36 rfl ?_
  refine g_X5_10 h 40 (b := o) hB.1 hB.2.1 dX5_pollinate_37 rfl ?_
  refine CVI h 43 (As := []) (c_date hL) rfl (L_s0 hL) qL_X5_124 qI_X2_date qS_X2_date qZ_X2 qC_X2_date hd_X2_date ⟨Nat.le_of_ble_eq_true rfl, Nat.le_of_ble_eq_true rfl⟩ (Nat.le_of_ble_eq_true rfl) rfl rfl dX5_pollinate_40 (Nat.le_of_ble_eq_true rfl) (Nat.le_of_ble_eq_true rfl) (fun r5 D5 hq5 => ?_)
  rw [hq5.1, hq5.2]
  refine V_bipush h 45 (v := 13) (by decide) dX5_pollinate_43 rfl ?_
  refine V_icmp_le h 51 48 dX5_pollinate_45 (by decide) rfl (fun c45 => ?_) (fun c45 => ?_)
  · skip
    refine V_iload h 53 0 rfl dX5_pollinate_51 rfl ?_
    refine V_aload_n h 54 1 rfl dX5_pollinate_53 rfl ?_
    refine gN_X5_127 h 57 (numb_sh hL) dX5_pollinate_54 rfl ?_
    refine V_icmp_le h 63 60 dX5_pollinate_57 (by decide) rfl (fun c57 => ?_) (fun c57 => ?_)
    · skip
      refine V_iload h 65 0 rfl dX5_pollinate_63 rfl ?_
      refine V_aload_n h 66 1 rfl dX5_pollinate_65 rfl ?_
      refine CVI h 69 (As := []) (c_pollenPalms (numb_sh hL)) rfl (numb_sh hL) qL_X5_130 qI_X3_pollenPalms qS_X3_pollenPalms qZ_X3 qC_X3_pollenPalms hd_X3_pollenPalms ⟨Nat.le_of_ble_eq_true rfl, Nat.le_of_ble_eq_true rfl⟩ (Nat.le_of_ble_eq_true rfl) rfl rfl dX5_pollinate_66 (Nat.le_of_ble_eq_true rfl) (Nat.le_of_ble_eq_true rfl) (fun r6 D6 hq6 => ?_)
      rw [hq6.1, hq6.2]
      refine V_icmp_le h 75 72 dX5_pollinate_69 (by decide) rfl (fun c69 => ?_) (fun c69 => ?_)
      · skip
        refine V_aload_n h 76 1 rfl dX5_pollinate_75 rfl ?_
        refine V_iload h 78 0 rfl dX5_pollinate_76 rfl ?_
        refine pN_X5_121 h 81 (numb_sh hL) dX5_pollinate_78 rfl ?_
        obtain ⟨D7, eD7⟩ : ∃ zz, zz = upd2 D (numb o x) 9 ((D (numb o x) 9) + w) := ⟨_, rfl⟩
        rw [← eD7]
        refine V_iload h 83 0 rfl dX5_pollinate_81 rfl ?_
        exact X_iret h rfl hQ (Nat.le_of_ble_eq_true rfl) (Nat.le_of_ble_eq_true rfl) ⟨rfl, rfl, rfl, rfl, _, rfl, ⟨hl_x, (wI_1 hq3.2), (by rw [if_pos c45, if_pos c57, if_pos c69]), (by rw [if_pos c45, if_pos c57, if_pos c69]; exact eD7)⟩⟩ dX5_pollinate_83
      · skip
        refine V_bipush h 74 (v := (-4)) (by decide) dX5_pollinate_72 rfl ?_
        exact X_iret h rfl hQ (Nat.le_of_ble_eq_true rfl) (Nat.le_of_ble_eq_true rfl) ⟨rfl, rfl, rfl, rfl, _, rfl, ⟨hl_x, (wI_1 hq3.2), (by rw [if_pos c45, if_pos c57, if_neg c69]), (by rw [if_pos c45, if_pos c57, if_neg c69])⟩⟩ dX5_pollinate_74
    · skip
      refine V_bipush h 62 (v := (-3)) (by decide) dX5_pollinate_60 rfl ?_
      exact X_iret h rfl hQ (Nat.le_of_ble_eq_true rfl) (Nat.le_of_ble_eq_true rfl) ⟨rfl, rfl, rfl, rfl, _, rfl, ⟨hl_x, (wI_1 hq3.2), (by rw [if_pos c45, if_neg c57]), (by rw [if_pos c45, if_neg c57])⟩⟩ dX5_pollinate_62
  · skip
    refine V_bipush h 50 (v := (-2)) (by decide) dX5_pollinate_48 rfl ?_
    exact X_iret h rfl hQ (Nat.le_of_ble_eq_true rfl) (Nat.le_of_ble_eq_true rfl) ⟨rfl, rfl, rfl, rfl, _, rfl, ⟨hl_x, (wI_1 hq3.2), (by rw [if_neg c45]), (by rw [if_neg c45])⟩⟩ dX5_pollinate_50

set_option maxRecDepth 100000 in
set_option maxHeartbeats 4000000 in
theorem c_pass {κ : mKp} (hst : κ.1.stackTraces = false) {n : Nat} {sh : mSh} {P : mPt} {D : mDt} {E : mEt} {b o o2 o3 : Nat} (hB : bLay b o o2 o3 sh P) {L e m k : Nat} {ρ : Nat → Nat} (hI : cI o L e ρ m k D) (x w : Int32) : mXnI κ yX5_pass cX5_pass 3 (Option.some Jvm.ClassFile.FieldType.int) 7 147 2 12 [.ref b, .int x, .int w] n sh P D E (fun r D' => (wP x 0 99 ∧ wP w 1 70) ∧ D o 4 + w ≤ 2000 ∧ ∃ d, 1 ≤ d ∧ d ≤ 70 ∧ w = nI d ∧ r = daysS o ρ L x (D, m, k) d ∧ D' = (daysD o ρ L x (D, m, k) d).1) (fun X => Kx True (wP x 0 99 ∧ wP w 1 70) (D o 4 + w ≤ 2000) X) := by
  refine mXMet_of hst (by decide) (Nat.le_of_ble_eq_true rfl) ?_
  intro Γ Q hQ h hX
  have h : mOk Γ κ RX5 cX5_pass 3 (Option.some Jvm.ClassFile.FieldType.int) { frames := 7, cells := 2, slots := 12, locals := 147 } := h
  have hL := hB.2.2.2.2.1
  have hL2 := hB.2.2.2.2.2.1
  have hL3 := hB.2.2.2.2.2.2.1
  show mV Γ Q 0 0 n sh P D E [(0, .ref b), (1, .int x), (2, .int w)] [] 0
  refine V_iload_n h 1 1 rfl dX5_pass_0 rfl ?_
  refine V_iconst h 2 (v := 0) (by decide) dX5_pass_1 rfl ?_
  refine V_bipush h 4 (v := 99) (by decide) dX5_pass_2 rfl ?_
  refine CSI h 7 (As := [.int x, .int 0, .int 99]) (c_isWithin x 0 99) qL_X5_22 qT_X5_isWithin qZ_X5 qC_X5_isWithin hd_X5_isWithin ⟨Nat.le_of_ble_eq_true rfl, Nat.le_of_ble_eq_true rfl⟩ (Nat.le_of_ble_eq_true rfl) rfl rfl dX5_pass_4 (Nat.le_of_ble_eq_true rfl) (Nat.le_of_ble_eq_true rfl) (fun r1 D1 hq1 => ?_)
  rw [hq1.1, hq1.2]
  refine V_if_eq h 24 10 dX5_pass_7 (by decide) rfl (fun c7 => ?_) (fun c7 => ?_)
  · skip
    refine V_iconst h 25 (v := 0) (by decide) dX5_pass_24 rfl ?_
    refine XSV h hX hQ 1 6 28 (As := [.int 0]) (c_mustRight hst 0) qL_X5_26 qT_X5_mustBeRight qZ_X5 qC_X5_mustBeRight hd_X5_mustBeRight ⟨Nat.le_of_ble_eq_true rfl, Nat.le_of_ble_eq_true rfl⟩ (Nat.le_of_ble_eq_true rfl) rfl rfl dX5_pass_25 ⟨Nat.le_of_ble_eq_true rfl, Nat.le_of_ble_eq_true rfl⟩ ⟨Nat.le_of_ble_eq_true rfl, Nat.le_of_ble_eq_true rfl⟩ rfl rfl (fun X9 hk => ⟨kA hk.1 trivial (fun q => wI_0 c7 q.1), rfl⟩) (fun D2 hq2 => ?_)
    exact absurd rfl hq2.2
  · skip
    refine V_iload_n h 11 2 rfl dX5_pass_10 rfl ?_
    refine V_iconst h 12 (v := 1) (by decide) dX5_pass_11 rfl ?_
    refine V_bipush h 14 (v := 70) (by decide) dX5_pass_12 rfl ?_
    refine CSI h 17 (As := [.int w, .int 1, .int 70]) (c_isWithin w 1 70) qL_X5_22 qT_X5_isWithin qZ_X5 qC_X5_isWithin hd_X5_isWithin ⟨Nat.le_of_ble_eq_true rfl, Nat.le_of_ble_eq_true rfl⟩ (Nat.le_of_ble_eq_true rfl) rfl rfl dX5_pass_14 (Nat.le_of_ble_eq_true rfl) (Nat.le_of_ble_eq_true rfl) (fun r3 D3 hq3 => ?_)
    rw [hq3.1, hq3.2]
    refine V_if_eq h 24 20 dX5_pass_17 (by decide) rfl (fun c17 => ?_) (fun c17 => ?_)
    · skip
      refine V_iconst h 25 (v := 0) (by decide) dX5_pass_24 rfl ?_
      refine XSV h hX hQ 1 6 28 (As := [.int 0]) (c_mustRight hst 0) qL_X5_26 qT_X5_mustBeRight qZ_X5 qC_X5_mustBeRight hd_X5_mustBeRight ⟨Nat.le_of_ble_eq_true rfl, Nat.le_of_ble_eq_true rfl⟩ (Nat.le_of_ble_eq_true rfl) rfl rfl dX5_pass_25 ⟨Nat.le_of_ble_eq_true rfl, Nat.le_of_ble_eq_true rfl⟩ ⟨Nat.le_of_ble_eq_true rfl, Nat.le_of_ble_eq_true rfl⟩ rfl rfl (fun X9 hk => ⟨kA hk.1 trivial (fun q => wI_0 c17 q.2), rfl⟩) (fun D4 hq4 => ?_)
      exact absurd rfl hq4.2
    · skip
      refine V_iconst h 21 (v := 1) (by decide) dX5_pass_20 rfl ?_
      refine V_goto h 25 dX5_pass_21 (by decide) ?_
      refine XSV h hX hQ 1 6 28 (As := [.int 1]) (c_mustRight hst 1) qL_X5_26 qT_X5_mustBeRight qZ_X5 qC_X5_mustBeRight hd_X5_mustBeRight ⟨Nat.le_of_ble_eq_true rfl, Nat.le_of_ble_eq_true rfl⟩ (Nat.le_of_ble_eq_true rfl) rfl rfl dX5_pass_25 ⟨Nat.le_of_ble_eq_true rfl, Nat.le_of_ble_eq_true rfl⟩ ⟨Nat.le_of_ble_eq_true rfl, Nat.le_of_ble_eq_true rfl⟩ rfl rfl (fun X9 hk => (absurd hk.2 (by decide))) (fun D5 hq5 => ?_)
      rw [hq5.1]
      refine V_aload_n h 29 0 rfl dX5_pass_28 rfl ?_
      refine g_X5_10 h 32 (b := o) hB.1 hB.2.1 dX5_pass_29 rfl ?_
      refine gN_X5_139 h 35 (L_s0 hL) dX5_pass_32 rfl ?_
      refine V_iload_n h 36 2 rfl dX5_pass_35 rfl ?_
      refine V_iadd h 37 dX5_pass_36 rfl ?_
      refine V_sipush h 40 (v := 2000) (by decide) dX5_pass_37 rfl ?_
      refine V_icmp_gt h 47 43 dX5_pass_40 (by decide) rfl (fun c40 => ?_) (fun c40 => ?_)
      · skip
        refine V_iconst h 48 (v := 0) (by decide) dX5_pass_47 rfl ?_
        refine XSV h hX hQ 2 12 51 (As := [.int 0]) (c_mustPoss hst 0) qL_X5_44 qT_X5_mustBePossible qZ_X5 qC_X5_mustBePossible hd_X5_mustBePossible ⟨Nat.le_of_ble_eq_true rfl, Nat.le_of_ble_eq_true rfl⟩ (Nat.le_of_ble_eq_true rfl) rfl rfl dX5_pass_48 ⟨Nat.le_of_ble_eq_true rfl, Nat.le_of_ble_eq_true rfl⟩ ⟨Nat.le_of_ble_eq_true rfl, Nat.le_of_ble_eq_true rfl⟩ rfl rfl (fun X9 hk => ⟨kS hk.1 trivial (⟨wI_1 c7, wI_1 c17⟩) (fun q => absurd q (Int32.not_le.mpr c40)), rfl⟩) (fun D6 hq6 => ?_)
        exact absurd rfl hq6.2
      · skip
        refine V_iconst h 44 (v := 1) (by decide) dX5_pass_43 rfl ?_
        refine V_goto h 48 dX5_pass_44 (by decide) ?_
        refine XSV h hX hQ 2 12 51 (As := [.int 1]) (c_mustPoss hst 1) qL_X5_44 qT_X5_mustBePossible qZ_X5 qC_X5_mustBePossible hd_X5_mustBePossible ⟨Nat.le_of_ble_eq_true rfl, Nat.le_of_ble_eq_true rfl⟩ (Nat.le_of_ble_eq_true rfl) rfl rfl dX5_pass_48 ⟨Nat.le_of_ble_eq_true rfl, Nat.le_of_ble_eq_true rfl⟩ ⟨Nat.le_of_ble_eq_true rfl, Nat.le_of_ble_eq_true rfl⟩ rfl rfl (fun X9 hk => (absurd hk.2 (by decide))) (fun D7 hq7 => ?_)
        rw [hq7.1]
        obtain ⟨d, hd1, hd, ed⟩ := wP_N (a := 1) (b := 70) (wI_1 c17) (by decide) (by decide)
        subst ed
        refine V_aload_n h 52 0 rfl dX5_pass_51 rfl ?_
        refine g_X5_10 h 55 (b := o) hB.1 hB.2.1 dX5_pass_52 rfl ?_
        refine V_iload_n h 56 1 rfl dX5_pass_55 rfl ?_
        refine V_iload_n h 57 2 rfl dX5_pass_56 rfl ?_
        refine CVI h 60 (As := [.int x, .int (nI d)]) (c_days hL hI.1 (d := d) (by omega) x) rfl (L_s0 hL) qL_X5_142 qI_X2_letDaysGoBy qS_X2_letDaysGoBy qZ_X2 qC_X2_letDaysGoBy hd_X2_letDaysGoBy ⟨Nat.le_of_ble_eq_true rfl, Nat.le_of_ble_eq_true rfl⟩ (Nat.le_of_ble_eq_true rfl) rfl rfl dX5_pass_57 (Nat.le_of_ble_eq_true rfl) (Nat.le_of_ble_eq_true rfl) (fun r8 D8 hq8 => ?_)
        exact X_iret h rfl hQ (Nat.le_of_ble_eq_true rfl) (Nat.le_of_ble_eq_true rfl) ⟨rfl, rfl, rfl, rfl, _, rfl, ⟨⟨wI_1 c7, wI_1 c17⟩, Int32.not_lt.mp c40, d, hd1, hd, rfl, hq8.2, hq8.1⟩⟩ dX5_pass_60

set_option maxRecDepth 100000 in
set_option maxHeartbeats 4000000 in
theorem c_of {κ : mKp} (hst : κ.1.stackTraces = false) {n : Nat} {sh : mSh} {P : mPt} {D : mDt} {E : mEt} {b o o2 o3 : Nat} (hB : bLay b o o2 o3 sh P) {L e m k : Nat} {ρ : Nat → Nat} (hI : cI o L e ρ m k D) (x w : Int32) : mXnI κ yX5_of cX5_of 3 (Option.some Jvm.ClassFile.FieldType.int) 8 130 2 12 [.ref b, .int x, .int w] n sh P D E (fun r D' => livP L ρ x ∧ wP w 0 13 ∧ D' = D ∧ ∃ q w1, q < L ∧ x = nI (ρ q) ∧ w1 ≤ 13 ∧ w = nI w1 ∧ r = askO o ρ q m D w1) (fun X => Kx (livP L ρ x) (wP w 0 13) True X) := by
  refine mXMet_of hst (by decide) (Nat.le_of_ble_eq_true rfl) ?_
  intro Γ Q hQ h hX
  have h : mOk Γ κ RX5 cX5_of 3 (Option.some Jvm.ClassFile.FieldType.int) { frames := 8, cells := 2, slots := 12, locals := 130 } := h
  have hL := hB.2.2.2.2.1
  have hL2 := hB.2.2.2.2.2.1
  have hL3 := hB.2.2.2.2.2.2.1
  show mV Γ Q 0 0 n sh P D E [(0, .ref b), (1, .int x), (2, .int w)] [] 0
  refine V_aload_n h 1 0 rfl dX5_of_0 rfl ?_
  refine V_iload_n h 2 1 rfl dX5_of_1 rfl ?_
  refine XVV h hX hQ 1 6 5 (As := [.int x]) (c_mustLive hst hB hI x) rfl hB.1 qL_X5_51 qI_X5_mustLive qS_X5_mustLive qZ_X5 qC_X5_mustLive hd_X5_mustLive ⟨Nat.le_of_ble_eq_true rfl, Nat.le_of_ble_eq_true rfl⟩ (Nat.le_of_ble_eq_true rfl) rfl rfl dX5_of_2 ⟨Nat.le_of_ble_eq_true rfl, Nat.le_of_ble_eq_true rfl⟩ ⟨Nat.le_of_ble_eq_true rfl, Nat.le_of_ble_eq_true rfl⟩ rfl rfl (fun X9 hk => ⟨kI hk.1 (fun q => hk.2 q), rfl⟩) (fun D1 hq1 => ?_)
  rw [hq1.1]
  have hl_x := hq1.2
  refine V_iload_n h 6 2 rfl dX5_of_5 rfl ?_
  refine V_iconst h 7 (v := 0) (by decide) dX5_of_6 rfl ?_
  refine V_bipush h 9 (v := 13) (by decide) dX5_of_7 rfl ?_
  refine CSI h 12 (As := [.int w, .int 0, .int 13]) (c_isWithin w 0 13) qL_X5_22 qT_X5_isWithin qZ_X5 qC_X5_isWithin hd_X5_isWithin ⟨Nat.le_of_ble_eq_true rfl, Nat.le_of_ble_eq_true rfl⟩ (Nat.le_of_ble_eq_true rfl) rfl rfl dX5_of_9 (Nat.le_of_ble_eq_true rfl) (Nat.le_of_ble_eq_true rfl) (fun r2 D2 hq2 => ?_)
  rw [hq2.1, hq2.2]
  refine XSV h hX hQ 2 12 15 (As := [.int (wI w 0 13)]) (c_mustRight hst (wI w 0 13)) qL_X5_26 qT_X5_mustBeRight qZ_X5 qC_X5_mustBeRight hd_X5_mustBeRight ⟨Nat.le_of_ble_eq_true rfl, Nat.le_of_ble_eq_true rfl⟩ (Nat.le_of_ble_eq_true rfl) rfl rfl dX5_of_12 ⟨Nat.le_of_ble_eq_true rfl, Nat.le_of_ble_eq_true rfl⟩ ⟨Nat.le_of_ble_eq_true rfl, Nat.le_of_ble_eq_true rfl⟩ rfl rfl (fun X9 hk => ⟨kA hk.1 hl_x (fun q => wI_0 hk.2 q), rfl⟩) (fun D3 hq3 => ?_)
  rw [hq3.1]
  obtain ⟨w1, -, hw, ew⟩ := wP_N (a := 0) (b := 13) (wI_1 hq3.2) (by decide) (by decide)
  obtain ⟨q, hq, h10, ex, eq⟩ := liv_rng hI hl_x
  subst ew
  subst ex
  refine V_aload_n h 16 0 rfl dX5_of_15 rfl ?_
  refine g_X5_10 h 19 (b := o) hB.1 hB.2.1 dX5_of_16 rfl ?_
  refine V_aload_n h 20 0 rfl dX5_of_19 rfl ?_
  refine g_X5_10 h 23 (b := o) hB.1 hB.2.1 dX5_of_20 rfl ?_
  refine gN_X5_30 h 26 (b := o + 2) (L_s0 hL) (L_p1 hL) dX5_of_23 rfl ?_
  refine V_iload_n h 27 1 rfl dX5_of_26 rfl ?_
  refine CVR h 30 (As := [.int (nI (ρ q))]) (c_numb hL (i := (ρ q)) (hI.1.1.2.2 q hq).1) rfl (L_s2 hL) qL_X5_55 qI_X4_numbered qS_X4_numbered qZ_X4 qC_X4_numbered hd_X4_numbered ⟨Nat.le_of_ble_eq_true rfl, Nat.le_of_ble_eq_true rfl⟩ (Nat.le_of_ble_eq_true rfl) rfl rfl dX5_of_27 (Nat.le_of_ble_eq_true rfl) (Nat.le_of_ble_eq_true rfl) (fun r4 D4 hq4 => ?_)
  rw [hq4.1, hq4.2]
  refine V_iload_n h 31 2 rfl dX5_of_30 rfl ?_
  refine CVI h 34 (As := [.ref (o + 6 + (ρ q)), .int (nI w1)]) (c_askOwner hL hI.1 hq (fun p hp => hI.2.2.2.2.1 p q hp hq) (w := w1) (by omega)) rfl (L_s0 hL) qL_X5_146 qI_X2_askOwner qS_X2_askOwner qZ_X2 qC_X2_askOwner hd_X2_askOwner ⟨Nat.le_of_ble_eq_true rfl, Nat.le_of_ble_eq_true rfl⟩ (Nat.le_of_ble_eq_true rfl) rfl rfl dX5_of_31 (Nat.le_of_ble_eq_true rfl) (Nat.le_of_ble_eq_true rfl) (fun r5 D5 hq5 => ?_)
  rw [hq5.1, hq5.2]
  exact X_iret h rfl hQ (Nat.le_of_ble_eq_true rfl) (Nat.le_of_ble_eq_true rfl) ⟨rfl, rfl, rfl, rfl, _, rfl, ⟨hl_x, wI_1 hq3.2, rfl, q, w1, hq, rfl, hw, rfl, rfl⟩⟩ dX5_of_34

set_option maxRecDepth 100000 in
set_option maxHeartbeats 4000000 in
theorem c_ofBowl {κ : mKp} (hst : κ.1.stackTraces = false) {n : Nat} {sh : mSh} {P : mPt} {D : mDt} {E : mEt} {b o o2 o3 : Nat} (hB : bLay b o o2 o3 sh P) {L e m k : Nat} {ρ : Nat → Nat} (hI : cI o L e ρ m k D) (x w : Int32) : mXnI κ yX5_ofBowl cX5_ofBowl 3 (Option.some Jvm.ClassFile.FieldType.int) 7 109 2 12 [.ref b, .int x, .int w] n sh P D E (fun r D' => wP x 0 5039 ∧ wP w 0 1 ∧ (r = if w = 0 then holdI (fun p => D (o + 6 + ρ p) 2) ρ x L else userI (fun p => D (o + 6 + ρ p) 2) ρ (D (o + 17)) m x L) ∧ D' = D) (fun X => Kx (wP x 0 5039) (wP w 0 1) True X) := by
  refine mXMet_of hst (by decide) (Nat.le_of_ble_eq_true rfl) ?_
  intro Γ Q hQ h hX
  have h : mOk Γ κ RX5 cX5_ofBowl 3 (Option.some Jvm.ClassFile.FieldType.int) { frames := 7, cells := 2, slots := 12, locals := 109 } := h
  have hL := hB.2.2.2.2.1
  have hL2 := hB.2.2.2.2.2.1
  have hL3 := hB.2.2.2.2.2.2.1
  show mV Γ Q 0 0 n sh P D E [(0, .ref b), (1, .int x), (2, .int w)] [] 0
  refine V_iload_n h 1 1 rfl dX5_ofBowl_0 rfl ?_
  refine V_iconst h 2 (v := 0) (by decide) dX5_ofBowl_1 rfl ?_
  refine V_sipush h 5 (v := 5039) (by decide) dX5_ofBowl_2 rfl ?_
  refine CSI h 8 (As := [.int x, .int 0, .int 5039]) (c_isWithin x 0 5039) qL_X5_22 qT_X5_isWithin qZ_X5 qC_X5_isWithin hd_X5_isWithin ⟨Nat.le_of_ble_eq_true rfl, Nat.le_of_ble_eq_true rfl⟩ (Nat.le_of_ble_eq_true rfl) rfl rfl dX5_ofBowl_5 (Nat.le_of_ble_eq_true rfl) (Nat.le_of_ble_eq_true rfl) (fun r1 D1 hq1 => ?_)
  rw [hq1.1, hq1.2]
  refine XSV h hX hQ 1 6 11 (As := [.int (wI x 0 5039)]) (c_mustExist hst (wI x 0 5039)) qL_X5_150 qT_X5_mustExist qZ_X5 qC_X5_mustExist hd_X5_mustExist ⟨Nat.le_of_ble_eq_true rfl, Nat.le_of_ble_eq_true rfl⟩ (Nat.le_of_ble_eq_true rfl) rfl rfl dX5_ofBowl_8 ⟨Nat.le_of_ble_eq_true rfl, Nat.le_of_ble_eq_true rfl⟩ ⟨Nat.le_of_ble_eq_true rfl, Nat.le_of_ble_eq_true rfl⟩ rfl rfl (fun X9 hk => ⟨kI hk.1 (fun q => wI_0 hk.2 q), rfl⟩) (fun D2 hq2 => ?_)
  rw [hq2.1]
  refine V_iload_n h 12 2 rfl dX5_ofBowl_11 rfl ?_
  refine V_iconst h 13 (v := 0) (by decide) dX5_ofBowl_12 rfl ?_
  refine V_iconst h 14 (v := 1) (by decide) dX5_ofBowl_13 rfl ?_
  refine CSI h 17 (As := [.int w, .int 0, .int 1]) (c_isWithin w 0 1) qL_X5_22 qT_X5_isWithin qZ_X5 qC_X5_isWithin hd_X5_isWithin ⟨Nat.le_of_ble_eq_true rfl, Nat.le_of_ble_eq_true rfl⟩ (Nat.le_of_ble_eq_true rfl) rfl rfl dX5_ofBowl_14 (Nat.le_of_ble_eq_true rfl) (Nat.le_of_ble_eq_true rfl) (fun r3 D3 hq3 => ?_)
  rw [hq3.1, hq3.2]
  refine XSV h hX hQ 2 12 20 (As := [.int (wI w 0 1)]) (c_mustRight hst (wI w 0 1)) qL_X5_26 qT_X5_mustBeRight qZ_X5 qC_X5_mustBeRight hd_X5_mustBeRight ⟨Nat.le_of_ble_eq_true rfl, Nat.le_of_ble_eq_true rfl⟩ (Nat.le_of_ble_eq_true rfl) rfl rfl dX5_ofBowl_17 ⟨Nat.le_of_ble_eq_true rfl, Nat.le_of_ble_eq_true rfl⟩ ⟨Nat.le_of_ble_eq_true rfl, Nat.le_of_ble_eq_true rfl⟩ rfl rfl (fun X9 hk => ⟨kA hk.1 (wI_1 hq2.2) (fun q => wI_0 hk.2 q), rfl⟩) (fun D4 hq4 => ?_)
  rw [hq4.1]
  refine V_iload_n h 21 2 rfl dX5_ofBowl_20 rfl ?_
  refine V_if_ne h 38 24 dX5_ofBowl_21 (by decide) rfl (fun c21 => ?_) (fun c21 => ?_)
  · skip
    refine V_aload_n h 39 0 rfl dX5_ofBowl_38 rfl ?_
    refine g_X5_10 h 42 (b := o) hB.1 hB.2.1 dX5_ofBowl_39 rfl ?_
    refine V_iload_n h 43 1 rfl dX5_ofBowl_42 rfl ?_
    refine CVI h 46 (As := [.int x]) (c_userOf hL hI.1 hI.2.2.2.2.1 x) rfl (L_s0 hL) qL_X5_157 qI_X2_userOf qS_X2_userOf qZ_X2 qC_X2_userOf hd_X2_userOf ⟨Nat.le_of_ble_eq_true rfl, Nat.le_of_ble_eq_true rfl⟩ (Nat.le_of_ble_eq_true rfl) rfl rfl dX5_ofBowl_43 (Nat.le_of_ble_eq_true rfl) (Nat.le_of_ble_eq_true rfl) (fun r5 D5 hq5 => ?_)
    rw [hq5.1, hq5.2]
    exact X_iret h rfl hQ (Nat.le_of_ble_eq_true rfl) (Nat.le_of_ble_eq_true rfl) ⟨rfl, rfl, rfl, rfl, _, rfl, ⟨(wI_1 hq2.2), (wI_1 hq4.2), (by rw [if_neg c21]), rfl⟩⟩ dX5_ofBowl_46
  · skip
    refine V_aload_n h 25 0 rfl dX5_ofBowl_24 rfl ?_
    refine g_X5_10 h 28 (b := o) hB.1 hB.2.1 dX5_ofBowl_25 rfl ?_
    refine gN_X5_30 h 31 (b := o + 2) (L_s0 hL) (L_p1 hL) dX5_ofBowl_28 rfl ?_
    refine V_iload_n h 32 1 rfl dX5_ofBowl_31 rfl ?_
    refine CVI h 35 (As := [.int x]) (c_holderOf hL hI.1.1 hI.1.2.1 x) rfl (L_s2 hL) qL_X5_153 qI_X4_holderOf qS_X4_holderOf qZ_X4 qC_X4_holderOf hd_X4_holderOf ⟨Nat.le_of_ble_eq_true rfl, Nat.le_of_ble_eq_true rfl⟩ (Nat.le_of_ble_eq_true rfl) rfl rfl dX5_ofBowl_32 (Nat.le_of_ble_eq_true rfl) (Nat.le_of_ble_eq_true rfl) (fun r6 D6 hq6 => ?_)
    rw [hq6.1, hq6.2]
    refine V_goto h 46 dX5_ofBowl_35 (by decide) ?_
    exact X_iret h rfl hQ (Nat.le_of_ble_eq_true rfl) (Nat.le_of_ble_eq_true rfl) ⟨rfl, rfl, rfl, rfl, _, rfl, ⟨(wI_1 hq2.2), (wI_1 hq4.2), (by rw [if_pos c21]), rfl⟩⟩ dX5_ofBowl_46

set_option maxRecDepth 100000 in
set_option maxHeartbeats 4000000 in
theorem c_ofLoan {κ : mKp} (hst : κ.1.stackTraces = false) {n : Nat} {sh : mSh} {P : mPt} {D : mDt} {E : mEt} {b o o2 o3 : Nat} (hB : bLay b o o2 o3 sh P) {L e m k : Nat} {ρ : Nat → Nat} (hI : cI o L e ρ m k D) (x w : Int32) : mXnI κ yX5_ofLoan cX5_ofLoan 3 (Option.some Jvm.ClassFile.FieldType.int) 7 109 2 12 [.ref b, .int x, .int w] n sh P D E (fun r D' => wP x 0 (nI m - 1) ∧ wP w 0 3 ∧ (∃ i j, i < m ∧ j ≤ 3 ∧ x = nI i ∧ w = nI j ∧ r = D (o + 17) (i * 4 + j)) ∧ D' = D) (fun X => Kx (wP x 0 (nI m - 1)) (wP w 0 3) True X) := by
  refine mXMet_of hst (by decide) (Nat.le_of_ble_eq_true rfl) ?_
  intro Γ Q hQ h hX
  have h : mOk Γ κ RX5 cX5_ofLoan 3 (Option.some Jvm.ClassFile.FieldType.int) { frames := 7, cells := 2, slots := 12, locals := 109 } := h
  have hL := hB.2.2.2.2.1
  have hL2 := hB.2.2.2.2.2.1
  have hL3 := hB.2.2.2.2.2.2.1
  show mV Γ Q 0 0 n sh P D E [(0, .ref b), (1, .int x), (2, .int w)] [] 0
  refine V_iload_n h 1 1 rfl dX5_ofLoan_0 rfl ?_
  refine V_iconst h 2 (v := 0) (by decide) dX5_ofLoan_1 rfl ?_
  refine V_aload_n h 3 0 rfl dX5_ofLoan_2 rfl ?_
  refine g_X5_10 h 6 (b := o) hB.1 hB.2.1 dX5_ofLoan_3 rfl ?_
  refine gN_X5_76 h 9 (b := o + 16) (L_s0 hL) (L_p2 hL) dX5_ofLoan_6 rfl ?_
  refine CVI h 12 (As := []) (c_dcount (L_s16 hL)) rfl (L_s16 hL) qL_X5_90 qI_X1_count qS_X1_count qZ_X1 qC_X1_count hd_X1_count ⟨Nat.le_of_ble_eq_true rfl, Nat.le_of_ble_eq_true rfl⟩ (Nat.le_of_ble_eq_true rfl) rfl rfl dX5_ofLoan_9 (Nat.le_of_ble_eq_true rfl) (Nat.le_of_ble_eq_true rfl) (fun r1 D1 hq1 => ?_)
  rw [hq1.1, hq1.2]
  refine V_top (y := nI m) hI.1.2.2.1 ?_
  refine V_iconst h 13 (v := 1) (by decide) dX5_ofLoan_12 rfl ?_
  refine V_isub h 14 dX5_ofLoan_13 rfl ?_
  refine CSI h 17 (As := [.int x, .int 0, .int ((nI m) - 1)]) (c_isWithin x 0 ((nI m) - 1)) qL_X5_22 qT_X5_isWithin qZ_X5 qC_X5_isWithin hd_X5_isWithin ⟨Nat.le_of_ble_eq_true rfl, Nat.le_of_ble_eq_true rfl⟩ (Nat.le_of_ble_eq_true rfl) rfl rfl dX5_ofLoan_14 (Nat.le_of_ble_eq_true rfl) (Nat.le_of_ble_eq_true rfl) (fun r2 D2 hq2 => ?_)
  rw [hq2.1, hq2.2]
  refine XSV h hX hQ 1 6 20 (As := [.int (wI x 0 ((nI m) - 1))]) (c_mustExist hst (wI x 0 ((nI m) - 1))) qL_X5_150 qT_X5_mustExist qZ_X5 qC_X5_mustExist hd_X5_mustExist ⟨Nat.le_of_ble_eq_true rfl, Nat.le_of_ble_eq_true rfl⟩ (Nat.le_of_ble_eq_true rfl) rfl rfl dX5_ofLoan_17 ⟨Nat.le_of_ble_eq_true rfl, Nat.le_of_ble_eq_true rfl⟩ ⟨Nat.le_of_ble_eq_true rfl, Nat.le_of_ble_eq_true rfl⟩ rfl rfl (fun X9 hk => ⟨kI hk.1 (fun q => wI_0 hk.2 q), rfl⟩) (fun D3 hq3 => ?_)
  rw [hq3.1]
  refine V_iload_n h 21 2 rfl dX5_ofLoan_20 rfl ?_
  refine V_iconst h 22 (v := 0) (by decide) dX5_ofLoan_21 rfl ?_
  refine V_iconst h 23 (v := 3) (by decide) dX5_ofLoan_22 rfl ?_
  refine CSI h 26 (As := [.int w, .int 0, .int 3]) (c_isWithin w 0 3) qL_X5_22 qT_X5_isWithin qZ_X5 qC_X5_isWithin hd_X5_isWithin ⟨Nat.le_of_ble_eq_true rfl, Nat.le_of_ble_eq_true rfl⟩ (Nat.le_of_ble_eq_true rfl) rfl rfl dX5_ofLoan_23 (Nat.le_of_ble_eq_true rfl) (Nat.le_of_ble_eq_true rfl) (fun r4 D4 hq4 => ?_)
  rw [hq4.1, hq4.2]
  refine XSV h hX hQ 2 12 29 (As := [.int (wI w 0 3)]) (c_mustRight hst (wI w 0 3)) qL_X5_26 qT_X5_mustBeRight qZ_X5 qC_X5_mustBeRight hd_X5_mustBeRight ⟨Nat.le_of_ble_eq_true rfl, Nat.le_of_ble_eq_true rfl⟩ (Nat.le_of_ble_eq_true rfl) rfl rfl dX5_ofLoan_26 ⟨Nat.le_of_ble_eq_true rfl, Nat.le_of_ble_eq_true rfl⟩ ⟨Nat.le_of_ble_eq_true rfl, Nat.le_of_ble_eq_true rfl⟩ rfl rfl (fun X9 hk => ⟨kA hk.1 (wI_1 hq3.2) (fun q => wI_0 hk.2 q), rfl⟩) (fun D5 hq5 => ?_)
  rw [hq5.1]
  have h8 := hI.1.2.2.2.1.1
  obtain ⟨i, hi, ei⟩ := wP_M (wI_1 hq3.2) h8
  obtain ⟨j, -, hj, ej⟩ := wP_N (a := 0) (b := 3) (wI_1 hq5.2) (by decide) (by decide)
  refine V_aload_n h 30 0 rfl dX5_ofLoan_29 rfl ?_
  refine g_X5_10 h 33 (b := o) hB.1 hB.2.1 dX5_ofLoan_30 rfl ?_
  refine gN_X5_76 h 36 (b := o + 16) (L_s0 hL) (L_p2 hL) dX5_ofLoan_33 rfl ?_
  refine V_iload_n h 37 1 rfl dX5_ofLoan_36 rfl ?_
  refine V_iload_n h 38 2 rfl dX5_ofLoan_37 rfl ?_
  refine CVI h 41 (As := [.int x, .int w]) (c_dget (L_s16 hL) (L_p16 hL) (L_s17 hL) (x := x) (y := w) (j := i * 4 + j) (by rw [ei, ej]; exact dealIx i j) (by omega)) rfl (L_s16 hL) qL_X5_160 qI_X1_get qS_X1_get qZ_X1 qC_X1_get hd_X1_get ⟨Nat.le_of_ble_eq_true rfl, Nat.le_of_ble_eq_true rfl⟩ (Nat.le_of_ble_eq_true rfl) rfl rfl dX5_ofLoan_38 (Nat.le_of_ble_eq_true rfl) (Nat.le_of_ble_eq_true rfl) (fun r6 D6 hq6 => ?_)
  rw [hq6.1, hq6.2]
  exact X_iret h rfl hQ (Nat.le_of_ble_eq_true rfl) (Nat.le_of_ble_eq_true rfl) ⟨rfl, rfl, rfl, rfl, _, rfl, ⟨(wI_1 hq3.2), (wI_1 hq5.2), ⟨i, j, hi, hj, ei, ej, rfl⟩, rfl⟩⟩ dX5_ofLoan_41

set_option maxRecDepth 100000 in
set_option maxHeartbeats 4000000 in
theorem c_ofSale {κ : mKp} (hst : κ.1.stackTraces = false) {n : Nat} {sh : mSh} {P : mPt} {D : mDt} {E : mEt} {b o o2 o3 : Nat} (hB : bLay b o o2 o3 sh P) {L e m k : Nat} {ρ : Nat → Nat} (hI : cI o L e ρ m k D) (x w : Int32) : mXnI κ yX5_ofSale cX5_ofSale 3 (Option.some Jvm.ClassFile.FieldType.int) 7 109 2 12 [.ref b, .int x, .int w] n sh P D E (fun r D' => wP x 0 (nI k - 1) ∧ wP w 0 2 ∧ (∃ i j, i < k ∧ j ≤ 2 ∧ x = nI i ∧ w = nI j ∧ r = D (o + 19) (i * 4 + j)) ∧ D' = D) (fun X => Kx (wP x 0 (nI k - 1)) (wP w 0 2) True X) := by
  refine mXMet_of hst (by decide) (Nat.le_of_ble_eq_true rfl) ?_
  intro Γ Q hQ h hX
  have h : mOk Γ κ RX5 cX5_ofSale 3 (Option.some Jvm.ClassFile.FieldType.int) { frames := 7, cells := 2, slots := 12, locals := 109 } := h
  have hL := hB.2.2.2.2.1
  have hL2 := hB.2.2.2.2.2.1
  have hL3 := hB.2.2.2.2.2.2.1
  show mV Γ Q 0 0 n sh P D E [(0, .ref b), (1, .int x), (2, .int w)] [] 0
  refine V_iload_n h 1 1 rfl dX5_ofSale_0 rfl ?_
  refine V_iconst h 2 (v := 0) (by decide) dX5_ofSale_1 rfl ?_
  refine V_aload_n h 3 0 rfl dX5_ofSale_2 rfl ?_
  refine g_X5_10 h 6 (b := o) hB.1 hB.2.1 dX5_ofSale_3 rfl ?_
  refine gN_X5_136 h 9 (b := o + 18) (L_s0 hL) (L_p3 hL) dX5_ofSale_6 rfl ?_
  refine CVI h 12 (As := []) (c_dcount (L_s18 hL)) rfl (L_s18 hL) qL_X5_90 qI_X1_count qS_X1_count qZ_X1 qC_X1_count hd_X1_count ⟨Nat.le_of_ble_eq_true rfl, Nat.le_of_ble_eq_true rfl⟩ (Nat.le_of_ble_eq_true rfl) rfl rfl dX5_ofSale_9 (Nat.le_of_ble_eq_true rfl) (Nat.le_of_ble_eq_true rfl) (fun r1 D1 hq1 => ?_)
  rw [hq1.1, hq1.2]
  refine V_top (y := nI k) hI.1.2.2.2.2.1 ?_
  refine V_iconst h 13 (v := 1) (by decide) dX5_ofSale_12 rfl ?_
  refine V_isub h 14 dX5_ofSale_13 rfl ?_
  refine CSI h 17 (As := [.int x, .int 0, .int ((nI k) - 1)]) (c_isWithin x 0 ((nI k) - 1)) qL_X5_22 qT_X5_isWithin qZ_X5 qC_X5_isWithin hd_X5_isWithin ⟨Nat.le_of_ble_eq_true rfl, Nat.le_of_ble_eq_true rfl⟩ (Nat.le_of_ble_eq_true rfl) rfl rfl dX5_ofSale_14 (Nat.le_of_ble_eq_true rfl) (Nat.le_of_ble_eq_true rfl) (fun r2 D2 hq2 => ?_)
  rw [hq2.1, hq2.2]
  refine XSV h hX hQ 1 6 20 (As := [.int (wI x 0 ((nI k) - 1))]) (c_mustExist hst (wI x 0 ((nI k) - 1))) qL_X5_150 qT_X5_mustExist qZ_X5 qC_X5_mustExist hd_X5_mustExist ⟨Nat.le_of_ble_eq_true rfl, Nat.le_of_ble_eq_true rfl⟩ (Nat.le_of_ble_eq_true rfl) rfl rfl dX5_ofSale_17 ⟨Nat.le_of_ble_eq_true rfl, Nat.le_of_ble_eq_true rfl⟩ ⟨Nat.le_of_ble_eq_true rfl, Nat.le_of_ble_eq_true rfl⟩ rfl rfl (fun X9 hk => ⟨kI hk.1 (fun q => wI_0 hk.2 q), rfl⟩) (fun D3 hq3 => ?_)
  rw [hq3.1]
  refine V_iload_n h 21 2 rfl dX5_ofSale_20 rfl ?_
  refine V_iconst h 22 (v := 0) (by decide) dX5_ofSale_21 rfl ?_
  refine V_iconst h 23 (v := 2) (by decide) dX5_ofSale_22 rfl ?_
  refine CSI h 26 (As := [.int w, .int 0, .int 2]) (c_isWithin w 0 2) qL_X5_22 qT_X5_isWithin qZ_X5 qC_X5_isWithin hd_X5_isWithin ⟨Nat.le_of_ble_eq_true rfl, Nat.le_of_ble_eq_true rfl⟩ (Nat.le_of_ble_eq_true rfl) rfl rfl dX5_ofSale_23 (Nat.le_of_ble_eq_true rfl) (Nat.le_of_ble_eq_true rfl) (fun r4 D4 hq4 => ?_)
  rw [hq4.1, hq4.2]
  refine XSV h hX hQ 2 12 29 (As := [.int (wI w 0 2)]) (c_mustRight hst (wI w 0 2)) qL_X5_26 qT_X5_mustBeRight qZ_X5 qC_X5_mustBeRight hd_X5_mustBeRight ⟨Nat.le_of_ble_eq_true rfl, Nat.le_of_ble_eq_true rfl⟩ (Nat.le_of_ble_eq_true rfl) rfl rfl dX5_ofSale_26 ⟨Nat.le_of_ble_eq_true rfl, Nat.le_of_ble_eq_true rfl⟩ ⟨Nat.le_of_ble_eq_true rfl, Nat.le_of_ble_eq_true rfl⟩ rfl rfl (fun X9 hk => ⟨kA hk.1 (wI_1 hq3.2) (fun q => wI_0 hk.2 q), rfl⟩) (fun D5 hq5 => ?_)
  rw [hq5.1]
  have h8 := hI.1.2.2.2.2.2.1
  obtain ⟨i, hi, ei⟩ := wP_M (wI_1 hq3.2) h8
  obtain ⟨j, -, hj, ej⟩ := wP_N (a := 0) (b := 2) (wI_1 hq5.2) (by decide) (by decide)
  refine V_aload_n h 30 0 rfl dX5_ofSale_29 rfl ?_
  refine g_X5_10 h 33 (b := o) hB.1 hB.2.1 dX5_ofSale_30 rfl ?_
  refine gN_X5_136 h 36 (b := o + 18) (L_s0 hL) (L_p3 hL) dX5_ofSale_33 rfl ?_
  refine V_iload_n h 37 1 rfl dX5_ofSale_36 rfl ?_
  refine V_iload_n h 38 2 rfl dX5_ofSale_37 rfl ?_
  refine CVI h 41 (As := [.int x, .int w]) (c_dget (L_s18 hL) (L_p18 hL) (L_s19 hL) (x := x) (y := w) (j := i * 4 + j) (by rw [ei, ej]; exact dealIx i j) (by omega)) rfl (L_s18 hL) qL_X5_160 qI_X1_get qS_X1_get qZ_X1 qC_X1_get hd_X1_get ⟨Nat.le_of_ble_eq_true rfl, Nat.le_of_ble_eq_true rfl⟩ (Nat.le_of_ble_eq_true rfl) rfl rfl dX5_ofSale_38 (Nat.le_of_ble_eq_true rfl) (Nat.le_of_ble_eq_true rfl) (fun r6 D6 hq6 => ?_)
  rw [hq6.1, hq6.2]
  exact X_iret h rfl hQ (Nat.le_of_ble_eq_true rfl) (Nat.le_of_ble_eq_true rfl) ⟨rfl, rfl, rfl, rfl, _, rfl, ⟨(wI_1 hq3.2), (wI_1 hq5.2), ⟨i, j, hi, hj, ei, ej, rfl⟩, rfl⟩⟩ dX5_ofSale_41

set_option maxRecDepth 100000 in
set_option maxHeartbeats 4000000 in
theorem c_many {κ : mKp} (hst : κ.1.stackTraces = false) {n : Nat} {sh : mSh} {P : mPt} {D : mDt} {E : mEt} {b o o2 o3 : Nat} (hB : bLay b o o2 o3 sh P) {L e m k : Nat} {ρ : Nat → Nat} (hI : cI o L e ρ m k D) (w : Int32) : mXnI κ yX5_many cX5_many 2 (Option.some Jvm.ClassFile.FieldType.int) 7 109 1 6 [.ref b, .int w] n sh P D E (fun r D' => wP w 0 15 ∧ (∃ w1, w1 ≤ 15 ∧ w = nI w1 ∧ r = askA o L ρ D w1) ∧ D' = D) (fun X => Kx True (wP w 0 15) True X) := by
  refine mXMet_of hst (by decide) (Nat.le_of_ble_eq_true rfl) ?_
  intro Γ Q hQ h hX
  have h : mOk Γ κ RX5 cX5_many 2 (Option.some Jvm.ClassFile.FieldType.int) { frames := 7, cells := 1, slots := 6, locals := 109 } := h
  have hL := hB.2.2.2.2.1
  have hL2 := hB.2.2.2.2.2.1
  have hL3 := hB.2.2.2.2.2.2.1
  show mV Γ Q 0 0 n sh P D E [(0, .ref b), (1, .int w)] [] 0
  refine V_iload_n h 1 1 rfl dX5_many_0 rfl ?_
  refine V_iconst h 2 (v := 0) (by decide) dX5_many_1 rfl ?_
  refine V_bipush h 4 (v := 15) (by decide) dX5_many_2 rfl ?_
  refine CSI h 7 (As := [.int w, .int 0, .int 15]) (c_isWithin w 0 15) qL_X5_22 qT_X5_isWithin qZ_X5 qC_X5_isWithin hd_X5_isWithin ⟨Nat.le_of_ble_eq_true rfl, Nat.le_of_ble_eq_true rfl⟩ (Nat.le_of_ble_eq_true rfl) rfl rfl dX5_many_4 (Nat.le_of_ble_eq_true rfl) (Nat.le_of_ble_eq_true rfl) (fun r1 D1 hq1 => ?_)
  rw [hq1.1, hq1.2]
  refine XSV h hX hQ 1 6 10 (As := [.int (wI w 0 15)]) (c_mustRight hst (wI w 0 15)) qL_X5_26 qT_X5_mustBeRight qZ_X5 qC_X5_mustBeRight hd_X5_mustBeRight ⟨Nat.le_of_ble_eq_true rfl, Nat.le_of_ble_eq_true rfl⟩ (Nat.le_of_ble_eq_true rfl) rfl rfl dX5_many_7 ⟨Nat.le_of_ble_eq_true rfl, Nat.le_of_ble_eq_true rfl⟩ ⟨Nat.le_of_ble_eq_true rfl, Nat.le_of_ble_eq_true rfl⟩ rfl rfl (fun X9 hk => ⟨kA hk.1 trivial (fun q => wI_0 hk.2 q), rfl⟩) (fun D2 hq2 => ?_)
  rw [hq2.1]
  obtain ⟨w1, -, hw, ew⟩ := wP_N (a := 0) (b := 15) (wI_1 hq2.2) (by decide) (by decide)
  subst ew
  refine V_aload_n h 11 0 rfl dX5_many_10 rfl ?_
  refine g_X5_10 h 14 (b := o) hB.1 hB.2.1 dX5_many_11 rfl ?_
  refine V_iload_n h 15 1 rfl dX5_many_14 rfl ?_
  refine CVI h 18 (As := [.int (nI w1)]) (c_askAll hL hI.1 (w := w1) (by omega)) rfl (L_s0 hL) qL_X5_163 qI_X2_askAll qS_X2_askAll qZ_X2 qC_X2_askAll hd_X2_askAll ⟨Nat.le_of_ble_eq_true rfl, Nat.le_of_ble_eq_true rfl⟩ (Nat.le_of_ble_eq_true rfl) rfl rfl dX5_many_15 (Nat.le_of_ble_eq_true rfl) (Nat.le_of_ble_eq_true rfl) (fun r3 D3 hq3 => ?_)
  rw [hq3.1, hq3.2]
  exact X_iret h rfl hQ (Nat.le_of_ble_eq_true rfl) (Nat.le_of_ble_eq_true rfl) ⟨rfl, rfl, rfl, rfl, _, rfl, ⟨(wI_1 hq2.2), ⟨w1, hw, rfl, rfl⟩, rfl⟩⟩ dX5_many_18
