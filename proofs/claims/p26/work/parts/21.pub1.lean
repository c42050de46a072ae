set_option maxRecDepth 100000 in
set_option maxHeartbeats 4000000 in
theorem c_isWithin {κ : mKp} {n : Nat} {sh : mSh} {P : mPt} {D : mDt} {E : mEt} (x y z : Int32) : mFnI κ yX5_isWithin cX5_isWithin 3 (Option.some Jvm.ClassFile.FieldType.boolean) 0 0 [.int x, .int y, .int z] n sh P D E (fun r D' => D' = D ∧ r = wI x y z) := by
  refine mMet_of (by decide) (Nat.le_of_ble_eq_true rfl) ?_
  intro Γ Q hQ h hin
  have h : mOk Γ κ RX5 cX5_isWithin 3 (Option.some Jvm.ClassFile.FieldType.boolean) { frames := 0, cells := 0, slots := 0, locals := 0 } := h
  show mV Γ Q 0 0 n sh P D E [(0, .int x), (1, .int y), (2, .int z)] [] 0
  refine V_iload_n h 1 1 rfl dX5_isWithin_0 rfl ?_
  refine V_iload_n h 2 0 rfl dX5_isWithin_1 rfl ?_
  refine V_icmp_gt h 14 5 dX5_isWithin_2 (by decide) rfl (fun c2 => ?_) (fun c2 => ?_)
  · skip
    refine V_iconst h 15 (v := 0) (by decide) dX5_isWithin_14 rfl ?_
    exact V_iret h rfl hQ (Nat.zero_le _) (Nat.zero_le _) ⟨rfl, rfl, rfl, rfl, _, rfl, ⟨rfl, (if_pos c2).symm⟩⟩ dX5_isWithin_15
  · skip
    refine V_iload_n h 6 0 rfl dX5_isWithin_5 rfl ?_
    refine V_iload_n h 7 2 rfl dX5_isWithin_6 rfl ?_
    refine V_icmp_gt h 14 10 dX5_isWithin_7 (by decide) rfl (fun c7 => ?_) (fun c7 => ?_)
    · skip
      refine V_iconst h 15 (v := 0) (by decide) dX5_isWithin_14 rfl ?_
      exact V_iret h rfl hQ (Nat.zero_le _) (Nat.zero_le _) ⟨rfl, rfl, rfl, rfl, _, rfl, ⟨rfl, ((if_neg c2).trans (if_pos c7)).symm⟩⟩ dX5_isWithin_15
    · skip
      refine V_iconst h 11 (v := 1) (by decide) dX5_isWithin_10 rfl ?_
      refine V_goto h 15 dX5_isWithin_11 (by decide) ?_
      exact V_iret h rfl hQ (Nat.zero_le _) (Nat.zero_le _) ⟨rfl, rfl, rfl, rfl, _, rfl, ⟨rfl, ((if_neg c2).trans (if_neg c7)).symm⟩⟩ dX5_isWithin_15

set_option maxRecDepth 100000 in
set_option maxHeartbeats 4000000 in
theorem c_mustRight {κ : mKp} (hst : κ.1.stackTraces = false) {n : Nat} {sh : mSh} {P : mPt} {D : mDt} {E : mEt} (x : Int32) : mXnV κ yX5_mustBeRight cX5_mustBeRight 1 6 89 1 6 [.int x] n sh P D E (fun D' => D' = D ∧ ¬ x = 0) (fun X => X = xA ∧ x = 0) := by
  refine mXMet_of hst (by decide) (Nat.le_of_ble_eq_true rfl) ?_
  intro Γ Q hQ h hX
  have h : mOk Γ κ RX5 cX5_mustBeRight 1 (Option.none : Option Jvm.ClassFile.FieldType) { frames := 6, cells := 1, slots := 6, locals := 89 } := h
  show mV Γ Q 0 0 n sh P D E [(0, .int x)] [] 0
  refine V_iload_n h 1 0 rfl dX5_mustBeRight_0 rfl ?_
  refine V_if_ne h 12 4 dX5_mustBeRight_1 (by decide) rfl (fun c1 => ?_) (fun c1 => ?_)
  · skip
    exact X_ret h  hQ (Nat.le_of_ble_eq_true rfl) (Nat.le_of_ble_eq_true rfl) ⟨rfl, rfl, rfl, rfl, rfl, ⟨rfl, c1⟩⟩ dX5_mustBeRight_12
  · skip
    exact X_throw h hX hQ (by decide +kernel) qK_X5_230 qZ_IllegalArgumentException xg_A1 xg_A2 xg_A3 dX5_mustBeRight_4 dX5_mustBeRight_7 dX5_mustBeRight_8 dX5_mustBeRight_11 (by decide) (Nat.le_of_ble_eq_true rfl) (Nat.le_of_ble_eq_true rfl) (Nat.le_of_ble_eq_true rfl) (Nat.le_of_ble_eq_true rfl) (Nat.le_of_ble_eq_true rfl) (fun n9 h9 => ⟨⟨rfl, c1⟩, h9, rfl, rfl, rfl, rfl⟩)

set_option maxRecDepth 100000 in
set_option maxHeartbeats 4000000 in
theorem c_mustPoss {κ : mKp} (hst : κ.1.stackTraces = false) {n : Nat} {sh : mSh} {P : mPt} {D : mDt} {E : mEt} (x : Int32) : mXnV κ yX5_mustBePossible cX5_mustBePossible 1 6 89 1 6 [.int x] n sh P D E (fun D' => D' = D ∧ ¬ x = 0) (fun X => X = xS ∧ x = 0) := by
  refine mXMet_of hst (by decide) (Nat.le_of_ble_eq_true rfl) ?_
  intro Γ Q hQ h hX
  have h : mOk Γ κ RX5 cX5_mustBePossible 1 (Option.none : Option Jvm.ClassFile.FieldType) { frames := 6, cells := 1, slots := 6, locals := 89 } := h
  show mV Γ Q 0 0 n sh P D E [(0, .int x)] [] 0
  refine V_iload_n h 1 0 rfl dX5_mustBePossible_0 rfl ?_
  refine V_if_ne h 12 4 dX5_mustBePossible_1 (by decide) rfl (fun c1 => ?_) (fun c1 => ?_)
  · skip
    exact X_ret h  hQ (Nat.le_of_ble_eq_true rfl) (Nat.le_of_ble_eq_true rfl) ⟨rfl, rfl, rfl, rfl, rfl, ⟨rfl, c1⟩⟩ dX5_mustBePossible_12
  · skip
    exact X_throw h hX hQ (by decide +kernel) qK_X5_233 qZ_IllegalStateException xg_S1 xg_S2 xg_S3 dX5_mustBePossible_4 dX5_mustBePossible_7 dX5_mustBePossible_8 dX5_mustBePossible_11 (by decide) (Nat.le_of_ble_eq_true rfl) (Nat.le_of_ble_eq_true rfl) (Nat.le_of_ble_eq_true rfl) (Nat.le_of_ble_eq_true rfl) (Nat.le_of_ble_eq_true rfl) (fun n9 h9 => ⟨⟨rfl, c1⟩, h9, rfl, rfl, rfl, rfl⟩)

set_option maxRecDepth 100000 in
set_option maxHeartbeats 4000000 in
theorem c_mustExist {κ : mKp} (hst : κ.1.stackTraces = false) {n : Nat} {sh : mSh} {P : mPt} {D : mDt} {E : mEt} (x : Int32) : mXnV κ yX5_mustExist cX5_mustExist 1 6 89 1 6 [.int x] n sh P D E (fun D' => D' = D ∧ ¬ x = 0) (fun X => X = xI ∧ x = 0) := by
  refine mXMet_of hst (by decide) (Nat.le_of_ble_eq_true rfl) ?_
  intro Γ Q hQ h hX
  have h : mOk Γ κ RX5 cX5_mustExist 1 (Option.none : Option Jvm.ClassFile.FieldType) { frames := 6, cells := 1, slots := 6, locals := 89 } := h
  show mV Γ Q 0 0 n sh P D E [(0, .int x)] [] 0
  refine V_iload_n h 1 0 rfl dX5_mustExist_0 rfl ?_
  refine V_if_ne h 12 4 dX5_mustExist_1 (by decide) rfl (fun c1 => ?_) (fun c1 => ?_)
  · skip
    exact X_ret h  hQ (Nat.le_of_ble_eq_true rfl) (Nat.le_of_ble_eq_true rfl) ⟨rfl, rfl, rfl, rfl, rfl, ⟨rfl, c1⟩⟩ dX5_mustExist_12
  · skip
    exact X_throw h hX hQ (by decide +kernel) qK_X5_236 qZ_IndexOutOfBoundsException xg_I1 xg_I2 xg_I3 dX5_mustExist_4 dX5_mustExist_7 dX5_mustExist_8 dX5_mustExist_11 (by decide) (Nat.le_of_ble_eq_true rfl) (Nat.le_of_ble_eq_true rfl) (Nat.le_of_ble_eq_true rfl) (Nat.le_of_ble_eq_true rfl) (Nat.le_of_ble_eq_true rfl) (fun n9 h9 => ⟨⟨rfl, c1⟩, h9, rfl, rfl, rfl, rfl⟩)

theorem liv_not {o L e : Nat} {ρ : Nat → Nat} {m k : Nat} {D : mDt} (h : cI o L e ρ m k D) {x : Int32} (hz : D (numb o x) 1 = 0) : ¬ livP L ρ x := by
  rcases cI_numb h x with z | z
  · rw [z.1] at hz; exact absurd hz (by decide)
  · exact z.2
theorem liv_yes {o L e : Nat} {ρ : Nat → Nat} {m k : Nat} {D : mDt} (h : cI o L e ρ m k D) {x : Int32} (hz : ¬ D (numb o x) 1 = 0) : livP L ρ x := by
  rcases cI_numb h x with z | z
  · exact z.2
  · exact absurd z.1 hz
/-- which of the three is thrown -/
def Kx (g1 g2 g3 : Prop) (X : String) : Prop := (X = xI ∧ ¬ g1) ∨ (X = xA ∧ g1 ∧ ¬ g2) ∨ (X = xS ∧ g1 ∧ g2 ∧ ¬ g3)
theorem kI {g1 g2 g3 : Prop} {X : String} (h : X = xI) (n : ¬ g1) : Kx g1 g2 g3 X := Or.inl ⟨h, n⟩
theorem kA {g1 g2 g3 : Prop} {X : String} (h : X = xA) (a : g1) (n : ¬ g2) : Kx g1 g2 g3 X := Or.inr (Or.inl ⟨h, a, n⟩)
theorem kS {g1 g2 g3 : Prop} {X : String} (h : X = xS) (a : g1) (b : g2) (n : ¬ g3) : Kx g1 g2 g3 X := Or.inr (Or.inr ⟨h, a, b, n⟩)

set_option maxRecDepth 100000 in
set_option maxHeartbeats 4000000 in
theorem c_mustLive {κ : mKp} (hst : κ.1.stackTraces = false) {n : Nat} {sh : mSh} {P : mPt} {D : mDt} {E : mEt} {b o o2 o3 : Nat} (hB : bLay b o o2 o3 sh P) {L e m k : Nat} {ρ : Nat → Nat} (hI : cI o L e ρ m k D) (x : Int32) : mXnV κ yX5_mustLive cX5_mustLive 2 7 109 1 6 [.ref b, .int x] n sh P D E (fun D' => D' = D ∧ livP L ρ x) (fun X => X = xI ∧ ¬ livP L ρ x) := by
  refine mXMet_of hst (by decide) (Nat.le_of_ble_eq_true rfl) ?_
  intro Γ Q hQ h hX
  have h : mOk Γ κ RX5 cX5_mustLive 2 (Option.none : Option Jvm.ClassFile.FieldType) { frames := 7, cells := 1, slots := 6, locals := 109 } := h
  have hL := hB.2.2.2.2.1
  have hL2 := hB.2.2.2.2.2.1
  have hL3 := hB.2.2.2.2.2.2.1
  show mV Γ Q 0 0 n sh P D E [(0, .ref b), (1, .int x)] [] 0
  refine V_aload_n h 1 0 rfl dX5_mustLive_0 rfl ?_
  refine g_X5_10 h 4 (b := o) hB.1 hB.2.1 dX5_mustLive_1 rfl ?_
  refine gN_X5_30 h 7 (b := o + 2) (L_s0 hL) (L_p1 hL) dX5_mustLive_4 rfl ?_
  refine V_iload_n h 8 1 rfl dX5_mustLive_7 rfl ?_
  refine CVI h 11 (As := [.int x]) (c_isLiving hL x (cI_hz hI x)) rfl (L_s2 hL) qL_X5_215 qI_X4_isLiving qS_X4_isLiving qZ_X4 qC_X4_isLiving hd_X4_isLiving ⟨Nat.le_of_ble_eq_true rfl, Nat.le_of_ble_eq_true rfl⟩ (Nat.le_of_ble_eq_true rfl) rfl rfl dX5_mustLive_8 (Nat.le_of_ble_eq_true rfl) (Nat.le_of_ble_eq_true rfl) (fun r1 D1 hq1 => ?_)
  rw [hq1.1, hq1.2]
  refine XSV h hX hQ 1 6 14 (As := [.int (D (numb o x) 1)]) (c_mustExist hst (D (numb o x) 1)) qL_X5_150 qT_X5_mustExist qZ_X5 qC_X5_mustExist hd_X5_mustExist ⟨Nat.le_of_ble_eq_true rfl, Nat.le_of_ble_eq_true rfl⟩ (Nat.le_of_ble_eq_true rfl) rfl rfl dX5_mustLive_11 ⟨Nat.le_of_ble_eq_true rfl, Nat.le_of_ble_eq_true rfl⟩ ⟨Nat.le_of_ble_eq_true rfl, Nat.le_of_ble_eq_true rfl⟩ rfl rfl (fun X9 hk => ⟨⟨hk.1, liv_not hI hk.2⟩, rfl⟩) (fun D2 hq2 => ?_)
  rw [hq2.1]
  exact X_ret h  hQ (Nat.le_of_ble_eq_true rfl) (Nat.le_of_ble_eq_true rfl) ⟨rfl, rfl, rfl, rfl, rfl, ⟨rfl, liv_yes hI hq2.2⟩⟩ dX5_mustLive_14

theorem room_no {e : Nat} {x : Int32} (h3 : x = nI e) (c : (if 10 < x + 1 then (0 : Int32) else 1) = 0) : ¬ e < 10 := by
  intro he
  rw [h3, nI_1] at c
  rw [show (10 : Int32) = nI 10 from rfl, if_neg (fun q => absurd ((nI_ltI (a := 10) (by decide) (by omega)).mp q) (by omega))] at c
  exact absurd c (by decide)
theorem room_yes {e : Nat} {x : Int32} (h3 : x = nI e) (h10 : e ≤ 10) (c : ¬ (if 10 < x + 1 then (0 : Int32) else 1) = 0) : e < 10 := by
  rw [h3, nI_1] at c
  rcases Nat.lt_or_ge e 10 with q | q
  · exact q
  · exact absurd (if_pos ((nI_ltI (a := 10) (by decide) (by omega)).mpr (by omega))) c

set_option maxRecDepth 100000 in
set_option maxHeartbeats 4000000 in
theorem c_owner {κ : mKp} (hst : κ.1.stackTraces = false) {n : Nat} {sh : mSh} {P : mPt} {D : mDt} {E : mEt} {b o o2 o3 : Nat} (hB : bLay b o o2 o3 sh P) {L e m k : Nat} {ρ : Nat → Nat} (hI : cI o L e ρ m k D) (w c p mm : Int32) : mXnI κ yX5_owner cX5_owner 5 (Option.some Jvm.ClassFile.FieldType.int) 7 109 2 12 [.ref b, .int w, .int c, .int p, .int mm] n sh P D E (fun r D' => (wP w 0 5040 ∧ wP c 0 9999 ∧ wP p 0 200 ∧ wP mm 0 20) ∧ (e < 10 ∧ w ≤ 5040 - rsum (fun p => D (o + 6 + ρ p) 2) L) ∧ r = nI e ∧ D' = addD o e L w c p mm D) (fun X => Kx True (wP w 0 5040 ∧ wP c 0 9999 ∧ wP p 0 200 ∧ wP mm 0 20) (e < 10 ∧ w ≤ 5040 - rsum (fun p => D (o + 6 + ρ p) 2) L) X) := by
  refine mXMet_of hst (by decide) (Nat.le_of_ble_eq_true rfl) ?_
  intro Γ Q hQ h hX
  have h : mOk Γ κ RX5 cX5_owner 5 (Option.some Jvm.ClassFile.FieldType.int) { frames := 7, cells := 2, slots := 12, locals := 109 } := h
  have hL := hB.2.2.2.2.1
  have hL2 := hB.2.2.2.2.2.1
  have hL3 := hB.2.2.2.2.2.2.1
  show mV Γ Q 0 0 n sh P D E [(0, .ref b), (1, .int w), (2, .int c), (3, .int p), (4, .int mm)] [] 0
  refine V_iload_n h 1 1 rfl dX5_owner_0 rfl ?_
  refine V_iconst h 2 (v := 0) (by decide) dX5_owner_1 rfl ?_
  refine V_sipush h 5 (v := 5040) (by decide) dX5_owner_2 rfl ?_
  refine CSI h 8 (As := [.int w, .int 0, .int 5040]) (c_isWithin w 0 5040) qL_X5_22 qT_X5_isWithin qZ_X5 qC_X5_isWithin hd_X5_isWithin ⟨Nat.le_of_ble_eq_true rfl, Nat.le_of_ble_eq_true rfl⟩ (Nat.le_of_ble_eq_true rfl) rfl rfl dX5_owner_5 (Nat.le_of_ble_eq_true rfl) (Nat.le_of_ble_eq_true rfl) (fun r1 D1 hq1 => ?_)
  rw [hq1.1, hq1.2]
  refine V_if_eq h 48 11 dX5_owner_8 (by decide) rfl (fun c8 => ?_) (fun c8 => ?_)
  · skip
    refine V_iconst h 49 (v := 0) (by decide) dX5_owner_48 rfl ?_
    refine XSV h hX hQ 1 6 52 (As := [.int 0]) (c_mustRight hst 0) qL_X5_26 qT_X5_mustBeRight qZ_X5 qC_X5_mustBeRight hd_X5_mustBeRight ⟨Nat.le_of_ble_eq_true rfl, Nat.le_of_ble_eq_true rfl⟩ (Nat.le_of_ble_eq_true rfl) rfl rfl dX5_owner_49 ⟨Nat.le_of_ble_eq_true rfl, Nat.le_of_ble_eq_true rfl⟩ ⟨Nat.le_of_ble_eq_true rfl, Nat.le_of_ble_eq_true rfl⟩ rfl rfl (fun X9 hk => ⟨kA hk.1 trivial (fun q => wI_0 c8 q.1), rfl⟩) (fun D2 hq2 => ?_)
    exact absurd rfl hq2.2
  · skip
    refine V_iload_n h 12 2 rfl dX5_owner_11 rfl ?_
    refine V_iconst h 13 (v := 0) (by decide) dX5_owner_12 rfl ?_
    refine V_sipush h 16 (v := 9999) (by decide) dX5_owner_13 rfl ?_
    refine CSI h 19 (As := [.int c, .int 0, .int 9999]) (c_isWithin c 0 9999) qL_X5_22 qT_X5_isWithin qZ_X5 qC_X5_isWithin hd_X5_isWithin ⟨Nat.le_of_ble_eq_true rfl, Nat.le_of_ble_eq_true rfl⟩ (Nat.le_of_ble_eq_true rfl) rfl rfl dX5_owner_16 (Nat.le_of_ble_eq_true rfl) (Nat.le_of_ble_eq_true rfl) (fun r3 D3 hq3 => ?_)
    rw [hq3.1, hq3.2]
    refine V_if_eq h 48 22 dX5_owner_19 (by decide) rfl (fun c19 => ?_) (fun c19 => ?_)
    · skip
      refine V_iconst h 49 (v := 0) (by decide) dX5_owner_48 rfl ?_
      refine XSV h hX hQ 1 6 52 (As := [.int 0]) (c_mustRight hst 0) qL_X5_26 qT_X5_mustBeRight qZ_X5 qC_X5_mustBeRight hd_X5_mustBeRight ⟨Nat.le_of_ble_eq_true rfl, Nat.le_of_ble_eq_true rfl⟩ (Nat.le_of_ble_eq_true rfl) rfl rfl dX5_owner_49 ⟨Nat.le_of_ble_eq_true rfl, Nat.le_of_ble_eq_true rfl⟩ ⟨Nat.le_of_ble_eq_true rfl, Nat.le_of_ble_eq_true rfl⟩ rfl rfl (fun X9 hk => ⟨kA hk.1 trivial (fun q => wI_0 c19 q.2.1), rfl⟩) (fun D4 hq4 => ?_)
      exact absurd rfl hq4.2
    · skip
      refine V_iload_n h 23 3 rfl dX5_owner_22 rfl ?_
      refine V_iconst h 24 (v := 0) (by decide) dX5_owner_23 rfl ?_
      refine V_sipush h 27 (v := 200) (by decide) dX5_owner_24 rfl ?_
      refine CSI h 30 (As := [.int p, .int 0, .int 200]) (c_isWithin p 0 200) qL_X5_22 qT_X5_isWithin qZ_X5 qC_X5_isWithin hd_X5_isWithin ⟨Nat.le_of_ble_eq_true rfl, Nat.le_of_ble_eq_true rfl⟩ (Nat.le_of_ble_eq_true rfl) rfl rfl dX5_owner_27 (Nat.le_of_ble_eq_true rfl) (Nat.le_of_ble_eq_true rfl) (fun r5 D5 hq5 => ?_)
      rw [hq5.1, hq5.2]
      refine V_if_eq h 48 33 dX5_owner_30 (by decide) rfl (fun c30 => ?_) (fun c30 => ?_)
      · skip
        refine V_iconst h 49 (v := 0) (by decide) dX5_owner_48 rfl ?_
        refine XSV h hX hQ 1 6 52 (As := [.int 0]) (c_mustRight hst 0) qL_X5_26 qT_X5_mustBeRight qZ_X5 qC_X5_mustBeRight hd_X5_mustBeRight ⟨Nat.le_of_ble_eq_true rfl, Nat.le_of_ble_eq_true rfl⟩ (Nat.le_of_ble_eq_true rfl) rfl rfl dX5_owner_49 ⟨Nat.le_of_ble_eq_true rfl, Nat.le_of_ble_eq_true rfl⟩ ⟨Nat.le_of_ble_eq_true rfl, Nat.le_of_ble_eq_true rfl⟩ rfl rfl (fun X9 hk => ⟨kA hk.1 trivial (fun q => wI_0 c30 q.2.2.1), rfl⟩) (fun D6 hq6 => ?_)
        exact absurd rfl hq6.2
      · skip
        refine V_iload h 35 4 rfl dX5_owner_33 rfl ?_
        refine V_iconst h 36 (v := 0) (by decide) dX5_owner_35 rfl ?_
        refine V_bipush h 38 (v := 20) (by decide) dX5_owner_36 rfl ?_
        refine CSI h 41 (As := [.int mm, .int 0, .int 20]) (c_isWithin mm 0 20) qL_X5_22 qT_X5_isWithin qZ_X5 qC_X5_isWithin hd_X5_isWithin ⟨Nat.le_of_ble_eq_true rfl, Nat.le_of_ble_eq_true rfl⟩ (Nat.le_of_ble_eq_true rfl) rfl rfl dX5_owner_38 (Nat.le_of_ble_eq_true rfl) (Nat.le_of_ble_eq_true rfl) (fun r7 D7 hq7 => ?_)
        rw [hq7.1, hq7.2]
        refine V_if_eq h 48 44 dX5_owner_41 (by decide) rfl (fun c41 => ?_) (fun c41 => ?_)
        · skip
          refine V_iconst h 49 (v := 0) (by decide) dX5_owner_48 rfl ?_
          refine XSV h hX hQ 1 6 52 (As := [.int 0]) (c_mustRight hst 0) qL_X5_26 qT_X5_mustBeRight qZ_X5 qC_X5_mustBeRight hd_X5_mustBeRight ⟨Nat.le_of_ble_eq_true rfl, Nat.le_of_ble_eq_true rfl⟩ (Nat.le_of_ble_eq_true rfl) rfl rfl dX5_owner_49 ⟨Nat.le_of_ble_eq_true rfl, Nat.le_of_ble_eq_true rfl⟩ ⟨Nat.le_of_ble_eq_true rfl, Nat.le_of_ble_eq_true rfl⟩ rfl rfl (fun X9 hk => ⟨kA hk.1 trivial (fun q => wI_0 c41 q.2.2.2), rfl⟩) (fun D8 hq8 => ?_)
          exact absurd rfl hq8.2
        · skip
          refine V_iconst h 45 (v := 1) (by decide) dX5_owner_44 rfl ?_
          refine V_goto h 49 dX5_owner_45 (by decide) ?_
          refine XSV h hX hQ 1 6 52 (As := [.int 1]) (c_mustRight hst 1) qL_X5_26 qT_X5_mustBeRight qZ_X5 qC_X5_mustBeRight hd_X5_mustBeRight ⟨Nat.le_of_ble_eq_true rfl, Nat.le_of_ble_eq_true rfl⟩ (Nat.le_of_ble_eq_true rfl) rfl rfl dX5_owner_49 ⟨Nat.le_of_ble_eq_true rfl, Nat.le_of_ble_eq_true rfl⟩ ⟨Nat.le_of_ble_eq_true rfl, Nat.le_of_ble_eq_true rfl⟩ rfl rfl (fun X9 hk => (absurd hk.2 (by decide))) (fun D9 hq9 => ?_)
          rw [hq9.1]
          refine V_aload_n h 53 0 rfl dX5_owner_52 rfl ?_
          refine g_X5_10 h 56 (b := o) hB.1 hB.2.1 dX5_owner_53 rfl ?_
          refine gN_X5_30 h 59 (b := o + 2) (L_s0 hL) (L_p1 hL) dX5_owner_56 rfl ?_
          refine V_iconst h 60 (v := 1) (by decide) dX5_owner_59 rfl ?_
          refine CVI h 63 (As := [.int 1]) (c_hasRoomFor hL 1) rfl (L_s2 hL) qL_X5_34 qI_X4_hasRoomFor qS_X4_hasRoomFor qZ_X4 qC_X4_hasRoomFor hd_X4_hasRoomFor ⟨Nat.le_of_ble_eq_true rfl, Nat.le_of_ble_eq_true rfl⟩ (Nat.le_of_ble_eq_true rfl) rfl rfl dX5_owner_60 (Nat.le_of_ble_eq_true rfl) (Nat.le_of_ble_eq_true rfl) (fun r10 D10 hq10 => ?_)
          rw [hq10.1, hq10.2]
          refine V_if_eq h 84 66 dX5_owner_63 (by decide) rfl (fun c63 => ?_) (fun c63 => ?_)
          · skip
            refine V_iconst h 85 (v := 0) (by decide) dX5_owner_84 rfl ?_
            refine XSV h hX hQ 2 12 88 (As := [.int 0]) (c_mustPoss hst 0) qL_X5_44 qT_X5_mustBePossible qZ_X5 qC_X5_mustBePossible hd_X5_mustBePossible ⟨Nat.le_of_ble_eq_true rfl, Nat.le_of_ble_eq_true rfl⟩ (Nat.le_of_ble_eq_true rfl) rfl rfl dX5_owner_85 ⟨Nat.le_of_ble_eq_true rfl, Nat.le_of_ble_eq_true rfl⟩ ⟨Nat.le_of_ble_eq_true rfl, Nat.le_of_ble_eq_true rfl⟩ rfl rfl (fun X9 hk => ⟨kS hk.1 trivial (⟨wI_1 c8, wI_1 c19, wI_1 c30, wI_1 c41⟩) (fun q => room_no hI.2.1 c63 q.1), rfl⟩) (fun D11 hq11 => ?_)
            exact absurd rfl hq11.2
          · skip
            refine V_iload_n h 67 1 rfl dX5_owner_66 rfl ?_
            refine V_aload_n h 68 0 rfl dX5_owner_67 rfl ?_
            refine g_X5_10 h 71 (b := o) hB.1 hB.2.1 dX5_owner_68 rfl ?_
            refine gN_X5_30 h 74 (b := o + 2) (L_s0 hL) (L_p1 hL) dX5_owner_71 rfl ?_
            refine CVI h 77 (As := []) (c_commonBowls hL hI.1.1) rfl (L_s2 hL) qL_X5_40 qI_X4_commonBowls qS_X4_commonBowls qZ_X4 qC_X4_commonBowls hd_X4_commonBowls ⟨Nat.le_of_ble_eq_true rfl, Nat.le_of_ble_eq_true rfl⟩ (Nat.le_of_ble_eq_true rfl) rfl rfl dX5_owner_74 (Nat.le_of_ble_eq_true rfl) (Nat.le_of_ble_eq_true rfl) (fun r12 D12 hq12 => ?_)
            rw [hq12.1, hq12.2]
            refine V_icmp_gt h 84 80 dX5_owner_77 (by decide) rfl (fun c77 => ?_) (fun c77 => ?_)
            · skip
              refine V_iconst h 85 (v := 0) (by decide) dX5_owner_84 rfl ?_
              refine XSV h hX hQ 2 12 88 (As := [.int 0]) (c_mustPoss hst 0) qL_X5_44 qT_X5_mustBePossible qZ_X5 qC_X5_mustBePossible hd_X5_mustBePossible ⟨Nat.le_of_ble_eq_true rfl, Nat.le_of_ble_eq_true rfl⟩ (Nat.le_of_ble_eq_true rfl) rfl rfl dX5_owner_85 ⟨Nat.le_of_ble_eq_true rfl, Nat.le_of_ble_eq_true rfl⟩ ⟨Nat.le_of_ble_eq_true rfl, Nat.le_of_ble_eq_true rfl⟩ rfl rfl (fun X9 hk => ⟨kS hk.1 trivial (⟨wI_1 c8, wI_1 c19, wI_1 c30, wI_1 c41⟩) (fun q => absurd q.2 (Int32.not_le.mpr c77)), rfl⟩) (fun D13 hq13 => ?_)
              exact absurd rfl hq13.2
            · skip
              refine V_iconst h 81 (v := 1) (by decide) dX5_owner_80 rfl ?_
              refine V_goto h 85 dX5_owner_81 (by decide) ?_
              refine XSV h hX hQ 2 12 88 (As := [.int 1]) (c_mustPoss hst 1) qL_X5_44 qT_X5_mustBePossible qZ_X5 qC_X5_mustBePossible hd_X5_mustBePossible ⟨Nat.le_of_ble_eq_true rfl, Nat.le_of_ble_eq_true rfl⟩ (Nat.le_of_ble_eq_true rfl) rfl rfl dX5_owner_85 ⟨Nat.le_of_ble_eq_true rfl, Nat.le_of_ble_eq_true rfl⟩ ⟨Nat.le_of_ble_eq_true rfl, Nat.le_of_ble_eq_true rfl⟩ rfl rfl (fun X9 hk => (absurd hk.2 (by decide))) (fun D14 hq14 => ?_)
              rw [hq14.1]
              refine V_aload_n h 89 0 rfl dX5_owner_88 rfl ?_
              refine g_X5_10 h 92 (b := o) hB.1 hB.2.1 dX5_owner_89 rfl ?_
              refine gN_X5_30 h 95 (b := o + 2) (L_s0 hL) (L_p1 hL) dX5_owner_92 rfl ?_
              refine V_iload_n h 96 1 rfl dX5_owner_95 rfl ?_
              refine V_iload_n h 97 2 rfl dX5_owner_96 rfl ?_
              refine V_iload_n h 98 3 rfl dX5_owner_97 rfl ?_
              refine V_iload h 100 4 rfl dX5_owner_98 rfl ?_
              refine CVI h 103 (As := [.int w, .int c, .int p, .int mm]) (c_addLast hL hI.1.1.1 hI.2.1 hI.2.2.1 (room_yes hI.2.1 hI.2.2.2.1 c63) w c p mm) rfl (L_s2 hL) qL_X5_47 qI_X4_addLast qS_X4_addLast qZ_X4 qC_X4_addLast hd_X4_addLast ⟨Nat.le_of_ble_eq_true rfl, Nat.le_of_ble_eq_true rfl⟩ (Nat.le_of_ble_eq_true rfl) rfl rfl dX5_owner_100 (Nat.le_of_ble_eq_true rfl) (Nat.le_of_ble_eq_true rfl) (fun r15 D15 hq15 => ?_)
              rw [hq15.2, show D15 = (addD o e L w c p mm D) from hq15.1]
              exact X_iret h rfl hQ (Nat.le_of_ble_eq_true rfl) (Nat.le_of_ble_eq_true rfl) ⟨rfl, rfl, rfl, rfl, _, rfl, ⟨⟨wI_1 c8, wI_1 c19, wI_1 c30, wI_1 c41⟩, ⟨room_yes hI.2.1 hI.2.2.2.1 c63, Int32.not_lt.mp c77⟩, rfl, rfl⟩⟩ dX5_owner_103
