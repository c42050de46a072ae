/-- the block at o is as the one at o2 was, where it matters; nothing else changed -/
def likeOk (o o2 L : Nat) (ρ : Nat → Nat) (m k : Nat) (D D' : mDt) : Prop := (∀ j, j < 4 → D' (o + 1) j = D (o2 + 1) j) ∧ D' (o + 2) 4 = nI L ∧ D' (o + 2) 3 = D (o2 + 2) 3 ∧ (∀ p, p < L → D' (o + 4) p = nI (ρ p)) ∧ (∀ i, i < 10 → D' (o + 6 + i) = likeX (D (o2 + 6 + i)) (D (o + 6 + i))) ∧ D' (o + 16) 1 = nI m ∧ (∀ z, z < m * 4 → D' (o + 17) z = D (o2 + 17) z) ∧ D' (o + 18) 1 = nI k ∧ (∀ z, z < k * 4 → D' (o + 19) z = D (o2 + 19) z) ∧ (∀ j, 4 ≤ j → j < 8 → D' o j = D o2 j) ∧ ∀ a, (a < o ∨ o + 20 ≤ a) → D' a = D a
theorem like_ok {o o2 L : Nat} {ρ : Nat → Nat} {m k : Nat} {D D1 D2 D3 D4 : mDt} {g g1 g2 : Nat → Int32} (hoo : o + 20 ≤ o2 ∨ o2 + 20 ≤ o)
    (e1 : D1 = upd2 (upd2 (upd2 (upd2 D (o + 1) 0 (D (o2 + 1) 0)) (o + 1) 1 (D (o2 + 1) 1)) (o + 1) 2 (D (o2 + 1) 2)) (o + 1) 3 (D (o2 + 1) 3))
    (e2 : D2 = upd2 (setRow (upd2 (likD o o2 D1 10) (o + 2) 4 (nI L)) (o + 4) g) (o + 2) 3 (D1 (o2 + 2) 3)) (hg : ∀ p, p < L → g p = nI (ρ p))
    (e3 : D3 = setRow (upd2 D2 (o + 16) 1 (nI m)) (o + 17) g1) (hg1 : ∀ z, z < m * 4 → g1 z = D2 (o2 + 17) z)
    (e4 : D4 = setRow (upd2 D3 (o + 18) 1 (nI k)) (o + 19) g2) (hg2 : ∀ z, z < k * 4 → g2 z = D3 (o2 + 19) z) :
    likeOk o o2 L ρ m k D (upd2 (upd2 (upd2 (upd2 D4 o 4 (D o2 4)) o 5 (D o2 5)) o 6 (D o2 6)) o 7 (D o2 7)) := by
  have a1 : ∀ a, a ≠ o + 1 → D1 a = D a := fun a h => by rw [e1, upd2_ra h, upd2_ra h, upd2_ra h, upd2_ra h]
  have a2 : ∀ a, a ≠ o + 2 → a ≠ o + 4 → (a < o + 6 ∨ o + 16 ≤ a) → D2 a = D1 a := fun a h1 h2 h3 => by rw [e2, upd2_ra h1, setRow_ne h2, upd2_ra h1, likD_out (fun i hi => by omega)]
  have a3 : ∀ a, a ≠ o + 16 → a ≠ o + 17 → D3 a = D2 a := fun a h1 h2 => by rw [e3, setRow_ne h2, upd2_ra h1]
  have a4 : ∀ a, a ≠ o + 18 → a ≠ o + 19 → D4 a = D3 a := fun a h1 h2 => by rw [e4, setRow_ne h2, upd2_ra h1]
  have a5 : ∀ a, a ≠ o → (upd2 (upd2 (upd2 (upd2 D4 o 4 (D o2 4)) o 5 (D o2 5)) o 6 (D o2 6)) o 7 (D o2 7)) a = D4 a := fun a h => by rw [upd2_ra h, upd2_ra h, upd2_ra h, upd2_ra h]
  refine ⟨fun j hj => ?_, ?_, ?_, fun p hp => ?_, fun i hi => ?_, ?_, fun z hz => ?_, ?_, fun z hz => ?_, fun j h4 h8 => ?_, fun a ha => ?_⟩
  · rw [a5 _ (by omega), a4 _ (by omega) (by omega), a3 _ (by omega) (by omega), a2 _ (by omega) (by omega) (by omega), e1]
    rcases (show j = 0 ∨ j = 1 ∨ j = 2 ∨ j = 3 by omega) with rfl | rfl | rfl | rfl
    · rw [upd2_nk (by decide), upd2_nk (by decide), upd2_nk (by decide), upd2_eq]
    · rw [upd2_nk (by decide), upd2_nk (by decide), upd2_eq]
    · rw [upd2_nk (by decide), upd2_eq]
    · rw [upd2_eq]
  · rw [a5 _ (by omega), a4 _ (by omega) (by omega), a3 _ (by omega) (by omega), e2, upd2_nk (by decide), setRow_ne (by omega), upd2_eq]
  · rw [a5 _ (by omega), a4 _ (by omega) (by omega), a3 _ (by omega) (by omega), e2, upd2_eq, a1 _ (by omega)]
  · rw [a5 _ (by omega), a4 _ (by omega) (by omega), a3 _ (by omega) (by omega), e2, upd2_na (by omega), setRow_eq]; exact hg p hp
  · rw [a5 _ (by omega), a4 _ (by omega) (by omega), a3 _ (by omega) (by omega), e2, upd2_ra (by omega), setRow_ne (by omega), upd2_ra (by omega), likD_in hoo (Nat.le_refl _) hi, a1 _ (by omega), a1 _ (by omega)]
  · rw [a5 _ (by omega), a4 _ (by omega) (by omega), e3, setRow_ne (by omega), upd2_eq]
  · rw [a5 _ (by omega), a4 _ (by omega) (by omega), e3, setRow_eq, hg1 z hz, a2 _ (by omega) (by omega) (by omega), a1 _ (by omega)]
  · rw [a5 _ (by omega), e4, setRow_ne (by omega), upd2_eq]
  · rw [a5 _ (by omega), e4, setRow_eq, hg2 z hz, a3 _ (by omega) (by omega), a2 _ (by omega) (by omega) (by omega), a1 _ (by omega)]
  · rcases (show j = 4 ∨ j = 5 ∨ j = 6 ∨ j = 7 by omega) with rfl | rfl | rfl | rfl
    · rw [upd2_nk (by decide), upd2_nk (by decide), upd2_nk (by decide), upd2_eq]
    · rw [upd2_nk (by decide), upd2_nk (by decide), upd2_eq]
    · rw [upd2_nk (by decide), upd2_eq]
    · rw [upd2_eq]
  · rw [a5 _ (by omega), a4 _ (by omega) (by omega), a3 _ (by omega) (by omega), a2 _ (by omega) (by omega) (by omega), a1 _ (by omega)]

set_option maxRecDepth 100000 in
set_option maxHeartbeats 4000000 in
theorem c_oasisLike {κ : mKp} {n : Nat} {sh : mSh} {P : mPt} {D : mDt} {E : mEt} {o o2 : Nat} (hL : mLay o sh P) (hL2 : mLay o2 sh P) (hoo : o + 20 ≤ o2 ∨ o2 + 20 ≤ o) {L m k : Nat} {ρ : Nat → Nat} (hW : cW o2 L ρ m k D) (hlv : ∀ i, i < 10 → D (o2 + 6 + i) 1 = 0 ∨ D (o2 + 6 + i) 1 = 1) : mFnV κ yX2_becomeLike cX2_becomeLike 2 3 64 [.ref o, .ref o2] n sh P D E (fun D' => likeOk o o2 L ρ m k D D') := by
  refine mMet_of (by decide) (Nat.le_of_ble_eq_true rfl) ?_
  intro Γ Q hQ h hin
  have h : mOk Γ κ RX2 cX2_becomeLike 2 (Option.none : Option Jvm.ClassFile.FieldType) { frames := 3, cells := 0, slots := 0, locals := 64 } := h
  show mV Γ Q 0 0 n sh P D E [(0, .ref o), (1, .ref o2)] [] 0
  refine V_aload_n h 1 0 rfl dX2_becomeLike_0 rfl ?_
  refine g_X2_12 h 4 (b := o + 1) (L_s0 hL) (L_p0 hL) dX2_becomeLike_1 rfl ?_
  refine V_aload_n h 5 1 rfl dX2_becomeLike_4 rfl ?_
  refine g_X2_12 h 8 (b := o2 + 1) (L_s0 hL2) (L_p0 hL2) dX2_becomeLike_5 rfl ?_
  refine CVV h 11 (As := [.ref (o2 + 1)]) (c_chLike (L_s1 hL) (L_s1 hL2) (by omega)) rfl (L_s1 hL) qL_X2_35 qI_X0_becomeLike qS_X0_becomeLike qZ_X0 qC_X0_becomeLike hd_X0_becomeLike ⟨Nat.le_of_ble_eq_true rfl, Nat.le_of_ble_eq_true rfl⟩ (Nat.le_of_ble_eq_true rfl) rfl rfl dX2_becomeLike_8 (Nat.zero_le _) (Nat.zero_le _) (fun D1 hq1 => ?_)
  have f1 : ∀ a, a ≠ o + 1 → D1 a = D a := fun a h1 => by rw [hq1, upd2_ra h1, upd2_ra h1, upd2_ra h1, upd2_ra h1]
  have e1 := hq1
  refine V_aload_n h 12 0 rfl dX2_becomeLike_11 rfl ?_
  refine g_X2_21 h 15 (b := o + 2) (L_s0 hL) (L_p1 hL) dX2_becomeLike_12 rfl ?_
  refine V_aload_n h 16 1 rfl dX2_becomeLike_15 rfl ?_
  refine g_X2_21 h 19 (b := o2 + 2) (L_s0 hL2) (L_p1 hL2) dX2_becomeLike_16 rfl ?_
  refine CVV h 22 (As := [.ref (o2 + 2)]) (c_pplLike hL hL2 hoo (pOk_of (f1 _ (by omega)) (f1 _ (by omega)) hW.1) (fun i hi => by rw [f1 _ (by omega)]; exact hW.2.1 i hi) (fun i hi => by rw [f1 _ (by omega)]; exact hlv i hi)) rfl (L_s2 hL) qL_X2_39 qI_X4_becomeLike qS_X4_becomeLike qZ_X4 qC_X4_becomeLike hd_X4_becomeLike ⟨Nat.le_of_ble_eq_true rfl, Nat.le_of_ble_eq_true rfl⟩ (Nat.le_of_ble_eq_true rfl) rfl rfl dX2_becomeLike_19 (Nat.zero_le _) (Nat.zero_le _) (fun D2 hq2 => ?_)
  obtain ⟨g, e2, hg⟩ := hq2
  have f2 : ∀ a, a ≠ o + 2 → a ≠ o + 4 → (a < o + 6 ∨ o + 16 ≤ a) → D2 a = D1 a := fun a h1 h2 h3 => by rw [e2, upd2_ra h1, setRow_ne h2, upd2_ra h1, likD_out (fun i hi => by omega)]
  refine V_aload_n h 23 0 rfl dX2_becomeLike_22 rfl ?_
  refine g_X2_28 h 26 (b := o + 16) (L_s0 hL) (L_p2 hL) dX2_becomeLike_23 rfl ?_
  refine V_aload_n h 27 1 rfl dX2_becomeLike_26 rfl ?_
  refine g_X2_28 h 30 (b := o2 + 16) (L_s0 hL2) (L_p2 hL2) dX2_becomeLike_27 rfl ?_
  refine CVV h 33 (As := [.ref (o2 + 16)]) (c_dealsLike (L_s16 hL) (L_p16 hL) (L_s17 hL) (L_s16 hL2) (L_p16 hL2) (L_s17 hL2) (m := m) (by omega) (by omega) (by omega) (by omega) (by rw [f2 _ (by omega) (by omega) (by omega), f1 _ (by omega)]; exact hW.2.2.1) hW.2.2.2.1.1) rfl (L_s16 hL) qL_X2_42 qI_X1_becomeLike qS_X1_becomeLike qZ_X1 qC_X1_becomeLike hd_X1_becomeLike ⟨Nat.le_of_ble_eq_true rfl, Nat.le_of_ble_eq_true rfl⟩ (Nat.le_of_ble_eq_true rfl) rfl rfl dX2_becomeLike_30 (Nat.zero_le _) (Nat.zero_le _) (fun D3 hq3 => ?_)
  obtain ⟨g1, e3, hg1⟩ := hq3
  have f3 : ∀ a, a ≠ o + 16 → a ≠ o + 17 → D3 a = D2 a := fun a h1 h2 => by rw [e3, setRow_ne h2, upd2_ra h1]
  refine V_aload_n h 34 0 rfl dX2_becomeLike_33 rfl ?_
  refine g_X2_32 h 37 (b := o + 18) (L_s0 hL) (L_p3 hL) dX2_becomeLike_34 rfl ?_
  refine V_aload_n h 38 1 rfl dX2_becomeLike_37 rfl ?_
  refine g_X2_32 h 41 (b := o2 + 18) (L_s0 hL2) (L_p3 hL2) dX2_becomeLike_38 rfl ?_
  refine CVV h 44 (As := [.ref (o2 + 18)]) (c_dealsLike (L_s18 hL) (L_p18 hL) (L_s19 hL) (L_s18 hL2) (L_p18 hL2) (L_s19 hL2) (m := k) (by omega) (by omega) (by omega) (by omega) (by rw [f3 _ (by omega) (by omega), f2 _ (by omega) (by omega) (by omega), f1 _ (by omega)]; exact hW.2.2.2.2.1) hW.2.2.2.2.2.1) rfl (L_s18 hL) qL_X2_42 qI_X1_becomeLike qS_X1_becomeLike qZ_X1 qC_X1_becomeLike hd_X1_becomeLike ⟨Nat.le_of_ble_eq_true rfl, Nat.le_of_ble_eq_true rfl⟩ (Nat.le_of_ble_eq_true rfl) rfl rfl dX2_becomeLike_41 (Nat.zero_le _) (Nat.zero_le _) (fun D4 hq4 => ?_)
  obtain ⟨g2, e4, hg2⟩ := hq4
  have f4 : ∀ j, D4 o2 j = D o2 j := fun j => by rw [e4, setRow_ne (by omega), upd2_ra (by omega), f3 _ (by omega) (by omega), f2 _ (by omega) (by omega) (by omega), f1 _ (by omega)]
  refine V_aload_n h 45 0 rfl dX2_becomeLike_44 rfl ?_
  refine V_aload_n h 46 1 rfl dX2_becomeLike_45 rfl ?_
  refine g_X2_45 h 49 (L_s0 hL2) dX2_becomeLike_46 rfl ?_
  refine V_top (y := D o2 4) (f4 4) ?_
  refine p_X2_45 h 52 (L_s0 hL) dX2_becomeLike_49 rfl ?_
  obtain ⟨D5, eD5⟩ : ∃ zz, zz = upd2 D4 o 4 (D o2 4) := ⟨_, rfl⟩
  rw [← eD5]
  refine V_aload_n h 53 0 rfl dX2_becomeLike_52 rfl ?_
  refine V_aload_n h 54 1 rfl dX2_becomeLike_53 rfl ?_
  refine g_X2_49 h 57 (L_s0 hL2) dX2_becomeLike_54 rfl ?_
  refine V_top (y := D o2 5) (by rw [eD5, upd2_nk (by decide)]; exact (f4 5)) ?_
  refine p_X2_49 h 60 (L_s0 hL) dX2_becomeLike_57 rfl ?_
  obtain ⟨D6, eD6⟩ : ∃ zz, zz = upd2 D5 o 5 (D o2 5) := ⟨_, rfl⟩
  rw [← eD6]
  refine V_aload_n h 61 0 rfl dX2_becomeLike_60 rfl ?_
  refine V_aload_n h 62 1 rfl dX2_becomeLike_61 rfl ?_
  refine g_X2_52 h 65 (L_s0 hL2) dX2_becomeLike_62 rfl ?_
  refine V_top (y := D o2 6) (by rw [eD6, upd2_nk (by decide), eD5, upd2_nk (by decide)]; exact (f4 6)) ?_
  refine p_X2_52 h 68 (L_s0 hL) dX2_becomeLike_65 rfl ?_
  obtain ⟨D7, eD7⟩ : ∃ zz, zz = upd2 D6 o 6 (D o2 6) := ⟨_, rfl⟩
  rw [← eD7]
  refine V_aload_n h 69 0 rfl dX2_becomeLike_68 rfl ?_
  refine V_aload_n h 70 1 rfl dX2_becomeLike_69 rfl ?_
  refine g_X2_55 h 73 (L_s0 hL2) dX2_becomeLike_70 rfl ?_
  refine V_top (y := D o2 7) (by rw [eD7, upd2_nk (by decide), eD6, upd2_nk (by decide), eD5, upd2_nk (by decide)]; exact (f4 7)) ?_
  refine p_X2_55 h 76 (L_s0 hL) dX2_becomeLike_73 rfl ?_
  obtain ⟨D8, eD8⟩ : ∃ zz, zz = upd2 D7 o 7 (D o2 7) := ⟨_, rfl⟩
  rw [← eD8]
  exact V_ret h  hQ (Nat.zero_le _) (Nat.zero_le _) ⟨rfl, rfl, rfl, rfl, rfl, (by rw [eD8, eD7, eD6, eD5]; exact like_ok hoo e1 e2 hg e3 hg1 e4 hg2)⟩ dX2_becomeLike_76
