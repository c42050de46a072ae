theorem mLay_of {o : Nat} {sh sh' : mSh} {P P' : mPt} (h : mLay o sh P) (hs : ∀ a, o ≤ a → a < o + 20 → sh' a = sh a) (hP : ∀ a, o ≤ a → a < o + 20 → P' a = P a) : mLay o sh' P' := by
  obtain ⟨h0, h1, h2, h3, h4, h5, h6, h7, h8, h9, h10, p0, p1, p2, p3, p4, p5, p6, p7, p8, p9⟩ := h
  refine ⟨?_, ?_, ?_, ?_, ?_, ?_, fun i hi => ?_, ?_, ?_, ?_, ?_, ?_, ?_, ?_, ?_, ?_, ?_, ?_, fun i hi => ?_, ?_, ?_⟩
  all_goals first | rw [hs _ (by omega) (by omega)] | rw [hP _ (by omega) (by omega)]
  all_goals first | assumption | exact h6 i hi | exact p7 i hi
/-- a block as it is made -/
def freshD (o : Nat) (D : mDt) : Prop := D o = (fun _ => 0) ∧ D (o + 1) = upd (upd (fun _ => 0) 0 200) 1 40 ∧ D (o + 2) = (fun _ => 0) ∧ D (o + 4) = (fun _ => 0) ∧ D (o + 5) = upd (fun _ => 0) 0 (-1) ∧ (∀ i, i < 10 → D (o + 6 + i) = upd (fun _ => 0) 0 (nI i)) ∧ D (o + 16) = (fun _ => 0) ∧ D (o + 17) = (fun _ => 0) ∧ D (o + 18) = (fun _ => 0) ∧ D (o + 19) = (fun _ => 0)
theorem freshD_of {o : Nat} {D D' : mDt} (h : freshD o D) (hD : ∀ a, o ≤ a → a < o + 20 → D' a = D a) : freshD o D' := by
  obtain ⟨h0, h1, h2, h3, h4, h5, h6, h7, h8, h9⟩ := h
  refine ⟨?_, ?_, ?_, ?_, ?_, fun i hi => ?_, ?_, ?_, ?_, ?_⟩
  all_goals rw [hD _ (by omega) (by omega)]
  all_goals first | assumption | exact h5 i hi
theorem oas_fresh {o n' : Nat} {sh S' : mSh} {P P' : mPt} {D D' : mDt} (h : oasOk o sh P D n' S' P' D') (h0 : D o = fun _ => 0) : freshD o D' := ⟨by rw [h.2.2.2.2.1 _ (Nat.le_refl _)]; exact h0, h.2.2.2.2.2⟩
def bokOk (b : Nat) (sh : mSh) (P : mPt) (D : mDt) (n' : Nat) (sh' : mSh) (P' : mPt) (D' : mDt) : Prop := n' = b + 61 ∧ bLay b (b + 1) (b + 21) (b + 41) sh' P' ∧ freshD (b + 1) D' ∧ freshD (b + 21) D' ∧ freshD (b + 41) D' ∧ (∀ a, a ≤ b → sh' a = sh a) ∧ (∀ a, a < b → P' a = P a) ∧ ∀ a, a ≤ b → D' a = D a
theorem bok_ok {b : Nat} {sh S1 S2 S4 S5 S7 S8 : mSh} {P P1 P2 P4 P5 P7 P8 P9 : mPt} {D D1 D2 D4 D5 D7 D8 : mDt} (hs : sh b = some (.inl 5)) (e1 : S1 = updS sh (b + 1) (.inl 2)) (p1 : P1 = clrP P (b + 1)) (d1 : D1 = clrD D (b + 1)) (h1 : oasOk (b + 1) S1 P1 D1 (b + 21) S2 P2 D2)
    (e4 : S4 = updS S2 (b + 21) (.inl 2)) (p4 : P4 = clrP (updP P2 b 0 (some (b + 1))) (b + 21)) (d4 : D4 = clrD D2 (b + 21)) (h2 : oasOk (b + 21) S4 P4 D4 (b + 41) S5 P5 D5)
    (e7 : S7 = updS S5 (b + 41) (.inl 2)) (p7 : P7 = clrP (updP P5 b 1 (some (b + 21))) (b + 41)) (d7 : D7 = clrD D5 (b + 41)) (h3 : oasOk (b + 41) S7 P7 D7 (b + 61) S8 P8 D8) (p9 : P9 = updP P8 b 2 (some (b + 41))) : bokOk b sh P D (b + 61) S8 P9 D8 := by
  have s5 : ∀ a, a ≤ b + 20 → S8 a = S2 a := fun a ha => by rw [h3.2.2.1 _ (by omega), e7, updS_ne (by omega), h2.2.2.1 _ (by omega), e4, updS_ne (by omega)]
  have s8 : ∀ a, a ≤ b + 40 → S8 a = S5 a := fun a ha => by rw [h3.2.2.1 _ (by omega), e7, updS_ne (by omega)]
  have q5 : ∀ a, b < a → a ≤ b + 20 → P9 a = P2 a := fun a ha hb => by rw [p9, updP_ra (by omega), h3.2.2.2.1 _ (by omega), p7, clrP_ne (by omega), updP_ra (by omega), h2.2.2.2.1 _ (by omega), p4, clrP_ne (by omega), updP_ra (by omega)]
  have q8 : ∀ a, b < a → a ≤ b + 40 → P9 a = P5 a := fun a ha hb => by rw [p9, updP_ra (by omega), h3.2.2.2.1 _ (by omega), p7, clrP_ne (by omega), updP_ra (by omega)]
  have d5 : ∀ a, a ≤ b + 20 → D8 a = D2 a := fun a ha => by rw [h3.2.2.2.2.1 _ (by omega), d7, clrD_ne (by omega), h2.2.2.2.2.1 _ (by omega), d4, clrD_ne (by omega)]
  have d8 : ∀ a, a ≤ b + 40 → D8 a = D5 a := fun a ha => by rw [h3.2.2.2.2.1 _ (by omega), d7, clrD_ne (by omega)]
  refine ⟨rfl, ⟨?_, ?_, ?_, ?_, mLay_of h1.2.1 (fun a h1 h2 => s5 a (by omega)) (fun a h1 h2 => q5 a (by omega) (by omega)), mLay_of h2.2.1 (fun a h1 h2 => s8 a (by omega)) (fun a h1 h2 => q8 a (by omega) (by omega)), mLay_of h3.2.1 (fun a h1 h2 => rfl) (fun a h1 h2 => by rw [p9, updP_ra (by omega)]), by omega, by omega⟩,
    freshD_of (oas_fresh h1 (by rw [d1, clrD_eq])) (fun a h1 h2 => d5 a (by omega)), freshD_of (oas_fresh h2 (by rw [d4, clrD_eq])) (fun a h1 h2 => d8 a (by omega)), oas_fresh h3 (by rw [d7, clrD_eq]), fun a ha => ?_, fun a ha => ?_, fun a ha => ?_⟩
  · rw [s5 _ (by omega), h1.2.2.1 _ (by omega), e1, updS_ne (by omega)]; exact hs
  · rw [p9, updP_nk (by decide), h3.2.2.2.1 _ (by omega), p7, clrP_ne (by omega), updP_nk (by decide), h2.2.2.2.1 _ (by omega), p4, clrP_ne (by omega), updP_eq]
  · rw [p9, updP_nk (by decide), h3.2.2.2.1 _ (by omega), p7, clrP_ne (by omega), updP_eq]
  · rw [p9, updP_eq]
  · rw [s5 _ (by omega), h1.2.2.1 _ (by omega), e1, updS_ne (by omega)]
  · rw [p9, updP_ra (by omega), h3.2.2.2.1 _ (by omega), p7, clrP_ne (by omega), updP_ra (by omega), h2.2.2.2.1 _ (by omega), p4, clrP_ne (by omega), updP_ra (by omega), h1.2.2.2.1 _ (by omega), p1, clrP_ne (by omega)]
  · rw [d5 _ (by omega), h1.2.2.2.2.1 _ (by omega), d1, clrD_ne (by omega)]

set_option maxRecDepth 100000 in
set_option maxHeartbeats 4000000 in
theorem m_bokInit {κ : mKp} {sh : mSh} {P : mPt} {D : mDt} {E : mEt} {b : Nat} (hs : sh b = some (.inl 5)) : mMet κ yX5_init cX5_init 1 (Option.none : Option Jvm.ClassFile.FieldType) { frames := 4, cells := 60, slots := 879, locals := 82 } [.ref b] (b + 1) sh P D E (fun v n' sh' P' D' E' => v = none ∧ E' = E ∧ bokOk b sh P D n' sh' P' D') := by
  refine mMet_of (by decide) (Nat.le_of_ble_eq_true rfl) ?_
  intro Γ Q hQ h hin
  have h : mOk Γ κ RX5 cX5_init 1 (Option.none : Option Jvm.ClassFile.FieldType) { frames := 4, cells := 60, slots := 879, locals := 82 } := h
  show mV Γ Q 0 0 (b + 1) sh P D E [(0, .ref b)] [] 0
  refine V_aload_n h 1 0 rfl dX5_init_0 rfl ?_
  refine V_objInit h 4 qL_X5_1 (Nat.le_of_ble_eq_true rfl) (Nat.le_of_ble_eq_true rfl) dX5_init_1 rfl ?_
  refine V_aload_n h 5 0 rfl dX5_init_4 rfl ?_
  refine V_new (ci := 2) (C := RX2) (T := TX2) h 8 (b + 2) 1 8 tyX2 tyX2_ok (by decide) qU_X2 rfl qK_X5_7 qN_X2 qZ_X2 (Nat.le_of_ble_eq_true rfl) (Nat.le_of_ble_eq_true rfl) dX5_init_5 rfl (by first | omega | dsimp only | (dsimp only; omega)) (by first | omega | dsimp only | (dsimp only; omega)) (by first | omega | dsimp only | (dsimp only; omega)) ?_
  obtain ⟨S1, eS1⟩ : ∃ zz, zz = updS sh (b + 1) (.inl 2) := ⟨_, rfl⟩
  rw [← eS1]
  obtain ⟨P1, eP1⟩ : ∃ zz, zz = clrP P (b + 1) := ⟨_, rfl⟩
  rw [← eP1]
  obtain ⟨D1, eD1⟩ : ∃ zz, zz = clrD D (b + 1) := ⟨_, rfl⟩
  rw [← eD1]
  have fs1_0 : S1 b = some (.inl 5) := by rw [eS1, updS_ne (by omega)]; exact hs
  have fn2 : S1 (b + 1) = some (.inl 2) := by rw [eS1]; exact updS_eq
  refine V_dup h 9 rfl dX5_init_8 rfl ?_
  refine V_callIN h 12 (ret2 := none) (host := "OasisBooks") (rm := { frames := 3, cells := 19, slots := 285, locals := 62 }) (As := []) (m_oasInit fn2) rfl (List.mem_of_getElem? (i := 0) (by decide +kernel)) qI_X2_init qZ_X2 qC_X2_init hd_X2_init ⟨Nat.le_of_ble_eq_true rfl, Nat.le_of_ble_eq_true rfl⟩ (Nat.le_of_ble_eq_true rfl) rfl rfl dX5_init_9 ⟨(Nat.le_of_ble_eq_true rfl), (Nat.le_of_ble_eq_true rfl)⟩ (fun v3 n3 S3 P3 D3 E3 hq3 => ?_)
  obtain ⟨q5, q4, q1, hq3⟩ := hq3
  subst q5
  subst q4
  rw [q1]
  have ft3_0 : S3 b = some (.inl 5) := (hq3.2.1 _ (by omega)).trans fs1_0
  have ft3_1 : S3 (b + 1) = some (.inl 2) := (hq3.2.1 _ (by omega)).trans fn2
  refine p_X5_10 h 15 (hin rfl) ft3_0 dX5_init_12 rfl ?_
  obtain ⟨P4, eP4⟩ : ∃ zz, zz = updP P3 b 0 (some (b + 1)) := ⟨_, rfl⟩
  rw [← eP4]
  have fq5 : P4 b 0 = some (b + 1) := by rw [eP4]; exact updP_eq
  refine V_aload_n h 16 0 rfl dX5_init_15 rfl ?_
  refine V_new (ci := 2) (C := RX2) (T := TX2) h 19 (b + 22) 21 301 tyX2 tyX2_ok (by decide) qU_X2 rfl qK_X5_7 qN_X2 qZ_X2 (Nat.le_of_ble_eq_true rfl) (Nat.le_of_ble_eq_true rfl) dX5_init_16 rfl (by first | omega | dsimp only | (dsimp only; omega)) (by first | omega | dsimp only | (dsimp only; omega)) (by first | omega | dsimp only | (dsimp only; omega)) ?_
  obtain ⟨S6, eS6⟩ : ∃ zz, zz = updS S3 (b + 21) (.inl 2) := ⟨_, rfl⟩
  rw [← eS6]
  obtain ⟨P6, eP6⟩ : ∃ zz, zz = clrP P4 (b + 21) := ⟨_, rfl⟩
  rw [← eP6]
  obtain ⟨D6, eD6⟩ : ∃ zz, zz = clrD D3 (b + 21) := ⟨_, rfl⟩
  rw [← eD6]
  have fs6_0 : S6 b = some (.inl 5) := by rw [eS6, updS_ne (by omega)]; exact ft3_0
  have fs6_1 : S6 (b + 1) = some (.inl 2) := by rw [eS6, updS_ne (by omega)]; exact ft3_1
  have fr6_0 : P6 b 0 = some (b + 1) := by rw [eP6, clrP_ne (by omega)]; exact fq5
  have fn7 : S6 (b + 21) = some (.inl 2) := by rw [eS6]; exact updS_eq
  refine V_dup h 20 rfl dX5_init_19 rfl ?_
  refine V_callIN h 23 (ret2 := none) (host := "OasisBooks") (rm := { frames := 3, cells := 19, slots := 285, locals := 62 }) (As := []) (m_oasInit fn7) rfl (List.mem_of_getElem? (i := 0) (by decide +kernel)) qI_X2_init qZ_X2 qC_X2_init hd_X2_init ⟨Nat.le_of_ble_eq_true rfl, Nat.le_of_ble_eq_true rfl⟩ (Nat.le_of_ble_eq_true rfl) rfl rfl dX5_init_20 ⟨(Nat.le_of_ble_eq_true rfl), (Nat.le_of_ble_eq_true rfl)⟩ (fun v8 n8 S8 P8 D8 E8 hq8 => ?_)
  obtain ⟨q5, q4, q1, hq8⟩ := hq8
  subst q5
  subst q4
  rw [q1]
  have ft8_0 : S8 b = some (.inl 5) := (hq8.2.1 _ (by omega)).trans fs6_0
  have ft8_1 : S8 (b + 1) = some (.inl 2) := (hq8.2.1 _ (by omega)).trans fs6_1
  have ft8_2 : S8 (b + 21) = some (.inl 2) := (hq8.2.1 _ (by omega)).trans fn7
  have fu8_0 : P8 b 0 = some (b + 1) := by rw [hq8.2.2.1 _ (by omega)]; exact fr6_0
  refine p_X5_16 h 26 (hin rfl) ft8_0 dX5_init_23 rfl ?_
  obtain ⟨P9, eP9⟩ : ∃ zz, zz = updP P8 b 1 (some (b + 21)) := ⟨_, rfl⟩
  rw [← eP9]
  have frp9_0 : P9 b 0 = some (b + 1) := by rw [eP9, updP_nk (by decide)]; exact fu8_0
  have fq10 : P9 b 1 = some (b + 21) := by rw [eP9]; exact updP_eq
  refine V_aload_n h 27 0 rfl dX5_init_26 rfl ?_
  refine V_new (ci := 2) (C := RX2) (T := TX2) h 30 (b + 42) 41 594 tyX2 tyX2_ok (by decide) qU_X2 rfl qK_X5_7 qN_X2 qZ_X2 (Nat.le_of_ble_eq_true rfl) (Nat.le_of_ble_eq_true rfl) dX5_init_27 rfl (by first | omega | dsimp only | (dsimp only; omega)) (by first | omega | dsimp only | (dsimp only; omega)) (by first | omega | dsimp only | (dsimp only; omega)) ?_
  obtain ⟨S11, eS11⟩ : ∃ zz, zz = updS S8 (b + 41) (.inl 2) := ⟨_, rfl⟩
  rw [← eS11]
  obtain ⟨P11, eP11⟩ : ∃ zz, zz = clrP P9 (b + 41) := ⟨_, rfl⟩
  rw [← eP11]
  obtain ⟨D11, eD11⟩ : ∃ zz, zz = clrD D8 (b + 41) := ⟨_, rfl⟩
  rw [← eD11]
  have fs11_0 : S11 b = some (.inl 5) := by rw [eS11, updS_ne (by omega)]; exact ft8_0
  have fs11_1 : S11 (b + 1) = some (.inl 2) := by rw [eS11, updS_ne (by omega)]; exact ft8_1
  have fs11_2 : S11 (b + 21) = some (.inl 2) := by rw [eS11, updS_ne (by omega)]; exact ft8_2
  have fr11_0 : P11 b 0 = some (b + 1) := by rw [eP11, clrP_ne (by omega)]; exact frp9_0
  have fr11_1 : P11 b 1 = some (b + 21) := by rw [eP11, clrP_ne (by omega)]; exact fq10
  have fn12 : S11 (b + 41) = some (.inl 2) := by rw [eS11]; exact updS_eq
  refine V_dup h 31 rfl dX5_init_30 rfl ?_
  refine V_callIN h 34 (ret2 := none) (host := "OasisBooks") (rm := { frames := 3, cells := 19, slots := 285, locals := 62 }) (As := []) (m_oasInit fn12) rfl (List.mem_of_getElem? (i := 0) (by decide +kernel)) qI_X2_init qZ_X2 qC_X2_init hd_X2_init ⟨Nat.le_of_ble_eq_true rfl, Nat.le_of_ble_eq_true rfl⟩ (Nat.le_of_ble_eq_true rfl) rfl rfl dX5_init_31 ⟨(Nat.le_of_ble_eq_true rfl), (Nat.le_of_ble_eq_true rfl)⟩ (fun v13 n13 S13 P13 D13 E13 hq13 => ?_)
  obtain ⟨q5, q4, q1, hq13⟩ := hq13
  subst q5
  subst q4
  rw [q1]
  have ft13_0 : S13 b = some (.inl 5) := (hq13.2.1 _ (by omega)).trans fs11_0
  have ft13_1 : S13 (b + 1) = some (.inl 2) := (hq13.2.1 _ (by omega)).trans fs11_1
  have ft13_2 : S13 (b + 21) = some (.inl 2) := (hq13.2.1 _ (by omega)).trans fs11_2
  have ft13_3 : S13 (b + 41) = some (.inl 2) := (hq13.2.1 _ (by omega)).trans fn12
  have fu13_0 : P13 b 0 = some (b + 1) := by rw [hq13.2.2.1 _ (by omega)]; exact fr11_0
  have fu13_1 : P13 b 1 = some (b + 21) := by rw [hq13.2.2.1 _ (by omega)]; exact fr11_1
  refine p_X5_19 h 37 (hin rfl) ft13_0 dX5_init_34 rfl ?_
  obtain ⟨P14, eP14⟩ : ∃ zz, zz = updP P13 b 2 (some (b + 41)) := ⟨_, rfl⟩
  rw [← eP14]
  have frp14_0 : P14 b 0 = some (b + 1) := by rw [eP14, updP_nk (by decide)]; exact fu13_0
  have frp14_1 : P14 b 1 = some (b + 21) := by rw [eP14, updP_nk (by decide)]; exact fu13_1
  have fq15 : P14 b 2 = some (b + 41) := by rw [eP14]; exact updP_eq
  exact V_ret h  hQ (Nat.le_of_ble_eq_true rfl) (Nat.le_of_ble_eq_true rfl) ⟨rfl, rfl, bok_ok hs (by rw [eS1]) (by rw [eP1]) (by rw [eD1]) ⟨rfl, hq3⟩ (by rw [eS6]) (by rw [eP6, eP4]) (by rw [eD6]) ⟨rfl, hq8⟩ (by rw [eS11]) (by rw [eP11, eP9]) (by rw [eD11]) ⟨rfl, hq13⟩ (by rw [eP14])⟩ dX5_init_37

/-- the place of an Oasis of the reference: thirty-two cells from r on; its loan of number i stands in the row lo i -/
def rLay (r : Nat) (lo : Nat → Nat) (sh : mSh) (P : mPt) : Prop := (sh r = some (.inl 6) ∧ sh (r + 1) = some (.inr (2, 10)) ∧ (∀ i, i < 10 → sh (r + 2 + i) = some (.inr (0, 12))) ∧ sh (r + 12) = some (.inr (0, 10)) ∧ sh (r + 13) = some (.inr (2, 8)) ∧ (∀ i, i < 8 → sh (r + 14 + i) = some (.inr (0, 4))) ∧ sh (r + 22) = some (.inr (2, 8)) ∧ (∀ i, i < 8 → sh (r + 23 + i) = some (.inr (0, 3))) ∧ sh (r + 31) = some (.inr (0, 10))) ∧ (P r 0 = some (r + 1) ∧ P r 1 = some (r + 12) ∧ P r 2 = some (r + 13) ∧ P r 3 = some (r + 22) ∧ P r 4 = some (r + 31) ∧ (∀ i, i < 10 → P (r + 1) i = some (r + 2 + i)) ∧ ∀ i, i < 8 → P (r + 22) i = some (r + 23 + i)) ∧ (∀ i, i < 8 → P (r + 13) i = some (r + 14 + lo i)) ∧ (∀ i, i < 8 → lo i < 8) ∧ ∀ i j, i < 8 → j < 8 → lo i = lo j → i = j
def rFresh (r : Nat) (D : mDt) : Prop := D r = upd (upd (fun _ => 0) 10 200) 11 40 ∧ (∀ i, i < 10 → D (r + 2 + i) = fun _ => 0) ∧ D (r + 12) = (fun _ => 0) ∧ (∀ i, i < 8 → D (r + 14 + i) = fun _ => 0) ∧ (∀ i, i < 8 → D (r + 23 + i) = fun _ => 0) ∧ D (r + 31) = fun _ => 0
def rasOk (r : Nat) (sh : mSh) (P : mPt) (D : mDt) (n' : Nat) (sh' : mSh) (P' : mPt) (D' : mDt) : Prop := n' = r + 32 ∧ rLay r (fun i => i) sh' P' ∧ (∀ a, a ≤ r → sh' a = sh a) ∧ (∀ a, a < r → P' a = P a) ∧ (∀ a, a < r → D' a = D a) ∧ (D r = (fun _ => 0) → rFresh r D')
theorem ras_ok {r : Nat} {sh S : mSh} {P P0 : mPt} {D D0 : mDt} (hs : sh r = some (.inl 6)) (e : S = updS (rwS (rwS (updS (rwS sh (r + 1) 10 12) (r + 12) (.inr (0, 10))) (r + 13) 8 4) (r + 22) 8 3) (r + 31) (.inr (0, 10)))
    (p : P0 = updP (clrP (updP (rwP (updP (rwP (updP (clrP (updP (rwP P (r + 1) 10) r 0 (some (r + 1))) (r + 12)) r 1 (some (r + 12))) (r + 13) 8) r 2 (some (r + 13))) (r + 22) 8) r 3 (some (r + 22))) (r + 31)) r 4 (some (r + 31)))
    (d : D0 = upd2 (upd2 (clrD (rwD (rwD (clrD (rwD D (r + 1) 10) (r + 12)) (r + 13) 8) (r + 22) 8) (r + 31)) r 10 200) r 11 40) : rasOk r sh P D (r + 32) S P0 D0 := by
  refine ⟨rfl, ⟨⟨?_, ?_, fun i hi => ?_, ?_, ?_, fun i hi => ?_, ?_, fun i hi => ?_, ?_⟩, ⟨?_, ?_, ?_, ?_, ?_, fun i hi => ?_, fun i hi => ?_⟩, fun i hi => ?_, fun i hi => hi, fun i j _ _ h => h⟩, fun a ha => ?_, fun a ha => ?_, fun a ha => ?_, fun h0 => ⟨?_, fun i hi => ?_, ?_, fun i hi => ?_, fun i hi => ?_, ?_⟩⟩
  · rw [e, updS_ne (by omega), rwS_o (by omega), rwS_o (by omega), updS_ne (by omega), rwS_o (by omega)]; exact hs
  · rw [e, updS_ne (by omega), rwS_o (by omega), rwS_o (by omega), updS_ne (by omega), rwS_0]
  · rw [e, updS_ne (by omega), rwS_o (by omega), rwS_o (by omega), updS_ne (by omega), rwS_1 (by omega) (by omega)]
  · rw [e, updS_ne (by omega), rwS_o (by omega), rwS_o (by omega), updS_eq]
  · rw [e, updS_ne (by omega), rwS_o (by omega), rwS_0]
  · rw [e, updS_ne (by omega), rwS_o (by omega), rwS_1 (by omega) (by omega)]
  · rw [e, updS_ne (by omega), rwS_0]
  · rw [e, updS_ne (by omega), rwS_1 (by omega) (by omega)]
  · rw [e, updS_eq]
  · rw [p, updP_nk (by decide), clrP_ne (by omega), updP_nk (by decide), rwP_o (by omega), updP_nk (by decide), rwP_o (by omega), updP_nk (by decide), clrP_ne (by omega), updP_eq]
  · rw [p, updP_nk (by decide), clrP_ne (by omega), updP_nk (by decide), rwP_o (by omega), updP_nk (by decide), rwP_o (by omega), updP_eq]
  · rw [p, updP_nk (by decide), clrP_ne (by omega), updP_nk (by decide), rwP_o (by omega), updP_eq]
  · rw [p, updP_nk (by decide), clrP_ne (by omega), updP_eq]
  · rw [p, updP_eq]
  · rw [p, updP_ra (by omega), clrP_ne (by omega), updP_ra (by omega), rwP_o (by omega), updP_ra (by omega), rwP_o (by omega), updP_ra (by omega), clrP_ne (by omega), updP_ra (by omega), rwP_0 hi]
  · rw [p, updP_ra (by omega), clrP_ne (by omega), updP_ra (by omega), rwP_0 hi]
  · rw [p, updP_ra (by omega), clrP_ne (by omega), updP_ra (by omega), rwP_o (by omega), updP_ra (by omega), rwP_0 hi]
  · rw [e, updS_ne (by omega), rwS_o (by omega), rwS_o (by omega), updS_ne (by omega), rwS_o (by omega)]
  · rw [p, updP_ra (by omega), clrP_ne (by omega), updP_ra (by omega), rwP_o (by omega), updP_ra (by omega), rwP_o (by omega), updP_ra (by omega), clrP_ne (by omega), updP_ra (by omega), rwP_o (by omega)]
  · rw [d, upd2_ra (by omega), upd2_ra (by omega), clrD_ne (by omega), rwD_o (by omega), rwD_o (by omega), clrD_ne (by omega), rwD_o (by omega)]
  · rw [d, upd2_row, upd2_row, clrD_ne (by omega), rwD_o (by omega), rwD_o (by omega), clrD_ne (by omega), rwD_o (by omega), h0]
  · rw [d, upd2_ra (by omega), upd2_ra (by omega), clrD_ne (by omega), rwD_o (by omega), rwD_o (by omega), clrD_ne (by omega), rwD_1 (by omega) (by omega)]
  · rw [d, upd2_ra (by omega), upd2_ra (by omega), clrD_ne (by omega), rwD_o (by omega), rwD_o (by omega), clrD_eq]
  · rw [d, upd2_ra (by omega), upd2_ra (by omega), clrD_ne (by omega), rwD_o (by omega), rwD_1 (by omega) (by omega)]
  · rw [d, upd2_ra (by omega), upd2_ra (by omega), clrD_ne (by omega), rwD_1 (by omega) (by omega)]
  · rw [d, upd2_ra (by omega), upd2_ra (by omega), clrD_eq]

/-- the reference at q, its oasis at q + 1 -/
def modOk (q : Nat) (sh : mSh) (P : mPt) (D : mDt) (n' : Nat) (sh' : mSh) (P' : mPt) (D' : mDt) : Prop := n' = q + 33 ∧ sh' q = some (.inl 7) ∧ P' q 1 = some (q + 1) ∧ rLay (q + 1) (fun i => i) sh' P' ∧ rFresh (q + 1) D' ∧ (∀ a, a ≤ q → sh' a = sh a) ∧ (∀ a, a < q → P' a = P a) ∧ ∀ a, a ≤ q → D' a = D a
theorem rLay_of {r : Nat} {lo : Nat → Nat} {sh sh' : mSh} {P P' : mPt} (h : rLay r lo sh P) (hs : ∀ a, r ≤ a → a < r + 32 → sh' a = sh a) (hP : ∀ a, r ≤ a → a < r + 32 → P' a = P a) : rLay r lo sh' P' := by
  obtain ⟨⟨h0, h1, h2, h3, h4, h5, h6, h7, h8⟩, ⟨p0, p1, p2, p3, p4, p5, p6⟩, l1, l2, l3⟩ := h
  refine ⟨⟨?_, ?_, fun i hi => ?_, ?_, ?_, fun i hi => ?_, ?_, fun i hi => ?_, ?_⟩, ⟨?_, ?_, ?_, ?_, ?_, fun i hi => ?_, fun i hi => ?_⟩, fun i hi => ?_, l2, l3⟩
  all_goals first | rw [hs _ (by omega) (by omega)] | rw [hP _ (by omega) (by omega)]
  all_goals first | assumption | exact h2 i hi | exact h5 i hi | exact h7 i hi | exact p5 i hi | exact p6 i hi | exact l1 i hi
theorem mod_ok {q : Nat} {sh S1 S2 : mSh} {P P1 P2 P3 : mPt} {D D1 D2 : mDt} (hs : sh q = some (.inl 7)) (e1 : S1 = updS sh (q + 1) (.inl 6)) (p1 : P1 = clrP P (q + 1)) (d1 : D1 = clrD D (q + 1)) (h1 : rasOk (q + 1) S1 P1 D1 (q + 33) S2 P2 D2) (p3 : P3 = updP P2 q 1 (some (q + 1))) : modOk q sh P D (q + 33) S2 P3 D2 := by
  refine ⟨rfl, ?_, by rw [p3, updP_eq], rLay_of h1.2.1 (fun _ _ _ => rfl) (fun a ha _ => by rw [p3, updP_ra (by omega)]), h1.2.2.2.2.2 (by rw [d1, clrD_eq]), fun a ha => ?_, fun a ha => ?_, fun a ha => ?_⟩
  · rw [h1.2.2.1 _ (by omega), e1, updS_ne (by omega)]; exact hs
  · rw [h1.2.2.1 _ (by omega), e1, updS_ne (by omega)]
  · rw [p3, updP_ra (by omega), h1.2.2.2.1 _ (by omega), p1, clrP_ne (by omega)]
  · rw [h1.2.2.2.2.1 _ (by omega), d1, clrD_ne (by omega)]
