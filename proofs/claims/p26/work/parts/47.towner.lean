/-! one owner more is told -/
theorem upd2_pt {D1 D2 : mDt} {a x k : Nat} {v w : Int32} (h : D1 a = D2 a) (hv : v = w) : upd2 D1 x k v a = upd2 D2 x k w a := by
  funext j; unfold upd2; rw [h, hv]
theorem setRow_pt {D1 D2 : mDt} {a x : Nat} {f g : Nat → Int32} (h : D1 a = D2 a) (hf : f = g) : setRow D1 x f a = setRow D2 x g a := by
  funext j; unfold setRow; rw [h, hf]
theorem addD_pt {o e L a : Nat} {w c p m : Int32} {D1 D2 : mDt} (h : ∀ a, o ≤ a → a < o + 20 → D1 a = D2 a) (he : e < 10) (h1 : o ≤ a) (h2 : a < o + 20) : addD o e L w c p m D1 a = addD o e L w c p m D2 a := by
  unfold addD
  exact upd2_pt (upd2_pt (upd2_pt (setRow_pt (h a h1 h2) (by rw [h (o + 6 + e) (by omega) (by omega)])) rfl) rfl) rfl
theorem addD_out {o e L a : Nat} {w c p m : Int32} {D : mDt} (he : e < 10) (h : a < o ∨ o + 20 ≤ a) : addD o e L w c p m D a = D a := by
  unfold addD
  rw [upd2_ra (by omega), upd2_ra (by omega), upd2_ra (by omega), setRow_ne (by omega)]
/-- a Told at t of which e owners are told, its row at rw -/
def tI (t bs dr e rw n : Nat) (sh : mSh) (P : mPt) (D : mDt) : Prop := t + 78 ≤ n ∧ t + 73 ≤ rw ∧ rw < n ∧ bLay (t + 1) (t + 2) (t + 22) (t + 42) sh P ∧ sh t = some (.inl 6) ∧ P t 0 = some (t + 1) ∧ P t 1 = some bs ∧ P t 3 = some (t + 62) ∧ P t 5 = some rw ∧ sh (t + 62) = some (.inr (2, 10)) ∧ sh rw = some (.inr (0, e)) ∧ D t 2 = nI dr ∧ D t 4 = nI e
def towOk (t e n : Nat) (w c p m : Int32) (sh : mSh) (P : mPt) (D : mDt) (n' : Nat) (sh' : mSh) (P' : mPt) (D' : mDt) : Prop := n' = n + 2 ∧ sh' (n + 1) = some (.inr (0, e + 1)) ∧ P' t 5 = some (n + 1) ∧ (∀ a, a < n → sh' a = sh a) ∧ (∀ a, a < n → a ≠ t → a ≠ t + 62 → P' a = P a) ∧ (∀ j, j ≠ 5 → P' t j = P t j) ∧ D' t 2 = D t 2 ∧ D' t 4 = nI (e + 1) ∧ (∀ a, t + 2 ≤ a → a < t + 22 → D' a = addD (t + 2) e e w c p m D a) ∧ ∀ a, a < n → a ≠ t → (a < t + 2 ∨ t + 22 ≤ a) → D' a = D a
set_option maxRecDepth 100000 in
set_option maxHeartbeats 4000000 in
theorem m_towner {κ : mKp} {n : Nat} {sh : mSh} {P : mPt} {D : mDt} {E : mEt} {bs Ls : Nat} {xs : Nat → Int32} {t dr e rw : Nat} (hst : κ.1.stackTraces = false) (hT : tI t bs dr e rw n sh P D) (he : e < 10) {m k : Nat} {ρ : Nat → Nat} (hI : cI (t + 2) e e ρ m k D) (w c p mm : Int32) (hg : wP w 0 5040 ∧ wP c 0 9999 ∧ wP p 0 200 ∧ wP mm 0 20) (hw : w ≤ 5040 - rsum (fun p => D (t + 2 + 6 + ρ p) 2) e) : mSMet κ yX6_owner cX6_owner 7 (Option.some Jvm.ClassFile.FieldType.boolean) { frames := 8, cells := 4, slots := 40, locals := 133 } [.ref t, .int w, .int c, .int p, .int mm] n sh P D E bs Ls xs (fun v n' sh' P' D' E' => v = some (.int 1) ∧ E' = E ∧ towOk t e n w c p mm sh P D n' sh' P' D') := by
  refine mSMet_of (by decide) (Nat.le_of_ble_eq_true rfl) ?_
  intro Γ Q hQ h hX hin
  have h : mOk Γ κ RX6 cX6_owner 7 (Option.some Jvm.ClassFile.FieldType.boolean) { frames := 8, cells := 4, slots := 40, locals := 133 } := h
  obtain ⟨hn, hr1, hr2, hB, ht, p0, p1, p3, p5, h62, hrw, h2, h4⟩ := hT
  show mV Γ Q 0 0 n sh P D E [(0, .ref t), (1, .int w), (2, .int c), (3, .int p), (4, .int mm)] [] 0
  refine V_bipush h 2 (v := 11) (by decide) dX6_owner_0 rfl ?_
  refine V_newI h 4 (n + 1) 1 11 (len := 11) qarrayClass_566 rfl (by decide) (by show 1 ≤ 4; omega) (by show 11 ≤ 40; omega) dX6_owner_2 rfl (by first | omega | dsimp only | (dsimp only; omega)) (by first | omega | dsimp only | (dsimp only; omega)) (by first | omega | dsimp only | (dsimp only; omega)) ?_
  obtain ⟨S1, eS1⟩ : ∃ zz, zz = updS sh n (.inr (0, 11)) := ⟨_, rfl⟩
  rw [← eS1]
  obtain ⟨P1, eP1⟩ : ∃ zz, zz = clrP P n := ⟨_, rfl⟩
  rw [← eP1]
  obtain ⟨D1, eD1⟩ : ∃ zz, zz = clrD D n := ⟨_, rfl⟩
  rw [← eD1]
  have fs1_0 : S1 t = some (.inl 6) := by rw [eS1, updS_ne (by omega)]; exact ht
  have fs1_1 : S1 (t + 62) = some (.inr (2, 10)) := by rw [eS1, updS_ne (by omega)]; exact h62
  have fs1_2 : S1 rw = some (.inr (0, e)) := by rw [eS1, updS_ne (by omega)]; exact hrw
  have fr1_0 : P1 t 0 = some (t + 1) := by rw [eP1, clrP_ne (by omega)]; exact p0
  have fr1_1 : P1 t 3 = some (t + 62) := by rw [eP1, clrP_ne (by omega)]; exact p3
  have fr1_2 : P1 t 5 = some (rw) := by rw [eP1, clrP_ne (by omega)]; exact p5
  have fn2 : S1 n = some (.inr (0, 11)) := by rw [eS1]; exact updS_eq
  refine V_dup h 5 rfl dX6_owner_4 rfl ?_
  refine V_iconst h 6 (v := 0) (by decide) dX6_owner_5 rfl ?_
  refine V_iload_n h 7 1 rfl dX6_owner_6 rfl ?_
  refine V_iast h 8 0 fn2 (by decide) (by decide) (by first | decide | omega) dX6_owner_7 rfl ?_
  obtain ⟨D3, eD3⟩ : ∃ zz, zz = upd2 D1 n 0 w := ⟨_, rfl⟩
  rw [← eD3]
  refine V_dup h 9 rfl dX6_owner_8 rfl ?_
  refine V_iconst h 10 (v := 1) (by decide) dX6_owner_9 rfl ?_
  refine V_iload_n h 11 2 rfl dX6_owner_10 rfl ?_
  refine V_iast h 12 1 fn2 (by decide) (by decide) (by first | decide | omega) dX6_owner_11 rfl ?_
  obtain ⟨D4, eD4⟩ : ∃ zz, zz = upd2 D3 n 1 c := ⟨_, rfl⟩
  rw [← eD4]
  refine V_dup h 13 rfl dX6_owner_12 rfl ?_
  refine V_iconst h 14 (v := 2) (by decide) dX6_owner_13 rfl ?_
  refine V_iload_n h 15 3 rfl dX6_owner_14 rfl ?_
  refine V_iast h 16 2 fn2 (by decide) (by decide) (by first | decide | omega) dX6_owner_15 rfl ?_
  obtain ⟨D5, eD5⟩ : ∃ zz, zz = upd2 D4 n 2 p := ⟨_, rfl⟩
  rw [← eD5]
  refine V_dup h 17 rfl dX6_owner_16 rfl ?_
  refine V_iconst h 18 (v := 3) (by decide) dX6_owner_17 rfl ?_
  refine V_iload h 20 4 rfl dX6_owner_18 rfl ?_
  refine V_iast h 21 3 fn2 (by decide) (by decide) (by first | decide | omega) dX6_owner_20 rfl ?_
  obtain ⟨D6, eD6⟩ : ∃ zz, zz = upd2 D5 n 3 mm := ⟨_, rfl⟩
  rw [← eD6]
  refine V_dup h 22 rfl dX6_owner_21 rfl ?_
  refine V_iconst h 23 (v := 4) (by decide) dX6_owner_22 rfl ?_
  refine V_bipush h 25 (v := 50) (by decide) dX6_owner_23 rfl ?_
  refine V_iast h 26 4 fn2 (by decide) (by decide) (by first | decide | omega) dX6_owner_25 rfl ?_
  obtain ⟨D7, eD7⟩ : ∃ zz, zz = upd2 D6 n 4 50 := ⟨_, rfl⟩
  rw [← eD7]
  refine V_dup h 27 rfl dX6_owner_26 rfl ?_
  refine V_iconst h 28 (v := 5) (by decide) dX6_owner_27 rfl ?_
  refine V_iconst h 29 (v := 0) (by decide) dX6_owner_28 rfl ?_
  refine V_iast h 30 5 fn2 (by decide) (by decide) (by first | decide | omega) dX6_owner_29 rfl ?_
  obtain ⟨D8, eD8⟩ : ∃ zz, zz = upd2 D7 n 5 0 := ⟨_, rfl⟩
  rw [← eD8]
  refine V_dup h 31 rfl dX6_owner_30 rfl ?_
  refine V_bipush h 33 (v := 6) (by decide) dX6_owner_31 rfl ?_
  refine V_iconst h 34 (v := 0) (by decide) dX6_owner_33 rfl ?_
  refine V_iast h 35 6 fn2 (by decide) (by decide) (by first | decide | omega) dX6_owner_34 rfl ?_
  obtain ⟨D9, eD9⟩ : ∃ zz, zz = upd2 D8 n 6 0 := ⟨_, rfl⟩
  rw [← eD9]
  refine V_dup h 36 rfl dX6_owner_35 rfl ?_
  refine V_bipush h 38 (v := 7) (by decide) dX6_owner_36 rfl ?_
  refine V_iconst h 39 (v := 0) (by decide) dX6_owner_38 rfl ?_
  refine V_iast h 40 7 fn2 (by decide) (by decide) (by first | decide | omega) dX6_owner_39 rfl ?_
  obtain ⟨D10, eD10⟩ : ∃ zz, zz = upd2 D9 n 7 0 := ⟨_, rfl⟩
  rw [← eD10]
  refine V_dup h 41 rfl dX6_owner_40 rfl ?_
  refine V_bipush h 43 (v := 8) (by decide) dX6_owner_41 rfl ?_
  refine V_iconst h 44 (v := 0) (by decide) dX6_owner_43 rfl ?_
  refine V_iast h 45 8 fn2 (by decide) (by decide) (by first | decide | omega) dX6_owner_44 rfl ?_
  obtain ⟨D11, eD11⟩ : ∃ zz, zz = upd2 D10 n 8 0 := ⟨_, rfl⟩
  rw [← eD11]
  refine V_dup h 46 rfl dX6_owner_45 rfl ?_
  refine V_bipush h 48 (v := 9) (by decide) dX6_owner_46 rfl ?_
  refine V_iconst h 49 (v := 0) (by decide) dX6_owner_48 rfl ?_
  refine V_iast h 50 9 fn2 (by decide) (by decide) (by first | decide | omega) dX6_owner_49 rfl ?_
  obtain ⟨D12, eD12⟩ : ∃ zz, zz = upd2 D11 n 9 0 := ⟨_, rfl⟩
  rw [← eD12]
  refine V_dup h 51 rfl dX6_owner_50 rfl ?_
  refine V_bipush h 53 (v := 10) (by decide) dX6_owner_51 rfl ?_
  refine V_iconst h 54 (v := 0) (by decide) dX6_owner_53 rfl ?_
  refine V_iast h 55 10 fn2 (by decide) (by decide) (by first | decide | omega) dX6_owner_54 rfl ?_
  obtain ⟨D13, eD13⟩ : ∃ zz, zz = upd2 D12 n 10 0 := ⟨_, rfl⟩
  rw [← eD13]
  refine V_astore h 57 [(5, .ref n), (0, .ref t), (1, .int w), (2, .int c), (3, .int p), (4, .int mm)] (by decide) rfl dX6_owner_55 rfl ?_
  refine V_aload_n h 58 1 rfl dX6_owner_57 rfl ?_
  refine g_X6_18 h 61 (b := t + 62) fs1_0 fr1_1 dX6_owner_58 rfl ?_
  refine V_aload_n h 62 1 rfl dX6_owner_61 rfl ?_
  refine g_X6_67 h 65 fs1_0 dX6_owner_62 rfl ?_
  refine V_top (y := nI e) (by rw [eD13, upd2_nk (by decide), eD12, upd2_nk (by decide), eD11, upd2_nk (by decide), eD10, upd2_nk (by decide), eD9, upd2_nk (by decide), eD8, upd2_nk (by decide), eD7, upd2_na (by omega), eD6, upd2_nk (by decide), eD5, upd2_nk (by decide), eD4, upd2_nk (by decide), eD3, upd2_nk (by decide)]; exact by rw [eD1, clrD_ne (by omega)]; exact h4) ?_
  refine V_aload h 67 0 rfl dX6_owner_65 rfl ?_
  refine V_aast2 h 68 e fs1_1 fn2 rfl (by omega) (by decide) dX6_owner_67 rfl ?_
  obtain ⟨P14, eP14⟩ : ∃ zz, zz = updP P1 (t + 62) e (some n) := ⟨_, rfl⟩
  rw [← eP14]
  have frp14_0 : P14 t 0 = some (t + 1) := by rw [eP14, updP_ra (by omega)]; exact fr1_0
  have frp14_1 : P14 t 3 = some (t + 62) := by rw [eP14, updP_ra (by omega)]; exact fr1_1
  have frp14_2 : P14 t 5 = some (rw) := by rw [eP14, updP_ra (by omega)]; exact fr1_2
  refine V_aload_n h 69 1 rfl dX6_owner_68 rfl ?_
  refine g_X6_21 h 72 (b := rw) fs1_0 frp14_2 dX6_owner_69 rfl ?_
  refine V_alen h 73 0 (by decide) fs1_2 (v := nI e) rfl dX6_owner_72 rfl ?_
  refine V_iconst h 74 (v := 1) (by decide) dX6_owner_73 rfl ?_
  refine V_iadd h 75 dX6_owner_74 rfl ?_
  refine V_top (y := nI (e + 1)) (nI_1 e) ?_
  refine V_newI h 77 (n + 2) 2 (11 + (e + 1)) (len := e + 1) qarrayClass_566 rfl (by omega) (by show 2 ≤ 4; omega) (by show 11 + (e + 1) ≤ 40; omega) dX6_owner_75 rfl (by first | omega | dsimp only | (dsimp only; omega)) (by first | omega | dsimp only | (dsimp only; omega)) (by first | omega | dsimp only | (dsimp only; omega)) ?_
  obtain ⟨S15, eS15⟩ : ∃ zz, zz = updS S1 (n + 1) (.inr (0, e + 1)) := ⟨_, rfl⟩
  rw [← eS15]
  obtain ⟨P15, eP15⟩ : ∃ zz, zz = clrP P14 (n + 1) := ⟨_, rfl⟩
  rw [← eP15]
  obtain ⟨D15, eD15⟩ : ∃ zz, zz = clrD D13 (n + 1) := ⟨_, rfl⟩
  rw [← eD15]
  have fs15_0 : S15 t = some (.inl 6) := by rw [eS15, updS_ne (by omega)]; exact fs1_0
  have fs15_1 : S15 (t + 62) = some (.inr (2, 10)) := by rw [eS15, updS_ne (by omega)]; exact fs1_1
  have fs15_2 : S15 rw = some (.inr (0, e)) := by rw [eS15, updS_ne (by omega)]; exact fs1_2
  have fs15_3 : S15 n = some (.inr (0, 11)) := by rw [eS15, updS_ne (by omega)]; exact fn2
  have fr15_0 : P15 t 0 = some (t + 1) := by rw [eP15, clrP_ne (by omega)]; exact frp14_0
  have fr15_1 : P15 t 3 = some (t + 62) := by rw [eP15, clrP_ne (by omega)]; exact frp14_1
  have fr15_2 : P15 t 5 = some (rw) := by rw [eP15, clrP_ne (by omega)]; exact frp14_2
  have fn16 : S15 (n + 1) = some (.inr (0, e + 1)) := by rw [eS15]; exact updS_eq
  refine V_astore h 79 [(6, .ref (n + 1)), (5, .ref n), (0, .ref t), (1, .int w), (2, .int c), (3, .int p), (4, .int mm)] (by decide) rfl dX6_owner_77 rfl ?_
  refine V_aload_n h 80 2 rfl dX6_owner_79 rfl ?_
  refine g_X6_21 h 83 (b := rw) fs15_0 fr15_2 dX6_owner_80 rfl ?_
  refine V_iconst h 84 (v := 0) (by decide) dX6_owner_83 rfl ?_
  refine V_aload h 86 0 rfl dX6_owner_84 rfl ?_
  refine V_iconst h 87 (v := 0) (by decide) dX6_owner_86 rfl ?_
  refine V_aload_n h 88 2 rfl dX6_owner_87 rfl ?_
  refine g_X6_21 h 91 (b := rw) fs15_0 fr15_2 dX6_owner_88 rfl ?_
  refine V_alen h 92 0 (by decide) fs15_2 (v := nI e) rfl dX6_owner_91 rfl ?_
  refine V_copyi h 95 0 0 e qL_X6_61 fs15_2 fn16 rfl rfl rfl (by omega) (by omega) (by first | decide | omega) (by first | decide | omega) (Nat.le_of_ble_eq_true rfl) (Nat.le_of_ble_eq_true rfl) dX6_owner_92 rfl ?_
  obtain ⟨D17, eD17⟩ : ∃ zz, zz = cpD D15 rw (n + 1) 0 0 e := ⟨_, rfl⟩
  rw [← eD17]
  refine V_aload h 97 0 rfl dX6_owner_95 rfl ?_
  refine V_aload_n h 98 2 rfl dX6_owner_97 rfl ?_
  refine g_X6_21 h 101 (b := rw) fs15_0 fr15_2 dX6_owner_98 rfl ?_
  refine V_alen h 102 0 (by decide) fs15_2 (v := nI e) rfl dX6_owner_101 rfl ?_
  refine V_aload_n h 103 2 rfl dX6_owner_102 rfl ?_
  refine V_dup h 104 rfl dX6_owner_103 rfl ?_
  refine g_X6_67 h 107 fs15_0 dX6_owner_104 rfl ?_
  refine V_top (y := nI e) (by rw [eD17, cpD_ne (by omega), eD15, clrD_ne (by omega), eD13, upd2_ra (by omega), eD12, upd2_ra (by omega), eD11, upd2_ra (by omega), eD10, upd2_ra (by omega), eD9, upd2_ra (by omega), eD8, upd2_ra (by omega), eD7, upd2_ra (by omega), eD6, upd2_ra (by omega), eD5, upd2_ra (by omega), eD4, upd2_ra (by omega), eD3, upd2_ra (by omega), eD1, clrD_ne (by omega)]; exact h4) ?_
  refine V_dup_x1 h 108 rfl rfl dX6_owner_107 rfl ?_
  refine V_iconst h 109 (v := 1) (by decide) dX6_owner_108 rfl ?_
  refine V_iadd h 110 dX6_owner_109 rfl ?_
  refine p_X6_67 h 113 fs15_0 dX6_owner_110 rfl ?_
  obtain ⟨D18, eD18⟩ : ∃ zz, zz = upd2 D17 t 4 ((nI e) + 1) := ⟨_, rfl⟩
  rw [← eD18]
  refine V_iast h 114 e fn16 rfl (by omega) (by first | decide | omega) dX6_owner_113 rfl ?_
  obtain ⟨D19, eD19⟩ : ∃ zz, zz = upd2 D18 (n + 1) e (nI e) := ⟨_, rfl⟩
  rw [← eD19]
  refine V_aload_n h 115 2 rfl dX6_owner_114 rfl ?_
  refine V_aload h 117 0 rfl dX6_owner_115 rfl ?_
  refine p_X6_21 h 120 fs15_0 dX6_owner_117 rfl ?_
  obtain ⟨P20, eP20⟩ : ∃ zz, zz = updP P15 t 5 (some (n + 1)) := ⟨_, rfl⟩
  rw [← eP20]
  have frp20_0 : P20 t 0 = some (t + 1) := by rw [eP20, updP_nk (by decide)]; exact fr15_0
  have frp20_1 : P20 t 3 = some (t + 62) := by rw [eP20, updP_nk (by decide)]; exact fr15_1
  have fq21 : P20 t 5 = some (n + 1) := by rw [eP20]; exact updP_eq
  refine V_aload_n h 121 2 rfl dX6_owner_120 rfl ?_
  refine g_X6_10 h 124 (b := t + 1) fs15_0 frp20_0 dX6_owner_121 rfl ?_
  refine V_iload_n h 125 3 rfl dX6_owner_124 rfl ?_
  refine V_iload_n h 126 4 rfl dX6_owner_125 rfl ?_
  refine V_iload_n h 127 5 rfl dX6_owner_126 rfl ?_
  refine V_iload h 129 6 rfl dX6_owner_127 rfl ?_
  have sF : ∀ a, a < n → S15 a = sh a := fun a ha => by rw [eS15, updS_ne (by omega), eS1, updS_ne (by omega)]
  have pF : ∀ a, a < n → a ≠ t → a ≠ t + 62 → P20 a = P a := fun a ha hb hc => by rw [eP20, updP_ra (by omega), eP15, clrP_ne (by omega), eP14, updP_ra (by omega), eP1, clrP_ne (by omega)]
  have dF : ∀ a, a < n → a ≠ t → D19 a = D a := fun a ha hb => by rw [eD19, upd2_ra (by omega), eD18, upd2_ra (by omega), eD17, cpD_ne (by omega), eD15, clrD_ne (by omega), eD13, upd2_ra (by omega), eD12, upd2_ra (by omega), eD11, upd2_ra (by omega), eD10, upd2_ra (by omega), eD9, upd2_ra (by omega), eD8, upd2_ra (by omega), eD7, upd2_ra (by omega), eD6, upd2_ra (by omega), eD5, upd2_ra (by omega), eD4, upd2_ra (by omega), eD3, upd2_ra (by omega), eD1, clrD_ne (by omega)]
  have hB2 := bLay_mv hB (by omega) (fun a a1 a2 => sF a (by omega)) (fun a a1 a2 => pF a (by omega) (by omega) (by omega))
  have hI2 := cI_blk hI (fun a a1 a2 => dF a (by omega) (by omega))
  have hsm : rsum (fun p => D19 (t + 2 + 6 + ρ p) 2) e = rsum (fun p => D (t + 2 + 6 + ρ p) 2) e := rsum_c2 (fun p hp => by rw [dF _ (by have := (hI.1.1.2.2 p hp).1; omega) (by omega)])
  refine NVI h hX (4) (11 + (e + 1) + 12) 132 (As := [.int w, .int c, .int p, .int mm]) (c_owner hst hB2 hI2 w c p mm) rfl hB2.1 qL_X6_70 qI_X5_owner qS_X5_owner qZ_X5 qC_X5_owner hd_X5_owner ⟨Nat.le_of_ble_eq_true rfl, Nat.le_of_ble_eq_true rfl⟩ (Nat.le_of_ble_eq_true rfl) rfl rfl dX6_owner_129 ⟨by show 4 ≤ 4; omega, by show 11 + (e + 1) + 12 ≤ 40; omega⟩ rfl rfl (fun X9 hk => ?_) (fun r7 D7 hq7 => ?_)
  · rcases hk with ⟨-, k1⟩ | ⟨-, -, k1⟩ | ⟨-, -, -, k1⟩
    · exact k1 trivial
    · exact k1 hg
    · exact k1 ⟨he, by rw [hsm]; exact hw⟩
  obtain ⟨-, -, hr7, hD7⟩ := hq7
  have t2 : D7 t 2 = D t 2 := by rw [hD7, addD_out he (by omega), eD19, upd2_ra (by omega), eD18, upd2_nk (by decide), eD17, cpD_ne (by omega), eD15, clrD_ne (by omega), eD13, upd2_ra (by omega), eD12, upd2_ra (by omega), eD11, upd2_ra (by omega), eD10, upd2_ra (by omega), eD9, upd2_ra (by omega), eD8, upd2_ra (by omega), eD7, upd2_ra (by omega), eD6, upd2_ra (by omega), eD5, upd2_ra (by omega), eD4, upd2_ra (by omega), eD3, upd2_ra (by omega), eD1, clrD_ne (by omega)]
  have t4 : D7 t 4 = nI (e + 1) := by rw [hD7, addD_out he (by omega), eD19, upd2_ra (by omega), eD18, upd2_eq, nI_1]
  rw [hr7]
  refine V_aload_n h 133 2 rfl dX6_owner_132 rfl ?_
  refine g_X6_67 h 136 fs15_0 dX6_owner_133 rfl ?_
  refine V_top (y := nI (e + 1)) t4 ?_
  refine V_iconst h 137 (v := 1) (by decide) dX6_owner_136 rfl ?_
  refine V_isub h 138 dX6_owner_137 rfl ?_
  refine V_icmp_ne h 145 141 dX6_owner_138 (by decide) rfl (fun c138 => absurd (show nI e = nI (e + 1) - 1 from (nI_pred e).symm) c138) (fun c138 => ?_)
  refine V_iconst h 142 (v := 1) (by decide) dX6_owner_141 rfl ?_
  refine V_goto h 146 dX6_owner_142 (by decide) ?_
  exact V_iret h rfl hQ (by show 4 ≤ 4; omega) (by show 11 + (e + 1) + 12 ≤ 40; omega) ⟨rfl, rfl, ⟨rfl, fn16, fq21, sF, pF, fun j hj => by rw [eP20, updP_nk hj, eP15, clrP_ne (by omega), eP14, updP_ra (by omega), eP1, clrP_ne (by omega)], t2, t4, fun a a1 a2 => by rw [hD7]; exact addD_pt (fun a a1 a2 => dF a (by omega) (by omega)) he a1 (by omega), fun a a1 a2 a3 => by rw [hD7, addD_out he (by omega)]; exact dF a a1 a2⟩⟩ dX6_owner_146

