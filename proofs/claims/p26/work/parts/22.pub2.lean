theorem numb_rng (o : Nat) (x : Int32) : o + 5 ≤ numb o x ∧ numb o x ≤ o + 15 := by
  rcases numb_cases o x with ⟨h1, h2⟩ | ⟨i, hi, rfl, h1⟩ <;> rw [h1] <;> omega
theorem liv_rng {o L e : Nat} {ρ : Nat → Nat} {m k : Nat} {D : mDt} (h : cI o L e ρ m k D) {x : Int32} (hx : livP L ρ x) : ∃ q, q < L ∧ ρ q < 10 ∧ x = nI (ρ q) ∧ numb o x = o + 6 + ρ q := by
  obtain ⟨q, hq, rfl⟩ := hx
  exact ⟨q, hq, (h.1.1.2.2 q hq).1, rfl, liv_num h hq⟩
theorem liv_ne {o L e : Nat} {ρ : Nat → Nat} {m k : Nat} {D : mDt} (h : cI o L e ρ m k D) {x y : Int32} (hx : livP L ρ x) (hy : livP L ρ y) (hn : ¬ x = y) : numb o x ≠ numb o y := by
  obtain ⟨q, hq, h10, rfl, e1⟩ := liv_rng h hx
  obtain ⟨p, hp, p10, rfl, e2⟩ := liv_rng h hy
  rw [e1, e2]
  intro q2
  have : ρ q = ρ p := by omega
  exact hn (by rw [this])
/-- a gives w of the column j to b, who pays c for it -/
def moveD (j a b : Nat) (w c : Int32) (D : mDt) : mDt := setRow (setRow D a (upd (upd (D a) 3 (D a 3 + c)) j (D a j - w))) b (upd (upd (D b) 3 (D b 3 - c)) j (D b j + w))
def payB (a b : Nat) (c : Int32) (D : mDt) : mDt := setRow (setRow D a (upd (D a) 3 (D a 3 + c))) b (upd (D b) 3 (D b 3 - c))
theorem payB_eq {a b : Nat} (hab : a ≠ b) {c : Int32} {D D2 : mDt} (h : D2 = upd2 (upd2 D b 3 (D b 3 - c)) a 3 ((upd2 D b 3 (D b 3 - c)) a 3 + c)) : D2 = payB a b c D := by
  rw [h, upd2_na hab, upd2_sr, upd2_sr, payB]
  funext z j
  by_cases h1 : z = a
  · subst h1; rw [setRow_eq, setRow_ne hab, setRow_ne hab, setRow_eq]
  · by_cases h2 : z = b
    · subst h2; rw [setRow_ne h1, setRow_eq, setRow_eq]
    · rw [setRow_ne h1, setRow_ne h2, setRow_ne h2, setRow_ne h1]
theorem payB_a {a b : Nat} (hab : a ≠ b) {c : Int32} {D : mDt} : payB a b c D a = upd (D a) 3 (D a 3 + c) := by rw [payB, setRow_ne hab, setRow_eq]
theorem payB_b {a b : Nat} {c : Int32} {D : mDt} : payB a b c D b = upd (D b) 3 (D b 3 - c) := by rw [payB, setRow_eq]
theorem payB_o {a b z : Nat} (h1 : z ≠ a) (h2 : z ≠ b) {c : Int32} {D : mDt} : payB a b c D z = D z := by rw [payB, setRow_ne h2, setRow_ne h1]
theorem move_eq {j a b : Nat} (hab : a ≠ b) {w c : Int32} {D D2 D3 D4 : mDt} (h2 : D2 = payB a b c D) (h3 : D3 = upd2 D2 a j (D a j - w)) (h4 : D4 = upd2 D3 b j (D b j + w)) : D4 = moveD j a b w c D := by
  rw [h4, h3, h2, upd2_sr, upd2_sr, moveD, payB_a hab, setRow_ne hab.symm, payB_b]
  funext z j
  by_cases h1 : z = b
  · subst h1; rw [setRow_eq, setRow_eq]
  · by_cases h2 : z = a
    · subst h2; rw [setRow_ne h1, setRow_eq, setRow_ne h1, setRow_eq]
    · rw [setRow_ne h1, setRow_ne h2, setRow_ne h1, setRow_ne h2, payB_o h2 h1]
theorem lt_1 {x : Int32} (h : ¬ x ≤ 0) : 1 ≤ x := by
  rw [Int32.le_iff_toInt_le] at *
  have h0 : (0 : Int32).toInt = 0 := rfl
  have h1 : (1 : Int32).toInt = 1 := rfl
  omega
theorem wP_N {x : Int32} {a b : Nat} (h : wP x (nI a) (nI b)) (ha : a < 2 ^ 31) (hb : b < 2 ^ 31) : ∃ d, a ≤ d ∧ d ≤ b ∧ x = nI d := by
  obtain ⟨d, hd, rfl⟩ := nI_of (x := x) (Int32.not_lt.mpr (Int32.le_trans (nI_pos' ha) h.1))
  exact ⟨d, (nI_leI ha hd).mp h.1, (nI_leI hd hb).mp h.2, rfl⟩

theorem c_unlentX {κ : mKp} {n : Nat} {sh : mSh} {P : mPt} {D : mDt} {E : mEt} {o L e m k : Nat} {ρ : Nat → Nat} (hL : mLay o sh P) (hI : cI o L e ρ m k D) {x : Int32} (hx : livP L ρ x) : mFnI κ yX2_unlentBowls cX2_unlentBowls 2 (Option.some Jvm.ClassFile.FieldType.int) 2 47 [.ref o, .ref (numb o x)] n sh P D E (fun r D' => D' = D ∧ r = D (numb o x) 2 - amtF (D (o + 17)) 0 x m) := by
  obtain ⟨q, hq, h10, rfl, e1⟩ := liv_rng hI hx
  rw [e1]
  exact c_unlent hL h10 (hI.1.2.1 _ h10) hI.1.2.2.1 hI.1.2.2.2.1.1

set_option maxRecDepth 100000 in
set_option maxHeartbeats 4000000 in
theorem c_sell {κ : mKp} (hst : κ.1.stackTraces = false) {n : Nat} {sh : mSh} {P : mPt} {D : mDt} {E : mEt} {b o o2 o3 : Nat} (hB : bLay b o o2 o3 sh P) {L e m k : Nat} {ρ : Nat → Nat} (hI : cI o L e ρ m k D) (x y w c : Int32) : mXnI κ yX5_sell cX5_sell 7 (Option.some Jvm.ClassFile.FieldType.int) 8 130 3 18 [.ref b, .int x, .int y, .int w, .int c] n sh P D E (fun r D' => (livP L ρ x ∧ livP L ρ y) ∧ (¬ x = y ∧ wP w 1 5040 ∧ wP c 0 9999) ∧ (r = if w ≤ D (numb o x) 2 - amtF (D (o + 17)) 0 x m then if c ≤ D (numb o y) 3 then D (numb o y) 2 + w else -3 else -2) ∧ D' = if w ≤ D (numb o x) 2 - amtF (D (o + 17)) 0 x m then if c ≤ D (numb o y) 3 then moveD 2 (numb o x) (numb o y) w c D else D else D) (fun X => Kx (livP L ρ x ∧ livP L ρ y) (¬ x = y ∧ wP w 1 5040 ∧ wP c 0 9999) True X) := by
  refine mXMet_of hst (by decide) (Nat.le_of_ble_eq_true rfl) ?_
  intro Γ Q hQ h hX
  have h : mOk Γ κ RX5 cX5_sell 7 (Option.some Jvm.ClassFile.FieldType.int) { frames := 8, cells := 3, slots := 18, locals := 130 } := h
  have hL := hB.2.2.2.2.1
  have hL2 := hB.2.2.2.2.2.1
  have hL3 := hB.2.2.2.2.2.2.1
  show mV Γ Q 0 0 n sh P D E [(0, .ref b), (1, .int x), (2, .int y), (3, .int w), (4, .int c)] [] 0
  refine V_aload_n h 1 0 rfl dX5_sell_0 rfl ?_
  refine V_iload_n h 2 1 rfl dX5_sell_1 rfl ?_
  refine XVV h hX hQ 1 6 5 (As := [.int x]) (c_mustLive hst hB hI x) rfl hB.1 qL_X5_51 qI_X5_mustLive qS_X5_mustLive qZ_X5 qC_X5_mustLive hd_X5_mustLive ⟨Nat.le_of_ble_eq_true rfl, Nat.le_of_ble_eq_true rfl⟩ (Nat.le_of_ble_eq_true rfl) rfl rfl dX5_sell_2 ⟨Nat.le_of_ble_eq_true rfl, Nat.le_of_ble_eq_true rfl⟩ ⟨Nat.le_of_ble_eq_true rfl, Nat.le_of_ble_eq_true rfl⟩ rfl rfl (fun X9 hk => ⟨kI hk.1 (fun q => hk.2 q.1), rfl⟩) (fun D1 hq1 => ?_)
  rw [hq1.1]
  have hl_x := hq1.2
  refine V_aload_n h 6 0 rfl dX5_sell_5 rfl ?_
  refine V_iload_n h 7 2 rfl dX5_sell_6 rfl ?_
  refine XVV h hX hQ 2 12 10 (As := [.int y]) (c_mustLive hst hB hI y) rfl hB.1 qL_X5_51 qI_X5_mustLive qS_X5_mustLive qZ_X5 qC_X5_mustLive hd_X5_mustLive ⟨Nat.le_of_ble_eq_true rfl, Nat.le_of_ble_eq_true rfl⟩ (Nat.le_of_ble_eq_true rfl) rfl rfl dX5_sell_7 ⟨Nat.le_of_ble_eq_true rfl, Nat.le_of_ble_eq_true rfl⟩ ⟨Nat.le_of_ble_eq_true rfl, Nat.le_of_ble_eq_true rfl⟩ rfl rfl (fun X9 hk => ⟨kI hk.1 (fun q => hk.2 q.2), rfl⟩) (fun D2 hq2 => ?_)
  rw [hq2.1]
  have hl_y := hq2.2
  refine V_iload_n h 11 1 rfl dX5_sell_10 rfl ?_
  refine V_iload_n h 12 2 rfl dX5_sell_11 rfl ?_
  refine V_icmp_eq h 42 15 dX5_sell_12 (by decide) rfl (fun c12 => ?_) (fun c12 => ?_)
  · skip
    refine V_iconst h 43 (v := 0) (by decide) dX5_sell_42 rfl ?_
    refine XSV h hX hQ 3 18 46 (As := [.int 0]) (c_mustRight hst 0) qL_X5_26 qT_X5_mustBeRight qZ_X5 qC_X5_mustBeRight hd_X5_mustBeRight ⟨Nat.le_of_ble_eq_true rfl, Nat.le_of_ble_eq_true rfl⟩ (Nat.le_of_ble_eq_true rfl) rfl rfl dX5_sell_43 ⟨Nat.le_of_ble_eq_true rfl, Nat.le_of_ble_eq_true rfl⟩ ⟨Nat.le_of_ble_eq_true rfl, Nat.le_of_ble_eq_true rfl⟩ rfl rfl (fun X9 hk => ⟨kA hk.1 ⟨hl_x, hl_y⟩ (fun q => q.1 c12), rfl⟩) (fun D3 hq3 => ?_)
    exact absurd rfl hq3.2
  · skip
    refine V_iload_n h 16 3 rfl dX5_sell_15 rfl ?_
    refine V_iconst h 17 (v := 1) (by decide) dX5_sell_16 rfl ?_
    refine V_sipush h 20 (v := 5040) (by decide) dX5_sell_17 rfl ?_
    refine CSI h 23 (As := [.int w, .int 1, .int 5040]) (c_isWithin w 1 5040) qL_X5_22 qT_X5_isWithin qZ_X5 qC_X5_isWithin hd_X5_isWithin ⟨Nat.le_of_ble_eq_true rfl, Nat.le_of_ble_eq_true rfl⟩ (Nat.le_of_ble_eq_true rfl) rfl rfl dX5_sell_20 (Nat.le_of_ble_eq_true rfl) (Nat.le_of_ble_eq_true rfl) (fun r4 D4 hq4 => ?_)
    rw [hq4.1, hq4.2]
    refine V_if_eq h 42 26 dX5_sell_23 (by decide) rfl (fun c23 => ?_) (fun c23 => ?_)
    · skip
      refine V_iconst h 43 (v := 0) (by decide) dX5_sell_42 rfl ?_
      refine XSV h hX hQ 3 18 46 (As := [.int 0]) (c_mustRight hst 0) qL_X5_26 qT_X5_mustBeRight qZ_X5 qC_X5_mustBeRight hd_X5_mustBeRight ⟨Nat.le_of_ble_eq_true rfl, Nat.le_of_ble_eq_true rfl⟩ (Nat.le_of_ble_eq_true rfl) rfl rfl dX5_sell_43 ⟨Nat.le_of_ble_eq_true rfl, Nat.le_of_ble_eq_true rfl⟩ ⟨Nat.le_of_ble_eq_true rfl, Nat.le_of_ble_eq_true rfl⟩ rfl rfl (fun X9 hk => ⟨kA hk.1 ⟨hl_x, hl_y⟩ (fun q => wI_0 c23 q.2.1), rfl⟩) (fun D5 hq5 => ?_)
      exact absurd rfl hq5.2
    · skip
      refine V_iload h 28 4 rfl dX5_sell_26 rfl ?_
      refine V_iconst h 29 (v := 0) (by decide) dX5_sell_28 rfl ?_
      refine V_sipush h 32 (v := 9999) (by decide) dX5_sell_29 rfl ?_
      refine CSI h 35 (As := [.int c, .int 0, .int 9999]) (c_isWithin c 0 9999) qL_X5_22 qT_X5_isWithin qZ_X5 qC_X5_isWithin hd_X5_isWithin ⟨Nat.le_of_ble_eq_true rfl, Nat.le_of_ble_eq_true rfl⟩ (Nat.le_of_ble_eq_true rfl) rfl rfl dX5_sell_32 (Nat.le_of_ble_eq_true rfl) (Nat.le_of_ble_eq_true rfl) (fun r6 D6 hq6 => ?_)
      rw [hq6.1, hq6.2]
      refine V_if_eq h 42 38 dX5_sell_35 (by decide) rfl (fun c35 => ?_) (fun c35 => ?_)
      · skip
        refine V_iconst h 43 (v := 0) (by decide) dX5_sell_42 rfl ?_
        refine XSV h hX hQ 3 18 46 (As := [.int 0]) (c_mustRight hst 0) qL_X5_26 qT_X5_mustBeRight qZ_X5 qC_X5_mustBeRight hd_X5_mustBeRight ⟨Nat.le_of_ble_eq_true rfl, Nat.le_of_ble_eq_true rfl⟩ (Nat.le_of_ble_eq_true rfl) rfl rfl dX5_sell_43 ⟨Nat.le_of_ble_eq_true rfl, Nat.le_of_ble_eq_true rfl⟩ ⟨Nat.le_of_ble_eq_true rfl, Nat.le_of_ble_eq_true rfl⟩ rfl rfl (fun X9 hk => ⟨kA hk.1 ⟨hl_x, hl_y⟩ (fun q => wI_0 c35 q.2.2), rfl⟩) (fun D7 hq7 => ?_)
        exact absurd rfl hq7.2
      · skip
        refine V_iconst h 39 (v := 1) (by decide) dX5_sell_38 rfl ?_
        refine V_goto h 43 dX5_sell_39 (by decide) ?_
        refine XSV h hX hQ 3 18 46 (As := [.int 1]) (c_mustRight hst 1) qL_X5_26 qT_X5_mustBeRight qZ_X5 qC_X5_mustBeRight hd_X5_mustBeRight ⟨Nat.le_of_ble_eq_true rfl, Nat.le_of_ble_eq_true rfl⟩ (Nat.le_of_ble_eq_true rfl) rfl rfl dX5_sell_43 ⟨Nat.le_of_ble_eq_true rfl, Nat.le_of_ble_eq_true rfl⟩ ⟨Nat.le_of_ble_eq_true rfl, Nat.le_of_ble_eq_true rfl⟩ rfl rfl (fun X9 hk => (absurd hk.2 (by decide))) (fun D8 hq8 => ?_)
        rw [hq8.1]
        have hab := liv_ne hI hl_x hl_y c12
        refine V_aload_n h 47 0 rfl dX5_sell_46 rfl ?_
        refine g_X5_10 h 50 (b := o) hB.1 hB.2.1 dX5_sell_47 rfl ?_
        refine gN_X5_30 h 53 (b := o + 2) (L_s0 hL) (L_p1 hL) dX5_sell_50 rfl ?_
        refine V_iload_n h 54 1 rfl dX5_sell_53 rfl ?_
        refine CVR h 57 (As := [.int x]) (c_numbered hL x) rfl (L_s2 hL) qL_X5_55 qI_X4_numbered qS_X4_numbered qZ_X4 qC_X4_numbered hd_X4_numbered ⟨Nat.le_of_ble_eq_true rfl, Nat.le_of_ble_eq_true rfl⟩ (Nat.le_of_ble_eq_true rfl) rfl rfl dX5_sell_54 (Nat.le_of_ble_eq_true rfl) (Nat.le_of_ble_eq_true rfl) (fun r9 D9 hq9 => ?_)
        rw [hq9.1, hq9.2]
        refine V_astore h 59 [(5, .ref (numb o x)), (0, .ref b), (1, .int x), (2, .int y), (3, .int w), (4, .int c)] (by decide) rfl dX5_sell_57 rfl ?_
        refine V_aload_n h 60 1 rfl dX5_sell_59 rfl ?_
        refine g_X5_10 h 63 (b := o) hB.1 hB.2.1 dX5_sell_60 rfl ?_
        refine gN_X5_30 h 66 (b := o + 2) (L_s0 hL) (L_p1 hL) dX5_sell_63 rfl ?_
        refine V_iload_n h 67 3 rfl dX5_sell_66 rfl ?_
        refine CVR h 70 (As := [.int y]) (c_numbered hL y) rfl (L_s2 hL) qL_X5_55 qI_X4_numbered qS_X4_numbered qZ_X4 qC_X4_numbered hd_X4_numbered ⟨Nat.le_of_ble_eq_true rfl, Nat.le_of_ble_eq_true rfl⟩ (Nat.le_of_ble_eq_true rfl) rfl rfl dX5_sell_67 (Nat.le_of_ble_eq_true rfl) (Nat.le_of_ble_eq_true rfl) (fun r10 D10 hq10 => ?_)
        rw [hq10.1, hq10.2]
        refine V_astore h 72 [(6, .ref (numb o y)), (5, .ref (numb o x)), (0, .ref b), (1, .int x), (2, .int y), (3, .int w), (4, .int c)] (by decide) rfl dX5_sell_70 rfl ?_
        refine V_iload_n h 73 5 rfl dX5_sell_72 rfl ?_
        refine V_aload_n h 74 2 rfl dX5_sell_73 rfl ?_
        refine g_X5_10 h 77 (b := o) hB.1 hB.2.1 dX5_sell_74 rfl ?_
        refine V_aload h 79 1 rfl dX5_sell_77 rfl ?_
        refine CVI h 82 (As := [.ref (numb o x)]) (c_unlentX hL hI hl_x) rfl (L_s0 hL) qL_X5_59 qI_X2_unlentBowls qS_X2_unlentBowls qZ_X2 qC_X2_unlentBowls hd_X2_unlentBowls ⟨Nat.le_of_ble_eq_true rfl, Nat.le_of_ble_eq_true rfl⟩ (Nat.le_of_ble_eq_true rfl) rfl rfl dX5_sell_79 (Nat.le_of_ble_eq_true rfl) (Nat.le_of_ble_eq_true rfl) (fun r11 D11 hq11 => ?_)
        rw [hq11.1, hq11.2]
        refine V_icmp_le h 88 85 dX5_sell_82 (by decide) rfl (fun c82 => ?_) (fun c82 => ?_)
        · skip
          refine V_iload h 90 6 rfl dX5_sell_88 rfl ?_
          refine V_aload h 92 0 rfl dX5_sell_90 rfl ?_
          refine gN_X5_63 h 95 (numb_sh hL) dX5_sell_92 rfl ?_
          refine V_icmp_le h 101 98 dX5_sell_95 (by decide) rfl (fun c95 => ?_) (fun c95 => ?_)
          · skip
            refine V_aload h 103 0 rfl dX5_sell_101 rfl ?_
            refine V_aload h 105 1 rfl dX5_sell_103 rfl ?_
            refine V_iload h 107 6 rfl dX5_sell_105 rfl ?_
            refine CVV h 110 (As := [.ref (numb o x), .int c]) (c_payTo (numb_sh hL) (numb_sh hL) c) rfl (numb_sh hL) qL_X5_69 qI_X3_payTo qS_X3_payTo qZ_X3 qC_X3_payTo hd_X3_payTo ⟨Nat.le_of_ble_eq_true rfl, Nat.le_of_ble_eq_true rfl⟩ (Nat.le_of_ble_eq_true rfl) rfl rfl dX5_sell_107 (Nat.le_of_ble_eq_true rfl) (Nat.le_of_ble_eq_true rfl) (fun D12 hq12 => ?_)
            replace hq12 := payB_eq hab hq12
            refine V_aload h 112 1 rfl dX5_sell_110 rfl ?_
            refine V_dup h 113 rfl dX5_sell_112 rfl ?_
            refine gN_X5_73 h 116 (numb_sh hL) dX5_sell_113 rfl ?_
            refine V_top (y := D (numb o x) 2) (by rw [hq12, payB_a hab]; rfl) ?_
            refine V_iload_n h 117 5 rfl dX5_sell_116 rfl ?_
            refine V_isub h 118 dX5_sell_117 rfl ?_
            refine pN_X5_73 h 121 (numb_sh hL) dX5_sell_118 rfl ?_
            obtain ⟨D13, eD13⟩ : ∃ zz, zz = upd2 D12 (numb o x) 2 ((D (numb o x) 2) - w) := ⟨_, rfl⟩
            rw [← eD13]
            refine V_aload h 123 0 rfl dX5_sell_121 rfl ?_
            refine V_dup h 124 rfl dX5_sell_123 rfl ?_
            refine gN_X5_73 h 127 (numb_sh hL) dX5_sell_124 rfl ?_
            refine V_top (y := D (numb o y) 2) (by rw [eD13, upd2_na hab.symm]; exact (by rw [hq12, payB_b]; rfl)) ?_
            refine V_iload_n h 128 5 rfl dX5_sell_127 rfl ?_
            refine V_iadd h 129 dX5_sell_128 rfl ?_
            refine pN_X5_73 h 132 (numb_sh hL) dX5_sell_129 rfl ?_
            obtain ⟨D14, eD14⟩ : ∃ zz, zz = upd2 D13 (numb o y) 2 ((D (numb o y) 2) + w) := ⟨_, rfl⟩
            rw [← eD14]
            refine V_aload h 134 0 rfl dX5_sell_132 rfl ?_
            refine gN_X5_73 h 137 (numb_sh hL) dX5_sell_134 rfl ?_
            refine V_top (y := (D (numb o y) 2) + w) (by rw [eD14, upd2_eq]) ?_
            exact X_iret h rfl hQ (Nat.le_of_ble_eq_true rfl) (Nat.le_of_ble_eq_true rfl) ⟨rfl, rfl, rfl, rfl, _, rfl, ⟨⟨hl_x, hl_y⟩, ⟨c12, wI_1 c23, wI_1 c35⟩, (by rw [if_pos c82, if_pos c95]), (by rw [if_pos c82, if_pos c95]; exact move_eq hab hq12 eD13 eD14)⟩⟩ dX5_sell_137
          · skip
            refine V_bipush h 100 (v := (-3)) (by decide) dX5_sell_98 rfl ?_
            exact X_iret h rfl hQ (Nat.le_of_ble_eq_true rfl) (Nat.le_of_ble_eq_true rfl) ⟨rfl, rfl, rfl, rfl, _, rfl, ⟨⟨hl_x, hl_y⟩, ⟨c12, wI_1 c23, wI_1 c35⟩, (by rw [if_pos c82, if_neg c95]), (by rw [if_pos c82, if_neg c95])⟩⟩ dX5_sell_100
        · skip
          refine V_bipush h 87 (v := (-2)) (by decide) dX5_sell_85 rfl ?_
          exact X_iret h rfl hQ (Nat.le_of_ble_eq_true rfl) (Nat.le_of_ble_eq_true rfl) ⟨rfl, rfl, rfl, rfl, _, rfl, ⟨⟨hl_x, hl_y⟩, ⟨c12, wI_1 c23, wI_1 c35⟩, (by rw [if_neg c82]), (by rw [if_neg c82])⟩⟩ dX5_sell_87

theorem full_no {m : Nat} {x : Int32} (h3 : x = nI m) (c : ¬ (if x < 8 then (0 : Int32) else 1) = 0) : ¬ m < 8 := by
  intro q
  rw [h3, show (8 : Int32) = nI 8 from rfl, if_pos ((nI_ltI (b := 8) (by omega) (by decide)).mpr q)] at c
  exact c rfl
theorem full_yes {m : Nat} {x : Int32} (h3 : x = nI m) (hm : m ≤ 8) (c : (if x < 8 then (0 : Int32) else 1) = 0) : m < 8 := by
  rcases Nat.lt_or_ge m 8 with q | q
  · exact q
  · rw [h3, show (8 : Int32) = nI 8 from rfl, if_neg (fun z => absurd ((nI_ltI (b := 8) (by omega) (by decide)).mp z) (by omega))] at c
    exact absurd c (by decide)

set_option maxRecDepth 100000 in
set_option maxHeartbeats 4000000 in
theorem c_lend {κ : mKp} (hst : κ.1.stackTraces = false) {n : Nat} {sh : mSh} {P : mPt} {D : mDt} {E : mEt} {b o o2 o3 : Nat} (hB : bLay b o o2 o3 sh P) {L e m k : Nat} {ρ : Nat → Nat} (hI : cI o L e ρ m k D) (x y w c : Int32) : mXnI κ yX5_lend cX5_lend 5 (Option.some Jvm.ClassFile.FieldType.int) 8 130 4 24 [.ref b, .int x, .int y, .int w, .int c] n sh P D E (fun r D' => (livP L ρ x ∧ livP L ρ y) ∧ ((¬ x = y ∧ wP w 1 5040 ∧ wP c 1 20) ∧ m < 8) ∧ (r = if w ≤ D (numb o x) 2 - amtF (D (o + 17)) 0 x m then nI (m + 1) else -2) ∧ D' = if w ≤ D (numb o x) 2 - amtF (D (o + 17)) 0 x m then upd2 (setRow D (o + 17) (addF (D (o + 17)) m x y w c)) (o + 16) 1 (nI (m + 1)) else D) (fun X => Kx (livP L ρ x ∧ livP L ρ y) (¬ x = y ∧ wP w 1 5040 ∧ wP c 1 20) (m < 8) X) := by
  refine mXMet_of hst (by decide) (Nat.le_of_ble_eq_true rfl) ?_
  intro Γ Q hQ h hX
  have h : mOk Γ κ RX5 cX5_lend 5 (Option.some Jvm.ClassFile.FieldType.int) { frames := 8, cells := 4, slots := 24, locals := 130 } := h
  have hL := hB.2.2.2.2.1
  have hL2 := hB.2.2.2.2.2.1
  have hL3 := hB.2.2.2.2.2.2.1
  show mV Γ Q 0 0 n sh P D E [(0, .ref b), (1, .int x), (2, .int y), (3, .int w), (4, .int c)] [] 0
  refine V_aload_n h 1 0 rfl dX5_lend_0 rfl ?_
  refine V_iload_n h 2 1 rfl dX5_lend_1 rfl ?_
  refine XVV h hX hQ 1 6 5 (As := [.int x]) (c_mustLive hst hB hI x) rfl hB.1 qL_X5_51 qI_X5_mustLive qS_X5_mustLive qZ_X5 qC_X5_mustLive hd_X5_mustLive ⟨Nat.le_of_ble_eq_true rfl, Nat.le_of_ble_eq_true rfl⟩ (Nat.le_of_ble_eq_true rfl) rfl rfl dX5_lend_2 ⟨Nat.le_of_ble_eq_true rfl, Nat.le_of_ble_eq_true rfl⟩ ⟨Nat.le_of_ble_eq_true rfl, Nat.le_of_ble_eq_true rfl⟩ rfl rfl (fun X9 hk => ⟨kI hk.1 (fun q => hk.2 q.1), rfl⟩) (fun D1 hq1 => ?_)
  rw [hq1.1]
  have hl_x := hq1.2
  refine V_aload_n h 6 0 rfl dX5_lend_5 rfl ?_
  refine V_iload_n h 7 2 rfl dX5_lend_6 rfl ?_
  refine XVV h hX hQ 2 12 10 (As := [.int y]) (c_mustLive hst hB hI y) rfl hB.1 qL_X5_51 qI_X5_mustLive qS_X5_mustLive qZ_X5 qC_X5_mustLive hd_X5_mustLive ⟨Nat.le_of_ble_eq_true rfl, Nat.le_of_ble_eq_true rfl⟩ (Nat.le_of_ble_eq_true rfl) rfl rfl dX5_lend_7 ⟨Nat.le_of_ble_eq_true rfl, Nat.le_of_ble_eq_true rfl⟩ ⟨Nat.le_of_ble_eq_true rfl, Nat.le_of_ble_eq_true rfl⟩ rfl rfl (fun X9 hk => ⟨kI hk.1 (fun q => hk.2 q.2), rfl⟩) (fun D2 hq2 => ?_)
  rw [hq2.1]
  have hl_y := hq2.2
  refine V_iload_n h 11 1 rfl dX5_lend_10 rfl ?_
  refine V_iload_n h 12 2 rfl dX5_lend_11 rfl ?_
  refine V_icmp_eq h 41 15 dX5_lend_12 (by decide) rfl (fun c12 => ?_) (fun c12 => ?_)
  · skip
    refine V_iconst h 42 (v := 0) (by decide) dX5_lend_41 rfl ?_
    refine XSV h hX hQ 3 18 45 (As := [.int 0]) (c_mustRight hst 0) qL_X5_26 qT_X5_mustBeRight qZ_X5 qC_X5_mustBeRight hd_X5_mustBeRight ⟨Nat.le_of_ble_eq_true rfl, Nat.le_of_ble_eq_true rfl⟩ (Nat.le_of_ble_eq_true rfl) rfl rfl dX5_lend_42 ⟨Nat.le_of_ble_eq_true rfl, Nat.le_of_ble_eq_true rfl⟩ ⟨Nat.le_of_ble_eq_true rfl, Nat.le_of_ble_eq_true rfl⟩ rfl rfl (fun X9 hk => ⟨kA hk.1 ⟨hl_x, hl_y⟩ (fun q => q.1 c12), rfl⟩) (fun D3 hq3 => ?_)
    exact absurd rfl hq3.2
  · skip
    refine V_iload_n h 16 3 rfl dX5_lend_15 rfl ?_
    refine V_iconst h 17 (v := 1) (by decide) dX5_lend_16 rfl ?_
    refine V_sipush h 20 (v := 5040) (by decide) dX5_lend_17 rfl ?_
    refine CSI h 23 (As := [.int w, .int 1, .int 5040]) (c_isWithin w 1 5040) qL_X5_22 qT_X5_isWithin qZ_X5 qC_X5_isWithin hd_X5_isWithin ⟨Nat.le_of_ble_eq_true rfl, Nat.le_of_ble_eq_true rfl⟩ (Nat.le_of_ble_eq_true rfl) rfl rfl dX5_lend_20 (Nat.le_of_ble_eq_true rfl) (Nat.le_of_ble_eq_true rfl) (fun r4 D4 hq4 => ?_)
    rw [hq4.1, hq4.2]
    refine V_if_eq h 41 26 dX5_lend_23 (by decide) rfl (fun c23 => ?_) (fun c23 => ?_)
    · skip
      refine V_iconst h 42 (v := 0) (by decide) dX5_lend_41 rfl ?_
      refine XSV h hX hQ 3 18 45 (As := [.int 0]) (c_mustRight hst 0) qL_X5_26 qT_X5_mustBeRight qZ_X5 qC_X5_mustBeRight hd_X5_mustBeRight ⟨Nat.le_of_ble_eq_true rfl, Nat.le_of_ble_eq_true rfl⟩ (Nat.le_of_ble_eq_true rfl) rfl rfl dX5_lend_42 ⟨Nat.le_of_ble_eq_true rfl, Nat.le_of_ble_eq_true rfl⟩ ⟨Nat.le_of_ble_eq_true rfl, Nat.le_of_ble_eq_true rfl⟩ rfl rfl (fun X9 hk => ⟨kA hk.1 ⟨hl_x, hl_y⟩ (fun q => wI_0 c23 q.2.1), rfl⟩) (fun D5 hq5 => ?_)
      exact absurd rfl hq5.2
    · skip
      refine V_iload h 28 4 rfl dX5_lend_26 rfl ?_
      refine V_iconst h 29 (v := 1) (by decide) dX5_lend_28 rfl ?_
      refine V_bipush h 31 (v := 20) (by decide) dX5_lend_29 rfl ?_
      refine CSI h 34 (As := [.int c, .int 1, .int 20]) (c_isWithin c 1 20) qL_X5_22 qT_X5_isWithin qZ_X5 qC_X5_isWithin hd_X5_isWithin ⟨Nat.le_of_ble_eq_true rfl, Nat.le_of_ble_eq_true rfl⟩ (Nat.le_of_ble_eq_true rfl) rfl rfl dX5_lend_31 (Nat.le_of_ble_eq_true rfl) (Nat.le_of_ble_eq_true rfl) (fun r6 D6 hq6 => ?_)
      rw [hq6.1, hq6.2]
      refine V_if_eq h 41 37 dX5_lend_34 (by decide) rfl (fun c34 => ?_) (fun c34 => ?_)
      · skip
        refine V_iconst h 42 (v := 0) (by decide) dX5_lend_41 rfl ?_
        refine XSV h hX hQ 3 18 45 (As := [.int 0]) (c_mustRight hst 0) qL_X5_26 qT_X5_mustBeRight qZ_X5 qC_X5_mustBeRight hd_X5_mustBeRight ⟨Nat.le_of_ble_eq_true rfl, Nat.le_of_ble_eq_true rfl⟩ (Nat.le_of_ble_eq_true rfl) rfl rfl dX5_lend_42 ⟨Nat.le_of_ble_eq_true rfl, Nat.le_of_ble_eq_true rfl⟩ ⟨Nat.le_of_ble_eq_true rfl, Nat.le_of_ble_eq_true rfl⟩ rfl rfl (fun X9 hk => ⟨kA hk.1 ⟨hl_x, hl_y⟩ (fun q => wI_0 c34 q.2.2), rfl⟩) (fun D7 hq7 => ?_)
        exact absurd rfl hq7.2
      · skip
        refine V_iconst h 38 (v := 1) (by decide) dX5_lend_37 rfl ?_
        refine V_goto h 42 dX5_lend_38 (by decide) ?_
        refine XSV h hX hQ 3 18 45 (As := [.int 1]) (c_mustRight hst 1) qL_X5_26 qT_X5_mustBeRight qZ_X5 qC_X5_mustBeRight hd_X5_mustBeRight ⟨Nat.le_of_ble_eq_true rfl, Nat.le_of_ble_eq_true rfl⟩ (Nat.le_of_ble_eq_true rfl) rfl rfl dX5_lend_42 ⟨Nat.le_of_ble_eq_true rfl, Nat.le_of_ble_eq_true rfl⟩ ⟨Nat.le_of_ble_eq_true rfl, Nat.le_of_ble_eq_true rfl⟩ rfl rfl (fun X9 hk => (absurd hk.2 (by decide))) (fun D8 hq8 => ?_)
        rw [hq8.1]
        refine V_aload_n h 46 0 rfl dX5_lend_45 rfl ?_
        refine g_X5_10 h 49 (b := o) hB.1 hB.2.1 dX5_lend_46 rfl ?_
        refine gN_X5_76 h 52 (b := o + 16) (L_s0 hL) (L_p2 hL) dX5_lend_49 rfl ?_
        refine CVI h 55 (As := []) (c_isFull (L_s16 hL)) rfl (L_s16 hL) qL_X5_80 qI_X1_isFull qS_X1_isFull qZ_X1 qC_X1_isFull hd_X1_isFull ⟨Nat.le_of_ble_eq_true rfl, Nat.le_of_ble_eq_true rfl⟩ (Nat.le_of_ble_eq_true rfl) rfl rfl dX5_lend_52 (Nat.le_of_ble_eq_true rfl) (Nat.le_of_ble_eq_true rfl) (fun r9 D9 hq9 => ?_)
        rw [hq9.1, hq9.2]
        refine V_if_ne h 62 58 dX5_lend_55 (by decide) rfl (fun c55 => ?_) (fun c55 => ?_)
        · skip
          refine V_iconst h 63 (v := 0) (by decide) dX5_lend_62 rfl ?_
          refine XSV h hX hQ 4 24 66 (As := [.int 0]) (c_mustPoss hst 0) qL_X5_44 qT_X5_mustBePossible qZ_X5 qC_X5_mustBePossible hd_X5_mustBePossible ⟨Nat.le_of_ble_eq_true rfl, Nat.le_of_ble_eq_true rfl⟩ (Nat.le_of_ble_eq_true rfl) rfl rfl dX5_lend_63 ⟨Nat.le_of_ble_eq_true rfl, Nat.le_of_ble_eq_true rfl⟩ ⟨Nat.le_of_ble_eq_true rfl, Nat.le_of_ble_eq_true rfl⟩ rfl rfl (fun X9 hk => ⟨kS hk.1 ⟨hl_x, hl_y⟩ (⟨c12, wI_1 c23, wI_1 c34⟩) (full_no hI.1.2.2.1 c55), rfl⟩) (fun D10 hq10 => ?_)
          exact absurd rfl hq10.2
        · skip
          refine V_iconst h 59 (v := 1) (by decide) dX5_lend_58 rfl ?_
          refine V_goto h 63 dX5_lend_59 (by decide) ?_
          refine XSV h hX hQ 4 24 66 (As := [.int 1]) (c_mustPoss hst 1) qL_X5_44 qT_X5_mustBePossible qZ_X5 qC_X5_mustBePossible hd_X5_mustBePossible ⟨Nat.le_of_ble_eq_true rfl, Nat.le_of_ble_eq_true rfl⟩ (Nat.le_of_ble_eq_true rfl) rfl rfl dX5_lend_63 ⟨Nat.le_of_ble_eq_true rfl, Nat.le_of_ble_eq_true rfl⟩ ⟨Nat.le_of_ble_eq_true rfl, Nat.le_of_ble_eq_true rfl⟩ rfl rfl (fun X9 hk => (absurd hk.2 (by decide))) (fun D11 hq11 => ?_)
          rw [hq11.1]
          refine V_iload_n h 67 3 rfl dX5_lend_66 rfl ?_
          refine V_aload_n h 68 0 rfl dX5_lend_67 rfl ?_
          refine g_X5_10 h 71 (b := o) hB.1 hB.2.1 dX5_lend_68 rfl ?_
          refine V_aload_n h 72 0 rfl dX5_lend_71 rfl ?_
          refine g_X5_10 h 75 (b := o) hB.1 hB.2.1 dX5_lend_72 rfl ?_
          refine gN_X5_30 h 78 (b := o + 2) (L_s0 hL) (L_p1 hL) dX5_lend_75 rfl ?_
          refine V_iload_n h 79 1 rfl dX5_lend_78 rfl ?_
          refine CVR h 82 (As := [.int x]) (c_numbered hL x) rfl (L_s2 hL) qL_X5_55 qI_X4_numbered qS_X4_numbered qZ_X4 qC_X4_numbered hd_X4_numbered ⟨Nat.le_of_ble_eq_true rfl, Nat.le_of_ble_eq_true rfl⟩ (Nat.le_of_ble_eq_true rfl) rfl rfl dX5_lend_79 (Nat.le_of_ble_eq_true rfl) (Nat.le_of_ble_eq_true rfl) (fun r12 D12 hq12 => ?_)
          rw [hq12.1, hq12.2]
          refine CVI h 85 (As := [.ref (numb o x)]) (c_unlentX hL hI hl_x) rfl (L_s0 hL) qL_X5_59 qI_X2_unlentBowls qS_X2_unlentBowls qZ_X2 qC_X2_unlentBowls hd_X2_unlentBowls ⟨Nat.le_of_ble_eq_true rfl, Nat.le_of_ble_eq_true rfl⟩ (Nat.le_of_ble_eq_true rfl) rfl rfl dX5_lend_82 (Nat.le_of_ble_eq_true rfl) (Nat.le_of_ble_eq_true rfl) (fun r13 D13 hq13 => ?_)
          rw [hq13.1, hq13.2]
          refine V_icmp_le h 91 88 dX5_lend_85 (by decide) rfl (fun c85 => ?_) (fun c85 => ?_)
          · skip
            refine V_aload_n h 92 0 rfl dX5_lend_91 rfl ?_
            refine g_X5_10 h 95 (b := o) hB.1 hB.2.1 dX5_lend_92 rfl ?_
            refine gN_X5_76 h 98 (b := o + 16) (L_s0 hL) (L_p2 hL) dX5_lend_95 rfl ?_
            refine V_iload_n h 99 1 rfl dX5_lend_98 rfl ?_
            refine V_iload_n h 100 2 rfl dX5_lend_99 rfl ?_
            refine V_iload_n h 101 3 rfl dX5_lend_100 rfl ?_
            refine V_iload h 103 4 rfl dX5_lend_101 rfl ?_
            refine CVV h 106 (As := [.int x, .int y, .int w, .int c]) (c_dadd (L_s16 hL) (L_p16 hL) (L_s17 hL) (m := m) (by omega) hI.1.2.2.1 (full_yes hI.1.2.2.1 hI.1.2.2.2.1.1 c55) x y w c) rfl (L_s16 hL) qL_X5_86 qI_X1_add qS_X1_add qZ_X1 qC_X1_add hd_X1_add ⟨Nat.le_of_ble_eq_true rfl, Nat.le_of_ble_eq_true rfl⟩ (Nat.le_of_ble_eq_true rfl) rfl rfl dX5_lend_103 (Nat.le_of_ble_eq_true rfl) (Nat.le_of_ble_eq_true rfl) (fun D14 hq14 => ?_)
            have eD14 := hq14
            refine V_aload_n h 107 0 rfl dX5_lend_106 rfl ?_
            refine g_X5_10 h 110 (b := o) hB.1 hB.2.1 dX5_lend_107 rfl ?_
            refine gN_X5_76 h 113 (b := o + 16) (L_s0 hL) (L_p2 hL) dX5_lend_110 rfl ?_
            refine CVI h 116 (As := []) (c_dcount (L_s16 hL)) rfl (L_s16 hL) qL_X5_90 qI_X1_count qS_X1_count qZ_X1 qC_X1_count hd_X1_count ⟨Nat.le_of_ble_eq_true rfl, Nat.le_of_ble_eq_true rfl⟩ (Nat.le_of_ble_eq_true rfl) rfl rfl dX5_lend_113 (Nat.le_of_ble_eq_true rfl) (Nat.le_of_ble_eq_true rfl) (fun r15 D15 hq15 => ?_)
            rw [hq15.1, hq15.2]
            refine V_top (y := nI (m + 1)) (by rw [eD14, upd2_eq]) ?_
            exact X_iret h rfl hQ (Nat.le_of_ble_eq_true rfl) (Nat.le_of_ble_eq_true rfl) ⟨rfl, rfl, rfl, rfl, _, rfl, ⟨⟨hl_x, hl_y⟩, ⟨⟨c12, wI_1 c23, wI_1 c34⟩, full_yes hI.1.2.2.1 hI.1.2.2.2.1.1 c55⟩, (by rw [if_pos c85]), (by rw [if_pos c85]; exact eD14)⟩⟩ dX5_lend_116
          · skip
            refine V_bipush h 90 (v := (-2)) (by decide) dX5_lend_88 rfl ?_
            exact X_iret h rfl hQ (Nat.le_of_ble_eq_true rfl) (Nat.le_of_ble_eq_true rfl) ⟨rfl, rfl, rfl, rfl, _, rfl, ⟨⟨hl_x, hl_y⟩, ⟨⟨c12, wI_1 c23, wI_1 c34⟩, full_yes hI.1.2.2.1 hI.1.2.2.2.1.1 c55⟩, (by rw [if_neg c85]), (by rw [if_neg c85])⟩⟩ dX5_lend_90

theorem room_no2 {e d : Nat} {x : Int32} (h3 : x = nI e) (he : e ≤ 10) (hd : d ≤ 4) {y : Int32} (hy : y = nI d) (c : (if 10 < x + y then (0 : Int32) else 1) = 0) : ¬ e + d ≤ 10 := by
  intro q
  rw [h3, hy, nI_add, show (10 : Int32) = nI 10 from rfl, if_neg (fun z => absurd ((nI_ltI (a := 10) (by decide) (by omega)).mp z) (by omega))] at c
  exact absurd c (by decide)
theorem room_yes2 {e d : Nat} {x : Int32} (h3 : x = nI e) (he : e ≤ 10) (hd : d ≤ 4) {y : Int32} (hy : y = nI d) (c : ¬ (if 10 < x + y then (0 : Int32) else 1) = 0) : e + d ≤ 10 := by
  rcases Nat.lt_or_ge 10 (e + d) with q | q
  · rw [h3, hy, nI_add, show (10 : Int32) = nI 10 from rfl, if_pos ((nI_ltI (a := 10) (by decide) (by omega)).mpr q)] at c
    exact absurd rfl c
  · exact q
