theorem sw14 {w : Nat} (h : w < 14) : w = 0 ∨ w = 1 ∨ w = 2 ∨ w = 3 ∨ w = 4 ∨ w = 5 ∨ w = 6 ∨ w = 7 ∨ w = 8 ∨ w = 9 ∨ w = 10 ∨ w = 11 ∨ w = 12 ∨ w = 13 := by omega
theorem sw16 {w : Nat} (h : w < 16) : w = 0 ∨ w = 1 ∨ w = 2 ∨ w = 3 ∨ w = 4 ∨ w = 5 ∨ w = 6 ∨ w = 7 ∨ w = 8 ∨ w = 9 ∨ w = 10 ∨ w = 11 ∨ w = 12 ∨ w = 13 ∨ w = 14 ∨ w = 15 := by omega
/-- what one asks of the owner at the place q -/
def askO (o : Nat) (ρ : Nat → Nat) (q m : Nat) (D : mDt) : Nat → Int32
  | 0 => D (o + 6 + ρ q) 2
  | 1 => D (o + 6 + ρ q) 3
  | 2 => D (o + 6 + ρ q) 4
  | 3 => D (o + 6 + ρ q) 5
  | 4 => D (o + 6 + ρ q) 6
  | 5 => D (o + 6 + ρ q) 7
  | 6 => D (o + 6 + ρ q) 8
  | 7 => nI q
  | 8 => if D (o + 6 + ρ q) 2 ≤ 0 then -1 else rsum (fun p => D (o + 6 + ρ p) 2) q
  | 9 => D (o + 6 + ρ q) 2 - amtF (D (o + 17)) 0 (nI (ρ q)) m + amtF (D (o + 17)) 1 (nI (ρ q)) m
  | 10 => D (o + 6 + ρ q) 9
  | 11 => D (o + 6 + ρ q) 5 * 20 + D (o + 6 + ρ q) 10
  | 12 => D (o + 6 + ρ q) 12
  | _ => D (o + 6 + ρ q) 13
def askA (o L : Nat) (ρ : Nat → Nat) (D : mDt) : Nat → Int32
  | 0 => D o 4
  | 1 => rm70 (D o 4)
  | 2 => D (o + 1) 0
  | 3 => chFlow (D (o + 1))
  | 4 => D (o + 1) 1
  | 5 => D (o + 1) 2
  | 6 => D (o + 1) 3
  | 7 => D (o + 2) 4
  | 8 => D (o + 2) 3
  | 9 => 5040 - rsum (fun p => D (o + 6 + ρ p) 2) L
  | 10 => D (o + 16) 1
  | 11 => D (o + 18) 1
  | 12 => D o 5
  | 13 => D o 6
  | 14 => D o 7
  | _ => rsum (fun p => D (o + 6 + ρ p) 3) L
/-- who uses the bowl x of the owner h: bh bowls lie behind it -/
def usr (f : Nat → Int32) (h : Int32) : Int32 → Nat → Nat → Int32
  | _, _, 0 => h
  | bh, i, k + 1 => if f (i * 4 + 0) = h then (if bh < f (i * 4 + 2) then f (i * 4 + 1) else usr f h (bh - f (i * 4 + 2)) (i + 1) k) else usr f h bh (i + 1) k
def userI (F : Nat → Int32) (ρ : Nat → Nat) (f : Nat → Int32) (m : Nat) (x : Int32) (L : Nat) : Int32 := match holdF F x 0 L with
  | some p => usr f (nI (ρ p)) (rsum F p + F p - 1 - x) 0 m
  | none => -1
theorem holdF_lt {F : Nat → Int32} {x : Int32} {p : Nat} : ∀ {k i : Nat}, holdF F x i k = some p → i ≤ p ∧ p < i + k
  | 0, i, h => by cases h
  | k + 1, i, h => by
    rw [holdF] at h
    split at h
    · cases h; omega
    · have := holdF_lt h; omega

theorem nI_ne1 {t : Nat} (h : t < 10) : ¬ nI t = -1 := by
  intro q
  have h1 : (nI t).toInt = (-1 : Int32).toInt := by rw [q]
  rw [nI_toInt (by omega)] at h1
  have h2 : (-1 : Int32).toInt = -1 := by decide
  omega

set_option maxRecDepth 100000 in
set_option maxHeartbeats 4000000 in
theorem c_askOwner {κ : mKp} {n : Nat} {sh : mSh} {P : mPt} {D : mDt} {E : mEt} {o : Nat} (hL : mLay o sh P) {L m k q : Nat} {ρ : Nat → Nat} (hW : cW o L ρ m k D) (hq : q < L) (hinj : ∀ p, p < q → ρ p ≠ ρ q) {w : Nat} (hw : w < 14) : mFnI κ yX2_askOwner cX2_askOwner 3 (Option.some Jvm.ClassFile.FieldType.int) 3 68 [.ref o, .ref (o + 6 + ρ q), .int (nI w)] n sh P D E (fun r D' => D' = D ∧ r = askO o ρ q m D w) := by
  refine mMet_of (by decide) (Nat.le_of_ble_eq_true rfl) ?_
  intro Γ Q hQ h hin
  have h : mOk Γ κ RX2 cX2_askOwner 3 (Option.some Jvm.ClassFile.FieldType.int) { frames := 3, cells := 0, slots := 0, locals := 68 } := h
  show mV Γ Q 0 0 n sh P D E [(0, .ref o), (1, .ref (o + 6 + ρ q)), (2, .int (nI w))] [] 0
  refine V_iload_n h 1 2 rfl dX2_askOwner_0 rfl ?_
  rcases sw14 hw with rfl | rfl | rfl | rfl | rfl | rfl | rfl | rfl | rfl | rfl | rfl | rfl | rfl | rfl
  · skip
    refine V_tabIn h 72 (off := 71) dX2_askOwner_1 (by decide) (by decide) (by decide) (by decide) ?_
    refine V_aload_n h 73 1 rfl dX2_askOwner_72 rfl ?_
    refine gN_X2_95 h 76 (L_sw hL (hW.1.2.2 q hq).1) dX2_askOwner_73 rfl ?_
    exact V_iret h rfl hQ (Nat.zero_le _) (Nat.zero_le _) ⟨rfl, rfl, rfl, rfl, _, rfl, ⟨rfl, rfl⟩⟩ dX2_askOwner_76
  · skip
    refine V_tabIn h 77 (off := 76) dX2_askOwner_1 (by decide) (by decide) (by decide) (by decide) ?_
    refine V_aload_n h 78 1 rfl dX2_askOwner_77 rfl ?_
    refine gN_X2_174 h 81 (L_sw hL (hW.1.2.2 q hq).1) dX2_askOwner_78 rfl ?_
    exact V_iret h rfl hQ (Nat.zero_le _) (Nat.zero_le _) ⟨rfl, rfl, rfl, rfl, _, rfl, ⟨rfl, rfl⟩⟩ dX2_askOwner_81
  · skip
    refine V_tabIn h 82 (off := 81) dX2_askOwner_1 (by decide) (by decide) (by decide) (by decide) ?_
    refine V_aload_n h 83 1 rfl dX2_askOwner_82 rfl ?_
    refine gN_X2_177 h 86 (L_sw hL (hW.1.2.2 q hq).1) dX2_askOwner_83 rfl ?_
    exact V_iret h rfl hQ (Nat.zero_le _) (Nat.zero_le _) ⟨rfl, rfl, rfl, rfl, _, rfl, ⟨rfl, rfl⟩⟩ dX2_askOwner_86
  · skip
    refine V_tabIn h 87 (off := 86) dX2_askOwner_1 (by decide) (by decide) (by decide) (by decide) ?_
    refine V_aload_n h 88 1 rfl dX2_askOwner_87 rfl ?_
    refine gN_X2_180 h 91 (L_sw hL (hW.1.2.2 q hq).1) dX2_askOwner_88 rfl ?_
    exact V_iret h rfl hQ (Nat.zero_le _) (Nat.zero_le _) ⟨rfl, rfl, rfl, rfl, _, rfl, ⟨rfl, rfl⟩⟩ dX2_askOwner_91
  · skip
    refine V_tabIn h 92 (off := 91) dX2_askOwner_1 (by decide) (by decide) (by decide) (by decide) ?_
    refine V_aload_n h 93 1 rfl dX2_askOwner_92 rfl ?_
    refine gN_X2_183 h 96 (L_sw hL (hW.1.2.2 q hq).1) dX2_askOwner_93 rfl ?_
    exact V_iret h rfl hQ (Nat.zero_le _) (Nat.zero_le _) ⟨rfl, rfl, rfl, rfl, _, rfl, ⟨rfl, rfl⟩⟩ dX2_askOwner_96
  · skip
    refine V_tabIn h 97 (off := 96) dX2_askOwner_1 (by decide) (by decide) (by decide) (by decide) ?_
    refine V_aload_n h 98 1 rfl dX2_askOwner_97 rfl ?_
    refine gN_X2_186 h 101 (L_sw hL (hW.1.2.2 q hq).1) dX2_askOwner_98 rfl ?_
    exact V_iret h rfl hQ (Nat.zero_le _) (Nat.zero_le _) ⟨rfl, rfl, rfl, rfl, _, rfl, ⟨rfl, rfl⟩⟩ dX2_askOwner_101
  · skip
    refine V_tabIn h 102 (off := 101) dX2_askOwner_1 (by decide) (by decide) (by decide) (by decide) ?_
    refine V_aload_n h 103 1 rfl dX2_askOwner_102 rfl ?_
    refine gN_X2_139 h 106 (L_sw hL (hW.1.2.2 q hq).1) dX2_askOwner_103 rfl ?_
    exact V_iret h rfl hQ (Nat.zero_le _) (Nat.zero_le _) ⟨rfl, rfl, rfl, rfl, _, rfl, ⟨rfl, rfl⟩⟩ dX2_askOwner_106
  · skip
    refine V_tabIn h 107 (off := 106) dX2_askOwner_1 (by decide) (by decide) (by decide) (by decide) ?_
    refine V_aload_n h 108 0 rfl dX2_askOwner_107 rfl ?_
    refine g_X2_21 h 111 (b := o + 2) (L_s0 hL) (L_p1 hL) dX2_askOwner_108 rfl ?_
    refine V_aload_n h 112 1 rfl dX2_askOwner_111 rfl ?_
    refine CVI h 115 (As := [.ref (o + 6 + ρ q)]) (c_placeOf hL hW.1 hq hinj) rfl (L_s2 hL) qL_X2_189 qI_X4_placeOf qS_X4_placeOf qZ_X4 qC_X4_placeOf hd_X4_placeOf ⟨Nat.le_of_ble_eq_true rfl, Nat.le_of_ble_eq_true rfl⟩ (Nat.le_of_ble_eq_true rfl) rfl rfl dX2_askOwner_112 (Nat.zero_le _) (Nat.zero_le _) (fun r1 D1 hq1 => ?_)
    rw [hq1.1, hq1.2]
    exact V_iret h rfl hQ (Nat.zero_le _) (Nat.zero_le _) ⟨rfl, rfl, rfl, rfl, _, rfl, ⟨rfl, rfl⟩⟩ dX2_askOwner_115
  · skip
    refine V_tabIn h 116 (off := 115) dX2_askOwner_1 (by decide) (by decide) (by decide) (by decide) ?_
    refine V_aload_n h 117 1 rfl dX2_askOwner_116 rfl ?_
    refine gN_X2_95 h 120 (L_sw hL (hW.1.2.2 q hq).1) dX2_askOwner_117 rfl ?_
    refine V_if_le h 134 123 dX2_askOwner_120 (by decide) rfl (fun c120 => ?_) (fun c120 => ?_)
    · skip
      refine V_iconst h 135 (v := (-1)) (by decide) dX2_askOwner_134 rfl ?_
      exact V_iret h rfl hQ (Nat.zero_le _) (Nat.zero_le _) ⟨rfl, rfl, rfl, rfl, _, rfl, ⟨rfl, (if_pos c120).symm⟩⟩ dX2_askOwner_135
    · skip
      refine V_aload_n h 124 0 rfl dX2_askOwner_123 rfl ?_
      refine g_X2_21 h 127 (b := o + 2) (L_s0 hL) (L_p1 hL) dX2_askOwner_124 rfl ?_
      refine V_aload_n h 128 1 rfl dX2_askOwner_127 rfl ?_
      refine CVI h 131 (As := [.ref (o + 6 + ρ q)]) (c_firstBowl hL hW.1 hq hinj) rfl (L_s2 hL) qL_X2_170 qI_X4_firstBowl qS_X4_firstBowl qZ_X4 qC_X4_firstBowl hd_X4_firstBowl ⟨Nat.le_of_ble_eq_true rfl, Nat.le_of_ble_eq_true rfl⟩ (Nat.le_of_ble_eq_true rfl) rfl rfl dX2_askOwner_128 (Nat.zero_le _) (Nat.zero_le _) (fun r2 D2 hq2 => ?_)
      rw [hq2.1, hq2.2]
      refine V_goto h 135 dX2_askOwner_131 (by decide) ?_
      exact V_iret h rfl hQ (Nat.zero_le _) (Nat.zero_le _) ⟨rfl, rfl, rfl, rfl, _, rfl, ⟨rfl, (if_neg c120).symm⟩⟩ dX2_askOwner_135
  · skip
    refine V_tabIn h 136 (off := 135) dX2_askOwner_1 (by decide) (by decide) (by decide) (by decide) ?_
    refine V_aload_n h 137 0 rfl dX2_askOwner_136 rfl ?_
    refine V_aload_n h 138 1 rfl dX2_askOwner_137 rfl ?_
    refine CVI h 141 (As := [.ref (o + 6 + ρ q)]) (c_unlent hL (hW.1.2.2 q hq).1 (hW.2.1 _ (hW.1.2.2 q hq).1) hW.2.2.1 hW.2.2.2.1.1) rfl (L_s0 hL) qL_X2_192 qI_X2_unlentBowls qS_X2_unlentBowls qZ_X2 qC_X2_unlentBowls hd_X2_unlentBowls ⟨Nat.le_of_ble_eq_true rfl, Nat.le_of_ble_eq_true rfl⟩ (Nat.le_of_ble_eq_true rfl) rfl rfl dX2_askOwner_138 (Nat.zero_le _) (Nat.zero_le _) (fun r3 D3 hq3 => ?_)
    rw [hq3.1, hq3.2]
    refine V_aload_n h 142 0 rfl dX2_askOwner_141 rfl ?_
    refine g_X2_28 h 145 (b := o + 16) (L_s0 hL) (L_p2 hL) dX2_askOwner_142 rfl ?_
    refine V_iconst h 146 (v := 1) (by decide) dX2_askOwner_145 rfl ?_
    refine V_aload_n h 147 1 rfl dX2_askOwner_146 rfl ?_
    refine gN_X2_125 h 150 (L_sw hL (hW.1.2.2 q hq).1) dX2_askOwner_147 rfl ?_
    refine V_top (y := nI (ρ q)) (hW.2.1 _ (hW.1.2.2 q hq).1) ?_
    refine CVI h 153 (As := [.int 1, .int (nI (ρ q))]) (c_amountOf (L_s16 hL) (L_p16 hL) (L_s17 hL) (cl := 1) (by decide) hW.2.2.1 hW.2.2.2.1.1 (nI (ρ q))) rfl (L_s16 hL) qL_X2_164 qI_X1_amountOf qS_X1_amountOf qZ_X1 qC_X1_amountOf hd_X1_amountOf ⟨Nat.le_of_ble_eq_true rfl, Nat.le_of_ble_eq_true rfl⟩ (Nat.le_of_ble_eq_true rfl) rfl rfl dX2_askOwner_150 (Nat.zero_le _) (Nat.zero_le _) (fun r4 D4 hq4 => ?_)
    rw [hq4.1, hq4.2]
    refine V_iadd h 154 dX2_askOwner_153 rfl ?_
    exact V_iret h rfl hQ (Nat.zero_le _) (Nat.zero_le _) ⟨rfl, rfl, rfl, rfl, _, rfl, ⟨rfl, rfl⟩⟩ dX2_askOwner_154
  · skip
    refine V_tabIn h 155 (off := 154) dX2_askOwner_1 (by decide) (by decide) (by decide) (by decide) ?_
    refine V_aload_n h 156 1 rfl dX2_askOwner_155 rfl ?_
    refine gN_X2_195 h 159 (L_sw hL (hW.1.2.2 q hq).1) dX2_askOwner_156 rfl ?_
    exact V_iret h rfl hQ (Nat.zero_le _) (Nat.zero_le _) ⟨rfl, rfl, rfl, rfl, _, rfl, ⟨rfl, rfl⟩⟩ dX2_askOwner_159
  · skip
    refine V_tabIn h 160 (off := 159) dX2_askOwner_1 (by decide) (by decide) (by decide) (by decide) ?_
    refine V_aload_n h 161 1 rfl dX2_askOwner_160 rfl ?_
    refine CVI h 164 (As := []) (c_pollenPalms (L_sw hL (hW.1.2.2 q hq).1)) rfl (L_sw hL (hW.1.2.2 q hq).1) qL_X2_198 qI_X3_pollenPalms qS_X3_pollenPalms qZ_X3 qC_X3_pollenPalms hd_X3_pollenPalms ⟨Nat.le_of_ble_eq_true rfl, Nat.le_of_ble_eq_true rfl⟩ (Nat.le_of_ble_eq_true rfl) rfl rfl dX2_askOwner_161 (Nat.zero_le _) (Nat.zero_le _) (fun r5 D5 hq5 => ?_)
    rw [hq5.1, hq5.2]
    exact V_iret h rfl hQ (Nat.zero_le _) (Nat.zero_le _) ⟨rfl, rfl, rfl, rfl, _, rfl, ⟨rfl, rfl⟩⟩ dX2_askOwner_164
  · skip
    refine V_tabIn h 165 (off := 164) dX2_askOwner_1 (by decide) (by decide) (by decide) (by decide) ?_
    refine V_aload_n h 166 1 rfl dX2_askOwner_165 rfl ?_
    refine gN_X2_115 h 169 (L_sw hL (hW.1.2.2 q hq).1) dX2_askOwner_166 rfl ?_
    exact V_iret h rfl hQ (Nat.zero_le _) (Nat.zero_le _) ⟨rfl, rfl, rfl, rfl, _, rfl, ⟨rfl, rfl⟩⟩ dX2_askOwner_169
  · skip
    refine V_tabIn h 170 (off := 169) dX2_askOwner_1 (by decide) (by decide) (by decide) (by decide) ?_
    refine V_aload_n h 171 1 rfl dX2_askOwner_170 rfl ?_
    refine gN_X2_201 h 174 (L_sw hL (hW.1.2.2 q hq).1) dX2_askOwner_171 rfl ?_
    exact V_iret h rfl hQ (Nat.zero_le _) (Nat.zero_le _) ⟨rfl, rfl, rfl, rfl, _, rfl, ⟨rfl, rfl⟩⟩ dX2_askOwner_174

set_option maxRecDepth 100000 in
set_option maxHeartbeats 4000000 in
theorem c_askAll {κ : mKp} {n : Nat} {sh : mSh} {P : mPt} {D : mDt} {E : mEt} {o : Nat} (hL : mLay o sh P) {L m k : Nat} {ρ : Nat → Nat} (hW : cW o L ρ m k D) {w : Nat} (hw : w < 16) : mFnI κ yX2_askAll cX2_askAll 2 (Option.some Jvm.ClassFile.FieldType.int) 4 84 [.ref o, .int (nI w)] n sh P D E (fun r D' => D' = D ∧ r = askA o L ρ D w) := by
  refine mMet_of (by decide) (Nat.le_of_ble_eq_true rfl) ?_
  intro Γ Q hQ h hin
  have h : mOk Γ κ RX2 cX2_askAll 2 (Option.some Jvm.ClassFile.FieldType.int) { frames := 4, cells := 0, slots := 0, locals := 84 } := h
  show mV Γ Q 0 0 n sh P D E [(0, .ref o), (1, .int (nI w))] [] 0
  refine V_iload_n h 1 1 rfl dX2_askAll_0 rfl ?_
  rcases sw16 hw with rfl | rfl | rfl | rfl | rfl | rfl | rfl | rfl | rfl | rfl | rfl | rfl | rfl | rfl | rfl | rfl
  · skip
    refine V_tabIn h 80 (off := 79) dX2_askAll_1 (by decide) (by decide) (by decide) (by decide) ?_
    refine V_aload_n h 81 0 rfl dX2_askAll_80 rfl ?_
    refine g_X2_45 h 84 (L_s0 hL) dX2_askAll_81 rfl ?_
    exact V_iret h rfl hQ (Nat.zero_le _) (Nat.zero_le _) ⟨rfl, rfl, rfl, rfl, _, rfl, ⟨rfl, rfl⟩⟩ dX2_askAll_84
  · skip
    refine V_tabIn h 85 (off := 84) dX2_askAll_1 (by decide) (by decide) (by decide) (by decide) ?_
    refine V_aload_n h 86 0 rfl dX2_askAll_85 rfl ?_
    refine CVI h 89 (As := []) (c_date hL) rfl (L_s0 hL) qL_X2_58 qI_X2_date qS_X2_date qZ_X2 qC_X2_date hd_X2_date ⟨Nat.le_of_ble_eq_true rfl, Nat.le_of_ble_eq_true rfl⟩ (Nat.le_of_ble_eq_true rfl) rfl rfl dX2_askAll_86 (Nat.zero_le _) (Nat.zero_le _) (fun r1 D1 hq1 => ?_)
    rw [hq1.1, hq1.2]
    exact V_iret h rfl hQ (Nat.zero_le _) (Nat.zero_le _) ⟨rfl, rfl, rfl, rfl, _, rfl, ⟨rfl, rfl⟩⟩ dX2_askAll_89
  · skip
    refine V_tabIn h 90 (off := 89) dX2_askAll_1 (by decide) (by decide) (by decide) (by decide) ?_
    refine V_aload_n h 91 0 rfl dX2_askAll_90 rfl ?_
    refine g_X2_12 h 94 (b := o + 1) (L_s0 hL) (L_p0 hL) dX2_askAll_91 rfl ?_
    refine gN_X2_204 h 97 (L_s1 hL) dX2_askAll_94 rfl ?_
    exact V_iret h rfl hQ (Nat.zero_le _) (Nat.zero_le _) ⟨rfl, rfl, rfl, rfl, _, rfl, ⟨rfl, rfl⟩⟩ dX2_askAll_97
  · skip
    refine V_tabIn h 98 (off := 97) dX2_askAll_1 (by decide) (by decide) (by decide) (by decide) ?_
    refine V_aload_n h 99 0 rfl dX2_askAll_98 rfl ?_
    refine g_X2_12 h 102 (b := o + 1) (L_s0 hL) (L_p0 hL) dX2_askAll_99 rfl ?_
    refine CVI h 105 (As := []) (c_flow (L_s1 hL)) rfl (L_s1 hL) qL_X2_85 qI_X0_flow qS_X0_flow qZ_X0 qC_X0_flow hd_X0_flow ⟨Nat.le_of_ble_eq_true rfl, Nat.le_of_ble_eq_true rfl⟩ (Nat.le_of_ble_eq_true rfl) rfl rfl dX2_askAll_102 (Nat.zero_le _) (Nat.zero_le _) (fun r2 D2 hq2 => ?_)
    rw [hq2.1, hq2.2]
    exact V_iret h rfl hQ (Nat.zero_le _) (Nat.zero_le _) ⟨rfl, rfl, rfl, rfl, _, rfl, ⟨rfl, rfl⟩⟩ dX2_askAll_105
  · skip
    refine V_tabIn h 106 (off := 105) dX2_askAll_1 (by decide) (by decide) (by decide) (by decide) ?_
    refine V_aload_n h 107 0 rfl dX2_askAll_106 rfl ?_
    refine g_X2_12 h 110 (b := o + 1) (L_s0 hL) (L_p0 hL) dX2_askAll_107 rfl ?_
    refine gN_X2_207 h 113 (L_s1 hL) dX2_askAll_110 rfl ?_
    exact V_iret h rfl hQ (Nat.zero_le _) (Nat.zero_le _) ⟨rfl, rfl, rfl, rfl, _, rfl, ⟨rfl, rfl⟩⟩ dX2_askAll_113
  · skip
    refine V_tabIn h 114 (off := 113) dX2_askAll_1 (by decide) (by decide) (by decide) (by decide) ?_
    refine V_aload_n h 115 0 rfl dX2_askAll_114 rfl ?_
    refine g_X2_12 h 118 (b := o + 1) (L_s0 hL) (L_p0 hL) dX2_askAll_115 rfl ?_
    refine gN_X2_210 h 121 (L_s1 hL) dX2_askAll_118 rfl ?_
    exact V_iret h rfl hQ (Nat.zero_le _) (Nat.zero_le _) ⟨rfl, rfl, rfl, rfl, _, rfl, ⟨rfl, rfl⟩⟩ dX2_askAll_121
  · skip
    refine V_tabIn h 122 (off := 121) dX2_askAll_1 (by decide) (by decide) (by decide) (by decide) ?_
    refine V_aload_n h 123 0 rfl dX2_askAll_122 rfl ?_
    refine g_X2_12 h 126 (b := o + 1) (L_s0 hL) (L_p0 hL) dX2_askAll_123 rfl ?_
    refine gN_X2_213 h 129 (L_s1 hL) dX2_askAll_126 rfl ?_
    exact V_iret h rfl hQ (Nat.zero_le _) (Nat.zero_le _) ⟨rfl, rfl, rfl, rfl, _, rfl, ⟨rfl, rfl⟩⟩ dX2_askAll_129
  · skip
    refine V_tabIn h 130 (off := 129) dX2_askAll_1 (by decide) (by decide) (by decide) (by decide) ?_
    refine V_aload_n h 131 0 rfl dX2_askAll_130 rfl ?_
    refine g_X2_21 h 134 (b := o + 2) (L_s0 hL) (L_p1 hL) dX2_askAll_131 rfl ?_
    refine CVI h 137 (As := []) (c_countLiving hL) rfl (L_s2 hL) qL_X2_88 qI_X4_countLiving qS_X4_countLiving qZ_X4 qC_X4_countLiving hd_X4_countLiving ⟨Nat.le_of_ble_eq_true rfl, Nat.le_of_ble_eq_true rfl⟩ (Nat.le_of_ble_eq_true rfl) rfl rfl dX2_askAll_134 (Nat.zero_le _) (Nat.zero_le _) (fun r3 D3 hq3 => ?_)
    rw [hq3.1, hq3.2]
    exact V_iret h rfl hQ (Nat.zero_le _) (Nat.zero_le _) ⟨rfl, rfl, rfl, rfl, _, rfl, ⟨rfl, rfl⟩⟩ dX2_askAll_137
  · skip
    refine V_tabIn h 138 (off := 137) dX2_askAll_1 (by decide) (by decide) (by decide) (by decide) ?_
    refine V_aload_n h 139 0 rfl dX2_askAll_138 rfl ?_
    refine g_X2_21 h 142 (b := o + 2) (L_s0 hL) (L_p1 hL) dX2_askAll_139 rfl ?_
    refine CVI h 145 (As := []) (c_countEver hL) rfl (L_s2 hL) qL_X2_216 qI_X4_countEver qS_X4_countEver qZ_X4 qC_X4_countEver hd_X4_countEver ⟨Nat.le_of_ble_eq_true rfl, Nat.le_of_ble_eq_true rfl⟩ (Nat.le_of_ble_eq_true rfl) rfl rfl dX2_askAll_142 (Nat.zero_le _) (Nat.zero_le _) (fun r4 D4 hq4 => ?_)
    rw [hq4.1, hq4.2]
    exact V_iret h rfl hQ (Nat.zero_le _) (Nat.zero_le _) ⟨rfl, rfl, rfl, rfl, _, rfl, ⟨rfl, rfl⟩⟩ dX2_askAll_145
  · skip
    refine V_tabIn h 146 (off := 145) dX2_askAll_1 (by decide) (by decide) (by decide) (by decide) ?_
    refine V_aload_n h 147 0 rfl dX2_askAll_146 rfl ?_
    refine g_X2_21 h 150 (b := o + 2) (L_s0 hL) (L_p1 hL) dX2_askAll_147 rfl ?_
    refine CVI h 153 (As := []) (c_commonBowls hL hW.1) rfl (L_s2 hL) qL_X2_219 qI_X4_commonBowls qS_X4_commonBowls qZ_X4 qC_X4_commonBowls hd_X4_commonBowls ⟨Nat.le_of_ble_eq_true rfl, Nat.le_of_ble_eq_true rfl⟩ (Nat.le_of_ble_eq_true rfl) rfl rfl dX2_askAll_150 (Nat.zero_le _) (Nat.zero_le _) (fun r5 D5 hq5 => ?_)
    rw [hq5.1, hq5.2]
    exact V_iret h rfl hQ (Nat.zero_le _) (Nat.zero_le _) ⟨rfl, rfl, rfl, rfl, _, rfl, ⟨rfl, rfl⟩⟩ dX2_askAll_153
  · skip
    refine V_tabIn h 154 (off := 153) dX2_askAll_1 (by decide) (by decide) (by decide) (by decide) ?_
    refine V_aload_n h 155 0 rfl dX2_askAll_154 rfl ?_
    refine g_X2_28 h 158 (b := o + 16) (L_s0 hL) (L_p2 hL) dX2_askAll_155 rfl ?_
    refine CVI h 161 (As := []) (c_dcount (L_s16 hL)) rfl (L_s16 hL) qL_X2_118 qI_X1_count qS_X1_count qZ_X1 qC_X1_count hd_X1_count ⟨Nat.le_of_ble_eq_true rfl, Nat.le_of_ble_eq_true rfl⟩ (Nat.le_of_ble_eq_true rfl) rfl rfl dX2_askAll_158 (Nat.zero_le _) (Nat.zero_le _) (fun r6 D6 hq6 => ?_)
    rw [hq6.1, hq6.2]
    exact V_iret h rfl hQ (Nat.zero_le _) (Nat.zero_le _) ⟨rfl, rfl, rfl, rfl, _, rfl, ⟨rfl, rfl⟩⟩ dX2_askAll_161
  · skip
    refine V_tabIn h 162 (off := 161) dX2_askAll_1 (by decide) (by decide) (by decide) (by decide) ?_
    refine V_aload_n h 163 0 rfl dX2_askAll_162 rfl ?_
    refine g_X2_32 h 166 (b := o + 18) (L_s0 hL) (L_p3 hL) dX2_askAll_163 rfl ?_
    refine CVI h 169 (As := []) (c_dcount (L_s18 hL)) rfl (L_s18 hL) qL_X2_118 qI_X1_count qS_X1_count qZ_X1 qC_X1_count hd_X1_count ⟨Nat.le_of_ble_eq_true rfl, Nat.le_of_ble_eq_true rfl⟩ (Nat.le_of_ble_eq_true rfl) rfl rfl dX2_askAll_166 (Nat.zero_le _) (Nat.zero_le _) (fun r7 D7 hq7 => ?_)
    rw [hq7.1, hq7.2]
    exact V_iret h rfl hQ (Nat.zero_le _) (Nat.zero_le _) ⟨rfl, rfl, rfl, rfl, _, rfl, ⟨rfl, rfl⟩⟩ dX2_askAll_169
  · skip
    refine V_tabIn h 170 (off := 169) dX2_askAll_1 (by decide) (by decide) (by decide) (by decide) ?_
    refine V_aload_n h 171 0 rfl dX2_askAll_170 rfl ?_
    refine g_X2_49 h 174 (L_s0 hL) dX2_askAll_171 rfl ?_
    exact V_iret h rfl hQ (Nat.zero_le _) (Nat.zero_le _) ⟨rfl, rfl, rfl, rfl, _, rfl, ⟨rfl, rfl⟩⟩ dX2_askAll_174
  · skip
    refine V_tabIn h 175 (off := 174) dX2_askAll_1 (by decide) (by decide) (by decide) (by decide) ?_
    refine V_aload_n h 176 0 rfl dX2_askAll_175 rfl ?_
    refine g_X2_52 h 179 (L_s0 hL) dX2_askAll_176 rfl ?_
    exact V_iret h rfl hQ (Nat.zero_le _) (Nat.zero_le _) ⟨rfl, rfl, rfl, rfl, _, rfl, ⟨rfl, rfl⟩⟩ dX2_askAll_179
  · skip
    refine V_tabIn h 180 (off := 179) dX2_askAll_1 (by decide) (by decide) (by decide) (by decide) ?_
    refine V_aload_n h 181 0 rfl dX2_askAll_180 rfl ?_
    refine g_X2_55 h 184 (L_s0 hL) dX2_askAll_181 rfl ?_
    exact V_iret h rfl hQ (Nat.zero_le _) (Nat.zero_le _) ⟨rfl, rfl, rfl, rfl, _, rfl, ⟨rfl, rfl⟩⟩ dX2_askAll_184
  · skip
    refine V_tabIn h 185 (off := 184) dX2_askAll_1 (by decide) (by decide) (by decide) (by decide) ?_
    refine V_aload_n h 186 0 rfl dX2_askAll_185 rfl ?_
    refine g_X2_21 h 189 (b := o + 2) (L_s0 hL) (L_p1 hL) dX2_askAll_186 rfl ?_
    refine CVI h 192 (As := []) (c_sumOfCoins hL hW.1) rfl (L_s2 hL) qL_X2_222 qI_X4_sumOfCoins qS_X4_sumOfCoins qZ_X4 qC_X4_sumOfCoins hd_X4_sumOfCoins ⟨Nat.le_of_ble_eq_true rfl, Nat.le_of_ble_eq_true rfl⟩ (Nat.le_of_ble_eq_true rfl) rfl rfl dX2_askAll_189 (Nat.zero_le _) (Nat.zero_le _) (fun r8 D8 hq8 => ?_)
    rw [hq8.1, hq8.2]
    exact V_iret h rfl hQ (Nat.zero_le _) (Nat.zero_le _) ⟨rfl, rfl, rfl, rfl, _, rfl, ⟨rfl, rfl⟩⟩ dX2_askAll_192

set_option maxRecDepth 100000 in
set_option maxHeartbeats 4000000 in
theorem c_userOf {κ : mKp} {n : Nat} {sh : mSh} {P : mPt} {D : mDt} {E : mEt} {o : Nat} (hL : mLay o sh P) {L m k : Nat} {ρ : Nat → Nat} (hW : cW o L ρ m k D) (hinj : ∀ p q, p < q → q < L → ρ p ≠ ρ q) (x : Int32) : mFnI κ yX2_userOf cX2_userOf 6 (Option.some Jvm.ClassFile.FieldType.int) 3 65 [.ref o, .int x] n sh P D E (fun r D' => D' = D ∧ r = userI (fun p => D (o + 6 + ρ p) 2) ρ (D (o + 17)) m x L) := by
  refine mMet_of (by decide) (Nat.le_of_ble_eq_true rfl) ?_
  intro Γ Q hQ h hin
  have h : mOk Γ κ RX2 cX2_userOf 6 (Option.some Jvm.ClassFile.FieldType.int) { frames := 3, cells := 0, slots := 0, locals := 65 } := h
  have hL10 := hW.1.2.1
  have hm8 := hW.2.2.2.1.1
  show mV Γ Q 0 0 n sh P D E [(0, .ref o), (1, .int x)] [] 0
  refine V_aload_n h 1 0 rfl dX2_userOf_0 rfl ?_
  refine g_X2_21 h 4 (b := o + 2) (L_s0 hL) (L_p1 hL) dX2_userOf_1 rfl ?_
  refine V_iload_n h 5 1 rfl dX2_userOf_4 rfl ?_
  refine CVI h 8 (As := [.int x]) (c_holderOf hL hW.1 hW.2.1 x) rfl (L_s2 hL) qL_X2_167 qI_X4_holderOf qS_X4_holderOf qZ_X4 qC_X4_holderOf hd_X4_holderOf ⟨Nat.le_of_ble_eq_true rfl, Nat.le_of_ble_eq_true rfl⟩ (Nat.le_of_ble_eq_true rfl) rfl rfl dX2_userOf_5 (Nat.zero_le _) (Nat.zero_le _) (fun r1 D1 hq1 => ?_)
  rw [hq1.1, hq1.2]
  rcases hF : holdF (fun p => D (o + 6 + ρ p) 2) x 0 L with _ | p
  · skip
    refine V_top (y := (-1)) (by simp only [holdI, hF]) ?_
    refine V_istore_n h 9 [(2, .int (-1)), (0, .ref o), (1, .int x)] (by decide) rfl dX2_userOf_8 rfl ?_
    refine V_iload_n h 10 0 rfl dX2_userOf_9 rfl ?_
    refine V_iconst h 11 (v := (-1)) (by decide) dX2_userOf_10 rfl ?_
    refine V_icmp_ne h 16 14 dX2_userOf_11 (by decide) rfl (fun c11 => absurd rfl c11) (fun c11 => ?_)
    refine V_iconst h 15 (v := (-1)) (by decide) dX2_userOf_14 rfl ?_
    exact V_iret h rfl hQ (Nat.zero_le _) (Nat.zero_le _) ⟨rfl, rfl, rfl, rfl, _, rfl, ⟨rfl, by simp only [userI, hF]⟩⟩ dX2_userOf_15
  · skip
    have hpL : p < L := by have := holdF_lt hF; omega
    refine V_top (y := nI (ρ p)) (by simp only [holdI, hF]) ?_
    refine V_istore_n h 9 [(2, .int (nI (ρ p))), (0, .ref o), (1, .int x)] (by decide) rfl dX2_userOf_8 rfl ?_
    refine V_iload_n h 10 0 rfl dX2_userOf_9 rfl ?_
    refine V_iconst h 11 (v := (-1)) (by decide) dX2_userOf_10 rfl ?_
    refine V_icmp_ne h 16 14 dX2_userOf_11 (by decide) rfl (fun c11 => ?_) (fun c11 => absurd c11 (nI_ne1 (hW.1.2.2 p hpL).1))
    refine V_aload_n h 17 1 rfl dX2_userOf_16 rfl ?_
    refine g_X2_21 h 20 (b := o + 2) (L_s0 hL) (L_p1 hL) dX2_userOf_17 rfl ?_
    refine V_iload_n h 21 0 rfl dX2_userOf_20 rfl ?_
    refine CVR h 24 (As := [.int (nI (ρ p))]) (c_numb hL (i := (ρ p)) (hW.1.2.2 p hpL).1) rfl (L_s2 hL) qL_X2_128 qI_X4_numbered qS_X4_numbered qZ_X4 qC_X4_numbered hd_X4_numbered ⟨Nat.le_of_ble_eq_true rfl, Nat.le_of_ble_eq_true rfl⟩ (Nat.le_of_ble_eq_true rfl) rfl rfl dX2_userOf_21 (Nat.zero_le _) (Nat.zero_le _) (fun r2 D2 hq2 => ?_)
    rw [hq2.1, hq2.2]
    refine V_astore_n h 25 [(3, .ref (o + 6 + (ρ p))), (2, .int (nI (ρ p))), (0, .ref o), (1, .int x)] (by decide) rfl dX2_userOf_24 rfl ?_
    refine V_aload_n h 26 2 rfl dX2_userOf_25 rfl ?_
    refine g_X2_21 h 29 (b := o + 2) (L_s0 hL) (L_p1 hL) dX2_userOf_26 rfl ?_
    refine V_aload_n h 30 0 rfl dX2_userOf_29 rfl ?_
    refine CVI h 33 (As := [.ref (o + 6 + (ρ p))]) (c_firstBowl hL hW.1 hpL (fun p1 h1 => hinj p1 p h1 hpL)) rfl (L_s2 hL) qL_X2_170 qI_X4_firstBowl qS_X4_firstBowl qZ_X4 qC_X4_firstBowl hd_X4_firstBowl ⟨Nat.le_of_ble_eq_true rfl, Nat.le_of_ble_eq_true rfl⟩ (Nat.le_of_ble_eq_true rfl) rfl rfl dX2_userOf_30 (Nat.zero_le _) (Nat.zero_le _) (fun r3 D3 hq3 => ?_)
    rw [hq3.1, hq3.2]
    refine V_aload_n h 34 0 rfl dX2_userOf_33 rfl ?_
    refine gN_X2_95 h 37 (L_sw hL (hW.1.2.2 p hpL).1) dX2_userOf_34 rfl ?_
    refine V_iadd h 38 dX2_userOf_37 rfl ?_
    refine V_iconst h 39 (v := 1) (by decide) dX2_userOf_38 rfl ?_
    refine V_isub h 40 dX2_userOf_39 rfl ?_
    refine V_iload_n h 41 3 rfl dX2_userOf_40 rfl ?_
    refine V_isub h 42 dX2_userOf_41 rfl ?_
    refine V_istore h 44 [(4, .int ((((rsum (fun p => D (o + 6 + ρ p) 2) p) + (D (o + 6 + (ρ p)) 2)) - 1) - x)), (3, .ref (o + 6 + (ρ p))), (2, .int (nI (ρ p))), (0, .ref o), (1, .int x)] (by decide) rfl dX2_userOf_42 rfl ?_
    refine V_iconst h 45 (v := 0) (by decide) dX2_userOf_44 rfl ?_
    refine V_istore h 47 [(5, .int 0), (4, .int ((((rsum (fun p => D (o + 6 + ρ p) 2) p) + (D (o + 6 + (ρ p)) 2)) - 1) - x)), (3, .ref (o + 6 + (ρ p))), (2, .int (nI (ρ p))), (0, .ref o), (1, .int x)] (by decide) rfl dX2_userOf_45 rfl ?_
    have LP47 : ∀ (kk : Nat) (i : Nat) (x4 x5 : Int32), (i ≤ m) → (x5 = nI i) → (usr (D (o + 17)) (nI (ρ p)) (rsum (fun p => D (o + 6 + ρ p) 2) p + D (o + 6 + ρ p) 2 - 1 - x) 0 m = usr (D (o + 17)) (nI (ρ p)) x4 i (m - i)) → m - i < kk → mV Γ Q 0 0 n sh P D E [(0, .ref o), (1, .int x), (2, .int (nI (ρ p))), (3, .ref (o + 6 + ρ p)), (4, .int x4), (5, .int x5)] [] 47 := by
      intro kk
      induction kk with
      | zero =>
        intro i x4 x5 _ _ _ hms
        exact absurd hms (Nat.not_lt_zero _)
      | succ kk ih =>
        intro i x4 x5 hi e5 h1 hms
        subst e5
        refine V_iload h 49 5 rfl dX2_userOf_47 rfl ?_
        refine V_aload_n h 50 0 rfl dX2_userOf_49 rfl ?_
        refine g_X2_28 h 53 (b := o + 16) (L_s0 hL) (L_p2 hL) dX2_userOf_50 rfl ?_
        refine CVI h 56 (As := []) (c_dcount (L_s16 hL)) rfl (L_s16 hL) qL_X2_118 qI_X1_count qS_X1_count qZ_X1 qC_X1_count hd_X1_count ⟨Nat.le_of_ble_eq_true rfl, Nat.le_of_ble_eq_true rfl⟩ (Nat.le_of_ble_eq_true rfl) rfl rfl dX2_userOf_53 (Nat.zero_le _) (Nat.zero_le _) (fun r4 D4 hq4 => ?_)
        rw [hq4.1, hq4.2]
        refine V_top (y := nI m) hW.2.2.1 ?_
        refine V_icmp_ge h 120 59 dX2_userOf_56 (by decide) rfl (fun c56 => ?_) (fun c56 => ?_)
        · skip
          have hex : i = m := by have := mGe c56 (by omega) (by omega); omega
          refine V_iload_n h 121 2 rfl dX2_userOf_120 rfl ?_
          exact V_iret h rfl hQ (Nat.zero_le _) (Nat.zero_le _) ⟨rfl, rfl, rfl, rfl, _, rfl, ⟨rfl, by simp only [userI, hF]; rw [h1, show m - i = 0 by omega]; rfl⟩⟩ dX2_userOf_121
        · skip
          have hlt := mLt c56 (by omega)
          refine V_aload_n h 60 0 rfl dX2_userOf_59 rfl ?_
          refine g_X2_28 h 63 (b := o + 16) (L_s0 hL) (L_p2 hL) dX2_userOf_60 rfl ?_
          refine V_iload h 65 5 rfl dX2_userOf_63 rfl ?_
          refine V_iconst h 66 (v := 0) (by decide) dX2_userOf_65 rfl ?_
          refine CVI h 69 (As := [.int (nI i), .int 0]) (c_dget (L_s16 hL) (L_p16 hL) (L_s17 hL) (j := i * 4 + 0) (dealIx i 0) (by omega)) rfl (L_s16 hL) qL_X2_121 qI_X1_get qS_X1_get qZ_X1 qC_X1_get hd_X1_get ⟨Nat.le_of_ble_eq_true rfl, Nat.le_of_ble_eq_true rfl⟩ (Nat.le_of_ble_eq_true rfl) rfl rfl dX2_userOf_66 (Nat.zero_le _) (Nat.zero_le _) (fun r5 D5 hq5 => ?_)
          rw [hq5.1, hq5.2]
          refine V_iload_n h 70 2 rfl dX2_userOf_69 rfl ?_
          refine V_icmp_ne h 114 73 dX2_userOf_70 (by decide) rfl (fun c70 => ?_) (fun c70 => ?_)
          · skip
            refine V_iinc h 117 [(5, .int ((nI i) + 1)), (0, .ref o), (1, .int x), (2, .int (nI (ρ p))), (3, .ref (o + 6 + ρ p)), (4, .int x4)] 5 rfl (by rfl) (by decide) rfl dX2_userOf_114 rfl ?_
            refine V_goto h 47 dX2_userOf_117 (by decide) ?_
            refine V_lsub [(0, .ref o), (1, .int x), (2, .int (nI (ρ p))), (3, .ref (o + 6 + ρ p)), (4, .int x4), (5, .int ((nI i) + 1))] [1, 2, 3, 4, 5, 0] rfl ?_
            exact ih (i + 1) _ _ (by omega) (nI_1 i) (by rw [h1, show m - i = (m - (i + 1)) + 1 by omega]; exact if_neg c70) (by omega)
          · skip
            refine V_iload h 75 4 rfl dX2_userOf_73 rfl ?_
            refine V_aload_n h 76 0 rfl dX2_userOf_75 rfl ?_
            refine g_X2_28 h 79 (b := o + 16) (L_s0 hL) (L_p2 hL) dX2_userOf_76 rfl ?_
            refine V_iload h 81 5 rfl dX2_userOf_79 rfl ?_
            refine V_iconst h 82 (v := 2) (by decide) dX2_userOf_81 rfl ?_
            refine CVI h 85 (As := [.int (nI i), .int 2]) (c_dget (L_s16 hL) (L_p16 hL) (L_s17 hL) (j := i * 4 + 2) (dealIx i 2) (by omega)) rfl (L_s16 hL) qL_X2_121 qI_X1_get qS_X1_get qZ_X1 qC_X1_get hd_X1_get ⟨Nat.le_of_ble_eq_true rfl, Nat.le_of_ble_eq_true rfl⟩ (Nat.le_of_ble_eq_true rfl) rfl rfl dX2_userOf_82 (Nat.zero_le _) (Nat.zero_le _) (fun r6 D6 hq6 => ?_)
            rw [hq6.1, hq6.2]
            refine V_icmp_ge h 99 88 dX2_userOf_85 (by decide) rfl (fun c85 => ?_) (fun c85 => ?_)
            · skip
              refine V_iload h 101 4 rfl dX2_userOf_99 rfl ?_
              refine V_aload_n h 102 0 rfl dX2_userOf_101 rfl ?_
              refine g_X2_28 h 105 (b := o + 16) (L_s0 hL) (L_p2 hL) dX2_userOf_102 rfl ?_
              refine V_iload h 107 5 rfl dX2_userOf_105 rfl ?_
              refine V_iconst h 108 (v := 2) (by decide) dX2_userOf_107 rfl ?_
              refine CVI h 111 (As := [.int (nI i), .int 2]) (c_dget (L_s16 hL) (L_p16 hL) (L_s17 hL) (j := i * 4 + 2) (dealIx i 2) (by omega)) rfl (L_s16 hL) qL_X2_121 qI_X1_get qS_X1_get qZ_X1 qC_X1_get hd_X1_get ⟨Nat.le_of_ble_eq_true rfl, Nat.le_of_ble_eq_true rfl⟩ (Nat.le_of_ble_eq_true rfl) rfl rfl dX2_userOf_108 (Nat.zero_le _) (Nat.zero_le _) (fun r7 D7 hq7 => ?_)
              rw [hq7.1, hq7.2]
              refine V_isub h 112 dX2_userOf_111 rfl ?_
              refine V_istore h 114 [(4, .int (x4 - (D (o + 17) (i * 4 + 2)))), (0, .ref o), (1, .int x), (2, .int (nI (ρ p))), (3, .ref (o + 6 + ρ p)), (5, .int (nI i))] (by decide) rfl dX2_userOf_112 rfl ?_
              refine V_iinc h 117 [(5, .int ((nI i) + 1)), (4, .int (x4 - (D (o + 17) (i * 4 + 2)))), (0, .ref o), (1, .int x), (2, .int (nI (ρ p))), (3, .ref (o + 6 + ρ p))] 5 rfl (by rfl) (by decide) rfl dX2_userOf_114 rfl ?_
              refine V_goto h 47 dX2_userOf_117 (by decide) ?_
              refine V_lsub [(0, .ref o), (1, .int x), (2, .int (nI (ρ p))), (3, .ref (o + 6 + ρ p)), (4, .int (x4 - (D (o + 17) (i * 4 + 2)))), (5, .int ((nI i) + 1))] [2, 3, 4, 5, 1, 0] rfl ?_
              exact ih (i + 1) _ _ (by omega) (nI_1 i) (by rw [h1, show m - i = (m - (i + 1)) + 1 by omega]; exact (if_pos c70).trans (if_neg (Int32.not_lt.mpr c85))) (by omega)
            · skip
              refine V_aload_n h 89 0 rfl dX2_userOf_88 rfl ?_
              refine g_X2_28 h 92 (b := o + 16) (L_s0 hL) (L_p2 hL) dX2_userOf_89 rfl ?_
              refine V_iload h 94 5 rfl dX2_userOf_92 rfl ?_
              refine V_iconst h 95 (v := 1) (by decide) dX2_userOf_94 rfl ?_
              refine CVI h 98 (As := [.int (nI i), .int 1]) (c_dget (L_s16 hL) (L_p16 hL) (L_s17 hL) (j := i * 4 + 1) (dealIx i 1) (by omega)) rfl (L_s16 hL) qL_X2_121 qI_X1_get qS_X1_get qZ_X1 qC_X1_get hd_X1_get ⟨Nat.le_of_ble_eq_true rfl, Nat.le_of_ble_eq_true rfl⟩ (Nat.le_of_ble_eq_true rfl) rfl rfl dX2_userOf_95 (Nat.zero_le _) (Nat.zero_le _) (fun r8 D8 hq8 => ?_)
              rw [hq8.1, hq8.2]
              exact V_iret h rfl hQ (Nat.zero_le _) (Nat.zero_le _) ⟨rfl, rfl, rfl, rfl, _, rfl, ⟨rfl, by simp only [userI, hF]; rw [h1, show m - i = (m - (i + 1)) + 1 by omega]; exact ((if_pos c70).trans (if_pos (Int32.not_le.mp c85))).symm⟩⟩ dX2_userOf_98
    refine V_lsub [(0, .ref o), (1, .int x), (2, .int (nI (ρ p))), (3, .ref (o + 6 + (ρ p))), (4, .int ((((rsum (fun p => D (o + 6 + ρ p) 2) p) + (D (o + 6 + (ρ p)) 2)) - 1) - x)), (5, .int 0)] [4, 5, 3, 2, 1, 0] rfl ?_
    exact LP47 _ 0 _ _ (Nat.zero_le _) rfl rfl (Nat.lt_succ_self _)
