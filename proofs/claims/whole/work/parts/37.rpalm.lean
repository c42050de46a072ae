set_option maxRecDepth 100000 in
set_option maxHeartbeats 4000000 in
theorem r_reaped {κ : mKp} {n : Nat} {sh : mSh} {P : mPt} {D : mDt} {E : mEt} {r a : Nat} (ha : sh a = some (.inr (0, 12))) {g : Nat → Int32} (hg : rwq (D a) g) : mFnI κ yX6_reaped cX6_reaped 2 (Option.some Jvm.ClassFile.FieldType.int) 0 0 [.ref r, .ref a] n sh P D E (fun ans D' => D' = D ∧ ans = palmReap g) := by
  refine mMet_of (by decide) (Nat.le_of_ble_eq_true rfl) ?_
  intro Γ Q hQ h hin
  have h : mOk Γ κ RX6 cX6_reaped 2 (Option.some Jvm.ClassFile.FieldType.int) { frames := 0, cells := 0, slots := 0, locals := 0 } := h
  show mV Γ Q 0 0 n sh P D E [(0, .ref r), (1, .ref a)] [] 0
  refine V_aload_n h 1 1 rfl dX6_reaped_0 rfl ?_
  refine V_bipush h 3 (v := 7) (by decide) dX6_reaped_1 rfl ?_
  refine V_iald h 4 7 ha (by decide) (by decide) (by decide) dX6_reaped_3 rfl ?_
  refine V_top (y := g 9) (hg 7 (by decide)) ?_
  refine V_aload_n h 5 1 rfl dX6_reaped_4 rfl ?_
  refine V_iconst h 6 (v := 4) (by decide) dX6_reaped_5 rfl ?_
  refine V_iald h 7 4 ha (by decide) (by decide) (by decide) dX6_reaped_6 rfl ?_
  refine V_top (y := g 6) (hg 4 (by decide)) ?_
  refine V_imul h 8 dX6_reaped_7 rfl ?_
  refine V_bipush h 10 (v := 100) (by decide) dX6_reaped_8 rfl ?_
  refine V_aload_n h 11 1 rfl dX6_reaped_10 rfl ?_
  refine V_iconst h 12 (v := 5) (by decide) dX6_reaped_11 rfl ?_
  refine V_iald h 13 5 ha (by decide) (by decide) (by decide) dX6_reaped_12 rfl ?_
  refine V_top (y := g 7) (hg 5 (by decide)) ?_
  refine V_isub h 14 dX6_reaped_13 rfl ?_
  refine V_imul h 15 dX6_reaped_14 rfl ?_
  refine V_sipush h 18 (v := 1000) (by decide) dX6_reaped_15 rfl ?_
  refine V_idiv h 19 (by decide) dX6_reaped_18 rfl ?_
  exact V_iret h rfl hQ (Nat.zero_le _) (Nat.zero_le _) ⟨rfl, rfl, rfl, rfl, _, rfl, ⟨rfl, rfl⟩⟩ dX6_reaped_19

theorem pal_1 {p : Nat} (hp : p ≤ 100000) (h : ¬ nI p = 0) : 1 ≤ nI p * 20 ∧ ¬ nI p * 20 = 0 := by
  have hp0 : p ≠ 0 := fun q => h (by rw [q]; rfl)
  rw [show (20 : Int32) = nI 20 from rfl, nI_mul]
  exact ⟨nI_le (a := 1) (by omega) (by omega), nI_ne0 (by omega) (by omega)⟩
theorem pal_0 {p : Nat} (h : nI p = 0) : ¬ 1 ≤ nI p * 20 := by rw [h]; decide
theorem ten_0 {dd : Nat} (hd : dd < 2 ^ 31) (h : 0 < rm10 (rm70 (nI dd))) : tenZ (nI dd) = 0 := by
  unfold tenZ
  rw [if_neg (fun q => by rw [q] at h; exact absurd h (by decide))]
theorem ten_1 {dd : Nat} (hd : dd < 2 ^ 31) (h : ¬ 0 < rm10 (rm70 (nI dd))) : tenZ (nI dd) = 1 := by
  unfold tenZ
  rw [rm70_nI hd, rm10_nI (by omega)] at *
  have : dd % 70 % 10 = 0 := by
    rcases Nat.eq_zero_or_pos (dd % 70 % 10) with q | q
    · exact q
    · exact absurd (nI_lt (a := 0) (b := dd % 70 % 10) q (by omega)) h
  rw [this, if_pos (show nI 0 = 0 from rfl)]

set_option maxRecDepth 100000 in
set_option maxHeartbeats 4000000 in
theorem r_palms {κ : mKp} {n : Nat} {sh : mSh} {P : mPt} {D : mDt} {E : mEt} {r a : Nat} (ha : sh a = some (.inr (0, 12))) {g : Nat → Int32} (hg : rwq (D a) g) (hr : sh r = some (.inl 6)) (hne : a ≠ r) {p : Nat} (hp : p ≤ 100000) (g4 : g 4 = nI p) {dd : Nat} (h9 : D r 9 = nI dd) (hdd : dd < 2 ^ 31) : mFnV κ yX6_palms cX6_palms 3 1 21 [.ref r, .ref a] n sh P D E (fun D' => (∀ b, b ≠ a → D' b = D b) ∧ rwq (D' a) (growX (tenZ (nI dd)) g)) := by
  refine mMet_of (by decide) (Nat.le_of_ble_eq_true rfl) ?_
  intro Γ Q hQ h hin
  have h : mOk Γ κ RX6 cX6_palms 3 (Option.none : Option Jvm.ClassFile.FieldType) { frames := 1, cells := 0, slots := 0, locals := 21 } := h
  show mV Γ Q 0 0 n sh P D E [(0, .ref r), (1, .ref a)] [] 0
  refine V_aload_n h 1 1 rfl dX6_palms_0 rfl ?_
  refine V_iconst h 2 (v := 2) (by decide) dX6_palms_1 rfl ?_
  refine V_iald h 3 2 ha (by decide) (by decide) (by decide) dX6_palms_2 rfl ?_
  refine V_top (y := g 4) (hg 2 (by decide)) ?_
  refine V_if_ne h 7 6 dX6_palms_3 (by decide) rfl (fun c3 => ?_) (fun c3 => ?_)
  · skip
    have hq := pal_1 hp (by rw [← g4]; exact c3)
    rw [← g4] at hq
    refine V_bipush h 9 (v := 20) (by decide) dX6_palms_7 rfl ?_
    refine V_aload_n h 10 1 rfl dX6_palms_9 rfl ?_
    refine V_iconst h 11 (v := 2) (by decide) dX6_palms_10 rfl ?_
    refine V_iald h 12 2 ha (by decide) (by decide) (by decide) dX6_palms_11 rfl ?_
    refine V_top (y := g 4) (hg 2 (by decide)) ?_
    refine V_imul h 13 dX6_palms_12 rfl ?_
    refine V_top (y := g 4 * 20) (Int32.mul_comm _ _) ?_
    refine V_istore_n h 14 [(2, .int (g 4 * 20)), (0, .ref r), (1, .ref a)] (by decide) rfl dX6_palms_13 rfl ?_
    refine V_aload_n h 15 2 rfl dX6_palms_14 rfl ?_
    refine V_iconst h 16 (v := 4) (by decide) dX6_palms_15 rfl ?_
    refine V_iconst h 17 (v := 0) (by decide) dX6_palms_16 rfl ?_
    refine V_bipush h 19 (v := 99) (by decide) dX6_palms_17 rfl ?_
    refine V_aload_n h 20 2 rfl dX6_palms_19 rfl ?_
    refine V_iconst h 21 (v := 4) (by decide) dX6_palms_20 rfl ?_
    refine V_iald h 22 4 ha (by decide) (by decide) (by decide) dX6_palms_21 rfl ?_
    refine V_top (y := g 6) (hg 4 (by decide)) ?_
    refine V_bipush h 24 (v := 40) (by decide) dX6_palms_22 rfl ?_
    refine V_aload_n h 25 2 rfl dX6_palms_24 rfl ?_
    refine V_bipush h 27 (v := 9) (by decide) dX6_palms_25 rfl ?_
    refine V_iald h 28 9 ha (by decide) (by decide) (by decide) dX6_palms_27 rfl ?_
    refine V_top (y := g 12) (hg 9 (by decide)) ?_
    refine V_bipush h 30 (v := 30) (by decide) dX6_palms_28 rfl ?_
    refine V_imul h 31 dX6_palms_30 rfl ?_
    refine V_iload_n h 32 0 rfl dX6_palms_31 rfl ?_
    refine V_idiv h 33 hq.2 dX6_palms_32 rfl ?_
    refine V_mmin h 36 qL_X6_80 (Nat.le_of_ble_eq_true rfl) (Nat.le_of_ble_eq_true rfl) (Nat.zero_le _) (Nat.zero_le _) dX6_palms_33 rfl ?_
    refine V_iadd h 37 dX6_palms_36 rfl ?_
    refine V_mmin h 40 qL_X6_80 (Nat.le_of_ble_eq_true rfl) (Nat.le_of_ble_eq_true rfl) (Nat.zero_le _) (Nat.zero_le _) dX6_palms_37 rfl ?_
    refine V_bipush h 42 (v := 6) (by decide) dX6_palms_40 rfl ?_
    refine V_isub h 43 dX6_palms_42 rfl ?_
    refine V_mmax h 46 qL_X6_64 (Nat.le_of_ble_eq_true rfl) (Nat.le_of_ble_eq_true rfl) (Nat.zero_le _) (Nat.zero_le _) dX6_palms_43 rfl ?_
    refine V_iast h 47 4 ha (by decide) (by decide) (by decide) dX6_palms_46 rfl ?_
    obtain ⟨D1, eD1⟩ : ∃ zz, zz = upd2 D a 4 (imax 0 ((imin 99 ((g 6) + (imin 40 (((g 12) * 30) / (g 4 * 20))))) - 6)) := ⟨_, rfl⟩
    rw [← eD1]
    refine V_aload_n h 48 2 rfl dX6_palms_47 rfl ?_
    refine V_bipush h 50 (v := 9) (by decide) dX6_palms_48 rfl ?_
    refine V_iald h 51 9 ha (by decide) (by decide) (by decide) dX6_palms_50 rfl ?_
    refine V_top (y := g 12) (by rw [eD1, upd2_nk (by decide)]; exact (hg 9 (by decide))) ?_
    refine V_iconst h 52 (v := 2) (by decide) dX6_palms_51 rfl ?_
    refine V_iload_n h 53 0 rfl dX6_palms_52 rfl ?_
    refine V_imul h 54 dX6_palms_53 rfl ?_
    refine V_icmp_le h 70 57 dX6_palms_54 (by decide) rfl (fun c54 => ?_) (fun c54 => ?_)
    · skip
      refine V_aload_n h 71 1 rfl dX6_palms_70 rfl ?_
      refine g_X6_55 h 74 hr dX6_palms_71 rfl ?_
      refine V_top (y := nI dd) (by rw [eD1, upd2_nk (by decide)]; exact h9) ?_
      refine V_bipush h 76 (v := 70) (by decide) dX6_palms_74 rfl ?_
      refine V_irem h 77 (by decide) dX6_palms_76 rfl ?_
      refine V_bipush h 79 (v := 10) (by decide) dX6_palms_77 rfl ?_
      refine V_irem h 80 (by decide) dX6_palms_79 rfl ?_
      refine V_if_gt h 91 83 dX6_palms_80 (by decide) rfl (fun c80 => ?_) (fun c80 => ?_)
      · skip
        exact V_ret h  hQ (Nat.zero_le _) (Nat.zero_le _) ⟨rfl, rfl, rfl, rfl, rfl, ⟨fun b hb => by rw [eD1, upd2_ra hb], by rw [growX, if_pos hq.1, if_pos c54, ten_0 hdd c80, witherX, if_pos rfl, eD1, upd2_row]; exact (rwq_upd hg 4 (by decide) rfl)⟩⟩ dX6_palms_91
      · skip
        refine V_aload_n h 84 2 rfl dX6_palms_83 rfl ?_
        refine V_iconst h 85 (v := 4) (by decide) dX6_palms_84 rfl ?_
        refine V_iald h 86 4 ha (by decide) (by decide) (by decide) dX6_palms_85 rfl ?_
        refine V_top (y := imax 0 ((imin 99 ((g 6) + (imin 40 (((g 12) * 30) / (g 4 * 20))))) - 6)) (by rw [eD1, upd2_eq]) ?_
        refine V_bipush h 88 (v := 15) (by decide) dX6_palms_86 rfl ?_
        refine V_icmp_lt h 92 91 dX6_palms_88 (by decide) rfl (fun c88 => ?_) (fun c88 => ?_)
        · skip
          refine V_aload_n h 93 2 rfl dX6_palms_92 rfl ?_
          refine V_iconst h 94 (v := 2) (by decide) dX6_palms_93 rfl ?_
          refine V_dup2 h 95 rfl rfl dX6_palms_94 rfl ?_
          refine V_iald h 96 2 ha (by decide) (by decide) (by decide) dX6_palms_95 rfl ?_
          refine V_top (y := g 4) (by rw [eD1, upd2_nk (by decide)]; exact (hg 2 (by decide))) ?_
          refine V_aload_n h 97 2 rfl dX6_palms_96 rfl ?_
          refine V_iconst h 98 (v := 2) (by decide) dX6_palms_97 rfl ?_
          refine V_iald h 99 2 ha (by decide) (by decide) (by decide) dX6_palms_98 rfl ?_
          refine V_top (y := g 4) (by rw [eD1, upd2_nk (by decide)]; exact (hg 2 (by decide))) ?_
          refine V_bipush h 101 (v := 10) (by decide) dX6_palms_99 rfl ?_
          refine V_idiv h 102 (by decide) dX6_palms_101 rfl ?_
          refine V_iconst h 103 (v := 1) (by decide) dX6_palms_102 rfl ?_
          refine V_iadd h 104 dX6_palms_103 rfl ?_
          refine V_isub h 105 dX6_palms_104 rfl ?_
          refine V_iast h 106 2 ha (by decide) (by decide) (by decide) dX6_palms_105 rfl ?_
          obtain ⟨D2, eD2⟩ : ∃ zz, zz = upd2 D1 a 2 ((g 4) - (((g 4) / 10) + 1)) := ⟨_, rfl⟩
          rw [← eD2]
          refine V_aload_n h 107 2 rfl dX6_palms_106 rfl ?_
          refine V_bipush h 109 (v := 7) (by decide) dX6_palms_107 rfl ?_
          refine V_aload_n h 110 2 rfl dX6_palms_109 rfl ?_
          refine V_bipush h 112 (v := 7) (by decide) dX6_palms_110 rfl ?_
          refine V_iald h 113 7 ha (by decide) (by decide) (by decide) dX6_palms_112 rfl ?_
          refine V_top (y := g 9) (by rw [eD2, upd2_nk (by decide), eD1, upd2_nk (by decide)]; exact (hg 7 (by decide))) ?_
          refine V_aload_n h 114 2 rfl dX6_palms_113 rfl ?_
          refine V_iconst h 115 (v := 2) (by decide) dX6_palms_114 rfl ?_
          refine V_iald h 116 2 ha (by decide) (by decide) (by decide) dX6_palms_115 rfl ?_
          refine V_top (y := (g 4) - (((g 4) / 10) + 1)) (by rw [eD2, upd2_eq]) ?_
          refine V_mmin h 119 qL_X6_80 (Nat.le_of_ble_eq_true rfl) (Nat.le_of_ble_eq_true rfl) (Nat.zero_le _) (Nat.zero_le _) dX6_palms_116 rfl ?_
          refine V_iast h 120 7 ha (by decide) (by decide) (by decide) dX6_palms_119 rfl ?_
          obtain ⟨D3, eD3⟩ : ∃ zz, zz = upd2 D2 a 7 (imin (g 9) ((g 4) - (((g 4) / 10) + 1))) := ⟨_, rfl⟩
          rw [← eD3]
          exact V_ret h  hQ (Nat.zero_le _) (Nat.zero_le _) ⟨rfl, rfl, rfl, rfl, rfl, ⟨fun b hb => by rw [eD3, eD2, eD1, upd2_ra hb, upd2_ra hb, upd2_ra hb], by rw [growX, if_pos hq.1, if_pos c54, ten_1 hdd c80, witherX, if_neg (by decide), if_neg (show ¬ 15 ≤ (moistX (g 4 * 20) g) 6 from Int32.not_le.mpr c88), eD3, eD2, eD1, upd2_row, upd2_row, upd2_row]; exact (rwq_upd (rwq_upd (rwq_upd hg 4 (by decide) rfl) 2 (by decide) rfl) 7 (by decide) rfl)⟩⟩ dX6_palms_120
        · skip
          exact V_ret h  hQ (Nat.zero_le _) (Nat.zero_le _) ⟨rfl, rfl, rfl, rfl, rfl, ⟨fun b hb => by rw [eD1, upd2_ra hb], by rw [growX, if_pos hq.1, if_pos c54, ten_1 hdd c80, witherX, if_neg (by decide), if_pos (show 15 ≤ (moistX (g 4 * 20) g) 6 from Int32.not_lt.mp c88), eD1, upd2_row]; exact (rwq_upd hg 4 (by decide) rfl)⟩⟩ dX6_palms_91
    · skip
      refine V_aload_n h 58 2 rfl dX6_palms_57 rfl ?_
      refine V_iconst h 59 (v := 5) (by decide) dX6_palms_58 rfl ?_
      refine V_bipush h 61 (v := 99) (by decide) dX6_palms_59 rfl ?_
      refine V_aload_n h 62 2 rfl dX6_palms_61 rfl ?_
      refine V_iconst h 63 (v := 5) (by decide) dX6_palms_62 rfl ?_
      refine V_iald h 64 5 ha (by decide) (by decide) (by decide) dX6_palms_63 rfl ?_
      refine V_top (y := g 7) (by rw [eD1, upd2_nk (by decide)]; exact (hg 5 (by decide))) ?_
      refine V_iconst h 65 (v := 1) (by decide) dX6_palms_64 rfl ?_
      refine V_iadd h 66 dX6_palms_65 rfl ?_
      refine V_mmin h 69 qL_X6_80 (Nat.le_of_ble_eq_true rfl) (Nat.le_of_ble_eq_true rfl) (Nat.zero_le _) (Nat.zero_le _) dX6_palms_66 rfl ?_
      refine V_iast h 70 5 ha (by decide) (by decide) (by decide) dX6_palms_69 rfl ?_
      obtain ⟨D4, eD4⟩ : ∃ zz, zz = upd2 D1 a 5 (imin 99 ((g 7) + 1)) := ⟨_, rfl⟩
      rw [← eD4]
      refine V_aload_n h 71 1 rfl dX6_palms_70 rfl ?_
      refine g_X6_55 h 74 hr dX6_palms_71 rfl ?_
      refine V_top (y := nI dd) (by rw [eD4, upd2_nk (by decide), eD1, upd2_nk (by decide)]; exact h9) ?_
      refine V_bipush h 76 (v := 70) (by decide) dX6_palms_74 rfl ?_
      refine V_irem h 77 (by decide) dX6_palms_76 rfl ?_
      refine V_bipush h 79 (v := 10) (by decide) dX6_palms_77 rfl ?_
      refine V_irem h 80 (by decide) dX6_palms_79 rfl ?_
      refine V_if_gt h 91 83 dX6_palms_80 (by decide) rfl (fun c80 => ?_) (fun c80 => ?_)
      · skip
        exact V_ret h  hQ (Nat.zero_le _) (Nat.zero_le _) ⟨rfl, rfl, rfl, rfl, rfl, ⟨fun b hb => by rw [eD4, eD1, upd2_ra hb, upd2_ra hb], by rw [growX, if_pos hq.1, if_neg c54, ten_0 hdd c80, witherX, if_pos rfl, eD4, eD1, upd2_row, upd2_row]; exact (rwq_upd (rwq_upd hg 4 (by decide) rfl) 5 (by decide) rfl)⟩⟩ dX6_palms_91
      · skip
        refine V_aload_n h 84 2 rfl dX6_palms_83 rfl ?_
        refine V_iconst h 85 (v := 4) (by decide) dX6_palms_84 rfl ?_
        refine V_iald h 86 4 ha (by decide) (by decide) (by decide) dX6_palms_85 rfl ?_
        refine V_top (y := imax 0 ((imin 99 ((g 6) + (imin 40 (((g 12) * 30) / (g 4 * 20))))) - 6)) (by rw [eD4, upd2_nk (by decide), eD1, upd2_eq]) ?_
        refine V_bipush h 88 (v := 15) (by decide) dX6_palms_86 rfl ?_
        refine V_icmp_lt h 92 91 dX6_palms_88 (by decide) rfl (fun c88 => ?_) (fun c88 => ?_)
        · skip
          refine V_aload_n h 93 2 rfl dX6_palms_92 rfl ?_
          refine V_iconst h 94 (v := 2) (by decide) dX6_palms_93 rfl ?_
          refine V_dup2 h 95 rfl rfl dX6_palms_94 rfl ?_
          refine V_iald h 96 2 ha (by decide) (by decide) (by decide) dX6_palms_95 rfl ?_
          refine V_top (y := g 4) (by rw [eD4, upd2_nk (by decide), eD1, upd2_nk (by decide)]; exact (hg 2 (by decide))) ?_
          refine V_aload_n h 97 2 rfl dX6_palms_96 rfl ?_
          refine V_iconst h 98 (v := 2) (by decide) dX6_palms_97 rfl ?_
          refine V_iald h 99 2 ha (by decide) (by decide) (by decide) dX6_palms_98 rfl ?_
          refine V_top (y := g 4) (by rw [eD4, upd2_nk (by decide), eD1, upd2_nk (by decide)]; exact (hg 2 (by decide))) ?_
          refine V_bipush h 101 (v := 10) (by decide) dX6_palms_99 rfl ?_
          refine V_idiv h 102 (by decide) dX6_palms_101 rfl ?_
          refine V_iconst h 103 (v := 1) (by decide) dX6_palms_102 rfl ?_
          refine V_iadd h 104 dX6_palms_103 rfl ?_
          refine V_isub h 105 dX6_palms_104 rfl ?_
          refine V_iast h 106 2 ha (by decide) (by decide) (by decide) dX6_palms_105 rfl ?_
          obtain ⟨D5, eD5⟩ : ∃ zz, zz = upd2 D4 a 2 ((g 4) - (((g 4) / 10) + 1)) := ⟨_, rfl⟩
          rw [← eD5]
          refine V_aload_n h 107 2 rfl dX6_palms_106 rfl ?_
          refine V_bipush h 109 (v := 7) (by decide) dX6_palms_107 rfl ?_
          refine V_aload_n h 110 2 rfl dX6_palms_109 rfl ?_
          refine V_bipush h 112 (v := 7) (by decide) dX6_palms_110 rfl ?_
          refine V_iald h 113 7 ha (by decide) (by decide) (by decide) dX6_palms_112 rfl ?_
          refine V_top (y := g 9) (by rw [eD5, upd2_nk (by decide), eD4, upd2_nk (by decide), eD1, upd2_nk (by decide)]; exact (hg 7 (by decide))) ?_
          refine V_aload_n h 114 2 rfl dX6_palms_113 rfl ?_
          refine V_iconst h 115 (v := 2) (by decide) dX6_palms_114 rfl ?_
          refine V_iald h 116 2 ha (by decide) (by decide) (by decide) dX6_palms_115 rfl ?_
          refine V_top (y := (g 4) - (((g 4) / 10) + 1)) (by rw [eD5, upd2_eq]) ?_
          refine V_mmin h 119 qL_X6_80 (Nat.le_of_ble_eq_true rfl) (Nat.le_of_ble_eq_true rfl) (Nat.zero_le _) (Nat.zero_le _) dX6_palms_116 rfl ?_
          refine V_iast h 120 7 ha (by decide) (by decide) (by decide) dX6_palms_119 rfl ?_
          obtain ⟨D6, eD6⟩ : ∃ zz, zz = upd2 D5 a 7 (imin (g 9) ((g 4) - (((g 4) / 10) + 1))) := ⟨_, rfl⟩
          rw [← eD6]
          exact V_ret h  hQ (Nat.zero_le _) (Nat.zero_le _) ⟨rfl, rfl, rfl, rfl, rfl, ⟨fun b hb => by rw [eD6, eD5, eD4, eD1, upd2_ra hb, upd2_ra hb, upd2_ra hb, upd2_ra hb], by rw [growX, if_pos hq.1, if_neg c54, ten_1 hdd c80, witherX, if_neg (by decide), if_neg (show ¬ 15 ≤ (upd (moistX (g 4 * 20) g) 7 (imin 99 (g 7 + 1))) 6 from Int32.not_le.mpr c88), eD6, eD5, eD4, eD1, upd2_row, upd2_row, upd2_row, upd2_row]; exact (rwq_upd (rwq_upd (rwq_upd (rwq_upd hg 4 (by decide) rfl) 5 (by decide) rfl) 2 (by decide) rfl) 7 (by decide) rfl)⟩⟩ dX6_palms_120
        · skip
          exact V_ret h  hQ (Nat.zero_le _) (Nat.zero_le _) ⟨rfl, rfl, rfl, rfl, rfl, ⟨fun b hb => by rw [eD4, eD1, upd2_ra hb, upd2_ra hb], by rw [growX, if_pos hq.1, if_neg c54, ten_1 hdd c80, witherX, if_neg (by decide), if_pos (show 15 ≤ (upd (moistX (g 4 * 20) g) 7 (imin 99 (g 7 + 1))) 6 from Int32.not_lt.mp c88), eD4, eD1, upd2_row, upd2_row]; exact (rwq_upd (rwq_upd hg 4 (by decide) rfl) 5 (by decide) rfl)⟩⟩ dX6_palms_91
  · skip
    exact V_ret h  hQ (Nat.zero_le _) (Nat.zero_le _) ⟨rfl, rfl, rfl, rfl, rfl, ⟨fun b hb => rfl, by rw [growX, if_neg (by rw [g4]; exact pal_0 (by rw [← g4]; exact c3))]; exact hg⟩⟩ dX6_palms_6
