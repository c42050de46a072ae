/-! isBest, whole -/
theorem tdI_ask {t bs dr m dd c n : Nat} {sh : mSh} {P : mPt} {D D' : mDt} (h : tdI t bs dr m dd c n sh P D) (hD : askFr t D D') : tdI t bs dr m dd c n sh P D' := ⟨h.1, h.2.1, h.2.2.1, h.2.2.2.1, by rw [hD.1 t (by omega)]; exact h.2.2.2.2.1, oI_ask h.2.2.2.2.2 hD⟩
set_option maxRecDepth 100000 in
set_option maxHeartbeats 4000000 in
theorem m_isBest {κ : mKp} {n : Nat} {sh : mSh} {P : mPt} {D : mDt} {E : mEt} {bs Ls : Nat} {xs : Nat → Int32} (hst : κ.1.stackTraces = false) (hLs : Ls < 2 ^ 31) {τ : Nat} (hτ : τ < 1000) : mSMet κ yL_isBest cL_isBest 11 (Option.some Jvm.ClassFile.FieldType.boolean) { frames := 11, cells := 300, slots := 34000, locals := 200 } [.ref bs, .int (nI τ)] n sh P D E bs Ls xs (fun v _ _ _ _ _ => v = some (.int 1)) := by
  refine mSMet_of (by decide) (Nat.le_of_ble_eq_true rfl) ?_
  intro Γ Q hQ h hX hin
  have h : mOk Γ κ RL cL_isBest 11 (Option.some Jvm.ClassFile.FieldType.boolean) { frames := 11, cells := 300, slots := 34000, locals := 200 } := h
  show mV Γ Q 0 0 n sh P D E [(0, .ref bs), (1, .int (nI τ))] [] 0
  obtain ⟨R, hR, eR⟩ := drwI_lt (Ls := Ls) (xs := xs) (dr := 41 * τ + 3 + 16) (N := 60) (by decide) (by decide)
  obtain ⟨dy, hdy, eD⟩ := drwI_lt (Ls := Ls) (xs := xs) (dr := 41 * τ + 3 + 17) (N := 20) (by decide) (by decide)
  obtain ⟨qd, hqd, eQ⟩ := drwI_lt (Ls := Ls) (xs := xs) (dr := 41 * τ + 3 + 18) (N := 21) (by decide) (by decide)
  have e7 : (1 : Int32) + drwI Ls xs (41 * τ + 3 + 17) (nI 20) = nI (dy + 1) := by rw [eD, show (1 : Int32) = nI 1 from rfl, nI_add, Nat.add_comm]
  have hx : wP (nI R) 0 99 := wP_n (a := 0) (b := 99) (by omega) (by omega) (by decide)
  refine V_iconst h 1 (v := (-1)) (by decide) dL_isBest_0 rfl ?_
  refine V_istore_n h 2 [(2, .int (-1)), (0, .ref bs), (1, .int (nI τ))] (by decide) rfl dL_isBest_1 rfl ?_
  refine V_iconst h 3 (v := (-1)) (by decide) dL_isBest_2 rfl ?_
  refine V_istore_n h 4 [(3, .int (-1)), (2, .int (-1)), (0, .ref bs), (1, .int (nI τ))] (by decide) rfl dL_isBest_3 rfl ?_
  refine V_iconst h 5 (v := 0) (by decide) dL_isBest_4 rfl ?_
  refine V_istore h 7 [(4, .int 0), (3, .int (-1)), (2, .int (-1)), (0, .ref bs), (1, .int (nI τ))] (by decide) rfl dL_isBest_5 rfl ?_
  refine V_iload h 9 0 rfl dL_isBest_7 rfl ?_
  refine V_iconst h 10 (v := 3) (by decide) dL_isBest_9 rfl ?_
  refine V_icmp_ge h 174 13 dL_isBest_10 (by decide) rfl (fun c10 => absurd c10 (by decide)) (fun c10 => ?_)
  refine V_lsub [(0, .ref bs), (1, .int (nI τ)), (2, .int (-1)), (3, .int (-1)), (4, .int 0)] [3, 4, 2, 1, 0] rfl ?_
  refine isb_head h hX hst hLs hτ (by show 0 + 99 ≤ 300; omega) (by show 0 + 11290 ≤ 34000; omega) (fun n1 S1 P1 D1a E1 hd0 hB0 => ?_)
  obtain ⟨t0, et0⟩ : ∃ z, z = n := ⟨_, rfl⟩
  rw [← et0] at hd0 hB0
  rw [← et0]
  rw [eR, e7, eQ]
  have ht0 := hd0.2.1
  have hp0 := hd0.2.2.1
  have hb10 := hd0.2.2.2.2.2.2.1.1
  refine V_iload h 71 4 rfl dL_isBest_69 rfl ?_
  refine V_if_ne h 87 74 dL_isBest_71 (by decide) rfl (fun c71 => absurd c71 (by decide)) (fun c71 => ?_)
  refine V_aload h 76 5 rfl dL_isBest_74 rfl ?_
  refine g_L_14 h 79 (b := t0 + 1) ht0 hp0 dL_isBest_76 rfl ?_
  refine V_iload h 81 6 rfl dL_isBest_79 rfl ?_
  refine V_iload h 83 7 rfl dL_isBest_81 rfl ?_
  refine NVI h hX (95) (11266) 86 (As := [.int (nI R), .int (nI (dy + 1))]) (o_best hst hd0.2.2.2.2.2 (d := (dy + 1)) (by omega) (by omega) hx) rfl hb10 qL_L_50 qI_X5_bestDig qS_X5_bestDig qZ_X5 qC_X5_bestDig hd_X5_bestDig ⟨Nat.le_of_ble_eq_true rfl, Nat.le_of_ble_eq_true rfl⟩ (Nat.le_of_ble_eq_true rfl) rfl rfl dL_isBest_83 ⟨by show 95 ≤ 300; omega, by show 11266 ≤ 34000; omega⟩ rfl rfl (fun X9 hk => hk) (fun r1 D1 hq1 => ?_)
  obtain ⟨hr, hf⟩ := hq1
  obtain ⟨b, hb, eb, hmax, hlt⟩ := gF_best (d := (dy + 1)) (x := nI R) hB0 (by omega)
  have er : r1 = nI b := by rw [hr]; exact eb
  rw [er]
  have hdx := tdI_ask hd0 hf
  have hBx := tell_blk hB0 (fun a a1 a2 => hf.1 a (by omega))
  refine V_istore_n h 87 [(3, .int (nI b)), (0, .ref bs), (1, .int (nI τ)), (2, .int (-1)), (4, .int 0), (5, .ref t0), (6, .int (nI R)), (7, .int (nI (dy + 1))), (8, .int (nI qd))] (by decide) rfl dL_isBest_86 rfl ?_
  refine V_iload h 89 4 rfl dL_isBest_87 rfl ?_
  refine V_if_ne h 96 92 dL_isBest_89 (by decide) rfl (fun c89 => absurd c89 (by decide)) (fun c89 => ?_)
  refine V_iload_n h 93 0 rfl dL_isBest_92 rfl ?_
  refine V_goto h 108 dL_isBest_93 (by decide) ?_
  refine V_istore h 110 [(9, .int (nI b)), (3, .int (nI b)), (0, .ref bs), (1, .int (nI τ)), (2, .int (-1)), (4, .int 0), (5, .ref t0), (6, .int (nI R)), (7, .int (nI (dy + 1))), (8, .int (nI qd))] (by decide) rfl dL_isBest_108 rfl ?_
  refine V_lsub [(0, .ref bs), (1, .int (nI τ)), (2, .int (-1)), (3, .int (nI b)), (4, .int 0), (5, .ref t0), (6, .int (nI R)), (7, .int (nI (dy + 1))), (8, .int (nI qd)), (9, .int (nI b))] [2, 3, 4, 1, 5, 6, 7, 8, 9, 0] rfl ?_
  refine isb_tail (q := b) h hX hst hLs hdx hBx (by omega) (by omega) (by omega) hx (by show 95 + 4 ≤ 300; omega) (by show 11266 + 24 ≤ 34000; omega) (fun D1b => ?_)
  refine V_iload h 142 4 rfl dL_isBest_140 rfl ?_
  refine V_if_ne h 148 145 dL_isBest_142 (by decide) rfl (fun c142 => absurd c142 (by decide)) (fun c142 => ?_)
  refine V_iload h 147 10 rfl dL_isBest_145 rfl ?_
  refine V_istore_n h 148 [(2, .int (gF t0 (dy + 1) (nI R) D1 b)), (0, .ref bs), (1, .int (nI τ)), (3, .int (nI b)), (4, .int 0), (5, .ref t0), (6, .int (nI R)), (7, .int (nI (dy + 1))), (8, .int (nI qd)), (9, .int (nI b)), (10, .int (gF t0 (dy + 1) (nI R) D1 b))] (by decide) rfl dL_isBest_147 rfl ?_
  refine V_lsub [(0, .ref bs), (1, .int (nI τ)), (2, .int (gF t0 (dy + 1) (nI R) D1 b)), (3, .int (nI b)), (4, .int 0), (5, .ref t0), (6, .int (nI R)), (7, .int (nI (dy + 1))), (8, .int (nI qd)), (9, .int (nI b)), (10, .int (gF t0 (dy + 1) (nI R) D1 b))] [1, 2, 0, 3, 4, 5, 6, 7, 8, 9, 10] rfl ?_
  refine isb_cmp h (Int32.lt_irrefl) (fun _ => Int32.le_refl _) ?_
  have eg0 : gF t0 (dy + 1) (nI R) D1 b = gF t0 (dy + 1) (nI R) D1a b := gF_eq hB0 hBx
  refine V_iinc h 171 [(4, .int 1), (0, .ref bs), (1, .int (nI τ)), (2, .int (gF t0 (dy + 1) (nI R) D1 b)), (3, .int (nI b)), (5, .ref t0), (6, .int (nI R)), (7, .int (nI (dy + 1))), (8, .int (nI qd)), (9, .int (nI b)), (10, .int (gF t0 (dy + 1) (nI R) D1 b))] 4 rfl (by rfl) (by decide) rfl dL_isBest_168 rfl ?_
  refine V_goto h 7 dL_isBest_171 (by decide) ?_
  refine V_iload h 9 0 rfl dL_isBest_7 rfl ?_
  refine V_iconst h 10 (v := 3) (by decide) dL_isBest_9 rfl ?_
  refine V_icmp_ge h 174 13 dL_isBest_10 (by decide) rfl (fun c10 => absurd c10 (by decide)) (fun c10 => ?_)
  refine V_lsub [(0, .ref bs), (1, .int (nI τ)), (2, .int (gF t0 (dy + 1) (nI R) D1 b)), (3, .int (nI b)), (4, .int 1)] [1, 2, 3, 4, 0] rfl ?_
  refine isb_head h hX hst hLs hτ (by show 99 + 99 ≤ 300; omega) (by show 11290 + 11290 ≤ 34000; omega) (fun n2 S2 P2 D2a E2 hd1 hB1 => ?_)
  obtain ⟨t1, et1⟩ : ∃ z, z = n1 := ⟨_, rfl⟩
  rw [← et1] at hd1 hB1
  rw [← et1]
  rw [eR, e7, eQ]
  have ht1 := hd1.2.1
  have hp1 := hd1.2.2.1
  have hb11 := hd1.2.2.2.2.2.2.1.1
  refine V_iload h 71 4 rfl dL_isBest_69 rfl ?_
  refine V_if_ne h 87 74 dL_isBest_71 (by decide) rfl (fun c71 => ?_) (fun c71 => absurd c71 (by decide))
  refine V_iload h 89 4 rfl dL_isBest_87 rfl ?_
  refine V_if_ne h 96 92 dL_isBest_89 (by decide) rfl (fun c89 => ?_) (fun c89 => absurd c89 (by decide))
  refine V_iload h 98 4 rfl dL_isBest_96 rfl ?_
  refine V_iconst h 99 (v := 1) (by decide) dL_isBest_98 rfl ?_
  refine V_icmp_ne h 106 102 dL_isBest_99 (by decide) rfl (fun c99 => absurd c99 (by decide)) (fun c99 => ?_)
  refine V_iconst h 103 (v := 0) (by decide) dL_isBest_102 rfl ?_
  refine V_goto h 108 dL_isBest_103 (by decide) ?_
  refine V_istore h 110 [(9, .int 0), (0, .ref bs), (1, .int (nI τ)), (2, .int (gF t0 (dy + 1) (nI R) D1 b)), (3, .int (nI b)), (4, .int 1), (5, .ref t1), (6, .int (nI R)), (7, .int (nI (dy + 1))), (8, .int (nI qd))] (by decide) rfl dL_isBest_108 rfl ?_
  refine V_lsub [(0, .ref bs), (1, .int (nI τ)), (2, .int (gF t0 (dy + 1) (nI R) D1 b)), (3, .int (nI b)), (4, .int 1), (5, .ref t1), (6, .int (nI R)), (7, .int (nI (dy + 1))), (8, .int (nI qd)), (9, .int (nI 0))] [1, 2, 3, 4, 5, 6, 7, 8, 9, 0] rfl ?_
  refine isb_tail (q := 0) h hX hst hLs hd1 hB1 (by omega) (by omega) (by omega) hx (by show 193 + 4 ≤ 300; omega) (by show 22550 + 24 ≤ 34000; omega) (fun D2b => ?_)
  refine V_iload h 142 4 rfl dL_isBest_140 rfl ?_
  refine V_if_ne h 148 145 dL_isBest_142 (by decide) rfl (fun c142 => ?_) (fun c142 => absurd c142 (by decide))
  refine V_lsub [(0, .ref bs), (1, .int (nI τ)), (2, .int (gF t0 (dy + 1) (nI R) D1 b)), (3, .int (nI b)), (4, .int 1), (5, .ref t1), (6, .int (nI R)), (7, .int (nI (dy + 1))), (8, .int (nI qd)), (9, .int 0), (10, .int (gF t1 (dy + 1) (nI R) D2a 0))] [0, 1, 2, 3, 4, 5, 6, 7, 8, 9, 10] rfl ?_
  have eg1 : gF t1 (dy + 1) (nI R) D2a 0 = gF t0 (dy + 1) (nI R) D1a 0 := gF_eq hB0 hB1
  refine isb_cmp h (by rw [eg1, eg0]; exact Int32.not_lt.mpr (hmax 0 (by omega))) (fun c => ?_) ?_
  · rw [eg1, eg0] at c
    have hle : b ≤ 0 := by
      rcases Nat.lt_or_ge 0 b with z | z
      · have := hlt 0 z
        rw [c] at this; exact absurd this (Int32.lt_irrefl)
      · exact z
    exact nI_le (a := b) (b := 0) hle (by omega)
  refine V_iinc h 171 [(4, .int 2), (0, .ref bs), (1, .int (nI τ)), (2, .int (gF t0 (dy + 1) (nI R) D1 b)), (3, .int (nI b)), (5, .ref t1), (6, .int (nI R)), (7, .int (nI (dy + 1))), (8, .int (nI qd)), (9, .int 0), (10, .int (gF t1 (dy + 1) (nI R) D2a 0))] 4 rfl (by rfl) (by decide) rfl dL_isBest_168 rfl ?_
  refine V_goto h 7 dL_isBest_171 (by decide) ?_
  refine V_iload h 9 0 rfl dL_isBest_7 rfl ?_
  refine V_iconst h 10 (v := 3) (by decide) dL_isBest_9 rfl ?_
  refine V_icmp_ge h 174 13 dL_isBest_10 (by decide) rfl (fun c10 => absurd c10 (by decide)) (fun c10 => ?_)
  refine V_lsub [(0, .ref bs), (1, .int (nI τ)), (2, .int (gF t0 (dy + 1) (nI R) D1 b)), (3, .int (nI b)), (4, .int 2)] [1, 2, 3, 4, 0] rfl ?_
  refine isb_head h hX hst hLs hτ (by show 197 + 99 ≤ 300; omega) (by show 22574 + 11290 ≤ 34000; omega) (fun n3 S3 P3 D3a E3 hd2 hB2 => ?_)
  obtain ⟨t2, et2⟩ : ∃ z, z = n2 := ⟨_, rfl⟩
  rw [← et2] at hd2 hB2
  rw [← et2]
  rw [eR, e7, eQ]
  have ht2 := hd2.2.1
  have hp2 := hd2.2.2.1
  have hb12 := hd2.2.2.2.2.2.2.1.1
  refine V_iload h 71 4 rfl dL_isBest_69 rfl ?_
  refine V_if_ne h 87 74 dL_isBest_71 (by decide) rfl (fun c71 => ?_) (fun c71 => absurd c71 (by decide))
  refine V_iload h 89 4 rfl dL_isBest_87 rfl ?_
  refine V_if_ne h 96 92 dL_isBest_89 (by decide) rfl (fun c89 => ?_) (fun c89 => absurd c89 (by decide))
  refine V_iload h 98 4 rfl dL_isBest_96 rfl ?_
  refine V_iconst h 99 (v := 1) (by decide) dL_isBest_98 rfl ?_
  refine V_icmp_ne h 106 102 dL_isBest_99 (by decide) rfl (fun c99 => ?_) (fun c99 => absurd c99 (by decide))
  refine V_iload h 108 8 rfl dL_isBest_106 rfl ?_
  refine V_istore h 110 [(9, .int (nI qd)), (0, .ref bs), (1, .int (nI τ)), (2, .int (gF t0 (dy + 1) (nI R) D1 b)), (3, .int (nI b)), (4, .int 2), (5, .ref t2), (6, .int (nI R)), (7, .int (nI (dy + 1))), (8, .int (nI qd))] (by decide) rfl dL_isBest_108 rfl ?_
  refine V_lsub [(0, .ref bs), (1, .int (nI τ)), (2, .int (gF t0 (dy + 1) (nI R) D1 b)), (3, .int (nI b)), (4, .int 2), (5, .ref t2), (6, .int (nI R)), (7, .int (nI (dy + 1))), (8, .int (nI qd)), (9, .int (nI qd))] [1, 2, 3, 4, 5, 6, 7, 8, 9, 0] rfl ?_
  refine isb_tail (q := qd) h hX hst hLs hd2 hB2 (by omega) (by omega) (by omega) hx (by show 291 + 4 ≤ 300; omega) (by show 33834 + 24 ≤ 34000; omega) (fun D3b => ?_)
  refine V_iload h 142 4 rfl dL_isBest_140 rfl ?_
  refine V_if_ne h 148 145 dL_isBest_142 (by decide) rfl (fun c142 => ?_) (fun c142 => absurd c142 (by decide))
  refine V_lsub [(0, .ref bs), (1, .int (nI τ)), (2, .int (gF t0 (dy + 1) (nI R) D1 b)), (3, .int (nI b)), (4, .int 2), (5, .ref t2), (6, .int (nI R)), (7, .int (nI (dy + 1))), (8, .int (nI qd)), (9, .int (nI qd)), (10, .int (gF t2 (dy + 1) (nI R) D3a qd))] [0, 1, 2, 3, 4, 5, 6, 7, 8, 9, 10] rfl ?_
  have eg2 : gF t2 (dy + 1) (nI R) D3a qd = gF t0 (dy + 1) (nI R) D1a qd := gF_eq hB0 hB2
  refine isb_cmp h (by rw [eg2, eg0]; exact Int32.not_lt.mpr (hmax qd (by omega))) (fun c => ?_) ?_
  · rw [eg2, eg0] at c
    have hle : b ≤ qd := by
      rcases Nat.lt_or_ge qd b with z | z
      · have := hlt qd z
        rw [c] at this; exact absurd this (Int32.lt_irrefl)
      · exact z
    exact nI_le (a := b) (b := qd) hle (by omega)
  refine V_iinc h 171 [(4, .int 3), (0, .ref bs), (1, .int (nI τ)), (2, .int (gF t0 (dy + 1) (nI R) D1 b)), (3, .int (nI b)), (5, .ref t2), (6, .int (nI R)), (7, .int (nI (dy + 1))), (8, .int (nI qd)), (9, .int (nI qd)), (10, .int (gF t2 (dy + 1) (nI R) D3a qd))] 4 rfl (by rfl) (by decide) rfl dL_isBest_168 rfl ?_
  refine V_goto h 7 dL_isBest_171 (by decide) ?_
  refine V_iload h 9 0 rfl dL_isBest_7 rfl ?_
  refine V_iconst h 10 (v := 3) (by decide) dL_isBest_9 rfl ?_
  refine V_icmp_ge h 174 13 dL_isBest_10 (by decide) rfl (fun c10 => ?_) (fun c10 => absurd c10 (by decide))
  refine V_iconst h 175 (v := 1) (by decide) dL_isBest_174 rfl ?_
  exact V_iret h rfl hQ (by show 295 ≤ 300; omega) (by show 33858 ≤ 34000; omega) rfl dL_isBest_175
