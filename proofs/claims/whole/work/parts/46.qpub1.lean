theorem upd_comm {f : Nat → Int32} {i j : Nat} {a b : Int32} (h : i ≠ j) : upd (upd f i a) j b = upd (upd f j b) i a := by
  funext z
  by_cases h1 : z = i
  · subst h1; simp [upd, h]
  · simp [upd, h1]
theorem rSim_2 {o L e : Nat} {ρ : Nat → Nat} {m k : Nat} {V : mDt} {r : Nat} {lo : Nat → Nat} {t1 t2 t3 : Int32} {D D' : mDt} (h : rSim o L e ρ m k V r lo t1 t2 t3 D) (hm : m ≤ 8) (hk : k ≤ 8) (hlo : ∀ i, i < 8 → lo i < 8) {t u : Nat} (ht : t < 10) (hu : u < 10) (htu : t ≠ u) {ga gb : Nat → Int32} (hD : ∀ a, r ≤ a → a ≠ r + 2 + t → a ≠ r + 2 + u → D' a = D a) (ha : rwq (D' (r + 2 + t)) ga) (hb : rwq (D' (r + 2 + u)) gb) : rSim o L e ρ m k (setRow (setRow V (o + 6 + t) ga) (o + 6 + u) gb) r lo t1 t2 t3 D' := by
  have h1 := rSim_row (D' := setRow D (r + 2 + t) (D' (r + 2 + t))) h hm hk hlo ht (fun a q => setRow_ne q) (by rw [setRow_eq]; exact ha)
  have h2 := rSim_row (D' := setRow (setRow D (r + 2 + t) (D' (r + 2 + t))) (r + 2 + u) (D' (r + 2 + u))) h1 hm hk hlo hu (fun a q => setRow_ne q) (by rw [setRow_eq]; exact hb)
  refine rSim_fr h2 hm hk hlo (fun a q1 q2 => ?_)
  by_cases e1 : a = r + 2 + u
  · subst e1; rw [setRow_eq]
  · rw [setRow_ne e1]
    by_cases e2 : a = r + 2 + t
    · subst e2; rw [setRow_eq]
    · rw [setRow_ne e2]; exact hD a q1 e2 e1

set_option maxRecDepth 100000 in
set_option maxHeartbeats 4000000 in
theorem q_sell {κ : mKp} {n : Nat} {sh : mSh} {P : mPt} {D : mDt} {E : mEt} {q r : Nat} {lo : Nat → Nat} (hmS : sh q = some (.inl 7)) (hmP : P q 1 = some r) (hqr : q < r) (hL : rLay r lo sh P) {o L e m k : Nat} {ρ : Nat → Nat} {V : mDt} {t1 t2 t3 : Int32} (hS : rSim o L e ρ m k V r lo t1 t2 t3 D) (hI : cI o L e ρ m k V) (x y w c : Int32) : mFnI κ yX7_sell cX7_sell 5 (Option.some Jvm.ClassFile.FieldType.int) 2 43 [.ref q, .int x, .int y, .int w, .int c] n sh P D E (fun ans D' => rOut 2 3 (livP L ρ x ∧ livP L ρ y) (¬ x = y ∧ wP w 1 5040 ∧ wP c 0 9999) True (D' q 0) ((ans = if w ≤ V (numb o x) 2 - amtF (V (o + 17)) 0 x m then if c ≤ V (numb o y) 3 then V (numb o y) 2 + w else -3 else -2) ∧ rSim o L e ρ m k (if w ≤ V (numb o x) 2 - amtF (V (o + 17)) 0 x m then if c ≤ V (numb o y) 3 then moveD 2 (numb o x) (numb o y) w c V else V else V) r lo t1 t2 t3 D') (rSim o L e ρ m k V r lo t1 t2 t3 D') ∧ ∀ a, (a < q ∨ r + 32 ≤ a) → D' a = D a) := by
  refine mMet_of (by decide) (Nat.le_of_ble_eq_true rfl) ?_
  intro Γ Q hQ h hin
  have h : mOk Γ κ RX7 cX7_sell 5 (Option.some Jvm.ClassFile.FieldType.int) { frames := 2, cells := 0, slots := 0, locals := 43 } := h
  have hW := hI.1
  have hinj := hI.2.2.2.2.1
  have hρ : ∀ p, p < L → ρ p < 10 := fun p hp => (hW.1.2.2 p hp).1
  have hL10 := hW.1.2.1
  have hm8 := hW.2.2.2.1.1
  have hk8 := hW.2.2.2.2.2.1
  show mV Γ Q 0 0 n sh P D E [(0, .ref q), (1, .int x), (2, .int y), (3, .int w), (4, .int c)] [] 0
  refine V_aload_n h 1 0 rfl dX7_sell_0 rfl ?_
  refine V_iconst h 2 (v := 0) (by decide) dX7_sell_1 rfl ?_
  refine p_X7_16 h 5 hmS dX7_sell_2 rfl ?_
  obtain ⟨D1, eD1⟩ : ∃ zz, zz = upd2 D q 0 0 := ⟨_, rfl⟩
  rw [← eD1]
  have hS1 := rSim_q (D' := D1) hS hm8 hk8 hL.2.2.2.1 hqr (fun a ha => by rw [eD1, upd2_ra ha])
  refine V_aload_n h 6 0 rfl dX7_sell_5 rfl ?_
  refine V_iload_n h 7 1 rfl dX7_sell_6 rfl ?_
  refine CVI h 10 (As := [.int x]) (q_lives hmS hmP hqr hL hS1 hI x) rfl hmS qL_X7_56 qI_X7_lives qS_X7_lives qZ_X7 qC_X7_lives hd_X7_lives ⟨Nat.le_of_ble_eq_true rfl, Nat.le_of_ble_eq_true rfl⟩ (Nat.le_of_ble_eq_true rfl) rfl rfl dX7_sell_7 (Nat.zero_le _) (Nat.zero_le _) (fun r2 D2 hq2 => ?_)
  rw [hq2.1]
  have hv_x := hq2.2
  refine V_if_eq h 21 13 dX7_sell_10 (by decide) rfl (fun c10 => ?_) (fun c10 => ?_)
  · skip
    have nl_x := lv_n hv_x c10
    refine V_aload_n h 22 0 rfl dX7_sell_21 rfl ?_
    refine V_iconst h 23 (v := 1) (by decide) dX7_sell_22 rfl ?_
    refine CVI h 26 (As := [.int 1]) (q_no hmS 1) rfl hmS qL_X7_31 qI_X7_no qS_X7_no qZ_X7 qC_X7_no hd_X7_no ⟨Nat.le_of_ble_eq_true rfl, Nat.le_of_ble_eq_true rfl⟩ (Nat.le_of_ble_eq_true rfl) rfl rfl dX7_sell_23 (Nat.zero_le _) (Nat.zero_le _) (fun r3 D3 hq3 => ?_)
    obtain ⟨eD3, erD3⟩ := hq3
    rw [erD3]
    exact V_iret h rfl hQ (Nat.zero_le _) (Nat.zero_le _) ⟨rfl, rfl, rfl, rfl, _, rfl, ⟨rO1 (fun z => nl_x z.1) (by rw [eD3, upd2_eq]) (rSim_q hS hm8 hk8 hL.2.2.2.1 hqr (fun a ha => by rw [eD3, eD1, upd2_ra ha, upd2_ra ha])), fun a ha => by rw [eD3, eD1, upd2_ra (by omega), upd2_ra (by omega)]⟩⟩ dX7_sell_26
  · skip
    have hl_x := lv_y hv_x c10
    refine V_aload_n h 14 0 rfl dX7_sell_13 rfl ?_
    refine V_iload_n h 15 2 rfl dX7_sell_14 rfl ?_
    refine CVI h 18 (As := [.int y]) (q_lives hmS hmP hqr hL hS1 hI y) rfl hmS qL_X7_56 qI_X7_lives qS_X7_lives qZ_X7 qC_X7_lives hd_X7_lives ⟨Nat.le_of_ble_eq_true rfl, Nat.le_of_ble_eq_true rfl⟩ (Nat.le_of_ble_eq_true rfl) rfl rfl dX7_sell_15 (Nat.zero_le _) (Nat.zero_le _) (fun r4 D4 hq4 => ?_)
    rw [hq4.1]
    have hv_y := hq4.2
    refine V_if_ne h 27 21 dX7_sell_18 (by decide) rfl (fun c18 => ?_) (fun c18 => ?_)
    · skip
      have hl_y := lv_y hv_y c18
      refine V_iload_n h 28 1 rfl dX7_sell_27 rfl ?_
      refine V_iload_n h 29 2 rfl dX7_sell_28 rfl ?_
      refine V_icmp_eq h 55 32 dX7_sell_29 (by decide) rfl (fun c29 => ?_) (fun c29 => ?_)
      · skip
        refine V_aload_n h 56 0 rfl dX7_sell_55 rfl ?_
        refine V_iconst h 57 (v := 2) (by decide) dX7_sell_56 rfl ?_
        refine CVI h 60 (As := [.int 2]) (q_no hmS 2) rfl hmS qL_X7_31 qI_X7_no qS_X7_no qZ_X7 qC_X7_no hd_X7_no ⟨Nat.le_of_ble_eq_true rfl, Nat.le_of_ble_eq_true rfl⟩ (Nat.le_of_ble_eq_true rfl) rfl rfl dX7_sell_57 (Nat.zero_le _) (Nat.zero_le _) (fun r5 D5 hq5 => ?_)
        obtain ⟨eD5, erD5⟩ := hq5
        rw [erD5]
        exact V_iret h rfl hQ (Nat.zero_le _) (Nat.zero_le _) ⟨rfl, rfl, rfl, rfl, _, rfl, ⟨rO2 (⟨hl_x, hl_y⟩) (fun z => z.1 c29) (by rw [eD5, upd2_eq]) (rSim_q hS hm8 hk8 hL.2.2.2.1 hqr (fun a ha => by rw [eD5, eD1, upd2_ra ha, upd2_ra ha])), fun a ha => by rw [eD5, eD1, upd2_ra (by omega), upd2_ra (by omega)]⟩⟩ dX7_sell_60
      · skip
        refine V_iload_n h 33 3 rfl dX7_sell_32 rfl ?_
        refine V_iconst h 34 (v := 1) (by decide) dX7_sell_33 rfl ?_
        refine V_sipush h 37 (v := 5040) (by decide) dX7_sell_34 rfl ?_
        refine CSI h 40 (As := [.int w, .int 1, .int 5040]) (q_in w 1 5040) qL_X7_23 qT_X7_in qZ_X7 qC_X7_in hd_X7_in ⟨Nat.le_of_ble_eq_true rfl, Nat.le_of_ble_eq_true rfl⟩ (Nat.le_of_ble_eq_true rfl) rfl rfl dX7_sell_37 (Nat.zero_le _) (Nat.zero_le _) (fun r6 D6 hq6 => ?_)
        rw [hq6.1, hq6.2]
        refine V_if_eq h 55 43 dX7_sell_40 (by decide) rfl (fun c40 => ?_) (fun c40 => ?_)
        · skip
          refine V_aload_n h 56 0 rfl dX7_sell_55 rfl ?_
          refine V_iconst h 57 (v := 2) (by decide) dX7_sell_56 rfl ?_
          refine CVI h 60 (As := [.int 2]) (q_no hmS 2) rfl hmS qL_X7_31 qI_X7_no qS_X7_no qZ_X7 qC_X7_no hd_X7_no ⟨Nat.le_of_ble_eq_true rfl, Nat.le_of_ble_eq_true rfl⟩ (Nat.le_of_ble_eq_true rfl) rfl rfl dX7_sell_57 (Nat.zero_le _) (Nat.zero_le _) (fun r7 D7 hq7 => ?_)
          obtain ⟨eD7, erD7⟩ := hq7
          rw [erD7]
          exact V_iret h rfl hQ (Nat.zero_le _) (Nat.zero_le _) ⟨rfl, rfl, rfl, rfl, _, rfl, ⟨rO2 (⟨hl_x, hl_y⟩) (fun z => wI_0 c40 z.2.1) (by rw [eD7, upd2_eq]) (rSim_q hS hm8 hk8 hL.2.2.2.1 hqr (fun a ha => by rw [eD7, eD1, upd2_ra ha, upd2_ra ha])), fun a ha => by rw [eD7, eD1, upd2_ra (by omega), upd2_ra (by omega)]⟩⟩ dX7_sell_60
        · skip
          refine V_iload h 45 4 rfl dX7_sell_43 rfl ?_
          refine V_iconst h 46 (v := 0) (by decide) dX7_sell_45 rfl ?_
          refine V_sipush h 49 (v := 9999) (by decide) dX7_sell_46 rfl ?_
          refine CSI h 52 (As := [.int c, .int 0, .int 9999]) (q_in c 0 9999) qL_X7_23 qT_X7_in qZ_X7 qC_X7_in hd_X7_in ⟨Nat.le_of_ble_eq_true rfl, Nat.le_of_ble_eq_true rfl⟩ (Nat.le_of_ble_eq_true rfl) rfl rfl dX7_sell_49 (Nat.zero_le _) (Nat.zero_le _) (fun r8 D8 hq8 => ?_)
          rw [hq8.1, hq8.2]
          refine V_if_ne h 61 55 dX7_sell_52 (by decide) rfl (fun c52 => ?_) (fun c52 => ?_)
          · skip
            have hl_x2 := hl_x
            have hl_y2 := hl_y
            obtain ⟨p, hp, ex⟩ := hl_x2
            obtain ⟨p2, hp2, ey⟩ := hl_y2
            have hp10 := hρ p hp
            have hp210 := hρ p2 hp2
            have hne : ρ p ≠ ρ p2 := fun z => c29 (by rw [ex, ey, z])
            subst ex
            subst ey
            have nx : numb o (nI (ρ p)) = o + 6 + ρ p := numb_nI hp10
            have ny : numb o (nI (ρ p2)) = o + 6 + ρ p2 := numb_nI hp210
            refine V_aload_n h 62 0 rfl dX7_sell_61 rfl ?_
            refine V_iload_n h 63 1 rfl dX7_sell_62 rfl ?_
            refine CVR h 66 (As := [.int (nI (ρ p))]) (q_at hmS hmP hL (t := (ρ p)) (hρ p hp)) rfl hmS qL_X7_39 qI_X7_at qS_X7_at qZ_X7 qC_X7_at hd_X7_at ⟨Nat.le_of_ble_eq_true rfl, Nat.le_of_ble_eq_true rfl⟩ (Nat.le_of_ble_eq_true rfl) rfl rfl dX7_sell_63 (Nat.zero_le _) (Nat.zero_le _) (fun r9 D9 hq9 => ?_)
            rw [hq9.1, hq9.2]
            refine V_iconst h 67 (v := 0) (by decide) dX7_sell_66 rfl ?_
            refine V_iald h 68 0 (R_sw hL (hρ p hp)) (by decide) (by decide) (by decide) dX7_sell_67 rfl ?_
            refine V_top (y := V (o + 6 + (ρ p)) 2) (by rw [eD1, upd2_na (by omega)]; exact (hS.1 (ρ p) (hρ p hp) 0 (by decide))) ?_
            refine V_aload_n h 69 0 rfl dX7_sell_68 rfl ?_
            refine g_X7_10 h 72 (b := r) hmS hmP dX7_sell_69 rfl ?_
            refine V_iload_n h 73 1 rfl dX7_sell_72 rfl ?_
            refine CVI h 76 (As := [.int (nI (ρ p))]) (r_lent hL hS1 hW (nI (ρ p))) rfl (R_s0 hL) qL_X7_60 qI_X6_lent qS_X6_lent qZ_X6 qC_X6_lent hd_X6_lent ⟨Nat.le_of_ble_eq_true rfl, Nat.le_of_ble_eq_true rfl⟩ (Nat.le_of_ble_eq_true rfl) rfl rfl dX7_sell_73 (Nat.zero_le _) (Nat.zero_le _) (fun r10 D10 hq10 => ?_)
            rw [hq10.1, hq10.2]
            refine V_isub h 77 dX7_sell_76 rfl ?_
            refine V_iload_n h 78 3 rfl dX7_sell_77 rfl ?_
            refine V_icmp_ge h 84 81 dX7_sell_78 (by decide) rfl (fun c78 => ?_) (fun c78 => ?_)
            · skip
              refine V_aload_n h 85 0 rfl dX7_sell_84 rfl ?_
              refine V_iload_n h 86 2 rfl dX7_sell_85 rfl ?_
              refine CVR h 89 (As := [.int (nI (ρ p2))]) (q_at hmS hmP hL (t := (ρ p2)) (hρ p2 hp2)) rfl hmS qL_X7_39 qI_X7_at qS_X7_at qZ_X7 qC_X7_at hd_X7_at ⟨Nat.le_of_ble_eq_true rfl, Nat.le_of_ble_eq_true rfl⟩ (Nat.le_of_ble_eq_true rfl) rfl rfl dX7_sell_86 (Nat.zero_le _) (Nat.zero_le _) (fun r11 D11 hq11 => ?_)
              rw [hq11.1, hq11.2]
              refine V_iconst h 90 (v := 1) (by decide) dX7_sell_89 rfl ?_
              refine V_iald h 91 1 (R_sw hL (hρ p2 hp2)) (by decide) (by decide) (by decide) dX7_sell_90 rfl ?_
              refine V_top (y := V (o + 6 + (ρ p2)) 3) (by rw [eD1, upd2_nk (by decide)]; exact (hS.1 (ρ p2) (hρ p2 hp2) 1 (by decide))) ?_
              refine V_iload h 93 4 rfl dX7_sell_91 rfl ?_
              refine V_icmp_ge h 99 96 dX7_sell_93 (by decide) rfl (fun c93 => ?_) (fun c93 => ?_)
              · skip
                refine V_aload_n h 100 0 rfl dX7_sell_99 rfl ?_
                refine V_iload_n h 101 1 rfl dX7_sell_100 rfl ?_
                refine CVR h 104 (As := [.int (nI (ρ p))]) (q_at hmS hmP hL (t := (ρ p)) (hρ p hp)) rfl hmS qL_X7_39 qI_X7_at qS_X7_at qZ_X7 qC_X7_at hd_X7_at ⟨Nat.le_of_ble_eq_true rfl, Nat.le_of_ble_eq_true rfl⟩ (Nat.le_of_ble_eq_true rfl) rfl rfl dX7_sell_101 (Nat.zero_le _) (Nat.zero_le _) (fun r12 D12 hq12 => ?_)
                rw [hq12.1, hq12.2]
                refine V_iconst h 105 (v := 0) (by decide) dX7_sell_104 rfl ?_
                refine V_dup2 h 106 rfl rfl dX7_sell_105 rfl ?_
                refine V_iald h 107 0 (R_sw hL (hρ p hp)) (by decide) (by decide) (by decide) dX7_sell_106 rfl ?_
                refine V_top (y := V (o + 6 + (ρ p)) 2) (by rw [eD1, upd2_na (by omega)]; exact (hS.1 (ρ p) (hρ p hp) 0 (by decide))) ?_
                refine V_iload_n h 108 3 rfl dX7_sell_107 rfl ?_
                refine V_isub h 109 dX7_sell_108 rfl ?_
                refine V_iast h 110 0 (R_sw hL (hρ p hp)) (by decide) (by decide) (by decide) dX7_sell_109 rfl ?_
                obtain ⟨D13, eD13⟩ : ∃ zz, zz = upd2 D1 (r + 2 + (ρ p)) 0 ((V (o + 6 + (ρ p)) 2) - w) := ⟨_, rfl⟩
                rw [← eD13]
                refine V_aload_n h 111 0 rfl dX7_sell_110 rfl ?_
                refine V_iload_n h 112 2 rfl dX7_sell_111 rfl ?_
                refine CVR h 115 (As := [.int (nI (ρ p2))]) (q_at hmS hmP hL (t := (ρ p2)) (hρ p2 hp2)) rfl hmS qL_X7_39 qI_X7_at qS_X7_at qZ_X7 qC_X7_at hd_X7_at ⟨Nat.le_of_ble_eq_true rfl, Nat.le_of_ble_eq_true rfl⟩ (Nat.le_of_ble_eq_true rfl) rfl rfl dX7_sell_112 (Nat.zero_le _) (Nat.zero_le _) (fun r14 D14 hq14 => ?_)
                rw [hq14.1, hq14.2]
                refine V_iconst h 116 (v := 0) (by decide) dX7_sell_115 rfl ?_
                refine V_dup2 h 117 rfl rfl dX7_sell_116 rfl ?_
                refine V_iald h 118 0 (R_sw hL (hρ p2 hp2)) (by decide) (by decide) (by decide) dX7_sell_117 rfl ?_
                refine V_top (y := V (o + 6 + (ρ p2)) 2) (by rw [eD13, upd2_na (by omega), eD1, upd2_na (by omega)]; exact (hS.1 (ρ p2) (hρ p2 hp2) 0 (by decide))) ?_
                refine V_iload_n h 119 3 rfl dX7_sell_118 rfl ?_
                refine V_iadd h 120 dX7_sell_119 rfl ?_
                refine V_iast h 121 0 (R_sw hL (hρ p2 hp2)) (by decide) (by decide) (by decide) dX7_sell_120 rfl ?_
                obtain ⟨D15, eD15⟩ : ∃ zz, zz = upd2 D13 (r + 2 + (ρ p2)) 0 ((V (o + 6 + (ρ p2)) 2) + w) := ⟨_, rfl⟩
                rw [← eD15]
                refine V_aload_n h 122 0 rfl dX7_sell_121 rfl ?_
                refine V_iload_n h 123 1 rfl dX7_sell_122 rfl ?_
                refine CVR h 126 (As := [.int (nI (ρ p))]) (q_at hmS hmP hL (t := (ρ p)) (hρ p hp)) rfl hmS qL_X7_39 qI_X7_at qS_X7_at qZ_X7 qC_X7_at hd_X7_at ⟨Nat.le_of_ble_eq_true rfl, Nat.le_of_ble_eq_true rfl⟩ (Nat.le_of_ble_eq_true rfl) rfl rfl dX7_sell_123 (Nat.zero_le _) (Nat.zero_le _) (fun r16 D16 hq16 => ?_)
                rw [hq16.1, hq16.2]
                refine V_iconst h 127 (v := 1) (by decide) dX7_sell_126 rfl ?_
                refine V_dup2 h 128 rfl rfl dX7_sell_127 rfl ?_
                refine V_iald h 129 1 (R_sw hL (hρ p hp)) (by decide) (by decide) (by decide) dX7_sell_128 rfl ?_
                refine V_top (y := V (o + 6 + (ρ p)) 3) (by rw [eD15, upd2_nk (by decide), eD13, upd2_nk (by decide), eD1, upd2_nk (by decide)]; exact (hS.1 (ρ p) (hρ p hp) 1 (by decide))) ?_
                refine V_iload h 131 4 rfl dX7_sell_129 rfl ?_
                refine V_iadd h 132 dX7_sell_131 rfl ?_
                refine V_iast h 133 1 (R_sw hL (hρ p hp)) (by decide) (by decide) (by decide) dX7_sell_132 rfl ?_
                obtain ⟨D17, eD17⟩ : ∃ zz, zz = upd2 D15 (r + 2 + (ρ p)) 1 ((V (o + 6 + (ρ p)) 3) + c) := ⟨_, rfl⟩
                rw [← eD17]
                refine V_aload_n h 134 0 rfl dX7_sell_133 rfl ?_
                refine V_iload_n h 135 2 rfl dX7_sell_134 rfl ?_
                refine CVR h 138 (As := [.int (nI (ρ p2))]) (q_at hmS hmP hL (t := (ρ p2)) (hρ p2 hp2)) rfl hmS qL_X7_39 qI_X7_at qS_X7_at qZ_X7 qC_X7_at hd_X7_at ⟨Nat.le_of_ble_eq_true rfl, Nat.le_of_ble_eq_true rfl⟩ (Nat.le_of_ble_eq_true rfl) rfl rfl dX7_sell_135 (Nat.zero_le _) (Nat.zero_le _) (fun r18 D18 hq18 => ?_)
                rw [hq18.1, hq18.2]
                refine V_iconst h 139 (v := 1) (by decide) dX7_sell_138 rfl ?_
                refine V_dup2 h 140 rfl rfl dX7_sell_139 rfl ?_
                refine V_iald h 141 1 (R_sw hL (hρ p2 hp2)) (by decide) (by decide) (by decide) dX7_sell_140 rfl ?_
                refine V_top (y := V (o + 6 + (ρ p2)) 3) (by rw [eD17, upd2_na (by omega), eD15, upd2_nk (by decide), eD13, upd2_nk (by decide), eD1, upd2_nk (by decide)]; exact (hS.1 (ρ p2) (hρ p2 hp2) 1 (by decide))) ?_
                refine V_iload h 143 4 rfl dX7_sell_141 rfl ?_
                refine V_isub h 144 dX7_sell_143 rfl ?_
                refine V_iast h 145 1 (R_sw hL (hρ p2 hp2)) (by decide) (by decide) (by decide) dX7_sell_144 rfl ?_
                obtain ⟨D19, eD19⟩ : ∃ zz, zz = upd2 D17 (r + 2 + (ρ p2)) 1 ((V (o + 6 + (ρ p2)) 3) - c) := ⟨_, rfl⟩
                rw [← eD19]
                refine V_aload_n h 146 0 rfl dX7_sell_145 rfl ?_
                refine V_iload_n h 147 2 rfl dX7_sell_146 rfl ?_
                refine CVR h 150 (As := [.int (nI (ρ p2))]) (q_at hmS hmP hL (t := (ρ p2)) (hρ p2 hp2)) rfl hmS qL_X7_39 qI_X7_at qS_X7_at qZ_X7 qC_X7_at hd_X7_at ⟨Nat.le_of_ble_eq_true rfl, Nat.le_of_ble_eq_true rfl⟩ (Nat.le_of_ble_eq_true rfl) rfl rfl dX7_sell_147 (Nat.zero_le _) (Nat.zero_le _) (fun r20 D20 hq20 => ?_)
                rw [hq20.1, hq20.2]
                refine V_iconst h 151 (v := 0) (by decide) dX7_sell_150 rfl ?_
                refine V_iald h 152 0 (R_sw hL (hρ p2 hp2)) (by decide) (by decide) (by decide) dX7_sell_151 rfl ?_
                refine V_top (y := (V (o + 6 + (ρ p2)) 2) + w) (by rw [eD19, upd2_nk (by decide), eD17, upd2_nk (by decide), eD15, upd2_eq]) ?_
                exact V_iret h rfl hQ (Nat.zero_le _) (Nat.zero_le _) ⟨rfl, rfl, rfl, rfl, _, rfl, ⟨rO4 (⟨hl_x, hl_y⟩) (⟨c29, wI_1 c40, wI_1 c52⟩) trivial (by rw [eD19, eD17, eD15, eD13, eD1, upd2_na (by omega), upd2_na (by omega), upd2_na (by omega), upd2_na (by omega), upd2_eq]) (⟨by rw [nx, ny, if_pos c78, if_pos c93], by rw [nx, ny, if_pos c78, if_pos c93]; exact rSim_2 hS1 hm8 hk8 hL.2.2.2.1 hp10 hp210 hne (fun a a1 a2 a3 => by rw [eD19, eD17, eD15, eD13, upd2_ra (by omega), upd2_ra (by omega), upd2_ra (by omega), upd2_ra (by omega)]) (by rw [eD19, eD17, eD15, eD13, upd2_ra (by omega), upd2_row, upd2_ra (by omega), upd2_row]; rw [upd_comm (i := 3) (j := 2) (by decide)]; exact rwq_upd (rwq_upd (hS1.1 _ hp10) 0 (by decide) rfl) 1 (by decide) rfl) (by rw [eD19, eD17, eD15, eD13, upd2_row, upd2_ra (by omega), upd2_row, upd2_ra (by omega)]; rw [upd_comm (i := 3) (j := 2) (by decide)]; exact rwq_upd (rwq_upd (hS1.1 _ hp210) 0 (by decide) rfl) 1 (by decide) rfl)⟩), fun a ha => by rw [eD19, eD17, eD15, eD13, eD1, upd2_ra (by omega), upd2_ra (by omega), upd2_ra (by omega), upd2_ra (by omega), upd2_ra (by omega)]⟩⟩ dX7_sell_152
              · skip
                refine V_bipush h 98 (v := (-3)) (by decide) dX7_sell_96 rfl ?_
                exact V_iret h rfl hQ (Nat.zero_le _) (Nat.zero_le _) ⟨rfl, rfl, rfl, rfl, _, rfl, ⟨rO4 (⟨hl_x, hl_y⟩) (⟨c29, wI_1 c40, wI_1 c52⟩) trivial (by rw [eD1, upd2_eq]) (⟨by rw [nx, ny, if_pos c78, if_neg c93], by rw [nx, ny, if_pos c78, if_neg c93]; exact hS1⟩), fun a ha => by rw [eD1, upd2_ra (by omega)]⟩⟩ dX7_sell_98
            · skip
              refine V_bipush h 83 (v := (-2)) (by decide) dX7_sell_81 rfl ?_
              exact V_iret h rfl hQ (Nat.zero_le _) (Nat.zero_le _) ⟨rfl, rfl, rfl, rfl, _, rfl, ⟨rO4 (⟨hl_x, hl_y⟩) (⟨c29, wI_1 c40, wI_1 c52⟩) trivial (by rw [eD1, upd2_eq]) (⟨by rw [nx, ny, if_neg c78], by rw [nx, ny, if_neg c78]; exact hS1⟩), fun a ha => by rw [eD1, upd2_ra (by omega)]⟩⟩ dX7_sell_83
          · skip
            refine V_aload_n h 56 0 rfl dX7_sell_55 rfl ?_
            refine V_iconst h 57 (v := 2) (by decide) dX7_sell_56 rfl ?_
            refine CVI h 60 (As := [.int 2]) (q_no hmS 2) rfl hmS qL_X7_31 qI_X7_no qS_X7_no qZ_X7 qC_X7_no hd_X7_no ⟨Nat.le_of_ble_eq_true rfl, Nat.le_of_ble_eq_true rfl⟩ (Nat.le_of_ble_eq_true rfl) rfl rfl dX7_sell_57 (Nat.zero_le _) (Nat.zero_le _) (fun r21 D21 hq21 => ?_)
            obtain ⟨eD21, erD21⟩ := hq21
            rw [erD21]
            exact V_iret h rfl hQ (Nat.zero_le _) (Nat.zero_le _) ⟨rfl, rfl, rfl, rfl, _, rfl, ⟨rO2 (⟨hl_x, hl_y⟩) (fun z => wI_0 c52 z.2.2) (by rw [eD21, upd2_eq]) (rSim_q hS hm8 hk8 hL.2.2.2.1 hqr (fun a ha => by rw [eD21, eD1, upd2_ra ha, upd2_ra ha])), fun a ha => by rw [eD21, eD1, upd2_ra (by omega), upd2_ra (by omega)]⟩⟩ dX7_sell_60
    · skip
      have nl_y := lv_n hv_y c18
      refine V_aload_n h 22 0 rfl dX7_sell_21 rfl ?_
      refine V_iconst h 23 (v := 1) (by decide) dX7_sell_22 rfl ?_
      refine CVI h 26 (As := [.int 1]) (q_no hmS 1) rfl hmS qL_X7_31 qI_X7_no qS_X7_no qZ_X7 qC_X7_no hd_X7_no ⟨Nat.le_of_ble_eq_true rfl, Nat.le_of_ble_eq_true rfl⟩ (Nat.le_of_ble_eq_true rfl) rfl rfl dX7_sell_23 (Nat.zero_le _) (Nat.zero_le _) (fun r22 D22 hq22 => ?_)
      obtain ⟨eD22, erD22⟩ := hq22
      rw [erD22]
      exact V_iret h rfl hQ (Nat.zero_le _) (Nat.zero_le _) ⟨rfl, rfl, rfl, rfl, _, rfl, ⟨rO1 (fun z => nl_y z.2) (by rw [eD22, upd2_eq]) (rSim_q hS hm8 hk8 hL.2.2.2.1 hqr (fun a ha => by rw [eD22, eD1, upd2_ra ha, upd2_ra ha])), fun a ha => by rw [eD22, eD1, upd2_ra (by omega), upd2_ra (by omega)]⟩⟩ dX7_sell_26
