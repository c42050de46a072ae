theorem upd_comm {f : Nat → Int32} {i j : Nat} {a b : Int32} (h : i ≠ j) : upd (upd f i a) j b = upd (upd f j b) i a := by
  funext z
  by_cases h1 : z = i
  · subst h1; simp [upd, h]
  · simp [upd, h1]
theorem rSim_2 {o L e : Nat} {ρ : Nat → Nat} {m k : Nat} {V : mDt} {r : Nat} {lo : Nat → Nat} {t1 t2 t3 : Int32} {D D' : mDt} (h : rSim o L e ρ m k V r lo t1 t2 t3 D) (hm : m ≤ 8) (hk : k ≤ 8) (hlo : ∀ i, i < 8 → lo i < 8) {t u : Nat} (ht : t < 10) (hu : u < 10) (htu : t ≠ u) {ga gb : Nat → Int32} (hD : ∀ a, r ≤ a → a ≠ r + 2 + t → a ≠ r + 2 + u → D' a = D a) (ha : rwq (D' (r + 2 + t)) ga) (hb : rwq (D' (r + 2 + u)) gb) : rSim o L e ρ m k (setRow (setRow V (o + 6 + t) ga) (o + 6 + u) gb) r lo t1 t2 t3 D' := by
  have h1 := rSim_row (D' := setRow D (r + 2 + t) (D' (r + 2 + t))) h hm hk hlo ht (fun a q => setRow_ne q) (by rw [setRow_eq]; exact ha)
  have h2 := rSim_row (D' := setRow (setRow D (r + 2 + t) (D' (r + 2 + t))) (r + 2 + u) (D' (r + 2 + u))) h1 hm hk hlo hu (fun a q => setRow_ne q) (by rw [setRow_eq]; exact hb)
  refine rSim_fr h2 hm hk hlo (fun a q1 q2 => ?_)
  by_cases e1 : a = r + 2 + u
  · subst e1; rw [setRow_eq]
  · rw [setRow_ne e1]
    by_cases e2 : a = r + 2 + t
    · subst e2; rw [setRow_eq]
    · rw [setRow_ne e2]; exact hD a q1 e2 e1

set_option maxRecDepth 100000 in
set_option maxHeartbeats 4000000 in
theorem q_sell {κ : mKp} {n : Nat} {sh : mSh} {P : mPt} {D : mDt} {E : mEt} {q r : Nat} {lo : Nat → Nat} (hmS : sh q = some (.inl 7)) (hmP : P q 1 = some r) (hqr : q < r) (hL : rLay r lo sh P) {o L e m k : Nat} {ρ : Nat → Nat} {V : mDt} {t1 t2 t3 : Int32} (hS : rSim o L e ρ m k V r lo t1 t2 t3 D) (hI : cI o L e ρ m k V) (x y w c : Int32) : mFnI κ yX7_sell cX7_sell 5 (Option.some Jvm.ClassFile.FieldType.int) 2 43 [.ref q, .int x, .int y, .int w, .int c] n sh P D E (fun ans D' => rOut 2 3 (livP L ρ x ∧ livP L ρ y) (¬ x = y ∧ wP w 1 5040 ∧ wP c 0 9999) True (D' q 0) ((ans = if w ≤ V (numb o x) 2 - amtF (V (o + 17)) 0 x m then if c ≤ V (numb o y) 3 then V (numb o y) 2 + w else -3 else -2) ∧ rSim o L e ρ m k (if w ≤ V (numb o x) 2 - amtF (V (o + 17)) 0 x m then if c ≤ V (numb o y) 3 then moveD 2 (numb o x) (numb o y) w c V else V else V) r lo t1 t2 t3 D') (rSim o L e ρ m k V r lo t1 t2 t3 D') ∧ ∀ a, (a < q ∨ r + 32 ≤ a) → D' a = D a) := by
  refine mMet_of (by decide) (Nat.le_of_ble_eq_true rfl) ?_
  intro Γ Q hQ h hin
  have h : mOk Γ κ RX7 cX7_sell 5 (Option.some Jvm.ClassFile.FieldType.int) { frames := 2, cells := 0, slots := 0, locals := 43 } := h
  have hW := hI.1
  have hinj := hI.2.2.2.2.1
  have hρ : ∀ p, p < L → ρ p < 10 := fun p hp => (hW.1.2.2 p hp).1
  have hL10 := hW.1.2.1
  have hm8 := hW.2.2.2.1.1
  have hk8 := hW.2.2.2.2.2.1
  show mV Γ Q 0 0 n sh P D E [(0, .ref q), (1, .int x), (2, .int y), (3, .int w), (4, .int c)] [] 0
  refine V_aload_n h 1 0 rfl dX7_sell_0 rfl ?_
  refine V_iconst h 2 (v := 0) (by decide) dX7_sell_1 rfl ?_
  refine p_X7_16 h 5 hmS dX7_sell_2 rfl ?_
  obtain ⟨D1, eD1⟩ : ∃ zz, zz = upd2 D q 0 0 := ⟨_, rfl⟩
  rw [← eD1]
  have hS1 := rSim_q (D' := D1) hS hm8 hk8 hL.2.2.2.1 hqr (fun a ha => by rw [eD1, upd2_ra ha])
  refine V_aload_n h 6 0 rfl dX7_sell_5 rfl ?_
  refine V_iload_n h 7 1 rfl dX7_sell_6 rfl ?_
  refine CVI h 10 (As := [.int x]) (q_lives hmS hmP hqr hL hS1 hI x) rfl hmS qL_X7_56 qI_X7_lives qS_X7_lives qZ_X7 qC_X7_lives hd_X7_lives ⟨Nat.le_of_ble_eq_true rfl, Nat.le_of_ble_eq_true rfl⟩ (Nat.le_of_ble_eq_true rfl) rfl rfl dX7_sell_7 (Nat.zero_le _) (Nat.zero_le _) (fun r2 D2 hq2 => ?_)
  rw [hq2.1]
  have hv_x := hq2.2
  refine V_if_eq h 21 13 dX7_sell_10 (by decide) rfl (fun c10 => ?_) (fun c10 => ?_)
  · skip
    have nl_x := lv_n hv_x c10
    refine V_aload_n h 22 0 rfl dX7_sell_21 rfl ?_
    refine V_iconst h 23 (v := 1) (by decide) dX7_sell_22 rfl ?_
    refine CVI h 26 (As := [.int 1]) (q_no hmS 1) rfl hmS qL_X7_31 qI_X7_no qS_X7_no qZ_X7 qC_X7_no hd_X7_no ⟨Nat.le_of_ble_eq_true rfl, Nat.le_of_ble_eq_true rfl⟩ (Nat.le_of_ble_eq_true rfl) rfl rfl dX7_sell_23 (Nat.zero_le _) (Nat.zero_le _) (fun r3 D3 hq3 => ?_)
    obtain ⟨eD3, erD3⟩ := hq3
    rw [erD3]
    exact V_iret h rfl hQ (Nat.zero_le _) (Nat.zero_le _) ⟨rfl, rfl, rfl, rfl, _, rfl, ⟨rO1 (fun z => nl_x z.1) (by rw [eD3, upd2_eq]) (rSim_q hS hm8 hk8 hL.2.2.2.1 hqr (fun a ha => by rw [eD3, eD1, upd2_ra ha, upd2_ra ha])), fun a ha => by rw [eD3, eD1, upd2_ra (by omega), upd2_ra (by omega)]⟩⟩ dX7_sell_26
  · skip
    have hl_x := lv_y hv_x c10
    refine V_aload_n h 14 0 rfl dX7_sell_13 rfl ?_
    refine V_iload_n h 15 2 rfl dX7_sell_14 rfl ?_
    refine CVI h 18 (As := [.int y]) (q_lives hmS hmP hqr hL hS1 hI y) rfl hmS qL_X7_56 qI_X7_lives qS_X7_lives qZ_X7 qC_X7_lives hd_X7_lives ⟨Nat.le_of_ble_eq_true rfl, Nat.le_of_ble_eq_true rfl⟩ (Nat.le_of_ble_eq_true rfl) rfl rfl dX7_sell_15 (Nat.zero_le _) (Nat.zero_le _) (fun r4 D4 hq4 => ?_)
    rw [hq4.1]
    have hv_y := hq4.2
    refine V_if_ne h 27 21 dX7_sell_18 (by decide) rfl (fun c18 => ?_) (fun c18 => ?_)
    · skip
      have hl_y := lv_y hv_y c18
      refine V_iload_n h 28 1 rfl dX7_sell_27 rfl ?_
      refine V_iload_n h 29 2 rfl dX7_sell_28 rfl ?_
      refine V_icmp_eq h 55 32 dX7_sell_29 (by decide) rfl (fun c29 => ?_) (fun c29 => ?_)
      · skip
        refine V_aload_n h 56 0 rfl dX7_sell_55 rfl ?_
        refine V_iconst h 57 (v := 2) (by decide) dX7_sell_56 rfl ?_
        refine CVI h 60 (As := [.int 2]) (q_no hmS 2) rfl hmS qL_X7_31 qI_X7_no qS_X7_no qZ_X7 qC_X7_no hd_X7_no ⟨Nat.le_of_ble_eq_true rfl, Nat.le_of_ble_eq_true rfl⟩ (Nat.le_of_ble_eq_true rfl) rfl rfl dX7_sell_57 (Nat.zero_le _) (Nat.zero_le _) (fun r5 D5 hq5 => ?_)
        obtain ⟨eD5, erD5⟩ := hq5
        rw [erD5]
        exact V_iret h rfl hQ (Nat.zero_le _) (Nat.zero_le _) ⟨rfl, rfl, rfl, rfl, _, rfl, ⟨rO2 (⟨hl_x, hl_y⟩) (fun z => z.1 c29) (by rw [eD5, upd2_eq]) (rSim_q hS hm8 hk8 hL.2.2.2.1 hqr (fun a ha => by rw [eD5, eD1, upd2_ra ha, upd2_ra ha])), fun a ha => by rw [eD5, eD1, upd2_ra (by omega), upd2_ra (by omega)]⟩⟩ dX7_sell_60
      · skip
        refine V_iload_n h 33 3 rfl dX7_sell_32 rfl ?_
        refine V_iconst h 34 (v := 1) (by decide) dX7_sell_33 rfl ?_
        refine V_sipush h 37 (v := 5040) (by decide) dX7_sell_34 rfl ?_
        refine CSI h 40 (As := [.int w, .int 1, .int 5040]) (q_in w 1 5040) qL_X7_23 qT_X7_in qZ_X7 qC_X7_in hd_X7_in ⟨Nat.le_of_ble_eq_true rfl, Nat.le_of_ble_eq_true rfl⟩ (Nat.le_of_ble_eq_true rfl) rfl rfl dX7_sell_37 (Nat.zero_le _) (Nat.zero_le _) (fun r6 D6 hq6 => ?_)
        rw [hq6.1, hq6.2]
        refine V_if_eq h 55 43 dX7_sell_40 (by decide) rfl (fun c40 => ?_) (fun c40 => ?_)
        · skip
          refine V_aload_n h 56 0 rfl dX7_sell_55 rfl ?_
          refine V_iconst h 57 (v := 2) (by decide) dX7_sell_56 rfl ?_
          refine CVI h 60 (As := [.int 2]) (q_no hmS 2) rfl hmS qL_X7_31 qI_X7_no qS_X7_no qZ_X7 qC_X7_no hd_X7_no ⟨Nat.le_of_ble_eq_true rfl, Nat.le_of_ble_eq_true rfl⟩ (Nat.le_of_ble_eq_true rfl) rfl rfl dX7_sell_57 (Nat.zero_le _) (Nat.zero_le _) (fun r7 D7 hq7 => ?_)
          obtain ⟨eD7, erD7⟩ := hq7
          rw [erD7]
          exact V_iret h rfl hQ (Nat.zero_le _) (Nat.zero_le _) ⟨rfl, rfl, rfl, rfl, _, rfl, ⟨rO2 (⟨hl_x, hl_y⟩) (fun z => wI_0 c40 z.2.1) (by rw [eD7, upd2_eq]) (rSim_q hS hm8 hk8 hL.2.2.2.1 hqr (fun a ha => by rw [eD7, eD1, upd2_ra ha, upd2_ra ha])), fun a ha => by rw [eD7, eD1, upd2_ra (by omega), upd2_ra (by omega)]⟩⟩ dX7_sell_60
        · skip
          refine V_iload h 45 4 rfl dX7_sell_43 rfl ?_
          refine V_iconst h 46 (v := 0) (by decide) dX7_sell_45 rfl ?_
          refine V_sipush h 49 (v := 9999) (by decide) dX7_sell_46 rfl ?_
          refine CSI h 52 (As := [.int c, .int 0, .int 9999]) (q_in c 0 9999) qL_X7_23 qT_X7_in qZ_X7 qC_X7_in hd_X7_in ⟨Nat.le_of_ble_eq_true rfl, Nat.le_of_ble_eq_true rfl⟩ (Nat.le_of_ble_eq_true rfl) rfl rfl dX7_sell_49 (Nat.zero_le _) (Nat.zero_le _) (fun r8 D8 hq8 => ?_)
          rw [hq8.1, hq8.2]
          refine V_if_ne h 61 55 dX7_sell_52 (by decide) rfl (fun c52 => ?_) (fun c52 => ?_)
          · skip
            have hl_x2 := hl_x
            have hl_y2 := hl_y
            obtain ⟨p, hp, ex⟩ := hl_x2
            obtain ⟨p2, hp2, ey⟩ := hl_y2
            have hp10 := hρ p hp
            have hp210 := hρ p2 hp2
            have hne : ρ p ≠ ρ p2 := fun z => c29 (by rw [ex, ey, z])
            subst ex
            subst ey
            have nx : numb o (nI (ρ p)) = o + 6 + ρ p := numb_nI hp10
            have ny : numb o (nI (ρ p2)) = o + 6 + ρ p2 := numb_nI hp210
            refine V_aload_n h 62 0 rfl dX7_sell_61 rfl ?_
            refine V_iload_n h 63 1 rfl dX7_sell_62 rfl ?_
            refine CVR h 66 (As := [.int (nI (ρ p))]) (q_at hmS hmP hL (t := (ρ p)) (hρ p hp)) rfl hmS qL_X7_39 qI_X7_at qS_X7_at qZ_X7 qC_X7_at hd_X7_at ⟨Nat.le_of_ble_eq_true rfl, Nat.le_of_ble_eq_true rfl⟩ (Nat.le_of_ble_eq_true rfl) rfl rfl dX7_sell_63 (Nat.zero_le _) (Nat.zero_le _) (fun r9 D9 hq9 => ?_)
            rw [hq9.1, hq9.2]
            refine V_iconst h 67 (v := 0) (by decide) dX7_sell_66 rfl ?_
            refine V_iald h 68 0 (R_sw hL (hρ p hp)) (by decide) (by decide) (by decide) dX7_sell_67 rfl ?_
            refine V_top (y := V (o + 6 + (ρ p)) 2) (by rw [eD1, upd2_na (by omega)]; exact (hS.1 (ρ p) (hρ p hp) 0 (by decide))) ?_
            refine V_aload_n h 69 0 rfl dX7_sell_68 rfl ?_
            refine g_X7_10 h 72 (b := r) hmS hmP dX7_sell_69 rfl ?_
            refine V_iload_n h 73 1 rfl dX7_sell_72 rfl ?_
            refine CVI h 76 (As := [.int (nI (ρ p))]) (r_lent hL hS1 hW (nI (ρ p))) rfl (R_s0 hL) qL_X7_60 qI_X6_lent qS_X6_lent qZ_X6 qC_X6_lent hd_X6_lent ⟨Nat.le_of_ble_eq_true rfl, Nat.le_of_ble_eq_true rfl⟩ (Nat.le_of_ble_eq_true rfl) rfl rfl dX7_sell_73 (Nat.zero_le _) (Nat.zero_le _) (fun r10 D10 hq10 => ?_)
            rw [hq10.1, hq10.2]
            refine V_isub h 77 dX7_sell_76 rfl ?_
            refine V_iload_n h 78 3 rfl dX7_sell_77 rfl ?_
            refine V_icmp_ge h 84 81 dX7_sell_78 (by decide) rfl (fun c78 => ?_) (fun c78 => ?_)
            · skip
              refine V_aload_n h 85 0 rfl dX7_sell_84 rfl ?_
              refine V_iload_n h 86 2 rfl dX7_sell_85 rfl ?_
              refine CVR h 89 (As := [.int (nI (ρ p2))]) (q_at hmS hmP hL (t := (ρ p2)) (hρ p2 hp2)) rfl hmS qL_X7_39 qI_X7_at qS_X7_at qZ_X7 qC_X7_at hd_X7_at ⟨Nat.le_of_ble_eq_true rfl, Nat.le_of_ble_eq_true rfl⟩ (Nat.le_of_ble_eq_true rfl) rfl rfl dX7_sell_86 (Nat.zero_le _) (Nat.zero_le _) (fun r11 D11 hq11 => ?_)
              rw [hq11.1, hq11.2]
              refine V_iconst h 90 (v := 1) (by decide) dX7_sell_89 rfl ?_
              refine V_iald h 91 1 (R_sw hL (hρ p2 hp2)) (by decide) (by decide) (by decide) dX7_sell_90 rfl ?_
              refine V_top (y := V (o + 6 + (ρ p2)) 3) (by rw [eD1, upd2_nk (by decide)]; exact (hS.1 (ρ p2) (hρ p2 hp2) 1 (by decide))) ?_
              refine V_iload h 93 4 rfl dX7_sell_91 rfl ?_
              refine V_icmp_ge h 99 96 dX7_sell_93 (by decide) rfl (fun c93 => ?_) (fun c93 => ?_)
              · skip
                refine V_aload_n h 100 0 rfl dX7_sell_99 rfl ?_
                refine V_iload_n h 101 1 rfl dX7_sell_100 rfl ?_
                refine CVR h 104 (As := [.int (nI (ρ p))]) (q_at hmS hmP hL (t := (ρ p)) (hρ p hp)) rfl hmS qL_X7_39 qI_X7_at qS_X7_at qZ_X7 qC_X7_at hd_X7_at ⟨Nat.le_of_ble_eq_true rfl, Nat.le_of_ble_eq_true rfl⟩ (Nat.le_of_ble_eq_true rfl) rfl rfl dX7_sell_101 (Nat.zero_le _) (Nat.zero_le _) (fun r12 D12 hq12 => ?_)
                rw [hq12.1, hq12.2]
                refine V_iconst h 105 (v := 0) (by decide) dX7_sell_104 rfl ?_
                refine V_dup2 h 106 rfl rfl dX7_sell_105 rfl ?_
                refine V_iald h 107 0 (R_sw hL (hρ p hp)) (by decide) (by decide) (by decide) dX7_sell_106 rfl ?_
                refine V_top (y := V (o + 6 + (ρ p)) 2) (by rw [eD1, upd2_na (by omega)]; exact (hS.1 (ρ p) (hρ p hp) 0 (by decide))) ?_
                refine V_iload_n h 108 3 rfl dX7_sell_107 rfl ?_
                refine V_isub h 109 dX7_sell_108 rfl ?_
                refine V_iast h 110 0 (R_sw hL (hρ p hp)) (by decide) (by decide) (by decide) dX7_sell_109 rfl ?_
                obtain ⟨D13, eD13⟩ : ∃ zz, zz = upd2 D1 (r + 2 + (ρ p)) 0 ((V (o + 6 + (ρ p)) 2) - w) := ⟨_, rfl⟩
                rw [← eD13]
                refine V_aload_n h 111 0 rfl dX7_sell_110 rfl ?_
                refine V_iload_n h 112 2 rfl dX7_sell_111 rfl ?_
                refine CVR h 115 (As := [.int (nI (ρ p2))]) (q_at hmS hmP hL (t := (ρ p2)) (hρ p2 hp2)) rfl hmS qL_X7_39 qI_X7_at qS_X7_at qZ_X7 qC_X7_at hd_X7_at ⟨Nat.le_of_ble_eq_true rfl, Nat.le_of_ble_eq_true rfl⟩ (Nat.le_of_ble_eq_true rfl) rfl rfl dX7_sell_112 (Nat.zero_le _) (Nat.zero_le _) (fun r14 D14 hq14 => ?_)
                rw [hq14.1, hq14.2]
                refine V_iconst h 116 (v := 0) (by decide) dX7_sell_115 rfl ?_
                refine V_dup2 h 117 rfl rfl dX7_sell_116 rfl ?_
                refine V_iald h 118 0 (R_sw hL (hρ p2 hp2)) (by decide) (by decide) (by decide) dX7_sell_117 rfl ?_
                refine V_top (y := V (o + 6 + (ρ p2)) 2) (by rw [eD13, upd2_na (by omega), eD1, upd2_na (by omega)]; exact (hS.1 (ρ p2) (hρ p2 hp2) 0 (by decide))) ?_
                refine V_iload_n h 119 3 rfl dX7_sell_118 rfl ?_
                refine V_iadd h 120 dX7_sell_119 rfl ?_
                refine V_iast h 121 0 (R_sw hL (hρ p2 hp2)) (by decide) (by decide) (by decide) dX7_sell_120 rfl ?_
                obtain ⟨D15, eD15⟩ : ∃ zz, zz = upd2 D13 (r + 2 + (ρ p2)) 0 ((V (o + 6 + (ρ p2)) 2) + w) := ⟨_, rfl⟩
                rw [← eD15]
                refine V_aload_n h 122 0 rfl dX7_sell_121 rfl ?_
                refine V_iload_n h 123 1 rfl dX7_sell_122 rfl ?_
                refine CVR h 126 (As := [.int (nI (ρ p))]) (q_at hmS hmP hL (t := (ρ p)) (hρ p hp)) rfl hmS qL_X7_39 qI_X7_at qS_X7_at qZ_X7 qC_X7_at hd_X7_at ⟨Nat.le_of_ble_eq_true rfl, Nat.le_of_ble_eq_true rfl⟩ (Nat.le_of_ble_eq_true rfl) rfl rfl dX7_sell_123 (Nat.zero_le _) (Nat.zero_le _) (fun r16 D16 hq16 => ?_)
                rw [hq16.1, hq16.2]
                refine V_iconst h 127 (v := 1) (by decide) dX7_sell_126 rfl ?_
                refine V_dup2 h 128 rfl rfl dX7_sell_127 rfl ?_
                refine V_iald h 129 1 (R_sw hL (hρ p hp)) (by decide) (by decide) (by decide) dX7_sell_128 rfl ?_
                refine V_top (y := V (o + 6 + (ρ p)) 3) (by rw [eD15, upd2_nk (by decide), eD13, upd2_nk (by decide), eD1, upd2_nk (by decide)]; exact (hS.1 (ρ p) (hρ p hp) 1 (by decide))) ?_
                refine V_iload h 131 4 rfl dX7_sell_129 rfl ?_
                refine V_iadd h 132 dX7_sell_131 rfl ?_
                refine V_iast h 133 1 (R_sw hL (hρ p hp)) (by decide) (by decide) (by decide) dX7_sell_132 rfl ?_
                obtain ⟨D17, eD17⟩ : ∃ zz, zz = upd2 D15 (r + 2 + (ρ p)) 1 ((V (o + 6 + (ρ p)) 3) + c) := ⟨_, rfl⟩
                rw [← eD17]
                refine V_aload_n h 134 0 rfl dX7_sell_133 rfl ?_
                refine V_iload_n h 135 2 rfl dX7_sell_134 rfl ?_
                refine CVR h 138 (As := [.int (nI (ρ p2))]) (q_at hmS hmP hL (t := (ρ p2)) (hρ p2 hp2)) rfl hmS qL_X7_39 qI_X7_at qS_X7_at qZ_X7 qC_X7_at hd_X7_at ⟨Nat.le_of_ble_eq_true rfl, Nat.le_of_ble_eq_true rfl⟩ (Nat.le_of_ble_eq_true rfl) rfl rfl dX7_sell_135 (Nat.zero_le _) (Nat.zero_le _) (fun r18 D18 hq18 => ?_)
                rw [hq18.1, hq18.2]
                refine V_iconst h 139 (v := 1) (by decide) dX7_sell_138 rfl ?_
                refine V_dup2 h 140 rfl rfl dX7_sell_139 rfl ?_
                refine V_iald h 141 1 (R_sw hL (hρ p2 hp2)) (by decide) (by decide) (by decide) dX7_sell_140 rfl ?_
                refine V_top (y := V (o + 6 + (ρ p2)) 3) (by rw [eD17, upd2_na (by omega), eD15, upd2_nk (by decide), eD13, upd2_nk (by decide), eD1, upd2_nk (by decide)]; exact (hS.1 (ρ p2) (hρ p2 hp2) 1 (by decide))) ?_
                refine V_iload h 143 4 rfl dX7_sell_141 rfl ?_
                refine V_isub h 144 dX7_sell_143 rfl ?_
                refine V_iast h 145 1 (R_sw hL (hρ p2 hp2)) (by decide) (by decide) (by decide) dX7_sell_144 rfl ?_
                obtain ⟨D19, eD19⟩ : ∃ zz, zz = upd2 D17 (r + 2 + (ρ p2)) 1 ((V (o + 6 + (ρ p2)) 3) - c) := ⟨_, rfl⟩
                rw [← eD19]
                refine V_aload_n h 146 0 rfl dX7_sell_145 rfl ?_
                refine V_iload_n h 147 2 rfl dX7_sell_146 rfl ?_
                refine CVR h 150 (As := [.int (nI (ρ p2))]) (q_at hmS hmP hL (t := (ρ p2)) (hρ p2 hp2)) rfl hmS qL_X7_39 qI_X7_at qS_X7_at qZ_X7 qC_X7_at hd_X7_at ⟨Nat.le_of_ble_eq_true rfl, Nat.le_of_ble_eq_true rfl⟩ (Nat.le_of_ble_eq_true rfl) rfl rfl dX7_sell_147 (Nat.zero_le _) (Nat.zero_le _) (fun r20 D20 hq20 => ?_)
                rw [hq20.1, hq20.2]
                refine V_iconst h 151 (v := 0) (by decide) dX7_sell_150 rfl ?_
                refine V_iald h 152 0 (R_sw hL (hρ p2 hp2)) (by decide) (by decide) (by decide) dX7_sell_151 rfl ?_
                refine V_top (y := (V (o + 6 + (ρ p2)) 2) + w) (by rw [eD19, upd2_nk (by decide), eD17, upd2_nk (by decide), eD15, upd2_eq]) ?_
                exact V_iret h rfl hQ (Nat.zero_le _) (Nat.zero_le _) ⟨rfl, rfl, rfl, rfl, _, rfl, ⟨rO4 (⟨hl_x, hl_y⟩) (⟨c29, wI_1 c40, wI_1 c52⟩) trivial (by rw [eD19, eD17, eD15, eD13, eD1, upd2_na (by omega), upd2_na (by omega), upd2_na (by omega), upd2_na (by omega), upd2_eq]) (⟨by rw [nx, ny, if_pos c78, if_pos c93], by rw [nx, ny, if_pos c78, if_pos c93]; exact rSim_2 hS1 hm8 hk8 hL.2.2.2.1 hp10 hp210 hne (fun a a1 a2 a3 => by rw [eD19, eD17, eD15, eD13, upd2_ra (by omega), upd2_ra (by omega), upd2_ra (by omega), upd2_ra (by omega)]) (by rw [eD19, eD17, eD15, eD13, upd2_ra (by omega), upd2_row, upd2_ra (by omega), upd2_row]; rw [upd_comm (i := 3) (j := 2) (by decide)]; exact rwq_upd (rwq_upd (hS1.1 _ hp10) 0 (by decide) rfl) 1 (by decide) rfl) (by rw [eD19, eD17, eD15, eD13, upd2_row, upd2_ra (by omega), upd2_row, upd2_ra (by omega)]; rw [upd_comm (i := 3) (j := 2) (by decide)]; exact rwq_upd (rwq_upd (hS1.1 _ hp210) 0 (by decide) rfl) 1 (by decide) rfl)⟩), fun a ha => by rw [eD19, eD17, eD15, eD13, eD1, upd2_ra (by omega), upd2_ra (by omega), upd2_ra (by omega), upd2_ra (by omega), upd2_ra (by omega)]⟩⟩ dX7_sell_152
              · skip
                refine V_bipush h 98 (v := (-3)) (by decide) dX7_sell_96 rfl ?_
                exact V_iret h rfl hQ (Nat.zero_le _) (Nat.zero_le _) ⟨rfl, rfl, rfl, rfl, _, rfl, ⟨rO4 (⟨hl_x, hl_y⟩) (⟨c29, wI_1 c40, wI_1 c52⟩) trivial (by rw [eD1, upd2_eq]) (⟨by rw [nx, ny, if_pos c78, if_neg c93], by rw [nx, ny, if_pos c78, if_neg c93]; exact hS1⟩), fun a ha => by rw [eD1, upd2_ra (by omega)]⟩⟩ dX7_sell_98
            · skip
              refine V_bipush h 83 (v := (-2)) (by decide) dX7_sell_81 rfl ?_
              exact V_iret h rfl hQ (Nat.zero_le _) (Nat.zero_le _) ⟨rfl, rfl, rfl, rfl, _, rfl, ⟨rO4 (⟨hl_x, hl_y⟩) (⟨c29, wI_1 c40, wI_1 c52⟩) trivial (by rw [eD1, upd2_eq]) (⟨by rw [nx, ny, if_neg c78], by rw [nx, ny, if_neg c78]; exact hS1⟩), fun a ha => by rw [eD1, upd2_ra (by omega)]⟩⟩ dX7_sell_83
          · skip
            refine V_aload_n h 56 0 rfl dX7_sell_55 rfl ?_
            refine V_iconst h 57 (v := 2) (by decide) dX7_sell_56 rfl ?_
            refine CVI h 60 (As := [.int 2]) (q_no hmS 2) rfl hmS qL_X7_31 qI_X7_no qS_X7_no qZ_X7 qC_X7_no hd_X7_no ⟨Nat.le_of_ble_eq_true rfl, Nat.le_of_ble_eq_true rfl⟩ (Nat.le_of_ble_eq_true rfl) rfl rfl dX7_sell_57 (Nat.zero_le _) (Nat.zero_le _) (fun r21 D21 hq21 => ?_)
            obtain ⟨eD21, erD21⟩ := hq21
            rw [erD21]
            exact V_iret h rfl hQ (Nat.zero_le _) (Nat.zero_le _) ⟨rfl, rfl, rfl, rfl, _, rfl, ⟨rO2 (⟨hl_x, hl_y⟩) (fun z => wI_0 c52 z.2.2) (by rw [eD21, upd2_eq]) (rSim_q hS hm8 hk8 hL.2.2.2.1 hqr (fun a ha => by rw [eD21, eD1, upd2_ra ha, upd2_ra ha])), fun a ha => by rw [eD21, eD1, upd2_ra (by omega), upd2_ra (by omega)]⟩⟩ dX7_sell_60
    · skip
      have nl_y := lv_n hv_y c18
      refine V_aload_n h 22 0 rfl dX7_sell_21 rfl ?_
      refine V_iconst h 23 (v := 1) (by decide) dX7_sell_22 rfl ?_
      refine CVI h 26 (As := [.int 1]) (q_no hmS 1) rfl hmS qL_X7_31 qI_X7_no qS_X7_no qZ_X7 qC_X7_no hd_X7_no ⟨Nat.le_of_ble_eq_true rfl, Nat.le_of_ble_eq_true rfl⟩ (Nat.le_of_ble_eq_true rfl) rfl rfl dX7_sell_23 (Nat.zero_le _) (Nat.zero_le _) (fun r22 D22 hq22 => ?_)
      obtain ⟨eD22, erD22⟩ := hq22
      rw [erD22]
      exact V_iret h rfl hQ (Nat.zero_le _) (Nat.zero_le _) ⟨rfl, rfl, rfl, rfl, _, rfl, ⟨rO1 (fun z => nl_y z.2) (by rw [eD22, upd2_eq]) (rSim_q hS hm8 hk8 hL.2.2.2.1 hqr (fun a ha => by rw [eD22, eD1, upd2_ra ha, upd2_ra ha])), fun a ha => by rw [eD22, eD1, upd2_ra (by omega), upd2_ra (by omega)]⟩⟩ dX7_sell_26

set_option maxRecDepth 100000 in
set_option maxHeartbeats 4000000 in
theorem q_pollen {κ : mKp} {n : Nat} {sh : mSh} {P : mPt} {D : mDt} {E : mEt} {q r : Nat} {lo : Nat → Nat} (hmS : sh q = some (.inl 7)) (hmP : P q 1 = some r) (hqr : q < r) (hL : rLay r lo sh P) {o L e m k : Nat} {ρ : Nat → Nat} {V : mDt} {t1 t2 t3 : Int32} (hS : rSim o L e ρ m k V r lo t1 t2 t3 D) (hI : cI o L e ρ m k V) (x y w : Int32) : mFnI κ yX7_pollen cX7_pollen 4 (Option.some Jvm.ClassFile.FieldType.int) 2 43 [.ref q, .int x, .int y, .int w] n sh P D E (fun ans D' => rOut 2 3 (livP L ρ x ∧ livP L ρ y) (¬ x = y ∧ wP w 1 200) True (D' q 0) ((ans = if w ≤ V (numb o y) 3 then if w ≤ V (numb o x) 5 * 20 + V (numb o x) 10 - V (numb o x) 9 then V (numb o y) 5 * 20 + (V (numb o y) 10 + w) else -4 else -3) ∧ rSim o L e ρ m k (if w ≤ V (numb o y) 3 then if w ≤ V (numb o x) 5 * 20 + V (numb o x) 10 - V (numb o x) 9 then moveD 10 (numb o x) (numb o y) w w V else V else V) r lo t1 t2 t3 D') (rSim o L e ρ m k V r lo t1 t2 t3 D') ∧ ∀ a, (a < q ∨ r + 32 ≤ a) → D' a = D a) := by
  refine mMet_of (by decide) (Nat.le_of_ble_eq_true rfl) ?_
  intro Γ Q hQ h hin
  have h : mOk Γ κ RX7 cX7_pollen 4 (Option.some Jvm.ClassFile.FieldType.int) { frames := 2, cells := 0, slots := 0, locals := 43 } := h
  have hW := hI.1
  have hinj := hI.2.2.2.2.1
  have hρ : ∀ p, p < L → ρ p < 10 := fun p hp => (hW.1.2.2 p hp).1
  have hL10 := hW.1.2.1
  have hm8 := hW.2.2.2.1.1
  have hk8 := hW.2.2.2.2.2.1
  show mV Γ Q 0 0 n sh P D E [(0, .ref q), (1, .int x), (2, .int y), (3, .int w)] [] 0
  refine V_aload_n h 1 0 rfl dX7_pollen_0 rfl ?_
  refine V_iconst h 2 (v := 0) (by decide) dX7_pollen_1 rfl ?_
  refine p_X7_16 h 5 hmS dX7_pollen_2 rfl ?_
  obtain ⟨D1, eD1⟩ : ∃ zz, zz = upd2 D q 0 0 := ⟨_, rfl⟩
  rw [← eD1]
  have hS1 := rSim_q (D' := D1) hS hm8 hk8 hL.2.2.2.1 hqr (fun a ha => by rw [eD1, upd2_ra ha])
  refine V_aload_n h 6 0 rfl dX7_pollen_5 rfl ?_
  refine V_iload_n h 7 1 rfl dX7_pollen_6 rfl ?_
  refine CVI h 10 (As := [.int x]) (q_lives hmS hmP hqr hL hS1 hI x) rfl hmS qL_X7_56 qI_X7_lives qS_X7_lives qZ_X7 qC_X7_lives hd_X7_lives ⟨Nat.le_of_ble_eq_true rfl, Nat.le_of_ble_eq_true rfl⟩ (Nat.le_of_ble_eq_true rfl) rfl rfl dX7_pollen_7 (Nat.zero_le _) (Nat.zero_le _) (fun r2 D2 hq2 => ?_)
  rw [hq2.1]
  have hv_x := hq2.2
  refine V_if_eq h 21 13 dX7_pollen_10 (by decide) rfl (fun c10 => ?_) (fun c10 => ?_)
  · skip
    have nl_x := lv_n hv_x c10
    refine V_aload_n h 22 0 rfl dX7_pollen_21 rfl ?_
    refine V_iconst h 23 (v := 1) (by decide) dX7_pollen_22 rfl ?_
    refine CVI h 26 (As := [.int 1]) (q_no hmS 1) rfl hmS qL_X7_31 qI_X7_no qS_X7_no qZ_X7 qC_X7_no hd_X7_no ⟨Nat.le_of_ble_eq_true rfl, Nat.le_of_ble_eq_true rfl⟩ (Nat.le_of_ble_eq_true rfl) rfl rfl dX7_pollen_23 (Nat.zero_le _) (Nat.zero_le _) (fun r3 D3 hq3 => ?_)
    obtain ⟨eD3, erD3⟩ := hq3
    rw [erD3]
    exact V_iret h rfl hQ (Nat.zero_le _) (Nat.zero_le _) ⟨rfl, rfl, rfl, rfl, _, rfl, ⟨rO1 (fun z => nl_x z.1) (by rw [eD3, upd2_eq]) (rSim_q hS hm8 hk8 hL.2.2.2.1 hqr (fun a ha => by rw [eD3, eD1, upd2_ra ha, upd2_ra ha])), fun a ha => by rw [eD3, eD1, upd2_ra (by omega), upd2_ra (by omega)]⟩⟩ dX7_pollen_26
  · skip
    have hl_x := lv_y hv_x c10
    refine V_aload_n h 14 0 rfl dX7_pollen_13 rfl ?_
    refine V_iload_n h 15 2 rfl dX7_pollen_14 rfl ?_
    refine CVI h 18 (As := [.int y]) (q_lives hmS hmP hqr hL hS1 hI y) rfl hmS qL_X7_56 qI_X7_lives qS_X7_lives qZ_X7 qC_X7_lives hd_X7_lives ⟨Nat.le_of_ble_eq_true rfl, Nat.le_of_ble_eq_true rfl⟩ (Nat.le_of_ble_eq_true rfl) rfl rfl dX7_pollen_15 (Nat.zero_le _) (Nat.zero_le _) (fun r4 D4 hq4 => ?_)
    rw [hq4.1]
    have hv_y := hq4.2
    refine V_if_ne h 27 21 dX7_pollen_18 (by decide) rfl (fun c18 => ?_) (fun c18 => ?_)
    · skip
      have hl_y := lv_y hv_y c18
      refine V_iload_n h 28 1 rfl dX7_pollen_27 rfl ?_
      refine V_iload_n h 29 2 rfl dX7_pollen_28 rfl ?_
      refine V_icmp_eq h 43 32 dX7_pollen_29 (by decide) rfl (fun c29 => ?_) (fun c29 => ?_)
      · skip
        refine V_aload_n h 44 0 rfl dX7_pollen_43 rfl ?_
        refine V_iconst h 45 (v := 2) (by decide) dX7_pollen_44 rfl ?_
        refine CVI h 48 (As := [.int 2]) (q_no hmS 2) rfl hmS qL_X7_31 qI_X7_no qS_X7_no qZ_X7 qC_X7_no hd_X7_no ⟨Nat.le_of_ble_eq_true rfl, Nat.le_of_ble_eq_true rfl⟩ (Nat.le_of_ble_eq_true rfl) rfl rfl dX7_pollen_45 (Nat.zero_le _) (Nat.zero_le _) (fun r5 D5 hq5 => ?_)
        obtain ⟨eD5, erD5⟩ := hq5
        rw [erD5]
        exact V_iret h rfl hQ (Nat.zero_le _) (Nat.zero_le _) ⟨rfl, rfl, rfl, rfl, _, rfl, ⟨rO2 (⟨hl_x, hl_y⟩) (fun z => z.1 c29) (by rw [eD5, upd2_eq]) (rSim_q hS hm8 hk8 hL.2.2.2.1 hqr (fun a ha => by rw [eD5, eD1, upd2_ra ha, upd2_ra ha])), fun a ha => by rw [eD5, eD1, upd2_ra (by omega), upd2_ra (by omega)]⟩⟩ dX7_pollen_48
      · skip
        refine V_iload_n h 33 3 rfl dX7_pollen_32 rfl ?_
        refine V_iconst h 34 (v := 1) (by decide) dX7_pollen_33 rfl ?_
        refine V_sipush h 37 (v := 200) (by decide) dX7_pollen_34 rfl ?_
        refine CSI h 40 (As := [.int w, .int 1, .int 200]) (q_in w 1 200) qL_X7_23 qT_X7_in qZ_X7 qC_X7_in hd_X7_in ⟨Nat.le_of_ble_eq_true rfl, Nat.le_of_ble_eq_true rfl⟩ (Nat.le_of_ble_eq_true rfl) rfl rfl dX7_pollen_37 (Nat.zero_le _) (Nat.zero_le _) (fun r6 D6 hq6 => ?_)
        rw [hq6.1, hq6.2]
        refine V_if_ne h 49 43 dX7_pollen_40 (by decide) rfl (fun c40 => ?_) (fun c40 => ?_)
        · skip
          have hl_x2 := hl_x
          have hl_y2 := hl_y
          obtain ⟨p, hp, ex⟩ := hl_x2
          obtain ⟨p2, hp2, ey⟩ := hl_y2
          have hp10 := hρ p hp
          have hp210 := hρ p2 hp2
          have hne : ρ p ≠ ρ p2 := fun z => c29 (by rw [ex, ey, z])
          subst ex
          subst ey
          have nx : numb o (nI (ρ p)) = o + 6 + ρ p := numb_nI hp10
          have ny : numb o (nI (ρ p2)) = o + 6 + ρ p2 := numb_nI hp210
          refine V_aload_n h 50 0 rfl dX7_pollen_49 rfl ?_
          refine V_iload_n h 51 2 rfl dX7_pollen_50 rfl ?_
          refine CVR h 54 (As := [.int (nI (ρ p2))]) (q_at hmS hmP hL (t := (ρ p2)) (hρ p2 hp2)) rfl hmS qL_X7_39 qI_X7_at qS_X7_at qZ_X7 qC_X7_at hd_X7_at ⟨Nat.le_of_ble_eq_true rfl, Nat.le_of_ble_eq_true rfl⟩ (Nat.le_of_ble_eq_true rfl) rfl rfl dX7_pollen_51 (Nat.zero_le _) (Nat.zero_le _) (fun r7 D7 hq7 => ?_)
          rw [hq7.1, hq7.2]
          refine V_iconst h 55 (v := 1) (by decide) dX7_pollen_54 rfl ?_
          refine V_iald h 56 1 (R_sw hL (hρ p2 hp2)) (by decide) (by decide) (by decide) dX7_pollen_55 rfl ?_
          refine V_top (y := V (o + 6 + (ρ p2)) 3) (by rw [eD1, upd2_nk (by decide)]; exact (hS.1 (ρ p2) (hρ p2 hp2) 1 (by decide))) ?_
          refine V_iload_n h 57 3 rfl dX7_pollen_56 rfl ?_
          refine V_icmp_ge h 63 60 dX7_pollen_57 (by decide) rfl (fun c57 => ?_) (fun c57 => ?_)
          · skip
            refine V_aload_n h 64 0 rfl dX7_pollen_63 rfl ?_
            refine V_iload_n h 65 1 rfl dX7_pollen_64 rfl ?_
            refine CVR h 68 (As := [.int (nI (ρ p))]) (q_at hmS hmP hL (t := (ρ p)) (hρ p hp)) rfl hmS qL_X7_39 qI_X7_at qS_X7_at qZ_X7 qC_X7_at hd_X7_at ⟨Nat.le_of_ble_eq_true rfl, Nat.le_of_ble_eq_true rfl⟩ (Nat.le_of_ble_eq_true rfl) rfl rfl dX7_pollen_65 (Nat.zero_le _) (Nat.zero_le _) (fun r8 D8 hq8 => ?_)
            rw [hq8.1, hq8.2]
            refine CSI h 71 (As := [.ref (r + 2 + (ρ p))]) (q_pollenOf (R_sw hL (hρ p hp)) (g := V (o + 6 + (ρ p))) (hS1.1 _ (hρ p hp))) qL_X7_102 qT_X7_pollenOf qZ_X7 qC_X7_pollenOf hd_X7_pollenOf ⟨Nat.le_of_ble_eq_true rfl, Nat.le_of_ble_eq_true rfl⟩ (Nat.le_of_ble_eq_true rfl) rfl rfl dX7_pollen_68 (Nat.zero_le _) (Nat.zero_le _) (fun r9 D9 hq9 => ?_)
            rw [hq9.1, hq9.2]
            refine V_aload_n h 72 0 rfl dX7_pollen_71 rfl ?_
            refine V_iload_n h 73 1 rfl dX7_pollen_72 rfl ?_
            refine CVR h 76 (As := [.int (nI (ρ p))]) (q_at hmS hmP hL (t := (ρ p)) (hρ p hp)) rfl hmS qL_X7_39 qI_X7_at qS_X7_at qZ_X7 qC_X7_at hd_X7_at ⟨Nat.le_of_ble_eq_true rfl, Nat.le_of_ble_eq_true rfl⟩ (Nat.le_of_ble_eq_true rfl) rfl rfl dX7_pollen_73 (Nat.zero_le _) (Nat.zero_le _) (fun r10 D10 hq10 => ?_)
            rw [hq10.1, hq10.2]
            refine V_bipush h 78 (v := 7) (by decide) dX7_pollen_76 rfl ?_
            refine V_iald h 79 7 (R_sw hL (hρ p hp)) (by decide) (by decide) (by decide) dX7_pollen_78 rfl ?_
            refine V_top (y := V (o + 6 + (ρ p)) 9) (by rw [eD1, upd2_nk (by decide)]; exact (hS.1 (ρ p) (hρ p hp) 7 (by decide))) ?_
            refine V_isub h 80 dX7_pollen_79 rfl ?_
            refine V_iload_n h 81 3 rfl dX7_pollen_80 rfl ?_
            refine V_icmp_ge h 87 84 dX7_pollen_81 (by decide) rfl (fun c81 => ?_) (fun c81 => ?_)
            · skip
              refine V_aload_n h 88 0 rfl dX7_pollen_87 rfl ?_
              refine V_iload_n h 89 2 rfl dX7_pollen_88 rfl ?_
              refine CVR h 92 (As := [.int (nI (ρ p2))]) (q_at hmS hmP hL (t := (ρ p2)) (hρ p2 hp2)) rfl hmS qL_X7_39 qI_X7_at qS_X7_at qZ_X7 qC_X7_at hd_X7_at ⟨Nat.le_of_ble_eq_true rfl, Nat.le_of_ble_eq_true rfl⟩ (Nat.le_of_ble_eq_true rfl) rfl rfl dX7_pollen_89 (Nat.zero_le _) (Nat.zero_le _) (fun r11 D11 hq11 => ?_)
              rw [hq11.1, hq11.2]
              refine V_iconst h 93 (v := 1) (by decide) dX7_pollen_92 rfl ?_
              refine V_dup2 h 94 rfl rfl dX7_pollen_93 rfl ?_
              refine V_iald h 95 1 (R_sw hL (hρ p2 hp2)) (by decide) (by decide) (by decide) dX7_pollen_94 rfl ?_
              refine V_top (y := V (o + 6 + (ρ p2)) 3) (by rw [eD1, upd2_nk (by decide)]; exact (hS.1 (ρ p2) (hρ p2 hp2) 1 (by decide))) ?_
              refine V_iload_n h 96 3 rfl dX7_pollen_95 rfl ?_
              refine V_isub h 97 dX7_pollen_96 rfl ?_
              refine V_iast h 98 1 (R_sw hL (hρ p2 hp2)) (by decide) (by decide) (by decide) dX7_pollen_97 rfl ?_
              obtain ⟨D12, eD12⟩ : ∃ zz, zz = upd2 D1 (r + 2 + (ρ p2)) 1 ((V (o + 6 + (ρ p2)) 3) - w) := ⟨_, rfl⟩
              rw [← eD12]
              refine V_aload_n h 99 0 rfl dX7_pollen_98 rfl ?_
              refine V_iload_n h 100 1 rfl dX7_pollen_99 rfl ?_
              refine CVR h 103 (As := [.int (nI (ρ p))]) (q_at hmS hmP hL (t := (ρ p)) (hρ p hp)) rfl hmS qL_X7_39 qI_X7_at qS_X7_at qZ_X7 qC_X7_at hd_X7_at ⟨Nat.le_of_ble_eq_true rfl, Nat.le_of_ble_eq_true rfl⟩ (Nat.le_of_ble_eq_true rfl) rfl rfl dX7_pollen_100 (Nat.zero_le _) (Nat.zero_le _) (fun r13 D13 hq13 => ?_)
              rw [hq13.1, hq13.2]
              refine V_iconst h 104 (v := 1) (by decide) dX7_pollen_103 rfl ?_
              refine V_dup2 h 105 rfl rfl dX7_pollen_104 rfl ?_
              refine V_iald h 106 1 (R_sw hL (hρ p hp)) (by decide) (by decide) (by decide) dX7_pollen_105 rfl ?_
              refine V_top (y := V (o + 6 + (ρ p)) 3) (by rw [eD12, upd2_na (by omega), eD1, upd2_nk (by decide)]; exact (hS.1 (ρ p) (hρ p hp) 1 (by decide))) ?_
              refine V_iload_n h 107 3 rfl dX7_pollen_106 rfl ?_
              refine V_iadd h 108 dX7_pollen_107 rfl ?_
              refine V_iast h 109 1 (R_sw hL (hρ p hp)) (by decide) (by decide) (by decide) dX7_pollen_108 rfl ?_
              obtain ⟨D14, eD14⟩ : ∃ zz, zz = upd2 D12 (r + 2 + (ρ p)) 1 ((V (o + 6 + (ρ p)) 3) + w) := ⟨_, rfl⟩
              rw [← eD14]
              refine V_aload_n h 110 0 rfl dX7_pollen_109 rfl ?_
              refine V_iload_n h 111 1 rfl dX7_pollen_110 rfl ?_
              refine CVR h 114 (As := [.int (nI (ρ p))]) (q_at hmS hmP hL (t := (ρ p)) (hρ p hp)) rfl hmS qL_X7_39 qI_X7_at qS_X7_at qZ_X7 qC_X7_at hd_X7_at ⟨Nat.le_of_ble_eq_true rfl, Nat.le_of_ble_eq_true rfl⟩ (Nat.le_of_ble_eq_true rfl) rfl rfl dX7_pollen_111 (Nat.zero_le _) (Nat.zero_le _) (fun r15 D15 hq15 => ?_)
              rw [hq15.1, hq15.2]
              refine V_bipush h 116 (v := 8) (by decide) dX7_pollen_114 rfl ?_
              refine V_dup2 h 117 rfl rfl dX7_pollen_116 rfl ?_
              refine V_iald h 118 8 (R_sw hL (hρ p hp)) (by decide) (by decide) (by decide) dX7_pollen_117 rfl ?_
              refine V_top (y := V (o + 6 + (ρ p)) 10) (by rw [eD14, upd2_nk (by decide), eD12, upd2_nk (by decide), eD1, upd2_nk (by decide)]; exact (hS.1 (ρ p) (hρ p hp) 8 (by decide))) ?_
              refine V_iload_n h 119 3 rfl dX7_pollen_118 rfl ?_
              refine V_isub h 120 dX7_pollen_119 rfl ?_
              refine V_iast h 121 8 (R_sw hL (hρ p hp)) (by decide) (by decide) (by decide) dX7_pollen_120 rfl ?_
              obtain ⟨D16, eD16⟩ : ∃ zz, zz = upd2 D14 (r + 2 + (ρ p)) 8 ((V (o + 6 + (ρ p)) 10) - w) := ⟨_, rfl⟩
              rw [← eD16]
              refine V_aload_n h 122 0 rfl dX7_pollen_121 rfl ?_
              refine V_iload_n h 123 2 rfl dX7_pollen_122 rfl ?_
              refine CVR h 126 (As := [.int (nI (ρ p2))]) (q_at hmS hmP hL (t := (ρ p2)) (hρ p2 hp2)) rfl hmS qL_X7_39 qI_X7_at qS_X7_at qZ_X7 qC_X7_at hd_X7_at ⟨Nat.le_of_ble_eq_true rfl, Nat.le_of_ble_eq_true rfl⟩ (Nat.le_of_ble_eq_true rfl) rfl rfl dX7_pollen_123 (Nat.zero_le _) (Nat.zero_le _) (fun r17 D17 hq17 => ?_)
              rw [hq17.1, hq17.2]
              refine V_bipush h 128 (v := 8) (by decide) dX7_pollen_126 rfl ?_
              refine V_dup2 h 129 rfl rfl dX7_pollen_128 rfl ?_
              refine V_iald h 130 8 (R_sw hL (hρ p2 hp2)) (by decide) (by decide) (by decide) dX7_pollen_129 rfl ?_
              refine V_top (y := V (o + 6 + (ρ p2)) 10) (by rw [eD16, upd2_na (by omega), eD14, upd2_nk (by decide), eD12, upd2_nk (by decide), eD1, upd2_nk (by decide)]; exact (hS.1 (ρ p2) (hρ p2 hp2) 8 (by decide))) ?_
              refine V_iload_n h 131 3 rfl dX7_pollen_130 rfl ?_
              refine V_iadd h 132 dX7_pollen_131 rfl ?_
              refine V_iast h 133 8 (R_sw hL (hρ p2 hp2)) (by decide) (by decide) (by decide) dX7_pollen_132 rfl ?_
              obtain ⟨D18, eD18⟩ : ∃ zz, zz = upd2 D16 (r + 2 + (ρ p2)) 8 ((V (o + 6 + (ρ p2)) 10) + w) := ⟨_, rfl⟩
              rw [← eD18]
              refine V_aload_n h 134 0 rfl dX7_pollen_133 rfl ?_
              refine V_iload_n h 135 2 rfl dX7_pollen_134 rfl ?_
              refine CVR h 138 (As := [.int (nI (ρ p2))]) (q_at hmS hmP hL (t := (ρ p2)) (hρ p2 hp2)) rfl hmS qL_X7_39 qI_X7_at qS_X7_at qZ_X7 qC_X7_at hd_X7_at ⟨Nat.le_of_ble_eq_true rfl, Nat.le_of_ble_eq_true rfl⟩ (Nat.le_of_ble_eq_true rfl) rfl rfl dX7_pollen_135 (Nat.zero_le _) (Nat.zero_le _) (fun r19 D19 hq19 => ?_)
              rw [hq19.1, hq19.2]
              refine CSI h 141 (As := [.ref (r + 2 + (ρ p2))]) (q_pollenOf (R_sw hL hp210) (g := (upd (upd (V (o + 6 + ρ p2)) 3 (V (o + 6 + ρ p2) 3 - w)) 10 (V (o + 6 + ρ p2) 10 + w))) (by rw [eD18, eD16, eD14, eD12, upd2_row, upd2_ra (by omega), upd2_ra (by omega), upd2_row]; exact rwq_upd (rwq_upd (hS1.1 _ hp210) 1 (by decide) rfl) 8 (by decide) rfl)) qL_X7_102 qT_X7_pollenOf qZ_X7 qC_X7_pollenOf hd_X7_pollenOf ⟨Nat.le_of_ble_eq_true rfl, Nat.le_of_ble_eq_true rfl⟩ (Nat.le_of_ble_eq_true rfl) rfl rfl dX7_pollen_138 (Nat.zero_le _) (Nat.zero_le _) (fun r20 D20 hq20 => ?_)
              rw [hq20.1, hq20.2]
              refine V_top (y := V (o + 6 + ρ p2) 5 * 20 + (V (o + 6 + ρ p2) 10 + w)) rfl ?_
              exact V_iret h rfl hQ (Nat.zero_le _) (Nat.zero_le _) ⟨rfl, rfl, rfl, rfl, _, rfl, ⟨rO4 (⟨hl_x, hl_y⟩) (⟨c29, wI_1 c40⟩) trivial (by rw [eD18, eD16, eD14, eD12, eD1, upd2_na (by omega), upd2_na (by omega), upd2_na (by omega), upd2_na (by omega), upd2_eq]) (⟨by rw [nx, ny, if_pos c57, if_pos c81], by rw [nx, ny, if_pos c57, if_pos c81]; exact rSim_2 hS1 hm8 hk8 hL.2.2.2.1 hp10 hp210 hne (fun a a1 a2 a3 => by rw [eD18, eD16, eD14, eD12, upd2_ra (by omega), upd2_ra (by omega), upd2_ra (by omega), upd2_ra (by omega)]) (by rw [eD18, eD16, eD14, eD12, upd2_ra (by omega), upd2_row, upd2_row, upd2_ra (by omega)]; exact rwq_upd (rwq_upd (hS1.1 _ hp10) 1 (by decide) rfl) 8 (by decide) rfl) (by rw [eD18, eD16, eD14, eD12, upd2_row, upd2_ra (by omega), upd2_ra (by omega), upd2_row]; exact rwq_upd (rwq_upd (hS1.1 _ hp210) 1 (by decide) rfl) 8 (by decide) rfl)⟩), fun a ha => by rw [eD18, eD16, eD14, eD12, eD1, upd2_ra (by omega), upd2_ra (by omega), upd2_ra (by omega), upd2_ra (by omega), upd2_ra (by omega)]⟩⟩ dX7_pollen_141
            · skip
              refine V_bipush h 86 (v := (-4)) (by decide) dX7_pollen_84 rfl ?_
              exact V_iret h rfl hQ (Nat.zero_le _) (Nat.zero_le _) ⟨rfl, rfl, rfl, rfl, _, rfl, ⟨rO4 (⟨hl_x, hl_y⟩) (⟨c29, wI_1 c40⟩) trivial (by rw [eD1, upd2_eq]) (⟨by rw [nx, ny, if_pos c57, if_neg c81], by rw [nx, ny, if_pos c57, if_neg c81]; exact hS1⟩), fun a ha => by rw [eD1, upd2_ra (by omega)]⟩⟩ dX7_pollen_86
          · skip
            refine V_bipush h 62 (v := (-3)) (by decide) dX7_pollen_60 rfl ?_
            exact V_iret h rfl hQ (Nat.zero_le _) (Nat.zero_le _) ⟨rfl, rfl, rfl, rfl, _, rfl, ⟨rO4 (⟨hl_x, hl_y⟩) (⟨c29, wI_1 c40⟩) trivial (by rw [eD1, upd2_eq]) (⟨by rw [nx, ny, if_neg c57], by rw [nx, ny, if_neg c57]; exact hS1⟩), fun a ha => by rw [eD1, upd2_ra (by omega)]⟩⟩ dX7_pollen_62
        · skip
          refine V_aload_n h 44 0 rfl dX7_pollen_43 rfl ?_
          refine V_iconst h 45 (v := 2) (by decide) dX7_pollen_44 rfl ?_
          refine CVI h 48 (As := [.int 2]) (q_no hmS 2) rfl hmS qL_X7_31 qI_X7_no qS_X7_no qZ_X7 qC_X7_no hd_X7_no ⟨Nat.le_of_ble_eq_true rfl, Nat.le_of_ble_eq_true rfl⟩ (Nat.le_of_ble_eq_true rfl) rfl rfl dX7_pollen_45 (Nat.zero_le _) (Nat.zero_le _) (fun r21 D21 hq21 => ?_)
          obtain ⟨eD21, erD21⟩ := hq21
          rw [erD21]
          exact V_iret h rfl hQ (Nat.zero_le _) (Nat.zero_le _) ⟨rfl, rfl, rfl, rfl, _, rfl, ⟨rO2 (⟨hl_x, hl_y⟩) (fun z => wI_0 c40 z.2) (by rw [eD21, upd2_eq]) (rSim_q hS hm8 hk8 hL.2.2.2.1 hqr (fun a ha => by rw [eD21, eD1, upd2_ra ha, upd2_ra ha])), fun a ha => by rw [eD21, eD1, upd2_ra (by omega), upd2_ra (by omega)]⟩⟩ dX7_pollen_48
    · skip
      have nl_y := lv_n hv_y c18
      refine V_aload_n h 22 0 rfl dX7_pollen_21 rfl ?_
      refine V_iconst h 23 (v := 1) (by decide) dX7_pollen_22 rfl ?_
      refine CVI h 26 (As := [.int 1]) (q_no hmS 1) rfl hmS qL_X7_31 qI_X7_no qS_X7_no qZ_X7 qC_X7_no hd_X7_no ⟨Nat.le_of_ble_eq_true rfl, Nat.le_of_ble_eq_true rfl⟩ (Nat.le_of_ble_eq_true rfl) rfl rfl dX7_pollen_23 (Nat.zero_le _) (Nat.zero_le _) (fun r22 D22 hq22 => ?_)
      obtain ⟨eD22, erD22⟩ := hq22
      rw [erD22]
      exact V_iret h rfl hQ (Nat.zero_le _) (Nat.zero_le _) ⟨rfl, rfl, rfl, rfl, _, rfl, ⟨rO1 (fun z => nl_y z.2) (by rw [eD22, upd2_eq]) (rSim_q hS hm8 hk8 hL.2.2.2.1 hqr (fun a ha => by rw [eD22, eD1, upd2_ra ha, upd2_ra ha])), fun a ha => by rw [eD22, eD1, upd2_ra (by omega), upd2_ra (by omega)]⟩⟩ dX7_pollen_26

set_option maxRecDepth 100000 in
set_option maxHeartbeats 4000000 in
theorem q_pollinate {κ : mKp} {n : Nat} {sh : mSh} {P : mPt} {D : mDt} {E : mEt} {q r : Nat} {lo : Nat → Nat} (hmS : sh q = some (.inl 7)) (hmP : P q 1 = some r) (hqr : q < r) (hL : rLay r lo sh P) {o L e m k : Nat} {ρ : Nat → Nat} {V : mDt} {t1 t2 t3 : Int32} (hS : rSim o L e ρ m k V r lo t1 t2 t3 D) (hI : cI o L e ρ m k V) (x w : Int32) : mFnI κ yX7_pollinate cX7_pollinate 4 (Option.some Jvm.ClassFile.FieldType.int) 2 43 [.ref q, .int x, .int w] n sh P D E (fun ans D' => rOut 2 3 (livP L ρ x) (wP w 1 200) True (D' q 0) ((ans = if rm70 (V o 4) ≤ 13 then if V (numb o x) 9 + w ≤ V (numb o x) 4 then if V (numb o x) 9 + w ≤ V (numb o x) 5 * 20 + V (numb o x) 10 then V (numb o x) 9 + w else -4 else -3 else -2) ∧ rSim o L e ρ m k (if rm70 (V o 4) ≤ 13 then if V (numb o x) 9 + w ≤ V (numb o x) 4 then if V (numb o x) 9 + w ≤ V (numb o x) 5 * 20 + V (numb o x) 10 then upd2 V (numb o x) 9 (V (numb o x) 9 + w) else V else V else V) r lo t1 t2 t3 D') (rSim o L e ρ m k V r lo t1 t2 t3 D') ∧ ∀ a, (a < q ∨ r + 32 ≤ a) → D' a = D a) := by
  refine mMet_of (by decide) (Nat.le_of_ble_eq_true rfl) ?_
  intro Γ Q hQ h hin
  have h : mOk Γ κ RX7 cX7_pollinate 4 (Option.some Jvm.ClassFile.FieldType.int) { frames := 2, cells := 0, slots := 0, locals := 43 } := h
  have hW := hI.1
  have hinj := hI.2.2.2.2.1
  have hρ : ∀ p, p < L → ρ p < 10 := fun p hp => (hW.1.2.2 p hp).1
  have hL10 := hW.1.2.1
  have hm8 := hW.2.2.2.1.1
  have hk8 := hW.2.2.2.2.2.1
  show mV Γ Q 0 0 n sh P D E [(0, .ref q), (1, .int x), (2, .int w)] [] 0
  refine V_aload_n h 1 0 rfl dX7_pollinate_0 rfl ?_
  refine V_iconst h 2 (v := 0) (by decide) dX7_pollinate_1 rfl ?_
  refine p_X7_16 h 5 hmS dX7_pollinate_2 rfl ?_
  obtain ⟨D1, eD1⟩ : ∃ zz, zz = upd2 D q 0 0 := ⟨_, rfl⟩
  rw [← eD1]
  have hS1 := rSim_q (D' := D1) hS hm8 hk8 hL.2.2.2.1 hqr (fun a ha => by rw [eD1, upd2_ra ha])
  refine V_aload_n h 6 0 rfl dX7_pollinate_5 rfl ?_
  refine V_iload_n h 7 1 rfl dX7_pollinate_6 rfl ?_
  refine CVI h 10 (As := [.int x]) (q_lives hmS hmP hqr hL hS1 hI x) rfl hmS qL_X7_56 qI_X7_lives qS_X7_lives qZ_X7 qC_X7_lives hd_X7_lives ⟨Nat.le_of_ble_eq_true rfl, Nat.le_of_ble_eq_true rfl⟩ (Nat.le_of_ble_eq_true rfl) rfl rfl dX7_pollinate_7 (Nat.zero_le _) (Nat.zero_le _) (fun r2 D2 hq2 => ?_)
  rw [hq2.1]
  have hv_x := hq2.2
  refine V_if_ne h 19 13 dX7_pollinate_10 (by decide) rfl (fun c10 => ?_) (fun c10 => ?_)
  · skip
    have hl_x := lv_y hv_x c10
    refine V_iload_n h 20 2 rfl dX7_pollinate_19 rfl ?_
    refine V_iconst h 21 (v := 1) (by decide) dX7_pollinate_20 rfl ?_
    refine V_sipush h 24 (v := 200) (by decide) dX7_pollinate_21 rfl ?_
    refine CSI h 27 (As := [.int w, .int 1, .int 200]) (q_in w 1 200) qL_X7_23 qT_X7_in qZ_X7 qC_X7_in hd_X7_in ⟨Nat.le_of_ble_eq_true rfl, Nat.le_of_ble_eq_true rfl⟩ (Nat.le_of_ble_eq_true rfl) rfl rfl dX7_pollinate_24 (Nat.zero_le _) (Nat.zero_le _) (fun r3 D3 hq3 => ?_)
    rw [hq3.1, hq3.2]
    refine V_if_ne h 36 30 dX7_pollinate_27 (by decide) rfl (fun c27 => ?_) (fun c27 => ?_)
    · skip
      have hl_x2 := hl_x
      obtain ⟨p, hp, ex⟩ := hl_x2
      have hp10 := hρ p hp
      subst ex
      have nx : numb o (nI (ρ p)) = o + 6 + ρ p := numb_nI hp10
      refine V_aload_n h 37 0 rfl dX7_pollinate_36 rfl ?_
      refine V_iload_n h 38 1 rfl dX7_pollinate_37 rfl ?_
      refine CVR h 41 (As := [.int (nI (ρ p))]) (q_at hmS hmP hL (t := (ρ p)) (hρ p hp)) rfl hmS qL_X7_39 qI_X7_at qS_X7_at qZ_X7 qC_X7_at hd_X7_at ⟨Nat.le_of_ble_eq_true rfl, Nat.le_of_ble_eq_true rfl⟩ (Nat.le_of_ble_eq_true rfl) rfl rfl dX7_pollinate_38 (Nat.zero_le _) (Nat.zero_le _) (fun r4 D4 hq4 => ?_)
      rw [hq4.1, hq4.2]
      refine V_astore_n h 42 [(3, .ref (r + 2 + (ρ p))), (0, .ref q), (1, .int (nI (ρ p))), (2, .int w)] (by decide) rfl dX7_pollinate_41 rfl ?_
      refine V_aload_n h 43 1 rfl dX7_pollinate_42 rfl ?_
      refine g_X7_10 h 46 (b := r) hmS hmP dX7_pollinate_43 rfl ?_
      refine g_X7_99 h 49 (R_s0 hL) dX7_pollinate_46 rfl ?_
      refine V_top (y := V o 4) (by rw [eD1, upd2_nk (by decide)]; exact hS.2.2.2.2.1.2.2.2.2.1) ?_
      refine V_bipush h 51 (v := 70) (by decide) dX7_pollinate_49 rfl ?_
      refine V_irem h 52 (by decide) dX7_pollinate_51 rfl ?_
      refine V_bipush h 54 (v := 13) (by decide) dX7_pollinate_52 rfl ?_
      refine V_icmp_le h 60 57 dX7_pollinate_54 (by decide) rfl (fun c54 => ?_) (fun c54 => ?_)
      · skip
        refine V_aload_n h 61 0 rfl dX7_pollinate_60 rfl ?_
        refine V_bipush h 63 (v := 7) (by decide) dX7_pollinate_61 rfl ?_
        refine V_iald h 64 7 (R_sw hL (hρ p hp)) (by decide) (by decide) (by decide) dX7_pollinate_63 rfl ?_
        refine V_top (y := V (o + 6 + (ρ p)) 9) (by rw [eD1, upd2_nk (by decide)]; exact (hS.1 (ρ p) (hρ p hp) 7 (by decide))) ?_
        refine V_iload_n h 65 3 rfl dX7_pollinate_64 rfl ?_
        refine V_iadd h 66 dX7_pollinate_65 rfl ?_
        refine V_aload_n h 67 0 rfl dX7_pollinate_66 rfl ?_
        refine V_iconst h 68 (v := 2) (by decide) dX7_pollinate_67 rfl ?_
        refine V_iald h 69 2 (R_sw hL (hρ p hp)) (by decide) (by decide) (by decide) dX7_pollinate_68 rfl ?_
        refine V_top (y := V (o + 6 + (ρ p)) 4) (by rw [eD1, upd2_nk (by decide)]; exact (hS.1 (ρ p) (hρ p hp) 2 (by decide))) ?_
        refine V_icmp_le h 75 72 dX7_pollinate_69 (by decide) rfl (fun c69 => ?_) (fun c69 => ?_)
        · skip
          refine V_aload_n h 76 0 rfl dX7_pollinate_75 rfl ?_
          refine V_bipush h 78 (v := 7) (by decide) dX7_pollinate_76 rfl ?_
          refine V_iald h 79 7 (R_sw hL (hρ p hp)) (by decide) (by decide) (by decide) dX7_pollinate_78 rfl ?_
          refine V_top (y := V (o + 6 + (ρ p)) 9) (by rw [eD1, upd2_nk (by decide)]; exact (hS.1 (ρ p) (hρ p hp) 7 (by decide))) ?_
          refine V_iload_n h 80 3 rfl dX7_pollinate_79 rfl ?_
          refine V_iadd h 81 dX7_pollinate_80 rfl ?_
          refine V_aload_n h 82 0 rfl dX7_pollinate_81 rfl ?_
          refine CSI h 85 (As := [.ref (r + 2 + (ρ p))]) (q_pollenOf (R_sw hL (hρ p hp)) (g := V (o + 6 + (ρ p))) (hS1.1 _ (hρ p hp))) qL_X7_102 qT_X7_pollenOf qZ_X7 qC_X7_pollenOf hd_X7_pollenOf ⟨Nat.le_of_ble_eq_true rfl, Nat.le_of_ble_eq_true rfl⟩ (Nat.le_of_ble_eq_true rfl) rfl rfl dX7_pollinate_82 (Nat.zero_le _) (Nat.zero_le _) (fun r5 D5 hq5 => ?_)
          rw [hq5.1, hq5.2]
          refine V_icmp_le h 91 88 dX7_pollinate_85 (by decide) rfl (fun c85 => ?_) (fun c85 => ?_)
          · skip
            refine V_aload_n h 92 0 rfl dX7_pollinate_91 rfl ?_
            refine V_bipush h 94 (v := 7) (by decide) dX7_pollinate_92 rfl ?_
            refine V_dup2 h 95 rfl rfl dX7_pollinate_94 rfl ?_
            refine V_iald h 96 7 (R_sw hL (hρ p hp)) (by decide) (by decide) (by decide) dX7_pollinate_95 rfl ?_
            refine V_top (y := V (o + 6 + (ρ p)) 9) (by rw [eD1, upd2_nk (by decide)]; exact (hS.1 (ρ p) (hρ p hp) 7 (by decide))) ?_
            refine V_iload_n h 97 3 rfl dX7_pollinate_96 rfl ?_
            refine V_iadd h 98 dX7_pollinate_97 rfl ?_
            refine V_iast h 99 7 (R_sw hL (hρ p hp)) (by decide) (by decide) (by decide) dX7_pollinate_98 rfl ?_
            obtain ⟨D6, eD6⟩ : ∃ zz, zz = upd2 D1 (r + 2 + (ρ p)) 7 ((V (o + 6 + (ρ p)) 9) + w) := ⟨_, rfl⟩
            rw [← eD6]
            refine V_aload_n h 100 0 rfl dX7_pollinate_99 rfl ?_
            refine V_bipush h 102 (v := 7) (by decide) dX7_pollinate_100 rfl ?_
            refine V_iald h 103 7 (R_sw hL (hρ p hp)) (by decide) (by decide) (by decide) dX7_pollinate_102 rfl ?_
            refine V_top (y := (V (o + 6 + (ρ p)) 9) + w) (by rw [eD6, upd2_eq]) ?_
            exact V_iret h rfl hQ (Nat.zero_le _) (Nat.zero_le _) ⟨rfl, rfl, rfl, rfl, _, rfl, ⟨rO4 hl_x (wI_1 c27) trivial (by rw [eD6, eD1, upd2_na (by omega), upd2_eq]) (⟨by rw [nx, if_pos c54, if_pos c69, if_pos c85], by rw [nx, if_pos c54, if_pos c69, if_pos c85, upd2_sr]; exact rSim_row hS1 hm8 hk8 hL.2.2.2.1 hp10 (fun a ha => by rw [eD6, upd2_ra ha]) (by rw [eD6, upd2_row]; exact rwq_upd (hS1.1 _ hp10) 7 (by decide) rfl)⟩), fun a ha => by rw [eD6, eD1, upd2_ra (by omega), upd2_ra (by omega)]⟩⟩ dX7_pollinate_103
          · skip
            refine V_bipush h 90 (v := (-4)) (by decide) dX7_pollinate_88 rfl ?_
            exact V_iret h rfl hQ (Nat.zero_le _) (Nat.zero_le _) ⟨rfl, rfl, rfl, rfl, _, rfl, ⟨rO4 hl_x (wI_1 c27) trivial (by rw [eD1, upd2_eq]) (⟨by rw [nx, if_pos c54, if_pos c69, if_neg c85], by rw [nx, if_pos c54, if_pos c69, if_neg c85]; exact hS1⟩), fun a ha => by rw [eD1, upd2_ra (by omega)]⟩⟩ dX7_pollinate_90
        · skip
          refine V_bipush h 74 (v := (-3)) (by decide) dX7_pollinate_72 rfl ?_
          exact V_iret h rfl hQ (Nat.zero_le _) (Nat.zero_le _) ⟨rfl, rfl, rfl, rfl, _, rfl, ⟨rO4 hl_x (wI_1 c27) trivial (by rw [eD1, upd2_eq]) (⟨by rw [nx, if_pos c54, if_neg c69], by rw [nx, if_pos c54, if_neg c69]; exact hS1⟩), fun a ha => by rw [eD1, upd2_ra (by omega)]⟩⟩ dX7_pollinate_74
      · skip
        refine V_bipush h 59 (v := (-2)) (by decide) dX7_pollinate_57 rfl ?_
        exact V_iret h rfl hQ (Nat.zero_le _) (Nat.zero_le _) ⟨rfl, rfl, rfl, rfl, _, rfl, ⟨rO4 hl_x (wI_1 c27) trivial (by rw [eD1, upd2_eq]) (⟨by rw [nx, if_neg c54], by rw [nx, if_neg c54]; exact hS1⟩), fun a ha => by rw [eD1, upd2_ra (by omega)]⟩⟩ dX7_pollinate_59
    · skip
      refine V_aload_n h 31 0 rfl dX7_pollinate_30 rfl ?_
      refine V_iconst h 32 (v := 2) (by decide) dX7_pollinate_31 rfl ?_
      refine CVI h 35 (As := [.int 2]) (q_no hmS 2) rfl hmS qL_X7_31 qI_X7_no qS_X7_no qZ_X7 qC_X7_no hd_X7_no ⟨Nat.le_of_ble_eq_true rfl, Nat.le_of_ble_eq_true rfl⟩ (Nat.le_of_ble_eq_true rfl) rfl rfl dX7_pollinate_32 (Nat.zero_le _) (Nat.zero_le _) (fun r7 D7 hq7 => ?_)
      obtain ⟨eD7, erD7⟩ := hq7
      rw [erD7]
      exact V_iret h rfl hQ (Nat.zero_le _) (Nat.zero_le _) ⟨rfl, rfl, rfl, rfl, _, rfl, ⟨rO2 hl_x (wI_0 c27) (by rw [eD7, upd2_eq]) (rSim_q hS hm8 hk8 hL.2.2.2.1 hqr (fun a ha => by rw [eD7, eD1, upd2_ra ha, upd2_ra ha])), fun a ha => by rw [eD7, eD1, upd2_ra (by omega), upd2_ra (by omega)]⟩⟩ dX7_pollinate_35
  · skip
    have nl_x := lv_n hv_x c10
    refine V_aload_n h 14 0 rfl dX7_pollinate_13 rfl ?_
    refine V_iconst h 15 (v := 1) (by decide) dX7_pollinate_14 rfl ?_
    refine CVI h 18 (As := [.int 1]) (q_no hmS 1) rfl hmS qL_X7_31 qI_X7_no qS_X7_no qZ_X7 qC_X7_no hd_X7_no ⟨Nat.le_of_ble_eq_true rfl, Nat.le_of_ble_eq_true rfl⟩ (Nat.le_of_ble_eq_true rfl) rfl rfl dX7_pollinate_15 (Nat.zero_le _) (Nat.zero_le _) (fun r8 D8 hq8 => ?_)
    obtain ⟨eD8, erD8⟩ := hq8
    rw [erD8]
    exact V_iret h rfl hQ (Nat.zero_le _) (Nat.zero_le _) ⟨rfl, rfl, rfl, rfl, _, rfl, ⟨rO1 nl_x (by rw [eD8, upd2_eq]) (rSim_q hS hm8 hk8 hL.2.2.2.1 hqr (fun a ha => by rw [eD8, eD1, upd2_ra ha, upd2_ra ha])), fun a ha => by rw [eD8, eD1, upd2_ra (by omega), upd2_ra (by omega)]⟩⟩ dX7_pollinate_18

theorem rSim_ch {o L e : Nat} {ρ : Nat → Nat} {m k : Nat} {V : mDt} {r : Nat} {lo : Nat → Nat} {t1 t2 t3 : Int32} {D D' : mDt} (h : rSim o L e ρ m k V r lo t1 t2 t3 D) (hm : m ≤ 8) (hk : k ≤ 8) (hlo : ∀ i, i < 8 → lo i < 8) {j : Nat} (hj : j < 4) {v : Int32} (hD : D' = upd2 D r (10 + j) v) : rSim o L e ρ m k (upd2 V (o + 1) j v) r lo t1 t2 t3 D' := by
  have d1 : ∀ a, a ≠ r → D' a = D a := fun a ha => by rw [hD, upd2_ra ha]
  have d0 : ∀ i, i ≠ 10 + j → D' r i = D r i := fun i hi => by rw [hD, upd2_nk hi]
  obtain ⟨h1, h2, h3, h4, ⟨g1, g2, g3, g4, g5, g6, g7, g8, g9⟩, h6⟩ := h
  have hc : ∀ i, i < 4 → D r (10 + i) = V (o + 1) i → D' r (10 + i) = upd2 V (o + 1) j v (o + 1) i := fun i hi hg => by
    by_cases q : i = j
    · subst q; rw [hD, upd2_eq, upd2_eq]
    · rw [d0 _ (by omega), upd2_nk q]; exact hg
  refine ⟨fun i hi => by rw [d1 _ (by omega), upd2_ra (by omega)]; exact h1 i hi, fun p hp => by rw [d1 _ (by omega)]; exact h2 p hp, fun i hi j hj => ?_, fun i hi j hj => by rw [d1 _ (by omega), upd2_ra (by omega)]; exact h4 i hi j hj, ⟨?_, ?_, ?_, ?_, ?_, hc 0 (by decide) g6, hc 1 (by decide) g7, hc 2 (by decide) g8, hc 3 (by decide) g9⟩, ?_⟩
  · rw [d1 _ (by omega), upd2_ra (by omega)]; exact h3 i hi j hj
  · rw [d0 _ (by omega)]; exact g1
  · rw [d0 _ (by omega)]; exact g2
  · rw [d0 _ (by omega)]; exact g3
  · rw [d0 _ (by omega)]; exact g4
  · rw [d0 _ (by omega), upd2_ra (by omega)]; exact g5
  · unfold rTot; rw [d0 _ (by omega), d0 _ (by omega), d0 _ (by omega), upd2_ra (by omega)]; exact h6

set_option maxRecDepth 100000 in
set_option maxHeartbeats 4000000 in
theorem q_fall {κ : mKp} {n : Nat} {sh : mSh} {P : mPt} {D : mDt} {E : mEt} {q r : Nat} {lo : Nat → Nat} (hmS : sh q = some (.inl 7)) (hmP : P q 1 = some r) (hqr : q < r) (hL : rLay r lo sh P) {o L e m k : Nat} {ρ : Nat → Nat} {V : mDt} {t1 t2 t3 : Int32} (hS : rSim o L e ρ m k V r lo t1 t2 t3 D) (hI : cI o L e ρ m k V) (x : Int32) : mFnI κ yX7_fall cX7_fall 2 (Option.some Jvm.ClassFile.FieldType.int) 1 22 [.ref q, .int x] n sh P D E (fun ans D' => rOut 1 2 True (wP x 1 30) True (D' q 0) (ans = chMud (V (o + 1)) x ∧ rSim o L e ρ m k (upd2 V (o + 1) 2 (chMud (V (o + 1)) x)) r lo t1 t2 t3 D') (rSim o L e ρ m k V r lo t1 t2 t3 D') ∧ ∀ a, (a < q ∨ r + 32 ≤ a) → D' a = D a) := by
  refine mMet_of (by decide) (Nat.le_of_ble_eq_true rfl) ?_
  intro Γ Q hQ h hin
  have h : mOk Γ κ RX7 cX7_fall 2 (Option.some Jvm.ClassFile.FieldType.int) { frames := 1, cells := 0, slots := 0, locals := 22 } := h
  have hW := hI.1
  have hinj := hI.2.2.2.2.1
  have hρ : ∀ p, p < L → ρ p < 10 := fun p hp => (hW.1.2.2 p hp).1
  have hL10 := hW.1.2.1
  have hm8 := hW.2.2.2.1.1
  have hk8 := hW.2.2.2.2.2.1
  show mV Γ Q 0 0 n sh P D E [(0, .ref q), (1, .int x)] [] 0
  refine V_aload_n h 1 0 rfl dX7_fall_0 rfl ?_
  refine V_iconst h 2 (v := 0) (by decide) dX7_fall_1 rfl ?_
  refine p_X7_16 h 5 hmS dX7_fall_2 rfl ?_
  obtain ⟨D1, eD1⟩ : ∃ zz, zz = upd2 D q 0 0 := ⟨_, rfl⟩
  rw [← eD1]
  have hS1 := rSim_q (D' := D1) hS hm8 hk8 hL.2.2.2.1 hqr (fun a ha => by rw [eD1, upd2_ra ha])
  refine V_iload_n h 6 1 rfl dX7_fall_5 rfl ?_
  refine V_iconst h 7 (v := 1) (by decide) dX7_fall_6 rfl ?_
  refine V_bipush h 9 (v := 30) (by decide) dX7_fall_7 rfl ?_
  refine CSI h 12 (As := [.int x, .int 1, .int 30]) (q_in x 1 30) qL_X7_23 qT_X7_in qZ_X7 qC_X7_in hd_X7_in ⟨Nat.le_of_ble_eq_true rfl, Nat.le_of_ble_eq_true rfl⟩ (Nat.le_of_ble_eq_true rfl) rfl rfl dX7_fall_9 (Nat.zero_le _) (Nat.zero_le _) (fun r2 D2 hq2 => ?_)
  rw [hq2.1, hq2.2]
  refine V_if_ne h 21 15 dX7_fall_12 (by decide) rfl (fun c12 => ?_) (fun c12 => ?_)
  · skip
    refine V_aload_n h 22 0 rfl dX7_fall_21 rfl ?_
    refine g_X7_10 h 25 (b := r) hmS hmP dX7_fall_22 rfl ?_
    refine V_bipush h 27 (v := 30) (by decide) dX7_fall_25 rfl ?_
    refine V_aload_n h 28 0 rfl dX7_fall_27 rfl ?_
    refine g_X7_10 h 31 (b := r) hmS hmP dX7_fall_28 rfl ?_
    refine g_X7_88 h 34 (R_s0 hL) dX7_fall_31 rfl ?_
    refine V_top (y := V (o + 1) 2) (by rw [eD1, upd2_nk (by decide)]; exact hS.2.2.2.2.1.2.2.2.2.2.2.2.1) ?_
    refine V_iload_n h 35 1 rfl dX7_fall_34 rfl ?_
    refine V_iadd h 36 dX7_fall_35 rfl ?_
    refine V_mmin h 39 qL_X7_91 (Nat.le_of_ble_eq_true rfl) (Nat.le_of_ble_eq_true rfl) (Nat.zero_le _) (Nat.zero_le _) dX7_fall_36 rfl ?_
    refine p_X7_88 h 42 (R_s0 hL) dX7_fall_39 rfl ?_
    obtain ⟨D3, eD3⟩ : ∃ zz, zz = upd2 D1 r 12 (imin 30 ((V (o + 1) 2) + x)) := ⟨_, rfl⟩
    rw [← eD3]
    refine V_aload_n h 43 0 rfl dX7_fall_42 rfl ?_
    refine g_X7_10 h 46 (b := r) hmS hmP dX7_fall_43 rfl ?_
    refine g_X7_88 h 49 (R_s0 hL) dX7_fall_46 rfl ?_
    refine V_top (y := imin 30 ((V (o + 1) 2) + x)) (by rw [eD3, upd2_eq]) ?_
    exact V_iret h rfl hQ (Nat.zero_le _) (Nat.zero_le _) ⟨rfl, rfl, rfl, rfl, _, rfl, ⟨rO4 trivial (wI_1 c12) trivial (by rw [eD3, eD1, upd2_na (by omega), upd2_eq]) (⟨rfl, rSim_ch hS1 hm8 hk8 hL.2.2.2.1 (j := 2) (by decide) eD3⟩), fun a ha => by rw [eD3, eD1, upd2_ra (by omega), upd2_ra (by omega)]⟩⟩ dX7_fall_49
  · skip
    refine V_aload_n h 16 0 rfl dX7_fall_15 rfl ?_
    refine V_iconst h 17 (v := 1) (by decide) dX7_fall_16 rfl ?_
    refine CVI h 20 (As := [.int 1]) (q_no hmS 1) rfl hmS qL_X7_31 qI_X7_no qS_X7_no qZ_X7 qC_X7_no hd_X7_no ⟨Nat.le_of_ble_eq_true rfl, Nat.le_of_ble_eq_true rfl⟩ (Nat.le_of_ble_eq_true rfl) rfl rfl dX7_fall_17 (Nat.zero_le _) (Nat.zero_le _) (fun r4 D4 hq4 => ?_)
    obtain ⟨eD4, erD4⟩ := hq4
    rw [erD4]
    exact V_iret h rfl hQ (Nat.zero_le _) (Nat.zero_le _) ⟨rfl, rfl, rfl, rfl, _, rfl, ⟨rO2 trivial (wI_0 c12) (by rw [eD4, upd2_eq]) (rSim_q hS hm8 hk8 hL.2.2.2.1 hqr (fun a ha => by rw [eD4, eD1, upd2_ra ha, upd2_ra ha])), fun a ha => by rw [eD4, eD1, upd2_ra (by omega), upd2_ra (by omega)]⟩⟩ dX7_fall_20

set_option maxRecDepth 100000 in
set_option maxHeartbeats 4000000 in
theorem q_pump {κ : mKp} {n : Nat} {sh : mSh} {P : mPt} {D : mDt} {E : mEt} {q r : Nat} {lo : Nat → Nat} (hmS : sh q = some (.inl 7)) (hmP : P q 1 = some r) (hqr : q < r) (hL : rLay r lo sh P) {o L e m k : Nat} {ρ : Nat → Nat} {V : mDt} {t1 t2 t3 : Int32} (hS : rSim o L e ρ m k V r lo t1 t2 t3 D) (hI : cI o L e ρ m k V) (x : Int32) : mFnI κ yX7_pump cX7_pump 3 (Option.some Jvm.ClassFile.FieldType.int) 1 22 [.ref q, .int x] n sh P D E (fun ans D' => rOut 1 2 True (wP x 0 20) True (D' q 0) (ans = V (o + 1) 3 ∧ rSim o L e ρ m k (upd2 V (o + 1) 3 x) r lo t1 t2 t3 D') (rSim o L e ρ m k V r lo t1 t2 t3 D') ∧ ∀ a, (a < q ∨ r + 32 ≤ a) → D' a = D a) := by
  refine mMet_of (by decide) (Nat.le_of_ble_eq_true rfl) ?_
  intro Γ Q hQ h hin
  have h : mOk Γ κ RX7 cX7_pump 3 (Option.some Jvm.ClassFile.FieldType.int) { frames := 1, cells := 0, slots := 0, locals := 22 } := h
  have hW := hI.1
  have hinj := hI.2.2.2.2.1
  have hρ : ∀ p, p < L → ρ p < 10 := fun p hp => (hW.1.2.2 p hp).1
  have hL10 := hW.1.2.1
  have hm8 := hW.2.2.2.1.1
  have hk8 := hW.2.2.2.2.2.1
  show mV Γ Q 0 0 n sh P D E [(0, .ref q), (1, .int x)] [] 0
  refine V_aload_n h 1 0 rfl dX7_pump_0 rfl ?_
  refine V_iconst h 2 (v := 0) (by decide) dX7_pump_1 rfl ?_
  refine p_X7_16 h 5 hmS dX7_pump_2 rfl ?_
  obtain ⟨D1, eD1⟩ : ∃ zz, zz = upd2 D q 0 0 := ⟨_, rfl⟩
  rw [← eD1]
  have hS1 := rSim_q (D' := D1) hS hm8 hk8 hL.2.2.2.1 hqr (fun a ha => by rw [eD1, upd2_ra ha])
  refine V_iload_n h 6 1 rfl dX7_pump_5 rfl ?_
  refine V_iconst h 7 (v := 0) (by decide) dX7_pump_6 rfl ?_
  refine V_bipush h 9 (v := 20) (by decide) dX7_pump_7 rfl ?_
  refine CSI h 12 (As := [.int x, .int 0, .int 20]) (q_in x 0 20) qL_X7_23 qT_X7_in qZ_X7 qC_X7_in hd_X7_in ⟨Nat.le_of_ble_eq_true rfl, Nat.le_of_ble_eq_true rfl⟩ (Nat.le_of_ble_eq_true rfl) rfl rfl dX7_pump_9 (Nat.zero_le _) (Nat.zero_le _) (fun r2 D2 hq2 => ?_)
  rw [hq2.1, hq2.2]
  refine V_if_ne h 21 15 dX7_pump_12 (by decide) rfl (fun c12 => ?_) (fun c12 => ?_)
  · skip
    refine V_aload_n h 22 0 rfl dX7_pump_21 rfl ?_
    refine g_X7_10 h 25 (b := r) hmS hmP dX7_pump_22 rfl ?_
    refine g_X7_96 h 28 (R_s0 hL) dX7_pump_25 rfl ?_
    refine V_top (y := V (o + 1) 3) (by rw [eD1, upd2_nk (by decide)]; exact hS.2.2.2.2.1.2.2.2.2.2.2.2.2) ?_
    refine V_istore_n h 29 [(2, .int (V (o + 1) 3)), (0, .ref q), (1, .int x)] (by decide) rfl dX7_pump_28 rfl ?_
    refine V_aload_n h 30 1 rfl dX7_pump_29 rfl ?_
    refine g_X7_10 h 33 (b := r) hmS hmP dX7_pump_30 rfl ?_
    refine V_iload_n h 34 2 rfl dX7_pump_33 rfl ?_
    refine p_X7_96 h 37 (R_s0 hL) dX7_pump_34 rfl ?_
    obtain ⟨D3, eD3⟩ : ∃ zz, zz = upd2 D1 r 13 x := ⟨_, rfl⟩
    rw [← eD3]
    refine V_iload_n h 38 0 rfl dX7_pump_37 rfl ?_
    exact V_iret h rfl hQ (Nat.zero_le _) (Nat.zero_le _) ⟨rfl, rfl, rfl, rfl, _, rfl, ⟨rO4 trivial (wI_1 c12) trivial (by rw [eD3, eD1, upd2_na (by omega), upd2_eq]) (⟨rfl, rSim_ch hS1 hm8 hk8 hL.2.2.2.1 (j := 3) (by decide) eD3⟩), fun a ha => by rw [eD3, eD1, upd2_ra (by omega), upd2_ra (by omega)]⟩⟩ dX7_pump_38
  · skip
    refine V_aload_n h 16 0 rfl dX7_pump_15 rfl ?_
    refine V_iconst h 17 (v := 1) (by decide) dX7_pump_16 rfl ?_
    refine CVI h 20 (As := [.int 1]) (q_no hmS 1) rfl hmS qL_X7_31 qI_X7_no qS_X7_no qZ_X7 qC_X7_no hd_X7_no ⟨Nat.le_of_ble_eq_true rfl, Nat.le_of_ble_eq_true rfl⟩ (Nat.le_of_ble_eq_true rfl) rfl rfl dX7_pump_17 (Nat.zero_le _) (Nat.zero_le _) (fun r4 D4 hq4 => ?_)
    obtain ⟨eD4, erD4⟩ := hq4
    rw [erD4]
    exact V_iret h rfl hQ (Nat.zero_le _) (Nat.zero_le _) ⟨rfl, rfl, rfl, rfl, _, rfl, ⟨rO2 trivial (wI_0 c12) (by rw [eD4, upd2_eq]) (rSim_q hS hm8 hk8 hL.2.2.2.1 hqr (fun a ha => by rw [eD4, eD1, upd2_ra ha, upd2_ra ha])), fun a ha => by rw [eD4, eD1, upd2_ra (by omega), upd2_ra (by omega)]⟩⟩ dX7_pump_20

set_option maxRecDepth 100000 in
set_option maxHeartbeats 4000000 in
theorem q_ofBowl {κ : mKp} {n : Nat} {sh : mSh} {P : mPt} {D : mDt} {E : mEt} {q r : Nat} {lo : Nat → Nat} (hmS : sh q = some (.inl 7)) (hmP : P q 1 = some r) (hqr : q < r) (hL : rLay r lo sh P) {o L e m k : Nat} {ρ : Nat → Nat} {V : mDt} {t1 t2 t3 : Int32} (hS : rSim o L e ρ m k V r lo t1 t2 t3 D) (hI : cI o L e ρ m k V) (hbw : ∀ p, p ≤ L → ∃ w, w ≤ 5040 ∧ rsum (fun p => V (o + 6 + ρ p) 2) p = nI w) (ham : ∀ i, i < m → ∃ a, a ≤ 5040 ∧ V (o + 17) (i * 4 + 2) = nI a) (x w : Int32) : mFnI κ yX7_ofBowl cX7_ofBowl 3 (Option.some Jvm.ClassFile.FieldType.int) 2 47 [.ref q, .int x, .int w] n sh P D E (fun ans D' => rOut 2 3 (wP x 0 5039) (wP w 0 1) True (D' q 0) ((ans = if w = 0 then holdI (fun p => V (o + 6 + ρ p) 2) ρ x L else userI (fun p => V (o + 6 + ρ p) 2) ρ (V (o + 17)) m x L) ∧ rSim o L e ρ m k V r lo t1 t2 t3 D') (rSim o L e ρ m k V r lo t1 t2 t3 D') ∧ ∀ a, (a < q ∨ r + 32 ≤ a) → D' a = D a) := by
  refine mMet_of (by decide) (Nat.le_of_ble_eq_true rfl) ?_
  intro Γ Q hQ h hin
  have h : mOk Γ κ RX7 cX7_ofBowl 3 (Option.some Jvm.ClassFile.FieldType.int) { frames := 2, cells := 0, slots := 0, locals := 47 } := h
  have hW := hI.1
  have hinj := hI.2.2.2.2.1
  have hρ : ∀ p, p < L → ρ p < 10 := fun p hp => (hW.1.2.2 p hp).1
  have hL10 := hW.1.2.1
  have hm8 := hW.2.2.2.1.1
  have hk8 := hW.2.2.2.2.2.1
  show mV Γ Q 0 0 n sh P D E [(0, .ref q), (1, .int x), (2, .int w)] [] 0
  refine V_aload_n h 1 0 rfl dX7_ofBowl_0 rfl ?_
  refine V_iconst h 2 (v := 0) (by decide) dX7_ofBowl_1 rfl ?_
  refine p_X7_16 h 5 hmS dX7_ofBowl_2 rfl ?_
  obtain ⟨D1, eD1⟩ : ∃ zz, zz = upd2 D q 0 0 := ⟨_, rfl⟩
  rw [← eD1]
  have hS1 := rSim_q (D' := D1) hS hm8 hk8 hL.2.2.2.1 hqr (fun a ha => by rw [eD1, upd2_ra ha])
  refine V_iload_n h 6 1 rfl dX7_ofBowl_5 rfl ?_
  refine V_iconst h 7 (v := 0) (by decide) dX7_ofBowl_6 rfl ?_
  refine V_sipush h 10 (v := 5039) (by decide) dX7_ofBowl_7 rfl ?_
  refine CSI h 13 (As := [.int x, .int 0, .int 5039]) (q_in x 0 5039) qL_X7_23 qT_X7_in qZ_X7 qC_X7_in hd_X7_in ⟨Nat.le_of_ble_eq_true rfl, Nat.le_of_ble_eq_true rfl⟩ (Nat.le_of_ble_eq_true rfl) rfl rfl dX7_ofBowl_10 (Nat.zero_le _) (Nat.zero_le _) (fun r2 D2 hq2 => ?_)
  rw [hq2.1, hq2.2]
  refine V_if_ne h 22 16 dX7_ofBowl_13 (by decide) rfl (fun c13 => ?_) (fun c13 => ?_)
  · skip
    refine V_iload_n h 23 2 rfl dX7_ofBowl_22 rfl ?_
    refine V_iconst h 24 (v := 0) (by decide) dX7_ofBowl_23 rfl ?_
    refine V_iconst h 25 (v := 1) (by decide) dX7_ofBowl_24 rfl ?_
    refine CSI h 28 (As := [.int w, .int 0, .int 1]) (q_in w 0 1) qL_X7_23 qT_X7_in qZ_X7 qC_X7_in hd_X7_in ⟨Nat.le_of_ble_eq_true rfl, Nat.le_of_ble_eq_true rfl⟩ (Nat.le_of_ble_eq_true rfl) rfl rfl dX7_ofBowl_25 (Nat.zero_le _) (Nat.zero_le _) (fun r3 D3 hq3 => ?_)
    rw [hq3.1, hq3.2]
    refine V_if_ne h 37 31 dX7_ofBowl_28 (by decide) rfl (fun c28 => ?_) (fun c28 => ?_)
    · skip
      refine V_iload_n h 38 2 rfl dX7_ofBowl_37 rfl ?_
      refine V_if_ne h 52 41 dX7_ofBowl_38 (by decide) rfl (fun c38 => ?_) (fun c38 => ?_)
      · skip
        refine V_aload_n h 53 0 rfl dX7_ofBowl_52 rfl ?_
        refine g_X7_10 h 56 (b := r) hmS hmP dX7_ofBowl_53 rfl ?_
        refine V_iload_n h 57 1 rfl dX7_ofBowl_56 rfl ?_
        refine CVI h 60 (As := [.int x]) (r_userOf hL hS1 hW hinj (by obtain ⟨c1, -, h1, h2⟩ := wP_N (a := 0) (b := 5039) (wI_1 c13) (by decide) (by decide); exact ⟨c1, h1, h2⟩) hbw ham) rfl (R_s0 hL) qL_X7_124 qI_X6_userOf qS_X6_userOf qZ_X6 qC_X6_userOf hd_X6_userOf ⟨Nat.le_of_ble_eq_true rfl, Nat.le_of_ble_eq_true rfl⟩ (Nat.le_of_ble_eq_true rfl) rfl rfl dX7_ofBowl_57 (Nat.zero_le _) (Nat.zero_le _) (fun r4 D4 hq4 => ?_)
        rw [hq4.1, hq4.2]
        exact V_iret h rfl hQ (Nat.zero_le _) (Nat.zero_le _) ⟨rfl, rfl, rfl, rfl, _, rfl, ⟨rO4 (wI_1 c13) (wI_1 c28) trivial (by rw [eD1, upd2_eq]) (⟨by rw [if_neg c38], hS1⟩), fun a ha => by rw [eD1, upd2_ra (by omega)]⟩⟩ dX7_ofBowl_60
      · skip
        refine V_aload_n h 42 0 rfl dX7_ofBowl_41 rfl ?_
        refine g_X7_10 h 45 (b := r) hmS hmP dX7_ofBowl_42 rfl ?_
        refine V_iload_n h 46 1 rfl dX7_ofBowl_45 rfl ?_
        refine CVI h 49 (As := [.int x]) (r_ownerOf hL hS1 hW x) rfl (R_s0 hL) qL_X7_121 qI_X6_ownerOf qS_X6_ownerOf qZ_X6 qC_X6_ownerOf hd_X6_ownerOf ⟨Nat.le_of_ble_eq_true rfl, Nat.le_of_ble_eq_true rfl⟩ (Nat.le_of_ble_eq_true rfl) rfl rfl dX7_ofBowl_46 (Nat.zero_le _) (Nat.zero_le _) (fun r5 D5 hq5 => ?_)
        rw [hq5.1, hq5.2]
        refine V_goto h 60 dX7_ofBowl_49 (by decide) ?_
        exact V_iret h rfl hQ (Nat.zero_le _) (Nat.zero_le _) ⟨rfl, rfl, rfl, rfl, _, rfl, ⟨rO4 (wI_1 c13) (wI_1 c28) trivial (by rw [eD1, upd2_eq]) (⟨by rw [if_pos c38], hS1⟩), fun a ha => by rw [eD1, upd2_ra (by omega)]⟩⟩ dX7_ofBowl_60
    · skip
      refine V_aload_n h 32 0 rfl dX7_ofBowl_31 rfl ?_
      refine V_iconst h 33 (v := 2) (by decide) dX7_ofBowl_32 rfl ?_
      refine CVI h 36 (As := [.int 2]) (q_no hmS 2) rfl hmS qL_X7_31 qI_X7_no qS_X7_no qZ_X7 qC_X7_no hd_X7_no ⟨Nat.le_of_ble_eq_true rfl, Nat.le_of_ble_eq_true rfl⟩ (Nat.le_of_ble_eq_true rfl) rfl rfl dX7_ofBowl_33 (Nat.zero_le _) (Nat.zero_le _) (fun r6 D6 hq6 => ?_)
      obtain ⟨eD6, erD6⟩ := hq6
      rw [erD6]
      exact V_iret h rfl hQ (Nat.zero_le _) (Nat.zero_le _) ⟨rfl, rfl, rfl, rfl, _, rfl, ⟨rO2 (wI_1 c13) (wI_0 c28) (by rw [eD6, upd2_eq]) (rSim_q hS hm8 hk8 hL.2.2.2.1 hqr (fun a ha => by rw [eD6, eD1, upd2_ra ha, upd2_ra ha])), fun a ha => by rw [eD6, eD1, upd2_ra (by omega), upd2_ra (by omega)]⟩⟩ dX7_ofBowl_36
  · skip
    refine V_aload_n h 17 0 rfl dX7_ofBowl_16 rfl ?_
    refine V_iconst h 18 (v := 1) (by decide) dX7_ofBowl_17 rfl ?_
    refine CVI h 21 (As := [.int 1]) (q_no hmS 1) rfl hmS qL_X7_31 qI_X7_no qS_X7_no qZ_X7 qC_X7_no hd_X7_no ⟨Nat.le_of_ble_eq_true rfl, Nat.le_of_ble_eq_true rfl⟩ (Nat.le_of_ble_eq_true rfl) rfl rfl dX7_ofBowl_18 (Nat.zero_le _) (Nat.zero_le _) (fun r7 D7 hq7 => ?_)
    obtain ⟨eD7, erD7⟩ := hq7
    rw [erD7]
    exact V_iret h rfl hQ (Nat.zero_le _) (Nat.zero_le _) ⟨rfl, rfl, rfl, rfl, _, rfl, ⟨rO1 (wI_0 c13) (by rw [eD7, upd2_eq]) (rSim_q hS hm8 hk8 hL.2.2.2.1 hqr (fun a ha => by rw [eD7, eD1, upd2_ra ha, upd2_ra ha])), fun a ha => by rw [eD7, eD1, upd2_ra (by omega), upd2_ra (by omega)]⟩⟩ dX7_ofBowl_21

set_option maxRecDepth 100000 in
set_option maxHeartbeats 4000000 in
theorem q_ofLoan {κ : mKp} {n : Nat} {sh : mSh} {P : mPt} {D : mDt} {E : mEt} {q r : Nat} {lo : Nat → Nat} (hmS : sh q = some (.inl 7)) (hmP : P q 1 = some r) (hqr : q < r) (hL : rLay r lo sh P) {o L e m k : Nat} {ρ : Nat → Nat} {V : mDt} {t1 t2 t3 : Int32} (hS : rSim o L e ρ m k V r lo t1 t2 t3 D) (hI : cI o L e ρ m k V) (x w : Int32) : mFnI κ yX7_ofLoan cX7_ofLoan 3 (Option.some Jvm.ClassFile.FieldType.int) 1 22 [.ref q, .int x, .int w] n sh P D E (fun ans D' => rOut 2 3 (wP x 0 (nI m - 1)) (wP w 0 3) True (D' q 0) ((∃ i j, i < m ∧ j ≤ 3 ∧ x = nI i ∧ w = nI j ∧ ans = V (o + 17) (i * 4 + j)) ∧ rSim o L e ρ m k V r lo t1 t2 t3 D') (rSim o L e ρ m k V r lo t1 t2 t3 D') ∧ ∀ a, (a < q ∨ r + 32 ≤ a) → D' a = D a) := by
  refine mMet_of (by decide) (Nat.le_of_ble_eq_true rfl) ?_
  intro Γ Q hQ h hin
  have h : mOk Γ κ RX7 cX7_ofLoan 3 (Option.some Jvm.ClassFile.FieldType.int) { frames := 1, cells := 0, slots := 0, locals := 22 } := h
  have hW := hI.1
  have hinj := hI.2.2.2.2.1
  have hρ : ∀ p, p < L → ρ p < 10 := fun p hp => (hW.1.2.2 p hp).1
  have hL10 := hW.1.2.1
  have hm8 := hW.2.2.2.1.1
  have hk8 := hW.2.2.2.2.2.1
  show mV Γ Q 0 0 n sh P D E [(0, .ref q), (1, .int x), (2, .int w)] [] 0
  refine V_aload_n h 1 0 rfl dX7_ofLoan_0 rfl ?_
  refine V_iconst h 2 (v := 0) (by decide) dX7_ofLoan_1 rfl ?_
  refine p_X7_16 h 5 hmS dX7_ofLoan_2 rfl ?_
  obtain ⟨D1, eD1⟩ : ∃ zz, zz = upd2 D q 0 0 := ⟨_, rfl⟩
  rw [← eD1]
  have hS1 := rSim_q (D' := D1) hS hm8 hk8 hL.2.2.2.1 hqr (fun a ha => by rw [eD1, upd2_ra ha])
  refine V_iload_n h 6 1 rfl dX7_ofLoan_5 rfl ?_
  refine V_iconst h 7 (v := 0) (by decide) dX7_ofLoan_6 rfl ?_
  refine V_aload_n h 8 0 rfl dX7_ofLoan_7 rfl ?_
  refine g_X7_10 h 11 (b := r) hmS hmP dX7_ofLoan_8 rfl ?_
  refine g_X7_63 h 14 (R_s0 hL) dX7_ofLoan_11 rfl ?_
  refine V_top (y := nI m) (by rw [eD1, upd2_nk (by decide)]; exact hS.2.2.2.2.1.2.2.1) ?_
  refine V_iconst h 15 (v := 1) (by decide) dX7_ofLoan_14 rfl ?_
  refine V_isub h 16 dX7_ofLoan_15 rfl ?_
  refine CSI h 19 (As := [.int x, .int 0, .int ((nI m) - 1)]) (q_in x 0 ((nI m) - 1)) qL_X7_23 qT_X7_in qZ_X7 qC_X7_in hd_X7_in ⟨Nat.le_of_ble_eq_true rfl, Nat.le_of_ble_eq_true rfl⟩ (Nat.le_of_ble_eq_true rfl) rfl rfl dX7_ofLoan_16 (Nat.zero_le _) (Nat.zero_le _) (fun r2 D2 hq2 => ?_)
  rw [hq2.1, hq2.2]
  refine V_if_ne h 28 22 dX7_ofLoan_19 (by decide) rfl (fun c19 => ?_) (fun c19 => ?_)
  · skip
    refine V_iload_n h 29 2 rfl dX7_ofLoan_28 rfl ?_
    refine V_iconst h 30 (v := 0) (by decide) dX7_ofLoan_29 rfl ?_
    refine V_iconst h 31 (v := 3) (by decide) dX7_ofLoan_30 rfl ?_
    refine CSI h 34 (As := [.int w, .int 0, .int 3]) (q_in w 0 3) qL_X7_23 qT_X7_in qZ_X7 qC_X7_in hd_X7_in ⟨Nat.le_of_ble_eq_true rfl, Nat.le_of_ble_eq_true rfl⟩ (Nat.le_of_ble_eq_true rfl) rfl rfl dX7_ofLoan_31 (Nat.zero_le _) (Nat.zero_le _) (fun r3 D3 hq3 => ?_)
    rw [hq3.1, hq3.2]
    refine V_if_ne h 43 37 dX7_ofLoan_34 (by decide) rfl (fun c34 => ?_) (fun c34 => ?_)
    · skip
      obtain ⟨i, hi, ei⟩ := wP_E (wI_1 c19) (by omega)
      obtain ⟨j, -, hj, ej⟩ := wP_N (a := 0) (b := 3) (wI_1 c34) (by decide) (by decide)
      have G1 := wI_1 c19
      have G2 := wI_1 c34
      subst ei
      subst ej
      refine V_aload_n h 44 0 rfl dX7_ofLoan_43 rfl ?_
      refine g_X7_10 h 47 (b := r) hmS hmP dX7_ofLoan_44 rfl ?_
      refine g_X7_66 h 50 (b := r + 13) (R_s0 hL) (R_p2 hL) dX7_ofLoan_47 rfl ?_
      refine V_iload_n h 51 1 rfl dX7_ofLoan_50 rfl ?_
      refine V_aald h 52 (b := r + 14 + lo i) i (Or.inr rfl) (R_s13 hL) rfl (by omega) (by decide) (R_pl hL (by omega)) dX7_ofLoan_51 rfl ?_
      refine V_iload_n h 53 2 rfl dX7_ofLoan_52 rfl ?_
      refine V_iald h 54 j (R_sL hL (by omega)) rfl (by omega) (by decide) dX7_ofLoan_53 rfl ?_
      refine V_top (y := V (o + 17) (i * 4 + j)) (by rw [eD1, upd2_na (by omega)]; exact (hS.2.2.1 i hi j (by omega))) ?_
      exact V_iret h rfl hQ (Nat.zero_le _) (Nat.zero_le _) ⟨rfl, rfl, rfl, rfl, _, rfl, ⟨rO4 (wI_1 c19) (wI_1 c34) trivial (by rw [eD1, upd2_eq]) (⟨⟨i, j, hi, hj, rfl, rfl, rfl⟩, hS1⟩), fun a ha => by rw [eD1, upd2_ra (by omega)]⟩⟩ dX7_ofLoan_54
    · skip
      refine V_aload_n h 38 0 rfl dX7_ofLoan_37 rfl ?_
      refine V_iconst h 39 (v := 2) (by decide) dX7_ofLoan_38 rfl ?_
      refine CVI h 42 (As := [.int 2]) (q_no hmS 2) rfl hmS qL_X7_31 qI_X7_no qS_X7_no qZ_X7 qC_X7_no hd_X7_no ⟨Nat.le_of_ble_eq_true rfl, Nat.le_of_ble_eq_true rfl⟩ (Nat.le_of_ble_eq_true rfl) rfl rfl dX7_ofLoan_39 (Nat.zero_le _) (Nat.zero_le _) (fun r4 D4 hq4 => ?_)
      obtain ⟨eD4, erD4⟩ := hq4
      rw [erD4]
      exact V_iret h rfl hQ (Nat.zero_le _) (Nat.zero_le _) ⟨rfl, rfl, rfl, rfl, _, rfl, ⟨rO2 (wI_1 c19) (wI_0 c34) (by rw [eD4, upd2_eq]) (rSim_q hS hm8 hk8 hL.2.2.2.1 hqr (fun a ha => by rw [eD4, eD1, upd2_ra ha, upd2_ra ha])), fun a ha => by rw [eD4, eD1, upd2_ra (by omega), upd2_ra (by omega)]⟩⟩ dX7_ofLoan_42
  · skip
    refine V_aload_n h 23 0 rfl dX7_ofLoan_22 rfl ?_
    refine V_iconst h 24 (v := 1) (by decide) dX7_ofLoan_23 rfl ?_
    refine CVI h 27 (As := [.int 1]) (q_no hmS 1) rfl hmS qL_X7_31 qI_X7_no qS_X7_no qZ_X7 qC_X7_no hd_X7_no ⟨Nat.le_of_ble_eq_true rfl, Nat.le_of_ble_eq_true rfl⟩ (Nat.le_of_ble_eq_true rfl) rfl rfl dX7_ofLoan_24 (Nat.zero_le _) (Nat.zero_le _) (fun r5 D5 hq5 => ?_)
    obtain ⟨eD5, erD5⟩ := hq5
    rw [erD5]
    exact V_iret h rfl hQ (Nat.zero_le _) (Nat.zero_le _) ⟨rfl, rfl, rfl, rfl, _, rfl, ⟨rO1 (wI_0 c19) (by rw [eD5, upd2_eq]) (rSim_q hS hm8 hk8 hL.2.2.2.1 hqr (fun a ha => by rw [eD5, eD1, upd2_ra ha, upd2_ra ha])), fun a ha => by rw [eD5, eD1, upd2_ra (by omega), upd2_ra (by omega)]⟩⟩ dX7_ofLoan_27

set_option maxRecDepth 100000 in
set_option maxHeartbeats 4000000 in
theorem q_ofSale {κ : mKp} {n : Nat} {sh : mSh} {P : mPt} {D : mDt} {E : mEt} {q r : Nat} {lo : Nat → Nat} (hmS : sh q = some (.inl 7)) (hmP : P q 1 = some r) (hqr : q < r) (hL : rLay r lo sh P) {o L e m k : Nat} {ρ : Nat → Nat} {V : mDt} {t1 t2 t3 : Int32} (hS : rSim o L e ρ m k V r lo t1 t2 t3 D) (hI : cI o L e ρ m k V) (x w : Int32) : mFnI κ yX7_ofSale cX7_ofSale 3 (Option.some Jvm.ClassFile.FieldType.int) 1 22 [.ref q, .int x, .int w] n sh P D E (fun ans D' => rOut 2 3 (wP x 0 (nI k - 1)) (wP w 0 2) True (D' q 0) ((∃ i j, i < k ∧ j ≤ 2 ∧ x = nI i ∧ w = nI j ∧ ans = V (o + 19) (i * 4 + j)) ∧ rSim o L e ρ m k V r lo t1 t2 t3 D') (rSim o L e ρ m k V r lo t1 t2 t3 D') ∧ ∀ a, (a < q ∨ r + 32 ≤ a) → D' a = D a) := by
  refine mMet_of (by decide) (Nat.le_of_ble_eq_true rfl) ?_
  intro Γ Q hQ h hin
  have h : mOk Γ κ RX7 cX7_ofSale 3 (Option.some Jvm.ClassFile.FieldType.int) { frames := 1, cells := 0, slots := 0, locals := 22 } := h
  have hW := hI.1
  have hinj := hI.2.2.2.2.1
  have hρ : ∀ p, p < L → ρ p < 10 := fun p hp => (hW.1.2.2 p hp).1
  have hL10 := hW.1.2.1
  have hm8 := hW.2.2.2.1.1
  have hk8 := hW.2.2.2.2.2.1
  show mV Γ Q 0 0 n sh P D E [(0, .ref q), (1, .int x), (2, .int w)] [] 0
  refine V_aload_n h 1 0 rfl dX7_ofSale_0 rfl ?_
  refine V_iconst h 2 (v := 0) (by decide) dX7_ofSale_1 rfl ?_
  refine p_X7_16 h 5 hmS dX7_ofSale_2 rfl ?_
  obtain ⟨D1, eD1⟩ : ∃ zz, zz = upd2 D q 0 0 := ⟨_, rfl⟩
  rw [← eD1]
  have hS1 := rSim_q (D' := D1) hS hm8 hk8 hL.2.2.2.1 hqr (fun a ha => by rw [eD1, upd2_ra ha])
  refine V_iload_n h 6 1 rfl dX7_ofSale_5 rfl ?_
  refine V_iconst h 7 (v := 0) (by decide) dX7_ofSale_6 rfl ?_
  refine V_aload_n h 8 0 rfl dX7_ofSale_7 rfl ?_
  refine g_X7_10 h 11 (b := r) hmS hmP dX7_ofSale_8 rfl ?_
  refine g_X7_76 h 14 (R_s0 hL) dX7_ofSale_11 rfl ?_
  refine V_top (y := nI k) (by rw [eD1, upd2_nk (by decide)]; exact hS.2.2.2.2.1.2.2.2.1) ?_
  refine V_iconst h 15 (v := 1) (by decide) dX7_ofSale_14 rfl ?_
  refine V_isub h 16 dX7_ofSale_15 rfl ?_
  refine CSI h 19 (As := [.int x, .int 0, .int ((nI k) - 1)]) (q_in x 0 ((nI k) - 1)) qL_X7_23 qT_X7_in qZ_X7 qC_X7_in hd_X7_in ⟨Nat.le_of_ble_eq_true rfl, Nat.le_of_ble_eq_true rfl⟩ (Nat.le_of_ble_eq_true rfl) rfl rfl dX7_ofSale_16 (Nat.zero_le _) (Nat.zero_le _) (fun r2 D2 hq2 => ?_)
  rw [hq2.1, hq2.2]
  refine V_if_ne h 28 22 dX7_ofSale_19 (by decide) rfl (fun c19 => ?_) (fun c19 => ?_)
  · skip
    refine V_iload_n h 29 2 rfl dX7_ofSale_28 rfl ?_
    refine V_iconst h 30 (v := 0) (by decide) dX7_ofSale_29 rfl ?_
    refine V_iconst h 31 (v := 2) (by decide) dX7_ofSale_30 rfl ?_
    refine CSI h 34 (As := [.int w, .int 0, .int 2]) (q_in w 0 2) qL_X7_23 qT_X7_in qZ_X7 qC_X7_in hd_X7_in ⟨Nat.le_of_ble_eq_true rfl, Nat.le_of_ble_eq_true rfl⟩ (Nat.le_of_ble_eq_true rfl) rfl rfl dX7_ofSale_31 (Nat.zero_le _) (Nat.zero_le _) (fun r3 D3 hq3 => ?_)
    rw [hq3.1, hq3.2]
    refine V_if_ne h 43 37 dX7_ofSale_34 (by decide) rfl (fun c34 => ?_) (fun c34 => ?_)
    · skip
      obtain ⟨i, hi, ei⟩ := wP_E (wI_1 c19) (by omega)
      obtain ⟨j, -, hj, ej⟩ := wP_N (a := 0) (b := 2) (wI_1 c34) (by decide) (by decide)
      have G1 := wI_1 c19
      have G2 := wI_1 c34
      subst ei
      subst ej
      refine V_aload_n h 44 0 rfl dX7_ofSale_43 rfl ?_
      refine g_X7_10 h 47 (b := r) hmS hmP dX7_ofSale_44 rfl ?_
      refine g_X7_79 h 50 (b := r + 22) (R_s0 hL) (R_p3 hL) dX7_ofSale_47 rfl ?_
      refine V_iload_n h 51 1 rfl dX7_ofSale_50 rfl ?_
      refine V_aald h 52 (b := r + 23 + i) i (Or.inr rfl) (R_s22 hL) rfl (by omega) (by decide) (R_ps hL (by omega)) dX7_ofSale_51 rfl ?_
      refine V_iload_n h 53 2 rfl dX7_ofSale_52 rfl ?_
      refine V_iald h 54 j (R_ss hL (by omega)) rfl (by omega) (by decide) dX7_ofSale_53 rfl ?_
      refine V_top (y := V (o + 19) (i * 4 + j)) (by rw [eD1, upd2_na (by omega)]; exact (hS.2.2.2.1 i hi j (by omega))) ?_
      exact V_iret h rfl hQ (Nat.zero_le _) (Nat.zero_le _) ⟨rfl, rfl, rfl, rfl, _, rfl, ⟨rO4 (wI_1 c19) (wI_1 c34) trivial (by rw [eD1, upd2_eq]) (⟨⟨i, j, hi, hj, rfl, rfl, rfl⟩, hS1⟩), fun a ha => by rw [eD1, upd2_ra (by omega)]⟩⟩ dX7_ofSale_54
    · skip
      refine V_aload_n h 38 0 rfl dX7_ofSale_37 rfl ?_
      refine V_iconst h 39 (v := 2) (by decide) dX7_ofSale_38 rfl ?_
      refine CVI h 42 (As := [.int 2]) (q_no hmS 2) rfl hmS qL_X7_31 qI_X7_no qS_X7_no qZ_X7 qC_X7_no hd_X7_no ⟨Nat.le_of_ble_eq_true rfl, Nat.le_of_ble_eq_true rfl⟩ (Nat.le_of_ble_eq_true rfl) rfl rfl dX7_ofSale_39 (Nat.zero_le _) (Nat.zero_le _) (fun r4 D4 hq4 => ?_)
      obtain ⟨eD4, erD4⟩ := hq4
      rw [erD4]
      exact V_iret h rfl hQ (Nat.zero_le _) (Nat.zero_le _) ⟨rfl, rfl, rfl, rfl, _, rfl, ⟨rO2 (wI_1 c19) (wI_0 c34) (by rw [eD4, upd2_eq]) (rSim_q hS hm8 hk8 hL.2.2.2.1 hqr (fun a ha => by rw [eD4, eD1, upd2_ra ha, upd2_ra ha])), fun a ha => by rw [eD4, eD1, upd2_ra (by omega), upd2_ra (by omega)]⟩⟩ dX7_ofSale_42
  · skip
    refine V_aload_n h 23 0 rfl dX7_ofSale_22 rfl ?_
    refine V_iconst h 24 (v := 1) (by decide) dX7_ofSale_23 rfl ?_
    refine CVI h 27 (As := [.int 1]) (q_no hmS 1) rfl hmS qL_X7_31 qI_X7_no qS_X7_no qZ_X7 qC_X7_no hd_X7_no ⟨Nat.le_of_ble_eq_true rfl, Nat.le_of_ble_eq_true rfl⟩ (Nat.le_of_ble_eq_true rfl) rfl rfl dX7_ofSale_24 (Nat.zero_le _) (Nat.zero_le _) (fun r5 D5 hq5 => ?_)
    obtain ⟨eD5, erD5⟩ := hq5
    rw [erD5]
    exact V_iret h rfl hQ (Nat.zero_le _) (Nat.zero_le _) ⟨rfl, rfl, rfl, rfl, _, rfl, ⟨rO1 (wI_0 c19) (by rw [eD5, upd2_eq]) (rSim_q hS hm8 hk8 hL.2.2.2.1 hqr (fun a ha => by rw [eD5, eD1, upd2_ra ha, upd2_ra ha])), fun a ha => by rw [eD5, eD1, upd2_ra (by omega), upd2_ra (by omega)]⟩⟩ dX7_ofSale_27
