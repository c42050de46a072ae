/-- two memories that are the same below n -/
def agr (n : Nat) (sh : mSh) (P : mPt) (D : mDt) (sh' : mSh) (P' : mPt) (D' : mDt) : Prop := ∀ a, a < n → sh' a = sh a ∧ P' a = P a ∧ D' a = D a
theorem agr_rfl {n : Nat} {sh : mSh} {P : mPt} {D : mDt} : agr n sh P D sh P D := fun _ _ => ⟨rfl, rfl, rfl⟩
theorem agr_tr {n n2 : Nat} {sh sh2 sh3 : mSh} {P P2 P3 : mPt} {D D2 D3 : mDt} (h : agr n sh P D sh2 P2 D2) (hn : n ≤ n2) (h2 : agr n2 sh2 P2 D2 sh3 P3 D3) : agr n sh P D sh3 P3 D3 := fun a ha => by
  obtain ⟨q1, q2, q3⟩ := h a ha
  obtain ⟨p1, p2, p3⟩ := h2 a (by omega)
  exact ⟨p1.trans q1, p2.trans q2, p3.trans q3⟩
theorem agr_s {n a : Nat} {sh sh' : mSh} {P P' : mPt} {D D' : mDt} {x : Option mX} (h : agr n sh P D sh' P' D') (ha : a < n) (hx : sh a = x) : sh' a = x := by rw [(h a ha).1]; exact hx
theorem agr_p {n a k : Nat} {sh sh' : mSh} {P P' : mPt} {D D' : mDt} {x : Option Nat} (h : agr n sh P D sh' P' D') (ha : a < n) (hx : P a k = x) : P' a k = x := by rw [(h a ha).2.1]; exact hx
theorem agr_d {n a k : Nat} {sh sh' : mSh} {P P' : mPt} {D D' : mDt} {x : Int32} (h : agr n sh P D sh' P' D') (ha : a < n) (hx : D a k = x) : D' a k = x := by rw [(h a ha).2.2]; exact hx
theorem agr_L {n r : Nat} {lo : Nat → Nat} {sh sh' : mSh} {P P' : mPt} {D D' : mDt} (h : agr n sh P D sh' P' D') (hL : rLay r lo sh P) (hn : r + 32 ≤ n) : rLay r lo sh' P' := rLay_of hL (fun a _ h2 => (h a (by omega)).1) (fun a _ h2 => (h a (by omega)).2.1)
theorem agr_S {n : Nat} {sh sh' : mSh} {P P' : mPt} {D D' : mDt} (h : agr n sh P D sh' P' D') {o L e : Nat} {ρ : Nat → Nat} {m k : Nat} {V : mDt} {r : Nat} {lo : Nat → Nat} {t1 t2 t3 : Int32} (hS : rSim o L e ρ m k V r lo t1 t2 t3 D) (hm : m ≤ 8) (hk : k ≤ 8) (hlo : ∀ i, i < 8 → lo i < 8) (hn : r + 32 ≤ n) : rSim o L e ρ m k V r lo t1 t2 t3 D' := rSim_fr hS hm hk hlo (fun a h1 h2 => (h a (by omega)).2.2)
theorem agr_new {n n0 : Nat} {x : mX} {sh : mSh} {P : mPt} {D : mDt} (hn : n0 ≤ n) : agr n0 sh P D (updS sh n x) (clrP P n) (clrD D n) := fun a ha => ⟨updS_ne (by omega), clrP_ne (by omega), clrD_ne (by omega)⟩
theorem agr_D {n : Nat} {sh sh' : mSh} {P P' : mPt} {D D' D2 : mDt} (h : agr n sh P D sh' P' D') (hD : ∀ a, a < n → D2 a = D' a) : agr n sh P D sh' P' D2 := fun a ha => ⟨(h a ha).1, (h a ha).2.1, (hD a ha).trans (h a ha).2.2⟩
/-- a method that makes cells, and writes nothing of what was there -/
def gP (n : Nat) (sh : mSh) (P : mPt) (D : mDt) (E : mEt) (Φ : Int32 → Prop) : mPost := fun v n' sh' P' D' E' => n ≤ n' ∧ E' = E ∧ agr n sh P D sh' P' D' ∧ ∃ ans : Int32, v = some (.int ans) ∧ Φ ans
/-- a public method of the reference at q with its oasis at r -/
def qP (n : Nat) (sh : mSh) (P : mPt) (D : mDt) (E : mEt) (q r : Nat) (Φ : Int32 → (Nat → Nat) → mDt → Prop) : mPost := fun v n' sh' P' D' E' => n ≤ n' ∧ E' = E ∧ (∀ a, a < n → sh' a = sh a) ∧ (∀ a, a < n → a ≠ r + 13 → P' a = P a) ∧ ∃ ans : Int32, v = some (.int ans) ∧ ∃ lo', rLay r lo' sh' P' ∧ (∀ a, a < n → (a < q ∨ r + 32 ≤ a) → D' a = D a) ∧ Φ ans lo' D'
theorem arr16 {f : Nat → Int32} {n : Nat} {D D1 D2 D3 D4 D5 D6 D7 D8 D9 D10 D11 D12 D13 D14 D15 D16 : mDt} (e1 : D1 = upd2 D n 0 (f 0)) (e2 : D2 = upd2 D1 n 1 (f 1)) (e3 : D3 = upd2 D2 n 2 (f 2)) (e4 : D4 = upd2 D3 n 3 (f 3)) (e5 : D5 = upd2 D4 n 4 (f 4)) (e6 : D6 = upd2 D5 n 5 (f 5)) (e7 : D7 = upd2 D6 n 6 (f 6)) (e8 : D8 = upd2 D7 n 7 (f 7)) (e9 : D9 = upd2 D8 n 8 (f 8)) (e10 : D10 = upd2 D9 n 9 (f 9)) (e11 : D11 = upd2 D10 n 10 (f 10)) (e12 : D12 = upd2 D11 n 11 (f 11)) (e13 : D13 = upd2 D12 n 12 (f 12)) (e14 : D14 = upd2 D13 n 13 (f 13)) (e15 : D15 = upd2 D14 n 14 (f 14)) (e16 : D16 = upd2 D15 n 15 (f 15)) : (∀ w, w < 16 → D16 n w = f w) ∧ ∀ a, a ≠ n → D16 a = D a := by
  refine ⟨fun w hw => ?_, fun a ha => by rw [e16, e15, e14, e13, e12, e11, e10, e9, e8, e7, e6, e5, e4, e3, e2, e1, upd2_ra ha, upd2_ra ha, upd2_ra ha, upd2_ra ha, upd2_ra ha, upd2_ra ha, upd2_ra ha, upd2_ra ha, upd2_ra ha, upd2_ra ha, upd2_ra ha, upd2_ra ha, upd2_ra ha, upd2_ra ha, upd2_ra ha, upd2_ra ha]⟩
  rcases sw16 hw with rfl | rfl | rfl | rfl | rfl | rfl | rfl | rfl | rfl | rfl | rfl | rfl | rfl | rfl | rfl | rfl
  all_goals (rw [e16, e15, e14, e13, e12, e11, e10, e9, e8, e7, e6, e5, e4, e3, e2, e1]; simp [upd2])

set_option maxRecDepth 100000 in
set_option maxHeartbeats 4000000 in
theorem q_of {κ : mKp} {n : Nat} {sh : mSh} {P : mPt} {D : mDt} {E : mEt} {q r : Nat} {lo : Nat → Nat} (hmS : sh q = some (.inl 7)) (hmP : P q 1 = some r) (hqr : q < r) (hL : rLay r lo sh P) {o L e m k : Nat} {ρ : Nat → Nat} {V : mDt} {t1 t2 t3 : Int32} (hS : rSim o L e ρ m k V r lo t1 t2 t3 D) (hI : cI o L e ρ m k V) (hb0 : ∀ i, i < 10 → ∃ w, w ≤ 5040 ∧ V (o + 6 + i) 2 = nI w) (x w : Int32) : mFnI κ yX7_of cX7_of 3 (Option.some Jvm.ClassFile.FieldType.int) 3 69 [.ref q, .int x, .int w] n sh P D E (fun ans D' => rOut 2 3 (livP L ρ x) (wP w 0 13) True (D' q 0) ((∃ p w1, p < L ∧ x = nI (ρ p) ∧ w1 ≤ 13 ∧ w = nI w1 ∧ ans = askO o ρ p m V w1) ∧ rSim o L e ρ m k V r lo t1 t2 t3 D') (rSim o L e ρ m k V r lo t1 t2 t3 D') ∧ ∀ a, (a < q ∨ r + 32 ≤ a) → D' a = D a) := by
  refine mMet_of (by decide) (Nat.le_of_ble_eq_true rfl) ?_
  intro Γ Q hQ h hin
  have h : mOk Γ κ RX7 cX7_of 3 (Option.some Jvm.ClassFile.FieldType.int) { frames := 3, cells := 0, slots := 0, locals := 69 } := h
  have hW := hI.1
  have hinj := hI.2.2.2.2.1
  have hρ : ∀ p, p < L → ρ p < 10 := fun p hp => (hW.1.2.2 p hp).1
  have hL10 := hW.1.2.1
  have hm8 := hW.2.2.2.1.1
  have hk8 := hW.2.2.2.2.2.1
  show mV Γ Q 0 0 n sh P D E [(0, .ref q), (1, .int x), (2, .int w)] [] 0
  refine V_aload_n h 1 0 rfl dX7_of_0 rfl ?_
  refine V_iconst h 2 (v := 0) (by decide) dX7_of_1 rfl ?_
  refine p_X7_16 h 5 hmS dX7_of_2 rfl ?_
  obtain ⟨D1, eD1⟩ : ∃ zz, zz = upd2 D q 0 0 := ⟨_, rfl⟩
  rw [← eD1]
  have hS1 := rSim_q (D' := D1) hS hm8 hk8 hL.2.2.2.1 hqr (fun a ha => by rw [eD1, upd2_ra ha])
  refine V_aload_n h 6 0 rfl dX7_of_5 rfl ?_
  refine V_iload_n h 7 1 rfl dX7_of_6 rfl ?_
  refine CVI h 10 (As := [.int x]) (q_lives hmS hmP hqr hL hS1 hI x) rfl hmS qL_X7_56 qI_X7_lives qS_X7_lives qZ_X7 qC_X7_lives hd_X7_lives ⟨Nat.le_of_ble_eq_true rfl, Nat.le_of_ble_eq_true rfl⟩ (Nat.le_of_ble_eq_true rfl) rfl rfl dX7_of_7 (Nat.zero_le _) (Nat.zero_le _) (fun r2 D2 hq2 => ?_)
  rw [hq2.1]
  have hv_x := hq2.2
  refine V_if_ne h 19 13 dX7_of_10 (by decide) rfl (fun c10 => ?_) (fun c10 => ?_)
  · skip
    have hl_x := lv_y hv_x c10
    refine V_iload_n h 20 2 rfl dX7_of_19 rfl ?_
    refine V_iconst h 21 (v := 0) (by decide) dX7_of_20 rfl ?_
    refine V_bipush h 23 (v := 13) (by decide) dX7_of_21 rfl ?_
    refine CSI h 26 (As := [.int w, .int 0, .int 13]) (q_in w 0 13) qL_X7_23 qT_X7_in qZ_X7 qC_X7_in hd_X7_in ⟨Nat.le_of_ble_eq_true rfl, Nat.le_of_ble_eq_true rfl⟩ (Nat.le_of_ble_eq_true rfl) rfl rfl dX7_of_23 (Nat.zero_le _) (Nat.zero_le _) (fun r3 D3 hq3 => ?_)
    rw [hq3.1, hq3.2]
    refine V_if_ne h 35 29 dX7_of_26 (by decide) rfl (fun c26 => ?_) (fun c26 => ?_)
    · skip
      have hl_x2 := hl_x
      obtain ⟨p, hp, ex⟩ := hl_x2
      have hp10 := hρ p hp
      have G2 := wI_1 c26
      obtain ⟨w1, -, hw1, ew⟩ := wP_N (a := 0) (b := 13) G2 (by decide) (by decide)
      subst ex
      subst ew
      refine V_aload_n h 36 0 rfl dX7_of_35 rfl ?_
      refine V_iload_n h 37 1 rfl dX7_of_36 rfl ?_
      refine V_iload_n h 38 2 rfl dX7_of_37 rfl ?_
      refine CVI h 41 (As := [.int (nI (ρ p)), .int (nI w1)]) (q_ownerNow hmS hmP hqr hL hS1 hI hb0 hp (w := w1) (by omega)) rfl hmS qL_X7_118 qI_X7_ownerNow qS_X7_ownerNow qZ_X7 qC_X7_ownerNow hd_X7_ownerNow ⟨Nat.le_of_ble_eq_true rfl, Nat.le_of_ble_eq_true rfl⟩ (Nat.le_of_ble_eq_true rfl) rfl rfl dX7_of_38 (Nat.zero_le _) (Nat.zero_le _) (fun r4 D4 hq4 => ?_)
      rw [hq4.1, hq4.2]
      exact V_iret h rfl hQ (Nat.zero_le _) (Nat.zero_le _) ⟨rfl, rfl, rfl, rfl, _, rfl, ⟨rO4 hl_x G2 trivial (by rw [eD1, upd2_eq]) (⟨⟨p, w1, hp, rfl, hw1, rfl, rfl⟩, hS1⟩), fun a ha => by rw [eD1, upd2_ra (by omega)]⟩⟩ dX7_of_41
    · skip
      refine V_aload_n h 30 0 rfl dX7_of_29 rfl ?_
      refine V_iconst h 31 (v := 2) (by decide) dX7_of_30 rfl ?_
      refine CVI h 34 (As := [.int 2]) (q_no hmS 2) rfl hmS qL_X7_31 qI_X7_no qS_X7_no qZ_X7 qC_X7_no hd_X7_no ⟨Nat.le_of_ble_eq_true rfl, Nat.le_of_ble_eq_true rfl⟩ (Nat.le_of_ble_eq_true rfl) rfl rfl dX7_of_31 (Nat.zero_le _) (Nat.zero_le _) (fun r5 D5 hq5 => ?_)
      obtain ⟨eD5, erD5⟩ := hq5
      rw [erD5]
      exact V_iret h rfl hQ (Nat.zero_le _) (Nat.zero_le _) ⟨rfl, rfl, rfl, rfl, _, rfl, ⟨rO2 hl_x (wI_0 c26) (by rw [eD5, upd2_eq]) (rSim_q hS hm8 hk8 hL.2.2.2.1 hqr (fun a ha => by rw [eD5, eD1, upd2_ra ha, upd2_ra ha])), fun a ha => by rw [eD5, eD1, upd2_ra (by omega), upd2_ra (by omega)]⟩⟩ dX7_of_34
  · skip
    have nl_x := lv_n hv_x c10
    refine V_aload_n h 14 0 rfl dX7_of_13 rfl ?_
    refine V_iconst h 15 (v := 1) (by decide) dX7_of_14 rfl ?_
    refine CVI h 18 (As := [.int 1]) (q_no hmS 1) rfl hmS qL_X7_31 qI_X7_no qS_X7_no qZ_X7 qC_X7_no hd_X7_no ⟨Nat.le_of_ble_eq_true rfl, Nat.le_of_ble_eq_true rfl⟩ (Nat.le_of_ble_eq_true rfl) rfl rfl dX7_of_15 (Nat.zero_le _) (Nat.zero_le _) (fun r6 D6 hq6 => ?_)
    obtain ⟨eD6, erD6⟩ := hq6
    rw [erD6]
    exact V_iret h rfl hQ (Nat.zero_le _) (Nat.zero_le _) ⟨rfl, rfl, rfl, rfl, _, rfl, ⟨rO1 nl_x (by rw [eD6, upd2_eq]) (rSim_q hS hm8 hk8 hL.2.2.2.1 hqr (fun a ha => by rw [eD6, eD1, upd2_ra ha, upd2_ra ha])), fun a ha => by rw [eD6, eD1, upd2_ra (by omega), upd2_ra (by omega)]⟩⟩ dX7_of_18

theorem tm_y {r : Int32} {p : Prop} (h : (r = 1 ∧ p) ∨ (r = 0 ∧ ¬ p)) (c : ¬ r = 0) : p := lv_y h c
theorem tm_n {r : Int32} {p : Prop} (h : (r = 1 ∧ p) ∨ (r = 0 ∧ ¬ p)) (c : r = 0) : ¬ p := lv_n h c

set_option maxRecDepth 100000 in
set_option maxHeartbeats 4000000 in
theorem q_pass {κ : mKp} {n : Nat} {sh : mSh} {P : mPt} {D : mDt} {E : mEt} {q r : Nat} {lo : Nat → Nat} (hmS : sh q = some (.inl 7)) (hmP : P q 1 = some r) (hqr : q < r) (hL : rLay r lo sh P) {o L e m k : Nat} {ρ : Nat → Nat} {V : mDt} {t1 t2 t3 : Int32} (hS : rSim o L e ρ m k V r lo t1 t2 t3 D) (hI : cI o L e ρ m k V) {dd : Nat} (hG : gX o L ρ m k V dd) (hdd : dd < 2 ^ 29) (x w : Int32) : mMet κ yX7_pass cX7_pass 3 (Option.some Jvm.ClassFile.FieldType.int) { frames := 5, cells := 0, slots := 0, locals := 119 } [.ref q, .int x, .int w] n sh P D E (qP n sh P D E q r (fun ans lo' D' => rOut 1 2 True (wP x 0 99 ∧ wP w 1 70) (V o 4 + w ≤ 2000) (D' q 0) (∃ d, 1 ≤ d ∧ d ≤ 70 ∧ w = nI d ∧ ans = daysS o ρ L x (V, m, k) d ∧ rSim o L e ρ (daysD o ρ L x (V, m, k) d).2.1 (daysD o ρ L x (V, m, k) d).2.2 (daysD o ρ L x (V, m, k) d).1 r lo' t1 t2 t3 D') (rSim o L e ρ m k V r lo' t1 t2 t3 D'))) := by
  refine mMet_of (by decide) (Nat.le_of_ble_eq_true rfl) ?_
  intro Γ Q hQ h hin
  have h : mOk Γ κ RX7 cX7_pass 3 (Option.some Jvm.ClassFile.FieldType.int) { frames := 5, cells := 0, slots := 0, locals := 119 } := h
  have hW := hI.1
  have hinj := hI.2.2.2.2.1
  have hρ : ∀ p, p < L → ρ p < 10 := fun p hp => (hW.1.2.2 p hp).1
  have hL10 := hW.1.2.1
  have hm8 := hW.2.2.2.1.1
  have hk8 := hW.2.2.2.2.2.1
  show mV Γ Q 0 0 n sh P D E [(0, .ref q), (1, .int x), (2, .int w)] [] 0
  refine V_aload_n h 1 0 rfl dX7_pass_0 rfl ?_
  refine V_iconst h 2 (v := 0) (by decide) dX7_pass_1 rfl ?_
  refine p_X7_16 h 5 hmS dX7_pass_2 rfl ?_
  obtain ⟨D1, eD1⟩ : ∃ zz, zz = upd2 D q 0 0 := ⟨_, rfl⟩
  rw [← eD1]
  have hS1 := rSim_q (D' := D1) hS hm8 hk8 hL.2.2.2.1 hqr (fun a ha => by rw [eD1, upd2_ra ha])
  refine V_iload_n h 6 1 rfl dX7_pass_5 rfl ?_
  refine V_iload_n h 7 2 rfl dX7_pass_6 rfl ?_
  refine V_bipush h 9 (v := 70) (by decide) dX7_pass_7 rfl ?_
  refine CSI h 12 (As := [.int x, .int w, .int 70]) (q_isTime x w 70) qL_X7_106 qT_X7_isTime qZ_X7 qC_X7_isTime hd_X7_isTime ⟨Nat.le_of_ble_eq_true rfl, Nat.le_of_ble_eq_true rfl⟩ (Nat.le_of_ble_eq_true rfl) rfl rfl dX7_pass_9 (Nat.le_of_ble_eq_true rfl) (Nat.le_of_ble_eq_true rfl) (fun r2 D2 hq2 => ?_)
  rw [hq2.1]
  have hv_t := hq2.2
  refine V_if_ne h 21 15 dX7_pass_12 (by decide) rfl (fun c12 => ?_) (fun c12 => ?_)
  · skip
    refine V_aload_n h 22 0 rfl dX7_pass_21 rfl ?_
    refine g_X7_10 h 25 (b := r) hmS hmP dX7_pass_22 rfl ?_
    refine g_X7_99 h 28 (R_s0 hL) dX7_pass_25 rfl ?_
    refine V_top (y := V o 4) (by rw [eD1, upd2_nk (by decide)]; exact hS.2.2.2.2.1.2.2.2.2.1) ?_
    refine V_iload_n h 29 2 rfl dX7_pass_28 rfl ?_
    refine V_iadd h 30 dX7_pass_29 rfl ?_
    refine V_sipush h 33 (v := 2000) (by decide) dX7_pass_30 rfl ?_
    refine V_icmp_le h 42 36 dX7_pass_33 (by decide) rfl (fun c33 => ?_) (fun c33 => ?_)
    · skip
      have G2 := tm_y hv_t c12
      have hw2 := G2.2
      obtain ⟨d, hd1, hd2, ew⟩ := wP_N (a := 1) (b := 70) hw2 (by decide) (by decide)
      subst ew
      refine V_aload_n h 43 0 rfl dX7_pass_42 rfl ?_
      refine g_X7_10 h 46 (b := r) hmS hmP dX7_pass_43 rfl ?_
      refine V_iload_n h 47 1 rfl dX7_pass_46 rfl ?_
      refine V_iload_n h 48 2 rfl dX7_pass_47 rfl ?_
      refine V_callV h 51 (rm := { frames := 4, cells := 0, slots := 0, locals := 95 }) (As := [.int x, .int (nI d)]) (r_run hL hS1 (dd := dd) hG (by omega) x (dn := d) (by omega)) rfl (R_s0 hL) qL_X7_109 qI_X6_run qS_X6_run qZ_X6 qC_X6_run hd_X6_run ⟨Nat.le_of_ble_eq_true rfl, Nat.le_of_ble_eq_true rfl⟩ (Nat.le_of_ble_eq_true rfl) rfl rfl dX7_pass_48 ⟨(Nat.le_of_ble_eq_true rfl), (Nat.le_of_ble_eq_true rfl)⟩ (fun v3 n3 S3 P3 D3 E3 hq3 => ?_)
      obtain ⟨q1, q2, q4, an3, q5, ea3, lo2, hL2, hP2, hSG, hFG⟩ := hq3
      subst q5
      subst q4
      rw [q1, q2]
      exact V_iret h rfl hQ (Nat.le_of_ble_eq_true rfl) (Nat.le_of_ble_eq_true rfl) ⟨Nat.le_refl _, rfl, fun _ _ => rfl, fun a _ ha => hP2 a ha, _, rfl, lo2, hL2, fun a _ ha => by rw [hFG a (by omega), eD1, upd2_ra (by omega)], rO4 trivial G2 c33 (by rw [hFG q (by omega), eD1, upd2_eq]) ⟨d, hd1, hd2, rfl, ea3, hSG⟩⟩ dX7_pass_51
    · skip
      refine V_aload_n h 37 0 rfl dX7_pass_36 rfl ?_
      refine V_iconst h 38 (v := 2) (by decide) dX7_pass_37 rfl ?_
      refine CVI h 41 (As := [.int 2]) (q_no hmS 2) rfl hmS qL_X7_31 qI_X7_no qS_X7_no qZ_X7 qC_X7_no hd_X7_no ⟨Nat.le_of_ble_eq_true rfl, Nat.le_of_ble_eq_true rfl⟩ (Nat.le_of_ble_eq_true rfl) rfl rfl dX7_pass_38 (Nat.le_of_ble_eq_true rfl) (Nat.le_of_ble_eq_true rfl) (fun r4 D4 hq4 => ?_)
      obtain ⟨eD4, erD4⟩ := hq4
      rw [erD4]
      exact V_iret h rfl hQ (Nat.le_of_ble_eq_true rfl) (Nat.le_of_ble_eq_true rfl) ⟨Nat.le_refl _, rfl, fun _ _ => rfl, fun _ _ _ => rfl, _, rfl, lo, hL, fun a _ ha => by rw [eD4, eD1, upd2_ra (by omega), upd2_ra (by omega)], rO3 trivial (tm_y hv_t c12) c33 (by rw [eD4, upd2_eq]) (rSim_q hS hm8 hk8 hL.2.2.2.1 hqr (fun a ha => by rw [eD4, eD1, upd2_ra ha, upd2_ra ha]))⟩ dX7_pass_41
  · skip
    refine V_aload_n h 16 0 rfl dX7_pass_15 rfl ?_
    refine V_iconst h 17 (v := 1) (by decide) dX7_pass_16 rfl ?_
    refine CVI h 20 (As := [.int 1]) (q_no hmS 1) rfl hmS qL_X7_31 qI_X7_no qS_X7_no qZ_X7 qC_X7_no hd_X7_no ⟨Nat.le_of_ble_eq_true rfl, Nat.le_of_ble_eq_true rfl⟩ (Nat.le_of_ble_eq_true rfl) rfl rfl dX7_pass_17 (Nat.le_of_ble_eq_true rfl) (Nat.le_of_ble_eq_true rfl) (fun r5 D5 hq5 => ?_)
    obtain ⟨eD5, erD5⟩ := hq5
    rw [erD5]
    exact V_iret h rfl hQ (Nat.le_of_ble_eq_true rfl) (Nat.le_of_ble_eq_true rfl) ⟨Nat.le_refl _, rfl, fun _ _ => rfl, fun _ _ _ => rfl, _, rfl, lo, hL, fun a _ ha => by rw [eD5, eD1, upd2_ra (by omega), upd2_ra (by omega)], rO2 trivial (tm_n hv_t c12) (by rw [eD5, upd2_eq]) (rSim_q hS hm8 hk8 hL.2.2.2.1 hqr (fun a ha => by rw [eD5, eD1, upd2_ra ha, upd2_ra ha]))⟩ dX7_pass_20

set_option maxRecDepth 100000 in
set_option maxHeartbeats 4000000 in
theorem q_manyNow {κ : mKp} {n : Nat} {sh : mSh} {P : mPt} {D : mDt} {E : mEt} {q r : Nat} {lo : Nat → Nat} (hmS : sh q = some (.inl 7)) (hmP : P q 1 = some r) (hqr : q < r) (hL : rLay r lo sh P) {o L e m k : Nat} {ρ : Nat → Nat} {V : mDt} (hS : rSim o L e ρ m k V r lo 0 0 0 D) (hI : cI o L e ρ m k V) (hrn : r + 32 ≤ n) {w : Nat} (hw : w < 16) : mMet κ yX7_manyNow cX7_manyNow 4 (Option.some Jvm.ClassFile.FieldType.int) { frames := 2, cells := 1, slots := 16, locals := 41 } [.ref q, .int (nI w)] n sh P D E (gP n sh P D E (fun ans => ans = askA o L ρ V w)) := by
  refine mMet_of (by decide) (Nat.le_of_ble_eq_true rfl) ?_
  intro Γ Q hQ h hin
  have h : mOk Γ κ RX7 cX7_manyNow 4 (Option.some Jvm.ClassFile.FieldType.int) { frames := 2, cells := 1, slots := 16, locals := 41 } := h
  have hW := hI.1
  have hinj := hI.2.2.2.2.1
  have hρ : ∀ p, p < L → ρ p < 10 := fun p hp => (hW.1.2.2 p hp).1
  have hL10 := hW.1.2.1
  have hm8 := hW.2.2.2.1.1
  have hk8 := hW.2.2.2.2.2.1
  show mV Γ Q 0 0 n sh P D E [(0, .ref q), (1, .int (nI w))] [] 0
  refine V_iconst h 1 (v := 0) (by decide) dX7_manyNow_0 rfl ?_
  refine V_istore_n h 2 [(2, .int 0), (0, .ref q), (1, .int (nI w))] (by decide) rfl dX7_manyNow_1 rfl ?_
  refine V_iconst h 3 (v := 0) (by decide) dX7_manyNow_2 rfl ?_
  refine V_istore_n h 4 [(3, .int 0), (2, .int 0), (0, .ref q), (1, .int (nI w))] (by decide) rfl dX7_manyNow_3 rfl ?_
  have LP4 : ∀ (kk : Nat) (i : Nat) (x1 x2 : Int32), (i ≤ L) → (x1 = rsum (fun p => V (o + 6 + ρ p) 3) i) → (x2 = nI i) → L - i < kk → mV Γ Q 0 0 n sh P D E [(0, .ref q), (1, .int (nI w)), (2, .int x1), (3, .int x2)] [] 4 := by
    intro kk
    induction kk with
    | zero =>
      intro i x1 x2 _ _ _ hms
      exact absurd hms (Nat.not_lt_zero _)
    | succ kk ih =>
      intro i x1 x2 hi e1 e2 hms
      subst e2
      refine V_iload_n h 5 3 rfl dX7_manyNow_4 rfl ?_
      refine V_aload_n h 6 0 rfl dX7_manyNow_5 rfl ?_
      refine g_X7_10 h 9 (b := r) hmS hmP dX7_manyNow_6 rfl ?_
      refine g_X7_53 h 12 (R_s0 hL) dX7_manyNow_9 rfl ?_
      refine V_top (y := nI L) (hS.2.2.2.2.1.2.1) ?_
      refine V_icmp_ge h 39 15 dX7_manyNow_12 (by decide) rfl (fun c12 => ?_) (fun c12 => ?_)
      · skip
        have hex : i = L := by have := mGe c12 (by omega) (by omega); omega
        rw [hex] at e1
        subst e1
        refine V_bipush h 41 (v := 16) (by decide) dX7_manyNow_39 rfl ?_
        refine V_newI h 43 (n + 1) 1 16 (len := 16) qarrayClass_170 rfl (by decide) (Nat.le_of_ble_eq_true rfl) (Nat.le_of_ble_eq_true rfl) dX7_manyNow_41 rfl (by first | omega | dsimp only | (dsimp only; omega)) (by first | omega | dsimp only | (dsimp only; omega)) (by first | omega | dsimp only | (dsimp only; omega)) ?_
        obtain ⟨S1, eS1⟩ : ∃ zz, zz = updS sh n (.inr (0, 16)) := ⟨_, rfl⟩
        rw [← eS1]
        obtain ⟨P1, eP1⟩ : ∃ zz, zz = clrP P n := ⟨_, rfl⟩
        rw [← eP1]
        obtain ⟨D1, eD1⟩ : ∃ zz, zz = clrD D n := ⟨_, rfl⟩
        rw [← eD1]
        have fn2 : S1 n = some (.inr (0, 16)) := by rw [eS1]; exact updS_eq
        have hA : agr n sh P D S1 P1 D1 := by rw [eS1, eP1, eD1]; exact agr_new (Nat.le_refl _)
        have hmSA := agr_s hA (show q < n by omega) hmS
        have hmPA := agr_p hA (show q < n by omega) hmP
        have hLA := agr_L hA hL hrn
        have hSA := agr_S hA hS hm8 hk8 hL.2.2.2.1 hrn
        refine V_dup h 44 rfl dX7_manyNow_43 rfl ?_
        refine V_iconst h 45 (v := 0) (by decide) dX7_manyNow_44 rfl ?_
        refine V_aload_n h 46 0 rfl dX7_manyNow_45 rfl ?_
        refine g_X7_10 h 49 (b := r) hmSA hmPA dX7_manyNow_46 rfl ?_
        refine g_X7_99 h 52 (R_s0 hLA) dX7_manyNow_49 rfl ?_
        refine V_top (y := V o 4) (hSA.2.2.2.2.1.2.2.2.2.1) ?_
        refine V_iast h 53 0 fn2 (by decide) (by decide) (by decide) dX7_manyNow_52 rfl ?_
        obtain ⟨D3, eD3⟩ : ∃ zz, zz = upd2 D1 n 0 (V o 4) := ⟨_, rfl⟩
        rw [← eD3]
        refine V_dup h 54 rfl dX7_manyNow_53 rfl ?_
        refine V_iconst h 55 (v := 1) (by decide) dX7_manyNow_54 rfl ?_
        refine V_aload_n h 56 0 rfl dX7_manyNow_55 rfl ?_
        refine g_X7_10 h 59 (b := r) hmSA hmPA dX7_manyNow_56 rfl ?_
        refine g_X7_99 h 62 (R_s0 hLA) dX7_manyNow_59 rfl ?_
        refine V_top (y := V o 4) (by rw [eD3, upd2_nk (by decide)]; exact (hSA.2.2.2.2.1.2.2.2.2.1)) ?_
        refine V_bipush h 64 (v := 70) (by decide) dX7_manyNow_62 rfl ?_
        refine V_irem h 65 (by decide) dX7_manyNow_64 rfl ?_
        refine V_iast h 66 1 fn2 (by decide) (by decide) (by decide) dX7_manyNow_65 rfl ?_
        obtain ⟨D4, eD4⟩ : ∃ zz, zz = upd2 D3 n 1 ((V o 4) - (V o 4) / 70 * 70) := ⟨_, rfl⟩
        rw [← eD4]
        refine V_dup h 67 rfl dX7_manyNow_66 rfl ?_
        refine V_iconst h 68 (v := 2) (by decide) dX7_manyNow_67 rfl ?_
        refine V_aload_n h 69 0 rfl dX7_manyNow_68 rfl ?_
        refine g_X7_10 h 72 (b := r) hmSA hmPA dX7_manyNow_69 rfl ?_
        refine g_X7_127 h 75 (R_s0 hLA) dX7_manyNow_72 rfl ?_
        refine V_top (y := V (o + 1) 0) (by rw [eD4, upd2_nk (by decide), eD3, upd2_nk (by decide)]; exact (hSA.2.2.2.2.1.2.2.2.2.2.1)) ?_
        refine V_iast h 76 2 fn2 (by decide) (by decide) (by decide) dX7_manyNow_75 rfl ?_
        obtain ⟨D5, eD5⟩ : ∃ zz, zz = upd2 D4 n 2 (V (o + 1) 0) := ⟨_, rfl⟩
        rw [← eD5]
        refine V_dup h 77 rfl dX7_manyNow_76 rfl ?_
        refine V_iconst h 78 (v := 3) (by decide) dX7_manyNow_77 rfl ?_
        refine V_aload_n h 79 0 rfl dX7_manyNow_78 rfl ?_
        refine g_X7_10 h 82 (b := r) hmSA hmPA dX7_manyNow_79 rfl ?_
        refine CVI h 85 (As := []) (r_flow hLA (rSim_fr hSA hm8 hk8 hL.2.2.2.1 (fun a h1 h2 => by rw [eD5, eD4, eD3, upd2_ra (by omega), upd2_ra (by omega), upd2_ra (by omega)])) hW) rfl (R_s0 hLA) qL_X7_130 qI_X6_flow qS_X6_flow qZ_X6 qC_X6_flow hd_X6_flow ⟨Nat.le_of_ble_eq_true rfl, Nat.le_of_ble_eq_true rfl⟩ (Nat.le_of_ble_eq_true rfl) rfl rfl dX7_manyNow_82 (Nat.le_of_ble_eq_true rfl) (Nat.le_of_ble_eq_true rfl) (fun r6 D6 hq6 => ?_)
        rw [hq6.1, hq6.2]
        refine V_iast h 86 3 fn2 (by decide) (by decide) (by decide) dX7_manyNow_85 rfl ?_
        obtain ⟨D7, eD7⟩ : ∃ zz, zz = upd2 D5 n 3 (chFlow (V (o + 1))) := ⟨_, rfl⟩
        rw [← eD7]
        refine V_dup h 87 rfl dX7_manyNow_86 rfl ?_
        refine V_iconst h 88 (v := 4) (by decide) dX7_manyNow_87 rfl ?_
        refine V_aload_n h 89 0 rfl dX7_manyNow_88 rfl ?_
        refine g_X7_10 h 92 (b := r) hmSA hmPA dX7_manyNow_89 rfl ?_
        refine g_X7_82 h 95 (R_s0 hLA) dX7_manyNow_92 rfl ?_
        refine V_top (y := V (o + 1) 1) (by rw [eD7, upd2_nk (by decide), eD5, upd2_nk (by decide), eD4, upd2_nk (by decide), eD3, upd2_nk (by decide)]; exact (hSA.2.2.2.2.1.2.2.2.2.2.2.1)) ?_
        refine V_iast h 96 4 fn2 (by decide) (by decide) (by decide) dX7_manyNow_95 rfl ?_
        obtain ⟨D8, eD8⟩ : ∃ zz, zz = upd2 D7 n 4 (V (o + 1) 1) := ⟨_, rfl⟩
        rw [← eD8]
        refine V_dup h 97 rfl dX7_manyNow_96 rfl ?_
        refine V_iconst h 98 (v := 5) (by decide) dX7_manyNow_97 rfl ?_
        refine V_aload_n h 99 0 rfl dX7_manyNow_98 rfl ?_
        refine g_X7_10 h 102 (b := r) hmSA hmPA dX7_manyNow_99 rfl ?_
        refine g_X7_88 h 105 (R_s0 hLA) dX7_manyNow_102 rfl ?_
        refine V_top (y := V (o + 1) 2) (by rw [eD8, upd2_nk (by decide), eD7, upd2_nk (by decide), eD5, upd2_nk (by decide), eD4, upd2_nk (by decide), eD3, upd2_nk (by decide)]; exact (hSA.2.2.2.2.1.2.2.2.2.2.2.2.1)) ?_
        refine V_iast h 106 5 fn2 (by decide) (by decide) (by decide) dX7_manyNow_105 rfl ?_
        obtain ⟨D9, eD9⟩ : ∃ zz, zz = upd2 D8 n 5 (V (o + 1) 2) := ⟨_, rfl⟩
        rw [← eD9]
        refine V_dup h 107 rfl dX7_manyNow_106 rfl ?_
        refine V_bipush h 109 (v := 6) (by decide) dX7_manyNow_107 rfl ?_
        refine V_aload_n h 110 0 rfl dX7_manyNow_109 rfl ?_
        refine g_X7_10 h 113 (b := r) hmSA hmPA dX7_manyNow_110 rfl ?_
        refine g_X7_96 h 116 (R_s0 hLA) dX7_manyNow_113 rfl ?_
        refine V_top (y := V (o + 1) 3) (by rw [eD9, upd2_nk (by decide), eD8, upd2_nk (by decide), eD7, upd2_nk (by decide), eD5, upd2_nk (by decide), eD4, upd2_nk (by decide), eD3, upd2_nk (by decide)]; exact (hSA.2.2.2.2.1.2.2.2.2.2.2.2.2)) ?_
        refine V_iast h 117 6 fn2 (by decide) (by decide) (by decide) dX7_manyNow_116 rfl ?_
        obtain ⟨D10, eD10⟩ : ∃ zz, zz = upd2 D9 n 6 (V (o + 1) 3) := ⟨_, rfl⟩
        rw [← eD10]
        refine V_dup h 118 rfl dX7_manyNow_117 rfl ?_
        refine V_bipush h 120 (v := 7) (by decide) dX7_manyNow_118 rfl ?_
        refine V_aload_n h 121 0 rfl dX7_manyNow_120 rfl ?_
        refine g_X7_10 h 124 (b := r) hmSA hmPA dX7_manyNow_121 rfl ?_
        refine g_X7_53 h 127 (R_s0 hLA) dX7_manyNow_124 rfl ?_
        refine V_top (y := V (o + 2) 4) (by rw [eD10, upd2_na (by omega), eD9, upd2_nk (by decide), eD8, upd2_nk (by decide), eD7, upd2_nk (by decide), eD5, upd2_nk (by decide), eD4, upd2_nk (by decide), eD3, upd2_nk (by decide)]; exact (hSA.2.2.2.2.1.2.1.trans hW.1.1.symm)) ?_
        refine V_iast h 128 7 fn2 (by decide) (by decide) (by decide) dX7_manyNow_127 rfl ?_
        obtain ⟨D11, eD11⟩ : ∃ zz, zz = upd2 D10 n 7 (V (o + 2) 4) := ⟨_, rfl⟩
        rw [← eD11]
        refine V_dup h 129 rfl dX7_manyNow_128 rfl ?_
        refine V_bipush h 131 (v := 8) (by decide) dX7_manyNow_129 rfl ?_
        refine V_aload_n h 132 0 rfl dX7_manyNow_131 rfl ?_
        refine g_X7_10 h 135 (b := r) hmSA hmPA dX7_manyNow_132 rfl ?_
        refine g_X7_20 h 138 (R_s0 hLA) dX7_manyNow_135 rfl ?_
        refine V_top (y := V (o + 2) 3) (by rw [eD11, upd2_nk (by decide), eD10, upd2_nk (by decide), eD9, upd2_na (by omega), eD8, upd2_nk (by decide), eD7, upd2_nk (by decide), eD5, upd2_nk (by decide), eD4, upd2_nk (by decide), eD3, upd2_nk (by decide)]; exact (hSA.2.2.2.2.1.1.trans hI.2.1.symm)) ?_
        refine V_iast h 139 8 fn2 (by decide) (by decide) (by decide) dX7_manyNow_138 rfl ?_
        obtain ⟨D12, eD12⟩ : ∃ zz, zz = upd2 D11 n 8 (V (o + 2) 3) := ⟨_, rfl⟩
        rw [← eD12]
        refine V_dup h 140 rfl dX7_manyNow_139 rfl ?_
        refine V_bipush h 142 (v := 9) (by decide) dX7_manyNow_140 rfl ?_
        refine V_sipush h 145 (v := 5040) (by decide) dX7_manyNow_142 rfl ?_
        refine V_aload_n h 146 0 rfl dX7_manyNow_145 rfl ?_
        refine g_X7_10 h 149 (b := r) hmSA hmPA dX7_manyNow_146 rfl ?_
        refine CVI h 152 (As := []) (r_all hLA (rSim_fr hSA hm8 hk8 hL.2.2.2.1 (fun a h1 h2 => by rw [eD12, eD11, eD10, eD9, eD8, eD7, eD5, eD4, eD3, upd2_ra (by omega), upd2_ra (by omega), upd2_ra (by omega), upd2_ra (by omega), upd2_ra (by omega), upd2_ra (by omega), upd2_ra (by omega), upd2_ra (by omega), upd2_ra (by omega)])) hW) rfl (R_s0 hLA) qL_X7_35 qI_X6_all qS_X6_all qZ_X6 qC_X6_all hd_X6_all ⟨Nat.le_of_ble_eq_true rfl, Nat.le_of_ble_eq_true rfl⟩ (Nat.le_of_ble_eq_true rfl) rfl rfl dX7_manyNow_149 (Nat.le_of_ble_eq_true rfl) (Nat.le_of_ble_eq_true rfl) (fun r13 D13 hq13 => ?_)
        rw [hq13.1, hq13.2]
        refine V_isub h 153 dX7_manyNow_152 rfl ?_
        refine V_iast h 154 9 fn2 (by decide) (by decide) (by decide) dX7_manyNow_153 rfl ?_
        obtain ⟨D14, eD14⟩ : ∃ zz, zz = upd2 D12 n 9 (5040 - (rsum (fun p => V (o + 6 + ρ p) 2) L)) := ⟨_, rfl⟩
        rw [← eD14]
        refine V_dup h 155 rfl dX7_manyNow_154 rfl ?_
        refine V_bipush h 157 (v := 10) (by decide) dX7_manyNow_155 rfl ?_
        refine V_aload_n h 158 0 rfl dX7_manyNow_157 rfl ?_
        refine g_X7_10 h 161 (b := r) hmSA hmPA dX7_manyNow_158 rfl ?_
        refine g_X7_63 h 164 (R_s0 hLA) dX7_manyNow_161 rfl ?_
        refine V_top (y := V (o + 16) 1) (by rw [eD14, upd2_nk (by decide), eD12, upd2_nk (by decide), eD11, upd2_na (by omega), eD10, upd2_nk (by decide), eD9, upd2_nk (by decide), eD8, upd2_nk (by decide), eD7, upd2_nk (by decide), eD5, upd2_nk (by decide), eD4, upd2_nk (by decide), eD3, upd2_nk (by decide)]; exact (hSA.2.2.2.2.1.2.2.1.trans hW.2.2.1.symm)) ?_
        refine V_iast h 165 10 fn2 (by decide) (by decide) (by decide) dX7_manyNow_164 rfl ?_
        obtain ⟨D15, eD15⟩ : ∃ zz, zz = upd2 D14 n 10 (V (o + 16) 1) := ⟨_, rfl⟩
        rw [← eD15]
        refine V_dup h 166 rfl dX7_manyNow_165 rfl ?_
        refine V_bipush h 168 (v := 11) (by decide) dX7_manyNow_166 rfl ?_
        refine V_aload_n h 169 0 rfl dX7_manyNow_168 rfl ?_
        refine g_X7_10 h 172 (b := r) hmSA hmPA dX7_manyNow_169 rfl ?_
        refine g_X7_76 h 175 (R_s0 hLA) dX7_manyNow_172 rfl ?_
        refine V_top (y := V (o + 18) 1) (by rw [eD15, upd2_nk (by decide), eD14, upd2_nk (by decide), eD12, upd2_na (by omega), eD11, upd2_nk (by decide), eD10, upd2_nk (by decide), eD9, upd2_nk (by decide), eD8, upd2_nk (by decide), eD7, upd2_nk (by decide), eD5, upd2_nk (by decide), eD4, upd2_nk (by decide), eD3, upd2_nk (by decide)]; exact (hSA.2.2.2.2.1.2.2.2.1.trans hW.2.2.2.2.1.symm)) ?_
        refine V_iast h 176 11 fn2 (by decide) (by decide) (by decide) dX7_manyNow_175 rfl ?_
        obtain ⟨D16, eD16⟩ : ∃ zz, zz = upd2 D15 n 11 (V (o + 18) 1) := ⟨_, rfl⟩
        rw [← eD16]
        refine V_dup h 177 rfl dX7_manyNow_176 rfl ?_
        refine V_bipush h 179 (v := 12) (by decide) dX7_manyNow_177 rfl ?_
        refine V_aload_n h 180 0 rfl dX7_manyNow_179 rfl ?_
        refine g_X7_10 h 183 (b := r) hmSA hmPA dX7_manyNow_180 rfl ?_
        refine g_X7_133 h 186 (R_s0 hLA) dX7_manyNow_183 rfl ?_
        refine V_top (y := V o 5) (by rw [eD16, upd2_nk (by decide), eD15, upd2_nk (by decide), eD14, upd2_nk (by decide), eD12, upd2_nk (by decide), eD11, upd2_nk (by decide), eD10, upd2_nk (by decide), eD9, upd2_nk (by decide), eD8, upd2_nk (by decide), eD7, upd2_nk (by decide), eD5, upd2_nk (by decide), eD4, upd2_nk (by decide), eD3, upd2_nk (by decide)]; exact (hSA.2.2.2.2.2.1.trans (Int32.add_zero _))) ?_
        refine V_iast h 187 12 fn2 (by decide) (by decide) (by decide) dX7_manyNow_186 rfl ?_
        obtain ⟨D17, eD17⟩ : ∃ zz, zz = upd2 D16 n 12 (V o 5) := ⟨_, rfl⟩
        rw [← eD17]
        refine V_dup h 188 rfl dX7_manyNow_187 rfl ?_
        refine V_bipush h 190 (v := 13) (by decide) dX7_manyNow_188 rfl ?_
        refine V_aload_n h 191 0 rfl dX7_manyNow_190 rfl ?_
        refine g_X7_10 h 194 (b := r) hmSA hmPA dX7_manyNow_191 rfl ?_
        refine g_X7_136 h 197 (R_s0 hLA) dX7_manyNow_194 rfl ?_
        refine V_top (y := V o 6) (by rw [eD17, upd2_nk (by decide), eD16, upd2_nk (by decide), eD15, upd2_nk (by decide), eD14, upd2_nk (by decide), eD12, upd2_nk (by decide), eD11, upd2_nk (by decide), eD10, upd2_nk (by decide), eD9, upd2_nk (by decide), eD8, upd2_nk (by decide), eD7, upd2_nk (by decide), eD5, upd2_nk (by decide), eD4, upd2_nk (by decide), eD3, upd2_nk (by decide)]; exact (hSA.2.2.2.2.2.2.1.trans (Int32.add_zero _))) ?_
        refine V_iast h 198 13 fn2 (by decide) (by decide) (by decide) dX7_manyNow_197 rfl ?_
        obtain ⟨D18, eD18⟩ : ∃ zz, zz = upd2 D17 n 13 (V o 6) := ⟨_, rfl⟩
        rw [← eD18]
        refine V_dup h 199 rfl dX7_manyNow_198 rfl ?_
        refine V_bipush h 201 (v := 14) (by decide) dX7_manyNow_199 rfl ?_
        refine V_aload_n h 202 0 rfl dX7_manyNow_201 rfl ?_
        refine g_X7_10 h 205 (b := r) hmSA hmPA dX7_manyNow_202 rfl ?_
        refine g_X7_139 h 208 (R_s0 hLA) dX7_manyNow_205 rfl ?_
        refine V_top (y := V o 7) (by rw [eD18, upd2_nk (by decide), eD17, upd2_nk (by decide), eD16, upd2_nk (by decide), eD15, upd2_nk (by decide), eD14, upd2_nk (by decide), eD12, upd2_nk (by decide), eD11, upd2_nk (by decide), eD10, upd2_nk (by decide), eD9, upd2_nk (by decide), eD8, upd2_nk (by decide), eD7, upd2_nk (by decide), eD5, upd2_nk (by decide), eD4, upd2_nk (by decide), eD3, upd2_nk (by decide)]; exact (hSA.2.2.2.2.2.2.2.trans (Int32.add_zero _))) ?_
        refine V_iast h 209 14 fn2 (by decide) (by decide) (by decide) dX7_manyNow_208 rfl ?_
        obtain ⟨D19, eD19⟩ : ∃ zz, zz = upd2 D18 n 14 (V o 7) := ⟨_, rfl⟩
        rw [← eD19]
        refine V_dup h 210 rfl dX7_manyNow_209 rfl ?_
        refine V_bipush h 212 (v := 15) (by decide) dX7_manyNow_210 rfl ?_
        refine V_iload_n h 213 2 rfl dX7_manyNow_212 rfl ?_
        refine V_iast h 214 15 fn2 (by decide) (by decide) (by decide) dX7_manyNow_213 rfl ?_
        obtain ⟨D20, eD20⟩ : ∃ zz, zz = upd2 D19 n 15 (rsum (fun p => V (o + 6 + ρ p) 3) L) := ⟨_, rfl⟩
        rw [← eD20]
        refine V_astore_n h 215 [(3, .ref n), (0, .ref q), (1, .int (nI w)), (2, .int (rsum (fun p => V (o + 6 + ρ p) 3) L))] (by decide) rfl dX7_manyNow_214 rfl ?_
        refine V_aload_n h 216 0 rfl dX7_manyNow_215 rfl ?_
        refine V_iload_n h 217 2 rfl dX7_manyNow_216 rfl ?_
        refine V_iald h 218 w fn2 rfl hw (by decide) dX7_manyNow_217 rfl ?_
        exact V_iret h rfl hQ (Nat.le_of_ble_eq_true rfl) (Nat.le_of_ble_eq_true rfl) ⟨by omega, rfl, agr_D hA (fun a ha => (arr16 (f := askA o L ρ V) eD3 eD4 eD5 eD7 eD8 eD9 eD10 eD11 eD12 eD14 eD15 eD16 eD17 eD18 eD19 eD20).2 a (by omega)), _, rfl, (arr16 (f := askA o L ρ V) eD3 eD4 eD5 eD7 eD8 eD9 eD10 eD11 eD12 eD14 eD15 eD16 eD17 eD18 eD19 eD20).1 w hw⟩ dX7_manyNow_218
      · skip
        have hlt := mLt c12 (by omega)
        refine V_iload_n h 16 2 rfl dX7_manyNow_15 rfl ?_
        refine V_aload_n h 17 0 rfl dX7_manyNow_16 rfl ?_
        refine V_aload_n h 18 0 rfl dX7_manyNow_17 rfl ?_
        refine g_X7_10 h 21 (b := r) hmS hmP dX7_manyNow_18 rfl ?_
        refine g_X7_49 h 24 (b := r + 12) (R_s0 hL) (R_p1 hL) dX7_manyNow_21 rfl ?_
        refine V_iload_n h 25 3 rfl dX7_manyNow_24 rfl ?_
        refine V_iald h 26 i (R_s12 hL) rfl (by omega) (by decide) dX7_manyNow_25 rfl ?_
        refine V_top (y := nI (ρ i)) (hS.2.1 i hlt) ?_
        refine CVR h 29 (As := [.int (nI (ρ i))]) (q_at hmS hmP hL (t := (ρ i)) (hρ i hlt)) rfl hmS qL_X7_39 qI_X7_at qS_X7_at qZ_X7 qC_X7_at hd_X7_at ⟨Nat.le_of_ble_eq_true rfl, Nat.le_of_ble_eq_true rfl⟩ (Nat.le_of_ble_eq_true rfl) rfl rfl dX7_manyNow_26 (Nat.le_of_ble_eq_true rfl) (Nat.le_of_ble_eq_true rfl) (fun r21 D21 hq21 => ?_)
        rw [hq21.1, hq21.2]
        refine V_iconst h 30 (v := 1) (by decide) dX7_manyNow_29 rfl ?_
        refine V_iald h 31 1 (R_sw hL (hρ i hlt)) (by decide) (by decide) (by decide) dX7_manyNow_30 rfl ?_
        refine V_top (y := V (o + 6 + (ρ i)) 3) (hS.1 (ρ i) (hρ i hlt) 1 (by decide)) ?_
        refine V_iadd h 32 dX7_manyNow_31 rfl ?_
        refine V_istore_n h 33 [(2, .int (x1 + (V (o + 6 + (ρ i)) 3))), (0, .ref q), (1, .int (nI w)), (3, .int (nI i))] (by decide) rfl dX7_manyNow_32 rfl ?_
        refine V_iinc h 36 [(3, .int ((nI i) + 1)), (2, .int (x1 + (V (o + 6 + (ρ i)) 3))), (0, .ref q), (1, .int (nI w))] 3 rfl (by rfl) (by decide) rfl dX7_manyNow_33 rfl ?_
        refine V_goto h 4 dX7_manyNow_36 (by decide) ?_
        refine V_lsub [(0, .ref q), (1, .int (nI w)), (2, .int (x1 + (V (o + 6 + (ρ i)) 3))), (3, .int ((nI i) + 1))] [2, 3, 1, 0] rfl ?_
        exact ih (i + 1) _ _ (by omega) (by rw [rsum, ← e1]) (nI_1 i) (by omega)
  refine V_lsub [(0, .ref q), (1, .int (nI w)), (2, .int 0), (3, .int 0)] [2, 3, 1, 0] rfl ?_
  exact LP4 _ 0 _ _ (Nat.zero_le _) rfl rfl (Nat.lt_succ_self _)
