/-- what a day needs of the class's block -/
def gX (o L : Nat) (ρ : Nat → Nat) (m k : Nat) (V : mDt) (dd : Nat) : Prop := cW o L ρ m k V ∧ (∀ p q, p < q → q < L → ρ p ≠ ρ q) ∧ (∀ i, i < 10 → V (o + 6 + i) 11 = 0) ∧ (∀ i, i < m → livR L ρ (toN (V (o + 17) (i * 4 + 1)))) ∧ (∀ i, i < m → ∃ c, 1 ≤ c ∧ c < 2 ^ 31 ∧ V (o + 17) (i * 4 + 3) = nI c) ∧ (∀ i, i < 10 → ∃ p, p ≤ 100000 ∧ V (o + 6 + i) 4 = nI p) ∧ V o 4 = nI dd
theorem rSim_dayA {o L e : Nat} {ρ : Nat → Nat} {m k : Nat} {V : mDt} {r : Nat} {lo : Nat → Nat} {t1 t2 t3 x : Int32} {D D' : mDt} (h : rSim o L e ρ m k V r lo t1 t2 t3 D) (hm : m ≤ 8) (hk : k ≤ 8) (hlo : ∀ i, i < 8 → lo i < 8) (hD : ∀ a, a ≠ r → D' a = D a) (h9 : D' r 9 = V o 4 + 1) (h10 : D' r 10 = chTab (V (o + 1)) x) (h12 : D' r 12 = if rm10 (rm70 (V o 4 + 1)) = 0 then chMud (V (o + 1)) 1 else V (o + 1) 2) (h0 : ∀ j, j ≠ 9 → j ≠ 10 → j ≠ 12 → D' r j = D r j) : rSim o L e ρ m k (dayA o x V) r lo t1 t2 t3 D' := by
  have v1 : ∀ a, o + 1 < a → dayA o x V a = V a := fun a h => dayA_ra h
  have v0 : ∀ j, j ≠ 4 → dayA o x V o j = V o j := fun j hj => by rw [dayA, chDayD_ra (by omega), upd2_nk hj]
  have v4 : dayA o x V o 4 = V o 4 + 1 := by rw [dayA, chDayD_ra (by omega), upd2_eq]
  have c0 : dayA o x V (o + 1) 0 = chTab (V (o + 1)) x := by
    rw [dayA, chDayD, upd2_ra (by omega)]
    split
    · rw [upd2_eq]
    · rw [upd2_nk (by decide), upd2_eq]
  have c2 : dayA o x V (o + 1) 2 = if rm10 (rm70 (V o 4 + 1)) = 0 then chMud (V (o + 1)) 1 else V (o + 1) 2 := by
    rw [dayA, chDayD, upd2_ra (by omega), tenZ]
    by_cases q : rm10 (rm70 (V o 4 + 1)) = 0
    · rw [if_pos q, if_pos q, if_neg (by decide), upd2_eq]
    · rw [if_neg q, if_neg q, if_pos rfl, upd2_nk (by decide), upd2_ra (by omega)]
  have cj : ∀ j, j ≠ 0 → j ≠ 2 → dayA o x V (o + 1) j = V (o + 1) j := fun j j0 j2 => by
    rw [dayA, chDayD, upd2_ra (by omega)]
    split
    · rw [upd2_nk j0, upd2_ra (by omega)]
    · rw [upd2_nk j2, upd2_nk j0, upd2_ra (by omega)]
  obtain ⟨h1, h2, h3, h4, ⟨g1, g2, g3, g4, g5, g6, g7, g8, g9⟩, h6⟩ := h
  refine ⟨fun i hi j hj => ?_, fun p hp => by rw [hD _ (by omega)]; exact h2 p hp, fun i hi j hj => ?_, fun i hi j hj => ?_, ⟨?_, ?_, ?_, ?_, ?_, ?_, ?_, ?_, ?_⟩, ?_, ?_, ?_⟩
  · rw [hD _ (by omega), v1 _ (by omega)]; exact h1 i hi j hj
  · rw [hD _ (by omega), v1 _ (by omega)]; exact h3 i hi j hj
  · rw [hD _ (by omega), v1 _ (by omega)]; exact h4 i hi j hj
  · rw [h0 _ (by decide) (by decide) (by decide)]; exact g1
  · rw [h0 _ (by decide) (by decide) (by decide)]; exact g2
  · rw [h0 _ (by decide) (by decide) (by decide)]; exact g3
  · rw [h0 _ (by decide) (by decide) (by decide)]; exact g4
  · rw [h9, v4]
  · rw [h10, c0]
  · rw [h0 _ (by decide) (by decide) (by decide), cj _ (by decide) (by decide)]; exact g7
  · rw [h12, c2]
  · rw [h0 _ (by decide) (by decide) (by decide), cj _ (by decide) (by decide)]; exact g9
  · rw [h0 _ (by decide) (by decide) (by decide), v0 _ (by decide)]; exact h6.1
  · rw [h0 _ (by decide) (by decide) (by decide), v0 _ (by decide)]; exact h6.2.1
  · rw [h0 _ (by decide) (by decide) (by decide), v0 _ (by decide)]; exact h6.2.2
/-- one row goes on on both sides -/
theorem rSim_row {o L e : Nat} {ρ : Nat → Nat} {m k : Nat} {V : mDt} {r : Nat} {lo : Nat → Nat} {t1 t2 t3 : Int32} {D D' : mDt} (h : rSim o L e ρ m k V r lo t1 t2 t3 D) (hm : m ≤ 8) (hk : k ≤ 8) (hlo : ∀ i, i < 8 → lo i < 8) {t : Nat} (ht : t < 10) {g : Nat → Int32} (hD : ∀ a, a ≠ r + 2 + t → D' a = D a) (hg : rwq (D' (r + 2 + t)) g) : rSim o L e ρ m k (setRow V (o + 6 + t) g) r lo t1 t2 t3 D' := by
  have v1 : ∀ a, a ≠ o + 6 + t → setRow V (o + 6 + t) g a = V a := fun a h => setRow_ne h
  obtain ⟨h1, h2, h3, h4, h5, h6⟩ := h
  refine ⟨fun i hi => ?_, fun p hp => by rw [hD _ (by omega)]; exact h2 p hp, fun i hi j hj => ?_, fun i hi j hj => ?_, ?_, ?_⟩
  · by_cases e : i = t
    · subst e; rw [setRow_eq]; exact hg
    · rw [hD _ (by omega), v1 _ (by omega)]; exact h1 i hi
  · have := hlo i (by omega)
    rw [hD _ (by omega), v1 _ (by omega)]; exact h3 i hi j hj
  · rw [hD _ (by omega), v1 _ (by omega)]; exact h4 i hi j hj
  · unfold rHd; rw [hD _ (by omega), v1 _ (by omega), v1 _ (by omega)]; exact h5
  · unfold rTot; rw [hD _ (by omega), v1 _ (by omega)]; exact h6
theorem wtrD_j {o L m t j : Nat} {ρ : Nat → Nat} {V : mDt} (hj : j < 11) : wtrD o ρ L m V (o + 6 + t) j = V (o + 6 + t) j := by
  rw [wtrD, tkD_0 hj (by omega), wtrB_11 (by omega) (by omega)]
theorem dayB_o {o L m : Nat} {ρ : Nat → Nat} {V : mDt} {x : Int32} {k : Nat} (hW : cW o L ρ m k V) : dayB o ρ L x m V o 4 = V o 4 + 1 := by
  have hρ : ∀ p, p < L → ρ p < 10 := fun p hp => (hW.1.2.2 p hp).1
  have tk4 : ∀ (i : Nat) (D : mDt), tkD o ρ D i o 4 = D o 4 := fun i D => by
    induction i with
    | zero => rfl
    | succ i ih => rw [tkD, tkS_o (by omega) (by decide)]; exact ih
  rw [dayB, mapD_row (by omega) hρ, wtrD, tk4, wtrB, upd2_nk (by decide), gwD_11 (by decide), dayA, chDayD_ra (by omega), upd2_eq]

theorem dayD_00 {o L m k : Nat} {ρ : Nat → Nat} {V : mDt} {x : Int32} (hW : cW o L ρ m k V) (h1 : ¬ rm70 (V o 4 + 1) = 60) (h2 : ¬ rm7 (V o 4 + 1) = 0) : dayD o ρ L x (V, m, k) = (dayB o ρ L x m V, m, k) := by
  unfold dayD dayC dayE
  simp only [dayB_o hW]
  rw [if_neg h1]; simp only [dayB_o hW]; rw [if_neg h2]
theorem dayD_01 {o L m k : Nat} {ρ : Nat → Nat} {V : mDt} {x : Int32} (hW : cW o L ρ m k V) (h1 : ¬ rm70 (V o 4 + 1) = 60) (h2 : rm7 (V o 4 + 1) = 0) : dayD o ρ L x (V, m, k) = (shortD o m (dayB o ρ L x m V), (ageG (dayB o ρ L x m V (o + 17)) m).2, k) := by
  unfold dayD dayC dayE
  simp only [dayB_o hW]
  rw [if_neg h1]; simp only [dayB_o hW]; rw [if_pos h2]
theorem dayH_4 {o L m k : Nat} {ρ : Nat → Nat} {V : mDt} {x : Int32} (hW : cW o L ρ m k V) : dayH o ρ L k (dayB o ρ L x m V) o 4 = V o 4 + 1 := by
  have hWB := cW_dayB (x := x) hW
  rw [dayH, upd2_ra (by omega), dsD_row (m := k) (by omega) (cW_dayR hWB).2.2.2.2.2 (Nat.le_refl _), dayR, upd2_nk (by decide), mapD_row (by omega) (fun p hp => (hW.1.2.2 p hp).1), dayB_o hW]
theorem dayD_10 {o L m k : Nat} {ρ : Nat → Nat} {V : mDt} {x : Int32} (hW : cW o L ρ m k V) (h1 : rm70 (V o 4 + 1) = 60) (h2 : ¬ rm7 (V o 4 + 1) = 0) : dayD o ρ L x (V, m, k) = (dayH o ρ L k (dayB o ρ L x m V), m, 0) := by
  unfold dayD dayC dayE
  simp only [dayB_o hW]
  rw [if_pos h1]; simp only [dayH_4 hW]; rw [if_neg h2]
theorem dayD_11 {o L m k : Nat} {ρ : Nat → Nat} {V : mDt} {x : Int32} (hW : cW o L ρ m k V) (h1 : rm70 (V o 4 + 1) = 60) (h2 : rm7 (V o 4 + 1) = 0) : dayD o ρ L x (V, m, k) = (shortD o m (dayH o ρ L k (dayB o ρ L x m V)), (ageG (dayH o ρ L k (dayB o ρ L x m V) (o + 17)) m).2, 0) := by
  unfold dayD dayC dayE
  simp only [dayB_o hW]
  rw [if_pos h1]; simp only [dayH_4 hW]; rw [if_pos h2]

set_option maxRecDepth 100000 in
set_option maxHeartbeats 4000000 in
theorem r_go {κ : mKp} {n : Nat} {sh : mSh} {P : mPt} {D : mDt} {E : mEt} {r : Nat} {lo : Nat → Nat} (hL : rLay r lo sh P) {o L e m k : Nat} {ρ : Nat → Nat} {V : mDt} {t1 t2 t3 : Int32} (hS : rSim o L e ρ m k V r lo t1 t2 t3 D) {dd : Nat} (hG : gX o L ρ m k V dd) (hdd : dd < 2 ^ 30) (x : Int32) : mMet κ yX6_go cX6_go 5 (Option.some Jvm.ClassFile.FieldType.int) { frames := 3, cells := 0, slots := 0, locals := 71 } [.ref r, .int x] n sh P D E (fun v n' sh' P' D' E' => n' = n ∧ sh' = sh ∧ E' = E ∧ ∃ ans : Int32, v = some (.int ans) ∧ ans = dayS o ρ L x (V, m, k) ∧ ∃ lo', rLay r lo' sh P' ∧ (∀ a, a ≠ r + 13 → P' a = P a) ∧ rSim o L e ρ (dayD o ρ L x (V, m, k)).2.1 (dayD o ρ L x (V, m, k)).2.2 (dayD o ρ L x (V, m, k)).1 r lo' t1 t2 t3 D' ∧ ∀ a, (a < r ∨ r + 32 ≤ a) → D' a = D a) := by
  refine mMet_of (by decide) (Nat.le_of_ble_eq_true rfl) ?_
  intro Γ Q hQ h hin
  have h : mOk Γ κ RX6 cX6_go 5 (Option.some Jvm.ClassFile.FieldType.int) { frames := 3, cells := 0, slots := 0, locals := 71 } := h
  have hW := hG.1
  have hinj := hG.2.1
  have hfl := hG.2.2.1
  have hto := hG.2.2.2.1
  have hcy := hG.2.2.2.2.1
  have hpa := hG.2.2.2.2.2.1
  have hd4 := hG.2.2.2.2.2.2
  have hρ : ∀ p, p < L → ρ p < 10 := fun p hp => (hW.1.2.2 p hp).1
  have hL10 := hW.1.2.1
  have hm8 := hW.2.2.2.1.1
  have hk8 := hW.2.2.2.2.2.1
  show mV Γ Q 0 0 n sh P D E [(0, .ref r), (1, .int x)] [] 0
  refine V_aload_n h 1 0 rfl dX6_go_0 rfl ?_
  refine CVI h 4 (As := []) (r_flow hL hS hW) rfl (R_s0 hL) qL_X6_83 qI_X6_flow qS_X6_flow qZ_X6 qC_X6_flow hd_X6_flow ⟨Nat.le_of_ble_eq_true rfl, Nat.le_of_ble_eq_true rfl⟩ (Nat.le_of_ble_eq_true rfl) rfl rfl dX6_go_1 (Nat.le_of_ble_eq_true rfl) (Nat.le_of_ble_eq_true rfl) (fun r1 D1 hq1 => ?_)
  rw [hq1.1, hq1.2]
  refine V_istore_n h 5 [(2, .int (chFlow (V (o + 1)))), (0, .ref r), (1, .int x)] (by decide) rfl dX6_go_4 rfl ?_
  refine V_aload_n h 6 1 rfl dX6_go_5 rfl ?_
  refine V_dup h 7 rfl dX6_go_6 rfl ?_
  refine g_X6_55 h 10 (R_s0 hL) dX6_go_7 rfl ?_
  refine V_top (y := V o 4) hS.2.2.2.2.1.2.2.2.2.1 ?_
  refine V_iconst h 11 (v := 1) (by decide) dX6_go_10 rfl ?_
  refine V_iadd h 12 dX6_go_11 rfl ?_
  refine p_X6_55 h 15 (R_s0 hL) dX6_go_12 rfl ?_
  obtain ⟨D2, eD2⟩ : ∃ zz, zz = upd2 D r 9 ((V o 4) + 1) := ⟨_, rfl⟩
  rw [← eD2]
  refine V_aload_n h 16 1 rfl dX6_go_15 rfl ?_
  refine V_iconst h 17 (v := 0) (by decide) dX6_go_16 rfl ?_
  refine V_sipush h 20 (v := 400) (by decide) dX6_go_17 rfl ?_
  refine V_aload_n h 21 1 rfl dX6_go_20 rfl ?_
  refine g_X6_29 h 24 (R_s0 hL) dX6_go_21 rfl ?_
  refine V_top (y := V (o + 1) 0) (by rw [eD2, upd2_nk (by decide)]; exact hS.2.2.2.2.1.2.2.2.2.2.1) ?_
  refine V_iload_n h 25 2 rfl dX6_go_24 rfl ?_
  refine V_iconst h 26 (v := 3) (by decide) dX6_go_25 rfl ?_
  refine V_idiv h 27 (by decide) dX6_go_26 rfl ?_
  refine V_iadd h 28 dX6_go_27 rfl ?_
  refine V_iload_n h 29 0 rfl dX6_go_28 rfl ?_
  refine V_isub h 30 dX6_go_29 rfl ?_
  refine V_aload_n h 31 1 rfl dX6_go_30 rfl ?_
  refine g_X6_61 h 34 (R_s0 hL) dX6_go_31 rfl ?_
  refine V_top (y := V (o + 1) 3) (by rw [eD2, upd2_nk (by decide)]; exact hS.2.2.2.2.1.2.2.2.2.2.2.2.2) ?_
  refine V_isub h 35 dX6_go_34 rfl ?_
  refine V_mmin h 38 qL_X6_80 (Nat.le_of_ble_eq_true rfl) (Nat.le_of_ble_eq_true rfl) (Nat.le_of_ble_eq_true rfl) (Nat.le_of_ble_eq_true rfl) dX6_go_35 rfl ?_
  refine V_mmax h 41 qL_X6_64 (Nat.le_of_ble_eq_true rfl) (Nat.le_of_ble_eq_true rfl) (Nat.le_of_ble_eq_true rfl) (Nat.le_of_ble_eq_true rfl) dX6_go_38 rfl ?_
  refine p_X6_29 h 44 (R_s0 hL) dX6_go_41 rfl ?_
  obtain ⟨D3, eD3⟩ : ∃ zz, zz = upd2 D2 r 10 (imax 0 (imin 400 ((((V (o + 1) 0) + (x / 3)) - (chFlow (V (o + 1)))) - (V (o + 1) 3)))) := ⟨_, rfl⟩
  rw [← eD3]
  refine V_aload_n h 45 1 rfl dX6_go_44 rfl ?_
  refine g_X6_55 h 48 (R_s0 hL) dX6_go_45 rfl ?_
  refine V_top (y := (V o 4) + 1) (by rw [eD3, upd2_nk (by decide), eD2, upd2_eq]) ?_
  refine V_bipush h 50 (v := 70) (by decide) dX6_go_48 rfl ?_
  refine V_irem h 51 (by decide) dX6_go_50 rfl ?_
  refine V_bipush h 53 (v := 10) (by decide) dX6_go_51 rfl ?_
  refine V_irem h 54 (by decide) dX6_go_53 rfl ?_
  refine V_if_ne h 72 57 dX6_go_54 (by decide) rfl (fun c54 => ?_) (fun c54 => ?_)
  · skip
    have hSA : rSim o L e ρ m k (dayA o x V) r lo t1 t2 t3 D3 := by
      refine rSim_dayA hS hm8 hk8 hL.2.2.2.1 (fun a ha => ?_) ?_ ?_ ?_ (fun j h1 h2 h3 => ?_)
      · rw [eD3, eD2, upd2_ra ha, upd2_ra ha]
      · rw [eD3, eD2, upd2_nk (by decide), upd2_eq]
      · rw [eD3, eD2, upd2_eq]; rfl
      · rw [if_neg c54, eD3, eD2, upd2_nk (by decide), upd2_nk (by decide)]; exact hS.2.2.2.2.1.2.2.2.2.2.2.2.1
      · rw [eD3, eD2, upd2_nk h2, upd2_nk h1]
    have hWA : cW o L ρ m k (dayA o x V) := cW_dayA hW
    have hFA : ∀ a, (a < r ∨ r + 32 ≤ a) → D3 a = D a := fun a ha => by rw [eD3, eD2, upd2_ra (by omega), upd2_ra (by omega)]
    refine V_aload_n h 73 1 rfl dX6_go_72 rfl ?_
    refine V_aload_n h 74 1 rfl dX6_go_73 rfl ?_
    refine CVI h 77 (As := []) (r_flow hL hSA hWA) rfl (R_s0 hL) qL_X6_83 qI_X6_flow qS_X6_flow qZ_X6 qC_X6_flow hd_X6_flow ⟨Nat.le_of_ble_eq_true rfl, Nat.le_of_ble_eq_true rfl⟩ (Nat.le_of_ble_eq_true rfl) rfl rfl dX6_go_74 (Nat.le_of_ble_eq_true rfl) (Nat.le_of_ble_eq_true rfl) (fun r4 D4 hq4 => ?_)
    rw [hq4.1, hq4.2]
    refine CVI h 80 (As := [.int (chFlow ((dayA o x V) (o + 1)))]) (r_water hL hSA hWA hinj (fun i hi => by rw [dayA_ra (by omega)]; exact hfl i hi) (fun i hi => by rw [dayA_ra (by omega)]; exact hto i hi)) rfl (R_s0 hL) qL_X6_87 qI_X6_water qS_X6_water qZ_X6 qC_X6_water hd_X6_water ⟨Nat.le_of_ble_eq_true rfl, Nat.le_of_ble_eq_true rfl⟩ (Nat.le_of_ble_eq_true rfl) rfl rfl dX6_go_77 (Nat.le_of_ble_eq_true rfl) (Nat.le_of_ble_eq_true rfl) (fun r5 D5 hq5 => ?_)
    obtain ⟨hSW, er, hFW⟩ := hq5
    have hWW : cW o L ρ m k (wtrD o ρ L m (dayA o x V)) := cW_wtr hWA
    refine V_istore_n h 81 [(3, .int r5), (2, .int (chFlow (V (o + 1)))), (0, .ref r), (1, .int x)] (by decide) rfl dX6_go_80 rfl ?_
    have dW4 : (wtrD o ρ L m (dayA o x V)) o 4 = V o 4 + 1 := by
      have q := dayB_o (x := x) hW
      rw [dayB, mapD_row (by omega) hρ] at q; exact q
    rw [show mV Γ Q 0 0 n sh P D5 E [(3, .int r5), (2, .int (chFlow (V (o + 1)))), (0, .ref r), (1, .int x)] [] 81 = mV Γ Q 0 0 n sh P D5 E [(3, .int r5), (2, .int (chFlow (V (o + 1)))), (0, .ref r), (1, .int x)] [] 81 from rfl]
    refine V_iconst h 82 (v := 0) (by decide) dX6_go_81 rfl ?_
    refine V_istore h 84 [(4, .int 0), (3, .int r5), (2, .int (chFlow (V (o + 1)))), (0, .ref r), (1, .int x)] (by decide) rfl dX6_go_82 rfl ?_
    have LP84 : ∀ (kk : Nat) (i : Nat) (x4 : Int32) (Dk : mDt), (i ≤ L) → (x4 = nI i) → (rSim o L e ρ m k (mapD o ρ (fun _ => growX (tenZ (V o 4 + 1))) (wtrD o ρ L m (dayA o x V)) i) r lo t1 t2 t3 Dk) → (∀ a, (a < r ∨ r + 32 ≤ a) → Dk a = D a) → L - i < kk → mV Γ Q 0 0 n sh P Dk E [(0, .ref r), (3, .int r5), (4, .int x4)] [] 84 := by
      intro kk
      induction kk with
      | zero =>
        intro i x4 Dk _ _ _ _ hms
        exact absurd hms (Nat.not_lt_zero _)
      | succ kk ih =>
        intro i x4 Dk hi e4 hSk hFk hms
        subst e4
        refine V_iload h 86 2 rfl dX6_go_84 rfl ?_
        refine V_aload_n h 87 0 rfl dX6_go_86 rfl ?_
        refine g_X6_52 h 90 (R_s0 hL) dX6_go_87 rfl ?_
        refine V_top (y := nI L) hSk.2.2.2.2.1.2.1 ?_
        refine V_icmp_ge h 115 93 dX6_go_90 (by decide) rfl (fun c90 => ?_) (fun c90 => ?_)
        · skip
          have hex : i = L := by have := mGe c90 (by omega) (by omega); omega
          have hSB : rSim o L e ρ m k (dayB o ρ L x m V) r lo t1 t2 t3 Dk := by rw [hex] at hSk; exact hSk
          have hWB : cW o L ρ m k (dayB o ρ L x m V) := cW_dayB hW
          have h9B : Dk r 9 = V o 4 + 1 := by rw [hSB.2.2.2.2.1.2.2.2.2.1, dayB_o hW]
          refine V_aload_n h 116 0 rfl dX6_go_115 rfl ?_
          refine g_X6_55 h 119 (R_s0 hL) dX6_go_116 rfl ?_
          refine V_top (y := V o 4 + 1) h9B ?_
          refine V_bipush h 121 (v := 70) (by decide) dX6_go_119 rfl ?_
          refine V_irem h 122 (by decide) dX6_go_121 rfl ?_
          refine V_bipush h 124 (v := 60) (by decide) dX6_go_122 rfl ?_
          refine V_icmp_ne h 131 127 dX6_go_124 (by decide) rfl (fun c124 => ?_) (fun c124 => ?_)
          · skip
            refine V_aload_n h 132 0 rfl dX6_go_131 rfl ?_
            refine g_X6_55 h 135 (R_s0 hL) dX6_go_132 rfl ?_
            refine V_top (y := V o 4 + 1) h9B ?_
            refine V_bipush h 137 (v := 7) (by decide) dX6_go_135 rfl ?_
            refine V_irem h 138 (by decide) dX6_go_137 rfl ?_
            refine V_if_ne h 145 141 dX6_go_138 (by decide) rfl (fun c138 => ?_) (fun c138 => ?_)
            · skip
              refine V_iload_n h 146 1 rfl dX6_go_145 rfl ?_
              exact V_iret h rfl hQ (Nat.le_of_ble_eq_true rfl) (Nat.le_of_ble_eq_true rfl) ⟨rfl, rfl, rfl, _, rfl, er, lo, hL, fun _ _ => rfl, by rw [dayD_00 hW c124 c138]; exact hSB, fun a ha => by rw [hFk a ha]⟩ dX6_go_146
            · skip
              refine V_aload_n h 142 0 rfl dX6_go_141 rfl ?_
              have e17 : dayB o ρ L x m V (o + 17) = V (o + 17) := by rw [dayB, mapD_row (by omega) hρ, wtrD_row (by omega) hρ hWA.2.2.2.1, dayA_ra (by omega)]
              refine V_callV h 145 (rm := { frames := 0, cells := 0, slots := 0, locals := 0 }) (As := []) (r_age hL hSB hWB (fun i hi => by rw [e17]; exact hcy i hi)) rfl (R_s0 hL) qL_X6_97 qI_X6_age qS_X6_age qZ_X6 qC_X6_age hd_X6_age ⟨Nat.le_of_ble_eq_true rfl, Nat.le_of_ble_eq_true rfl⟩ (Nat.le_of_ble_eq_true rfl) rfl rfl dX6_go_142 ⟨(Nat.le_of_ble_eq_true rfl), (Nat.le_of_ble_eq_true rfl)⟩ (fun v6 n6 S6 P6 D6 E6 hq6 => ?_)
              obtain ⟨q5, q1, q2, q4, lo2, hL2, hP2, hSG, hFG⟩ := hq6
              subst q5
              subst q4
              rw [q1, q2]
              refine V_iload_n h 146 1 rfl dX6_go_145 rfl ?_
              exact V_iret h rfl hQ (Nat.le_of_ble_eq_true rfl) (Nat.le_of_ble_eq_true rfl) ⟨rfl, rfl, rfl, _, rfl, er, lo2, hL2, hP2, by rw [dayD_01 hW c124 c138]; exact hSG, fun a ha => by rw [hFG a ha, hFk a ha]⟩ dX6_go_146
          · skip
            refine V_aload_n h 128 0 rfl dX6_go_127 rfl ?_
            refine CVV h 131 (As := []) (r_harvest hL hSB hWB hinj) rfl (R_s0 hL) qL_X6_94 qI_X6_harvest qS_X6_harvest qZ_X6 qC_X6_harvest hd_X6_harvest ⟨Nat.le_of_ble_eq_true rfl, Nat.le_of_ble_eq_true rfl⟩ (Nat.le_of_ble_eq_true rfl) rfl rfl dX6_go_128 (Nat.le_of_ble_eq_true rfl) (Nat.le_of_ble_eq_true rfl) (fun D7 hq7 => ?_)
            obtain ⟨hSH, hFH⟩ := hq7
            have hWH := cW_dayH hWB
            have dH4 : dayH o ρ L k (dayB o ρ L x m V) o 4 = V o 4 + 1 := by rw [dayH, upd2_ra (by omega), dsD_row (m := k) (by omega) (cW_dayR hWB).2.2.2.2.2 (Nat.le_refl _), dayR, upd2_nk (by decide), mapD_row (by omega) hρ, dayB_o hW]
            refine V_aload_n h 132 0 rfl dX6_go_131 rfl ?_
            refine g_X6_55 h 135 (R_s0 hL) dX6_go_132 rfl ?_
            refine V_top (y := V o 4 + 1) (by rw [hSH.2.2.2.2.1.2.2.2.2.1]; exact dH4) ?_
            refine V_bipush h 137 (v := 7) (by decide) dX6_go_135 rfl ?_
            refine V_irem h 138 (by decide) dX6_go_137 rfl ?_
            refine V_if_ne h 145 141 dX6_go_138 (by decide) rfl (fun c138 => ?_) (fun c138 => ?_)
            · skip
              refine V_iload_n h 146 1 rfl dX6_go_145 rfl ?_
              exact V_iret h rfl hQ (Nat.le_of_ble_eq_true rfl) (Nat.le_of_ble_eq_true rfl) ⟨rfl, rfl, rfl, _, rfl, er, lo, hL, fun _ _ => rfl, by rw [dayD_10 hW c124 c138]; exact hSH, fun a ha => by rw [hFH a (by omega), hFk a ha]⟩ dX6_go_146
            · skip
              refine V_aload_n h 142 0 rfl dX6_go_141 rfl ?_
              have e17 : dayB o ρ L x m V (o + 17) = V (o + 17) := by rw [dayB, mapD_row (by omega) hρ, wtrD_row (by omega) hρ hWA.2.2.2.1, dayA_ra (by omega)]
              have e17H : dayH o ρ L k (dayB o ρ L x m V) (o + 17) = V (o + 17) := by rw [dayH, upd2_ra (by omega), dsD_row (m := k) (by omega) (cW_dayR hWB).2.2.2.2.2 (Nat.le_refl _), dayR, upd2_ra (by omega), mapD_row (by omega) hρ, e17]
              refine V_callV h 145 (rm := { frames := 0, cells := 0, slots := 0, locals := 0 }) (As := []) (r_age hL hSH hWH (fun i hi => by rw [e17H]; exact hcy i hi)) rfl (R_s0 hL) qL_X6_97 qI_X6_age qS_X6_age qZ_X6 qC_X6_age hd_X6_age ⟨Nat.le_of_ble_eq_true rfl, Nat.le_of_ble_eq_true rfl⟩ (Nat.le_of_ble_eq_true rfl) rfl rfl dX6_go_142 ⟨(Nat.le_of_ble_eq_true rfl), (Nat.le_of_ble_eq_true rfl)⟩ (fun v8 n8 S8 P8 D8 E8 hq8 => ?_)
              obtain ⟨q5, q1, q2, q4, lo2, hL2, hP2, hSG, hFG⟩ := hq8
              subst q5
              subst q4
              rw [q1, q2]
              refine V_iload_n h 146 1 rfl dX6_go_145 rfl ?_
              exact V_iret h rfl hQ (Nat.le_of_ble_eq_true rfl) (Nat.le_of_ble_eq_true rfl) ⟨rfl, rfl, rfl, _, rfl, er, lo2, hL2, hP2, by rw [dayD_11 hW c124 c138]; exact hSG, fun a ha => by rw [hFG a ha, hFH a (by omega), hFk a ha]⟩ dX6_go_146
        · skip
          have hlt := mLt c90 (by omega)
          have hρi := hρ i hlt
          obtain ⟨pp, hpp0, epp⟩ := hpa _ hρi
          have hrow4 : mapD o ρ (fun _ => growX (tenZ (V o 4 + 1))) (wtrD o ρ L m (dayA o x V)) i (o + 6 + ρ i) 4 = nI pp := by rw [mapD_other (fun q hq => by have := hinj q i hq hlt; omega), wtrD_j (by decide), dayA_ra (by omega)]; exact epp
          have h9k : Dk r 9 = nI (dd + 1) := by rw [hSk.2.2.2.2.1.2.2.2.2.1, mapD_row (L := i) (by omega) (fun p hp => hρ p (by omega)), dW4, hd4, nI_1]
          refine V_aload_n h 94 0 rfl dX6_go_93 rfl ?_
          refine V_aload_n h 95 0 rfl dX6_go_94 rfl ?_
          refine g_X6_11 h 98 (b := r + 1) (R_s0 hL) (R_p0 hL) dX6_go_95 rfl ?_
          refine V_aload_n h 99 0 rfl dX6_go_98 rfl ?_
          refine g_X6_16 h 102 (b := r + 12) (R_s0 hL) (R_p1 hL) dX6_go_99 rfl ?_
          refine V_iload h 104 2 rfl dX6_go_102 rfl ?_
          refine V_iald h 105 i (R_s12 hL) rfl (by omega) (by decide) dX6_go_104 rfl ?_
          refine V_top (y := nI (ρ i)) (hSk.2.1 i hlt) ?_
          refine V_aald h 106 (b := r + 2 + (ρ i)) (ρ i) (Or.inr rfl) (R_s1 hL) rfl (hρ i hlt) (by decide) (R_pw hL (hρ i hlt)) dX6_go_105 rfl ?_
          refine CVV h 109 (As := [.ref (r + 2 + (ρ i))]) (r_palms (R_sw hL hρi) (g := mapD o ρ (fun _ => growX (tenZ (V o 4 + 1))) (wtrD o ρ L m (dayA o x V)) i (o + 6 + ρ i)) (hSk.1 _ hρi) (R_s0 hL) (by omega) (p := pp) hpp0 hrow4 (dd := dd + 1) h9k (by omega)) rfl (R_s0 hL) qL_X6_90 qI_X6_palms qS_X6_palms qZ_X6 qC_X6_palms hd_X6_palms ⟨Nat.le_of_ble_eq_true rfl, Nat.le_of_ble_eq_true rfl⟩ (Nat.le_of_ble_eq_true rfl) rfl rfl dX6_go_106 (Nat.le_of_ble_eq_true rfl) (Nat.le_of_ble_eq_true rfl) (fun D9 hq9 => ?_)
          have hpp := hq9
          refine V_iinc h 112 [(4, .int ((nI i) + 1)), (0, .ref r), (3, .int r5)] 2 rfl (by rfl) (by decide) rfl dX6_go_109 rfl ?_
          refine V_goto h 84 dX6_go_112 (by decide) ?_
          refine V_lsub [(0, .ref r), (3, .int r5), (4, .int ((nI i) + 1))] [1, 2, 0] rfl ?_
          refine ih (i + 1) _ D9 (by omega) (nI_1 i) ?_ (fun a ha => by rw [hpp.1 _ (by omega)]; exact hFk a ha) (by omega)
          exact rSim_row hSk hm8 hk8 hL.2.2.2.1 hρi hpp.1 (by have q := hpp.2; rw [← nI_1, ← hd4] at q; exact q)
    refine V_lsub [(0, .ref r), (3, .int r5), (4, .int 0)] [3, 1, 0] rfl ?_
    exact LP84 _ 0 _ D5 (Nat.zero_le _) rfl hSW (fun a ha => by rw [hFW a ha]; exact hFA a ha) (Nat.lt_succ_self _)
  · skip
    refine V_aload_n h 58 1 rfl dX6_go_57 rfl ?_
    refine V_bipush h 60 (v := 30) (by decide) dX6_go_58 rfl ?_
    refine V_aload_n h 61 1 rfl dX6_go_60 rfl ?_
    refine g_X6_58 h 64 (R_s0 hL) dX6_go_61 rfl ?_
    refine V_top (y := V (o + 1) 2) (by rw [eD3, upd2_nk (by decide), eD2, upd2_nk (by decide)]; exact hS.2.2.2.2.1.2.2.2.2.2.2.2.1) ?_
    refine V_iconst h 65 (v := 1) (by decide) dX6_go_64 rfl ?_
    refine V_iadd h 66 dX6_go_65 rfl ?_
    refine V_mmin h 69 qL_X6_80 (Nat.le_of_ble_eq_true rfl) (Nat.le_of_ble_eq_true rfl) (Nat.le_of_ble_eq_true rfl) (Nat.le_of_ble_eq_true rfl) dX6_go_66 rfl ?_
    refine p_X6_58 h 72 (R_s0 hL) dX6_go_69 rfl ?_
    obtain ⟨D10, eD10⟩ : ∃ zz, zz = upd2 D3 r 12 (imin 30 ((V (o + 1) 2) + 1)) := ⟨_, rfl⟩
    rw [← eD10]
    have hSA : rSim o L e ρ m k (dayA o x V) r lo t1 t2 t3 D10 := by
      refine rSim_dayA hS hm8 hk8 hL.2.2.2.1 (fun a ha => ?_) ?_ ?_ ?_ (fun j h1 h2 h3 => ?_)
      · rw [eD10, eD3, eD2, upd2_ra ha, upd2_ra ha, upd2_ra ha]
      · rw [eD10, eD3, eD2, upd2_nk (by decide), upd2_nk (by decide), upd2_eq]
      · rw [eD10, eD3, eD2, upd2_nk (by decide), upd2_eq]; rfl
      · rw [if_pos c54, eD10, eD3, eD2, upd2_eq]; rfl
      · rw [eD10, eD3, eD2, upd2_nk h3, upd2_nk h2, upd2_nk h1]
    have hWA : cW o L ρ m k (dayA o x V) := cW_dayA hW
    have hFA : ∀ a, (a < r ∨ r + 32 ≤ a) → D10 a = D a := fun a ha => by rw [eD10, eD3, eD2, upd2_ra (by omega), upd2_ra (by omega), upd2_ra (by omega)]
    refine V_aload_n h 73 1 rfl dX6_go_72 rfl ?_
    refine V_aload_n h 74 1 rfl dX6_go_73 rfl ?_
    refine CVI h 77 (As := []) (r_flow hL hSA hWA) rfl (R_s0 hL) qL_X6_83 qI_X6_flow qS_X6_flow qZ_X6 qC_X6_flow hd_X6_flow ⟨Nat.le_of_ble_eq_true rfl, Nat.le_of_ble_eq_true rfl⟩ (Nat.le_of_ble_eq_true rfl) rfl rfl dX6_go_74 (Nat.le_of_ble_eq_true rfl) (Nat.le_of_ble_eq_true rfl) (fun r11 D11 hq11 => ?_)
    rw [hq11.1, hq11.2]
    refine CVI h 80 (As := [.int (chFlow ((dayA o x V) (o + 1)))]) (r_water hL hSA hWA hinj (fun i hi => by rw [dayA_ra (by omega)]; exact hfl i hi) (fun i hi => by rw [dayA_ra (by omega)]; exact hto i hi)) rfl (R_s0 hL) qL_X6_87 qI_X6_water qS_X6_water qZ_X6 qC_X6_water hd_X6_water ⟨Nat.le_of_ble_eq_true rfl, Nat.le_of_ble_eq_true rfl⟩ (Nat.le_of_ble_eq_true rfl) rfl rfl dX6_go_77 (Nat.le_of_ble_eq_true rfl) (Nat.le_of_ble_eq_true rfl) (fun r12 D12 hq12 => ?_)
    obtain ⟨hSW, er, hFW⟩ := hq12
    have hWW : cW o L ρ m k (wtrD o ρ L m (dayA o x V)) := cW_wtr hWA
    refine V_istore_n h 81 [(3, .int r12), (2, .int (chFlow (V (o + 1)))), (0, .ref r), (1, .int x)] (by decide) rfl dX6_go_80 rfl ?_
    have dW4 : (wtrD o ρ L m (dayA o x V)) o 4 = V o 4 + 1 := by
      have q := dayB_o (x := x) hW
      rw [dayB, mapD_row (by omega) hρ] at q; exact q
    rw [show mV Γ Q 0 0 n sh P D12 E [(3, .int r12), (2, .int (chFlow (V (o + 1)))), (0, .ref r), (1, .int x)] [] 81 = mV Γ Q 0 0 n sh P D12 E [(3, .int r12), (2, .int (chFlow (V (o + 1)))), (0, .ref r), (1, .int x)] [] 81 from rfl]
    refine V_iconst h 82 (v := 0) (by decide) dX6_go_81 rfl ?_
    refine V_istore h 84 [(4, .int 0), (3, .int r12), (2, .int (chFlow (V (o + 1)))), (0, .ref r), (1, .int x)] (by decide) rfl dX6_go_82 rfl ?_
    have LP84 : ∀ (kk : Nat) (i : Nat) (x4 : Int32) (Dk : mDt), (i ≤ L) → (x4 = nI i) → (rSim o L e ρ m k (mapD o ρ (fun _ => growX (tenZ (V o 4 + 1))) (wtrD o ρ L m (dayA o x V)) i) r lo t1 t2 t3 Dk) → (∀ a, (a < r ∨ r + 32 ≤ a) → Dk a = D a) → L - i < kk → mV Γ Q 0 0 n sh P Dk E [(0, .ref r), (3, .int r12), (4, .int x4)] [] 84 := by
      intro kk
      induction kk with
      | zero =>
        intro i x4 Dk _ _ _ _ hms
        exact absurd hms (Nat.not_lt_zero _)
      | succ kk ih =>
        intro i x4 Dk hi e4 hSk hFk hms
        subst e4
        refine V_iload h 86 2 rfl dX6_go_84 rfl ?_
        refine V_aload_n h 87 0 rfl dX6_go_86 rfl ?_
        refine g_X6_52 h 90 (R_s0 hL) dX6_go_87 rfl ?_
        refine V_top (y := nI L) hSk.2.2.2.2.1.2.1 ?_
        refine V_icmp_ge h 115 93 dX6_go_90 (by decide) rfl (fun c90 => ?_) (fun c90 => ?_)
        · skip
          have hex : i = L := by have := mGe c90 (by omega) (by omega); omega
          have hSB : rSim o L e ρ m k (dayB o ρ L x m V) r lo t1 t2 t3 Dk := by rw [hex] at hSk; exact hSk
          have hWB : cW o L ρ m k (dayB o ρ L x m V) := cW_dayB hW
          have h9B : Dk r 9 = V o 4 + 1 := by rw [hSB.2.2.2.2.1.2.2.2.2.1, dayB_o hW]
          refine V_aload_n h 116 0 rfl dX6_go_115 rfl ?_
          refine g_X6_55 h 119 (R_s0 hL) dX6_go_116 rfl ?_
          refine V_top (y := V o 4 + 1) h9B ?_
          refine V_bipush h 121 (v := 70) (by decide) dX6_go_119 rfl ?_
          refine V_irem h 122 (by decide) dX6_go_121 rfl ?_
          refine V_bipush h 124 (v := 60) (by decide) dX6_go_122 rfl ?_
          refine V_icmp_ne h 131 127 dX6_go_124 (by decide) rfl (fun c124 => ?_) (fun c124 => ?_)
          · skip
            refine V_aload_n h 132 0 rfl dX6_go_131 rfl ?_
            refine g_X6_55 h 135 (R_s0 hL) dX6_go_132 rfl ?_
            refine V_top (y := V o 4 + 1) h9B ?_
            refine V_bipush h 137 (v := 7) (by decide) dX6_go_135 rfl ?_
            refine V_irem h 138 (by decide) dX6_go_137 rfl ?_
            refine V_if_ne h 145 141 dX6_go_138 (by decide) rfl (fun c138 => ?_) (fun c138 => ?_)
            · skip
              refine V_iload_n h 146 1 rfl dX6_go_145 rfl ?_
              exact V_iret h rfl hQ (Nat.le_of_ble_eq_true rfl) (Nat.le_of_ble_eq_true rfl) ⟨rfl, rfl, rfl, _, rfl, er, lo, hL, fun _ _ => rfl, by rw [dayD_00 hW c124 c138]; exact hSB, fun a ha => by rw [hFk a ha]⟩ dX6_go_146
            · skip
              refine V_aload_n h 142 0 rfl dX6_go_141 rfl ?_
              have e17 : dayB o ρ L x m V (o + 17) = V (o + 17) := by rw [dayB, mapD_row (by omega) hρ, wtrD_row (by omega) hρ hWA.2.2.2.1, dayA_ra (by omega)]
              refine V_callV h 145 (rm := { frames := 0, cells := 0, slots := 0, locals := 0 }) (As := []) (r_age hL hSB hWB (fun i hi => by rw [e17]; exact hcy i hi)) rfl (R_s0 hL) qL_X6_97 qI_X6_age qS_X6_age qZ_X6 qC_X6_age hd_X6_age ⟨Nat.le_of_ble_eq_true rfl, Nat.le_of_ble_eq_true rfl⟩ (Nat.le_of_ble_eq_true rfl) rfl rfl dX6_go_142 ⟨(Nat.le_of_ble_eq_true rfl), (Nat.le_of_ble_eq_true rfl)⟩ (fun v13 n13 S13 P13 D13 E13 hq13 => ?_)
              obtain ⟨q5, q1, q2, q4, lo2, hL2, hP2, hSG, hFG⟩ := hq13
              subst q5
              subst q4
              rw [q1, q2]
              refine V_iload_n h 146 1 rfl dX6_go_145 rfl ?_
              exact V_iret h rfl hQ (Nat.le_of_ble_eq_true rfl) (Nat.le_of_ble_eq_true rfl) ⟨rfl, rfl, rfl, _, rfl, er, lo2, hL2, hP2, by rw [dayD_01 hW c124 c138]; exact hSG, fun a ha => by rw [hFG a ha, hFk a ha]⟩ dX6_go_146
          · skip
            refine V_aload_n h 128 0 rfl dX6_go_127 rfl ?_
            refine CVV h 131 (As := []) (r_harvest hL hSB hWB hinj) rfl (R_s0 hL) qL_X6_94 qI_X6_harvest qS_X6_harvest qZ_X6 qC_X6_harvest hd_X6_harvest ⟨Nat.le_of_ble_eq_true rfl, Nat.le_of_ble_eq_true rfl⟩ (Nat.le_of_ble_eq_true rfl) rfl rfl dX6_go_128 (Nat.le_of_ble_eq_true rfl) (Nat.le_of_ble_eq_true rfl) (fun D14 hq14 => ?_)
            obtain ⟨hSH, hFH⟩ := hq14
            have hWH := cW_dayH hWB
            have dH4 : dayH o ρ L k (dayB o ρ L x m V) o 4 = V o 4 + 1 := by rw [dayH, upd2_ra (by omega), dsD_row (m := k) (by omega) (cW_dayR hWB).2.2.2.2.2 (Nat.le_refl _), dayR, upd2_nk (by decide), mapD_row (by omega) hρ, dayB_o hW]
            refine V_aload_n h 132 0 rfl dX6_go_131 rfl ?_
            refine g_X6_55 h 135 (R_s0 hL) dX6_go_132 rfl ?_
            refine V_top (y := V o 4 + 1) (by rw [hSH.2.2.2.2.1.2.2.2.2.1]; exact dH4) ?_
            refine V_bipush h 137 (v := 7) (by decide) dX6_go_135 rfl ?_
            refine V_irem h 138 (by decide) dX6_go_137 rfl ?_
            refine V_if_ne h 145 141 dX6_go_138 (by decide) rfl (fun c138 => ?_) (fun c138 => ?_)
            · skip
              refine V_iload_n h 146 1 rfl dX6_go_145 rfl ?_
              exact V_iret h rfl hQ (Nat.le_of_ble_eq_true rfl) (Nat.le_of_ble_eq_true rfl) ⟨rfl, rfl, rfl, _, rfl, er, lo, hL, fun _ _ => rfl, by rw [dayD_10 hW c124 c138]; exact hSH, fun a ha => by rw [hFH a (by omega), hFk a ha]⟩ dX6_go_146
            · skip
              refine V_aload_n h 142 0 rfl dX6_go_141 rfl ?_
              have e17 : dayB o ρ L x m V (o + 17) = V (o + 17) := by rw [dayB, mapD_row (by omega) hρ, wtrD_row (by omega) hρ hWA.2.2.2.1, dayA_ra (by omega)]
              have e17H : dayH o ρ L k (dayB o ρ L x m V) (o + 17) = V (o + 17) := by rw [dayH, upd2_ra (by omega), dsD_row (m := k) (by omega) (cW_dayR hWB).2.2.2.2.2 (Nat.le_refl _), dayR, upd2_ra (by omega), mapD_row (by omega) hρ, e17]
              refine V_callV h 145 (rm := { frames := 0, cells := 0, slots := 0, locals := 0 }) (As := []) (r_age hL hSH hWH (fun i hi => by rw [e17H]; exact hcy i hi)) rfl (R_s0 hL) qL_X6_97 qI_X6_age qS_X6_age qZ_X6 qC_X6_age hd_X6_age ⟨Nat.le_of_ble_eq_true rfl, Nat.le_of_ble_eq_true rfl⟩ (Nat.le_of_ble_eq_true rfl) rfl rfl dX6_go_142 ⟨(Nat.le_of_ble_eq_true rfl), (Nat.le_of_ble_eq_true rfl)⟩ (fun v15 n15 S15 P15 D15 E15 hq15 => ?_)
              obtain ⟨q5, q1, q2, q4, lo2, hL2, hP2, hSG, hFG⟩ := hq15
              subst q5
              subst q4
              rw [q1, q2]
              refine V_iload_n h 146 1 rfl dX6_go_145 rfl ?_
              exact V_iret h rfl hQ (Nat.le_of_ble_eq_true rfl) (Nat.le_of_ble_eq_true rfl) ⟨rfl, rfl, rfl, _, rfl, er, lo2, hL2, hP2, by rw [dayD_11 hW c124 c138]; exact hSG, fun a ha => by rw [hFG a ha, hFH a (by omega), hFk a ha]⟩ dX6_go_146
        · skip
          have hlt := mLt c90 (by omega)
          have hρi := hρ i hlt
          obtain ⟨pp, hpp0, epp⟩ := hpa _ hρi
          have hrow4 : mapD o ρ (fun _ => growX (tenZ (V o 4 + 1))) (wtrD o ρ L m (dayA o x V)) i (o + 6 + ρ i) 4 = nI pp := by rw [mapD_other (fun q hq => by have := hinj q i hq hlt; omega), wtrD_j (by decide), dayA_ra (by omega)]; exact epp
          have h9k : Dk r 9 = nI (dd + 1) := by rw [hSk.2.2.2.2.1.2.2.2.2.1, mapD_row (L := i) (by omega) (fun p hp => hρ p (by omega)), dW4, hd4, nI_1]
          refine V_aload_n h 94 0 rfl dX6_go_93 rfl ?_
          refine V_aload_n h 95 0 rfl dX6_go_94 rfl ?_
          refine g_X6_11 h 98 (b := r + 1) (R_s0 hL) (R_p0 hL) dX6_go_95 rfl ?_
          refine V_aload_n h 99 0 rfl dX6_go_98 rfl ?_
          refine g_X6_16 h 102 (b := r + 12) (R_s0 hL) (R_p1 hL) dX6_go_99 rfl ?_
          refine V_iload h 104 2 rfl dX6_go_102 rfl ?_
          refine V_iald h 105 i (R_s12 hL) rfl (by omega) (by decide) dX6_go_104 rfl ?_
          refine V_top (y := nI (ρ i)) (hSk.2.1 i hlt) ?_
          refine V_aald h 106 (b := r + 2 + (ρ i)) (ρ i) (Or.inr rfl) (R_s1 hL) rfl (hρ i hlt) (by decide) (R_pw hL (hρ i hlt)) dX6_go_105 rfl ?_
          refine CVV h 109 (As := [.ref (r + 2 + (ρ i))]) (r_palms (R_sw hL hρi) (g := mapD o ρ (fun _ => growX (tenZ (V o 4 + 1))) (wtrD o ρ L m (dayA o x V)) i (o + 6 + ρ i)) (hSk.1 _ hρi) (R_s0 hL) (by omega) (p := pp) hpp0 hrow4 (dd := dd + 1) h9k (by omega)) rfl (R_s0 hL) qL_X6_90 qI_X6_palms qS_X6_palms qZ_X6 qC_X6_palms hd_X6_palms ⟨Nat.le_of_ble_eq_true rfl, Nat.le_of_ble_eq_true rfl⟩ (Nat.le_of_ble_eq_true rfl) rfl rfl dX6_go_106 (Nat.le_of_ble_eq_true rfl) (Nat.le_of_ble_eq_true rfl) (fun D16 hq16 => ?_)
          have hpp := hq16
          refine V_iinc h 112 [(4, .int ((nI i) + 1)), (0, .ref r), (3, .int r12)] 2 rfl (by rfl) (by decide) rfl dX6_go_109 rfl ?_
          refine V_goto h 84 dX6_go_112 (by decide) ?_
          refine V_lsub [(0, .ref r), (3, .int r12), (4, .int ((nI i) + 1))] [1, 2, 0] rfl ?_
          refine ih (i + 1) _ D16 (by omega) (nI_1 i) ?_ (fun a ha => by rw [hpp.1 _ (by omega)]; exact hFk a ha) (by omega)
          exact rSim_row hSk hm8 hk8 hL.2.2.2.1 hρi hpp.1 (by have q := hpp.2; rw [← nI_1, ← hd4] at q; exact q)
    refine V_lsub [(0, .ref r), (3, .int r12), (4, .int 0)] [3, 1, 0] rfl ?_
    exact LP84 _ 0 _ D12 (Nat.zero_le _) rfl hSW (fun a ha => by rw [hFW a ha]; exact hFA a ha) (Nat.lt_succ_self _)
