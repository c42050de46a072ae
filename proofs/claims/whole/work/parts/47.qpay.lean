theorem mapD_upd2 {o : Nat} {ρ : Nat → Nat} {X : Nat → (Nat → Int32) → Nat → Int32} {D : mDt} {a j : Nat} {v : Int32} (ha : a < o + 6) (k : Nat) : mapD o ρ X (upd2 D a j v) k = upd2 (mapD o ρ X D k) a j v := by
  induction k with
  | zero => rfl
  | succ k ih =>
    rw [mapD, mapD, ih, upd2_ra (by omega)]
    funext b i
    by_cases h : b = o + 6 + ρ k
    · subst h; rw [upd2_ra (by omega), setRow_eq, setRow_eq]
    · rw [setRow_ne h]
      by_cases h2 : b = a
      · subst h2
        by_cases h3 : i = j
        · subst h3; rw [upd2_eq, upd2_eq]
        · rw [upd2_nk h3, upd2_nk h3, setRow_ne h]
      · rw [upd2_ra h2, upd2_ra h2, setRow_ne h]
theorem payD_ch {o L : Nat} {ρ : Nat → Nat} {c v : Int32} {V : mDt} {j : Nat} : payD o ρ L c (upd2 V (o + 1) j v) = upd2 (payD o ρ L c V) (o + 1) j v := by
  have e1 : ∀ p, upd2 V (o + 1) j v (o + 6 + ρ p) 2 = V (o + 6 + ρ p) 2 := fun p => by rw [upd2_ra (by omega)]
  have e2 : ∀ X k p, mapD o ρ X (upd2 V (o + 1) j v) k (o + 6 + ρ p) = mapD o ρ X V k (o + 6 + ρ p) := fun X k p => by rw [mapD_upd2 (by omega), upd2_ra (by omega)]
  unfold payD
  simp only [e1, e2]
  rw [mapD_upd2 (by omega)]
  funext b i
  by_cases h : b = o + 6 + ρ 0
  · subst h
    rw [upd2_ra (b := o + 6 + ρ 0) (a := o + 1) (by omega)]
    by_cases h3 : i = 3
    · subst h3; rw [upd2_eq, upd2_eq]
    · rw [upd2_nk h3, upd2_nk h3, upd2_ra (by omega)]
  · rw [upd2_ra h]
    by_cases h2 : b = o + 1
    · subst h2
      by_cases h3 : i = j
      · subst h3; rw [upd2_eq, upd2_eq]
      · rw [upd2_nk h3, upd2_nk h3, upd2_ra h]
    · rw [upd2_ra h2, upd2_ra h2, upd2_ra h]

set_option maxRecDepth 100000 in
set_option maxHeartbeats 4000000 in
theorem q_pay {κ : mKp} {n : Nat} {sh : mSh} {P : mPt} {D : mDt} {E : mEt} {q r : Nat} {lo : Nat → Nat} (hmS : sh q = some (.inl 7)) (hmP : P q 1 = some r) (hqr : q < r) (hL : rLay r lo sh P) {o L e m k : Nat} {ρ : Nat → Nat} {V : mDt} {t1 t2 t3 : Int32} (hS : rSim o L e ρ m k V r lo t1 t2 t3 D) (hI : cI o L e ρ m k V) (hL0 : 0 < L) (hall : ¬ rsum (fun p => V (o + 6 + ρ p) 2) L = 0) (c : Int32) : mFnI κ yX7_pay cX7_pay 6 (Option.some Jvm.ClassFile.FieldType.int) 1 22 [.ref q, .int c] n sh P D E (fun ans D' => (ans = c ∧ rSim o L e ρ m k (payD o ρ L c V) r lo t1 t2 t3 D') ∧ ∀ a, (a < r + 2 ∨ r + 12 ≤ a) → D' a = D a) := by
  refine mMet_of (by decide) (Nat.le_of_ble_eq_true rfl) ?_
  intro Γ Q hQ h hin
  have h : mOk Γ κ RX7 cX7_pay 6 (Option.some Jvm.ClassFile.FieldType.int) { frames := 1, cells := 0, slots := 0, locals := 22 } := h
  have hW := hI.1
  have hinj := hI.2.2.2.2.1
  have hρ : ∀ p, p < L → ρ p < 10 := fun p hp => (hW.1.2.2 p hp).1
  have hL10 := hW.1.2.1
  have hm8 := hW.2.2.2.1.1
  have hk8 := hW.2.2.2.2.2.1
  show mV Γ Q 0 0 n sh P D E [(0, .ref q), (1, .int c)] [] 0
  refine V_aload_n h 1 0 rfl dX7_pay_0 rfl ?_
  refine g_X7_10 h 4 (b := r) hmS hmP dX7_pay_1 rfl ?_
  refine CVI h 7 (As := []) (r_all hL hS hW) rfl (R_s0 hL) qL_X7_35 qI_X6_all qS_X6_all qZ_X6 qC_X6_all hd_X6_all ⟨Nat.le_of_ble_eq_true rfl, Nat.le_of_ble_eq_true rfl⟩ (Nat.le_of_ble_eq_true rfl) rfl rfl dX7_pay_4 (Nat.zero_le _) (Nat.zero_le _) (fun r1 D1 hq1 => ?_)
  rw [hq1.1, hq1.2]
  refine V_istore_n h 8 [(2, .int (rsum (fun p => V (o + 6 + ρ p) 2) L)), (0, .ref q), (1, .int c)] (by decide) rfl dX7_pay_7 rfl ?_
  refine V_iload_n h 9 2 rfl dX7_pay_8 rfl ?_
  refine V_istore_n h 10 [(3, .int c), (2, .int (rsum (fun p => V (o + 6 + ρ p) 2) L)), (0, .ref q), (1, .int c)] (by decide) rfl dX7_pay_9 rfl ?_
  refine V_iconst h 11 (v := 0) (by decide) dX7_pay_10 rfl ?_
  refine V_istore h 13 [(4, .int 0), (3, .int c), (2, .int (rsum (fun p => V (o + 6 + ρ p) 2) L)), (0, .ref q), (1, .int c)] (by decide) rfl dX7_pay_11 rfl ?_
  have LP13 : ∀ (kk : Nat) (i : Nat) (x3 x4 : Int32) (Dk : mDt), (i ≤ L) → (x3 = lsub c (fun p => c * mapD o ρ (fun _ => shareX c (rsum (fun p => V (o + 6 + ρ p) 2) L)) V p (o + 6 + ρ p) 2 / rsum (fun p => V (o + 6 + ρ p) 2) L) i) → (x4 = nI i) → (rSim o L e ρ m k (mapD o ρ (fun _ => shareX c (rsum (fun p => V (o + 6 + ρ p) 2) L)) V i) r lo t1 t2 t3 Dk) → (∀ a, (a < r + 2 ∨ r + 12 ≤ a) → Dk a = D a) → L - i < kk → mV Γ Q 0 0 n sh P Dk E [(0, .ref q), (1, .int c), (2, .int (rsum (fun p => V (o + 6 + ρ p) 2) L)), (3, .int x3), (4, .int x4)] [] 13 := by
    intro kk
    induction kk with
    | zero =>
      intro i x3 x4 Dk _ _ _ _ _ hms
      exact absurd hms (Nat.not_lt_zero _)
    | succ kk ih =>
      intro i x3 x4 Dk hi e3 e4 hSk hFk hms
      subst e4
      refine V_iload h 15 4 rfl dX7_pay_13 rfl ?_
      refine V_aload_n h 16 0 rfl dX7_pay_15 rfl ?_
      refine g_X7_10 h 19 (b := r) hmS hmP dX7_pay_16 rfl ?_
      refine g_X7_53 h 22 (R_s0 hL) dX7_pay_19 rfl ?_
      refine V_top (y := nI L) hSk.2.2.2.2.1.2.1 ?_
      refine V_icmp_ge h 73 25 dX7_pay_22 (by decide) rfl (fun c22 => ?_) (fun c22 => ?_)
      · skip
        have hex : i = L := by have := mGe c22 (by omega) (by omega); omega
        refine V_aload_n h 74 0 rfl dX7_pay_73 rfl ?_
        refine V_aload_n h 75 0 rfl dX7_pay_74 rfl ?_
        refine g_X7_10 h 78 (b := r) hmS hmP dX7_pay_75 rfl ?_
        refine g_X7_49 h 81 (b := r + 12) (R_s0 hL) (R_p1 hL) dX7_pay_78 rfl ?_
        refine V_iconst h 82 (v := 0) (by decide) dX7_pay_81 rfl ?_
        refine V_iald h 83 0 (R_s12 hL) (by decide) (by decide) (by decide) dX7_pay_82 rfl ?_
        refine V_top (y := nI (ρ 0)) (hSk.2.1 0 hL0) ?_
        refine CVR h 86 (As := [.int (nI (ρ 0))]) (q_at hmS hmP hL (t := (ρ 0)) (hρ 0 hL0)) rfl hmS qL_X7_39 qI_X7_at qS_X7_at qZ_X7 qC_X7_at hd_X7_at ⟨Nat.le_of_ble_eq_true rfl, Nat.le_of_ble_eq_true rfl⟩ (Nat.le_of_ble_eq_true rfl) rfl rfl dX7_pay_83 (Nat.zero_le _) (Nat.zero_le _) (fun r2 D2 hq2 => ?_)
        rw [hq2.1, hq2.2]
        refine V_iconst h 87 (v := 1) (by decide) dX7_pay_86 rfl ?_
        refine V_dup2 h 88 rfl rfl dX7_pay_87 rfl ?_
        refine V_iald h 89 1 (R_sw hL (hρ 0 hL0)) (by decide) (by decide) (by decide) dX7_pay_88 rfl ?_
        refine V_top (y := (mapD o ρ (fun _ => shareX c (rsum (fun p => V (o + 6 + ρ p) 2) L)) V i) (o + 6 + (ρ 0)) 3) (hSk.1 (ρ 0) (hρ 0 hL0) 1 (by decide)) ?_
        refine V_iload_n h 90 3 rfl dX7_pay_89 rfl ?_
        refine V_isub h 91 dX7_pay_90 rfl ?_
        refine V_iast h 92 1 (R_sw hL (hρ 0 hL0)) (by decide) (by decide) (by decide) dX7_pay_91 rfl ?_
        obtain ⟨D3, eD3⟩ : ∃ zz, zz = upd2 Dk (r + 2 + (ρ 0)) 1 (((mapD o ρ (fun _ => shareX c (rsum (fun p => V (o + 6 + ρ p) 2) L)) V i) (o + 6 + (ρ 0)) 3) - x3) := ⟨_, rfl⟩
        rw [← eD3]
        refine V_iload_n h 93 1 rfl dX7_pay_92 rfl ?_
        exact V_iret h rfl hQ (Nat.zero_le _) (Nat.zero_le _) ⟨rfl, rfl, rfl, rfl, _, rfl, ⟨⟨rfl, by rw [hex] at hSk e3; rw [payD, upd2_sr]; exact rSim_row hSk hm8 hk8 hL.2.2.2.1 (hρ 0 hL0) (fun a ha => by rw [eD3, upd2_ra ha]) (by rw [eD3, upd2_row, e3, hex]; exact rwq_upd (hSk.1 _ (hρ 0 hL0)) 1 (by decide) rfl)⟩, fun a ha => by rw [eD3, upd2_ra (by have := hρ 0 hL0; omega)]; exact hFk a ha⟩⟩ dX7_pay_93
      · skip
        have hlt := mLt c22 (by omega)
        have hρi := hρ i hlt
        have hmi : mapD o ρ (fun _ => shareX c (rsum (fun p => V (o + 6 + ρ p) 2) L)) V i (o + 6 + ρ i) = V (o + 6 + ρ i) := mapD_other (fun q2 hq2 => by have := hinj q2 i hq2 hlt; omega)
        refine V_aload_n h 26 0 rfl dX7_pay_25 rfl ?_
        refine V_aload_n h 27 0 rfl dX7_pay_26 rfl ?_
        refine g_X7_10 h 30 (b := r) hmS hmP dX7_pay_27 rfl ?_
        refine g_X7_49 h 33 (b := r + 12) (R_s0 hL) (R_p1 hL) dX7_pay_30 rfl ?_
        refine V_iload h 35 4 rfl dX7_pay_33 rfl ?_
        refine V_iald h 36 i (R_s12 hL) rfl (by omega) (by decide) dX7_pay_35 rfl ?_
        refine V_top (y := nI (ρ i)) (hSk.2.1 i hlt) ?_
        refine CVR h 39 (As := [.int (nI (ρ i))]) (q_at hmS hmP hL (t := (ρ i)) hρi) rfl hmS qL_X7_39 qI_X7_at qS_X7_at qZ_X7 qC_X7_at hd_X7_at ⟨Nat.le_of_ble_eq_true rfl, Nat.le_of_ble_eq_true rfl⟩ (Nat.le_of_ble_eq_true rfl) rfl rfl dX7_pay_36 (Nat.zero_le _) (Nat.zero_le _) (fun r4 D4 hq4 => ?_)
        rw [hq4.1, hq4.2]
        refine V_astore h 41 [(5, .ref (r + 2 + (ρ i))), (0, .ref q), (1, .int c), (2, .int (rsum (fun p => V (o + 6 + ρ p) 2) L)), (3, .int x3), (4, .int (nI i))] (by decide) rfl dX7_pay_39 rfl ?_
        refine V_aload h 43 0 rfl dX7_pay_41 rfl ?_
        refine V_iconst h 44 (v := 1) (by decide) dX7_pay_43 rfl ?_
        refine V_dup2 h 45 rfl rfl dX7_pay_44 rfl ?_
        refine V_iald h 46 1 (R_sw hL hρi) (by decide) (by decide) (by decide) dX7_pay_45 rfl ?_
        refine V_top (y := (mapD o ρ (fun _ => shareX c (rsum (fun p => V (o + 6 + ρ p) 2) L)) V i) (o + 6 + (ρ i)) 3) (hSk.1 (ρ i) hρi 1 (by decide)) ?_
        refine V_iload_n h 47 2 rfl dX7_pay_46 rfl ?_
        refine V_aload h 49 0 rfl dX7_pay_47 rfl ?_
        refine V_iconst h 50 (v := 0) (by decide) dX7_pay_49 rfl ?_
        refine V_iald h 51 0 (R_sw hL hρi) (by decide) (by decide) (by decide) dX7_pay_50 rfl ?_
        refine V_top (y := (mapD o ρ (fun _ => shareX c (rsum (fun p => V (o + 6 + ρ p) 2) L)) V i) (o + 6 + (ρ i)) 2) (hSk.1 (ρ i) hρi 0 (by decide)) ?_
        refine V_imul h 52 dX7_pay_51 rfl ?_
        refine V_iload_n h 53 3 rfl dX7_pay_52 rfl ?_
        refine V_idiv h 54 hall dX7_pay_53 rfl ?_
        refine V_isub h 55 dX7_pay_54 rfl ?_
        refine V_iast h 56 1 (R_sw hL hρi) (by decide) (by decide) (by decide) dX7_pay_55 rfl ?_
        obtain ⟨D5, eD5⟩ : ∃ zz, zz = upd2 Dk (r + 2 + (ρ i)) 1 (((mapD o ρ (fun _ => shareX c (rsum (fun p => V (o + 6 + ρ p) 2) L)) V i) (o + 6 + (ρ i)) 3) - ((c * ((mapD o ρ (fun _ => shareX c (rsum (fun p => V (o + 6 + ρ p) 2) L)) V i) (o + 6 + (ρ i)) 2)) / (rsum (fun p => V (o + 6 + ρ p) 2) L))) := ⟨_, rfl⟩
        rw [← eD5]
        refine V_iload_n h 57 4 rfl dX7_pay_56 rfl ?_
        refine V_iload_n h 58 2 rfl dX7_pay_57 rfl ?_
        refine V_aload h 60 0 rfl dX7_pay_58 rfl ?_
        refine V_iconst h 61 (v := 0) (by decide) dX7_pay_60 rfl ?_
        refine V_iald h 62 0 (R_sw hL hρi) (by decide) (by decide) (by decide) dX7_pay_61 rfl ?_
        refine V_top (y := (mapD o ρ (fun _ => shareX c (rsum (fun p => V (o + 6 + ρ p) 2) L)) V i) (o + 6 + (ρ i)) 2) (by rw [eD5, upd2_nk (by decide)]; exact (hSk.1 (ρ i) hρi 0 (by decide))) ?_
        refine V_imul h 63 dX7_pay_62 rfl ?_
        refine V_iload_n h 64 3 rfl dX7_pay_63 rfl ?_
        refine V_idiv h 65 hall dX7_pay_64 rfl ?_
        refine V_isub h 66 dX7_pay_65 rfl ?_
        refine V_istore_n h 67 [(3, .int (x3 - ((c * ((mapD o ρ (fun _ => shareX c (rsum (fun p => V (o + 6 + ρ p) 2) L)) V i) (o + 6 + (ρ i)) 2)) / (rsum (fun p => V (o + 6 + ρ p) 2) L)))), (5, .ref (r + 2 + (ρ i))), (0, .ref q), (1, .int c), (2, .int (rsum (fun p => V (o + 6 + ρ p) 2) L)), (4, .int (nI i))] (by decide) rfl dX7_pay_66 rfl ?_
        refine V_iinc h 70 [(4, .int ((nI i) + 1)), (3, .int (x3 - ((c * ((mapD o ρ (fun _ => shareX c (rsum (fun p => V (o + 6 + ρ p) 2) L)) V i) (o + 6 + (ρ i)) 2)) / (rsum (fun p => V (o + 6 + ρ p) 2) L)))), (5, .ref (r + 2 + (ρ i))), (0, .ref q), (1, .int c), (2, .int (rsum (fun p => V (o + 6 + ρ p) 2) L))] 5 rfl (by rfl) (by decide) rfl dX7_pay_67 rfl ?_
        refine V_goto h 13 dX7_pay_70 (by decide) ?_
        refine V_lsub [(0, .ref q), (1, .int c), (2, .int (rsum (fun p => V (o + 6 + ρ p) 2) L)), (3, .int (x3 - ((c * ((mapD o ρ (fun _ => shareX c (rsum (fun p => V (o + 6 + ρ p) 2) L)) V i) (o + 6 + (ρ i)) 2)) / (rsum (fun p => V (o + 6 + ρ p) 2) L)))), (4, .int ((nI i) + 1))] [3, 4, 5, 1, 0] rfl ?_
        refine ih (i + 1) _ _ D5 (by omega) (by rw [lsub, ← e3]) (nI_1 i) ?_ (fun a ha => by rw [eD5, upd2_ra (by omega)]; exact hFk a ha) (by omega)
        rw [mapD]
        exact rSim_row hSk hm8 hk8 hL.2.2.2.1 hρi (fun a ha => by rw [eD5, upd2_ra ha]) (by rw [eD5, upd2_row]; exact rwq_upd (hSk.1 _ hρi) 1 (by decide) rfl)
  refine V_lsub [(0, .ref q), (1, .int c), (2, .int (rsum (fun p => V (o + 6 + ρ p) 2) L)), (3, .int c), (4, .int 0)] [3, 4, 2, 1, 0] rfl ?_
  exact LP13 _ 0 _ _ D (Nat.zero_le _) rfl rfl hS (fun a _ => rfl) (Nat.lt_succ_self _)

theorem cI_ch {o L e : Nat} {ρ : Nat → Nat} {m k : Nat} {V : mDt} {j : Nat} {v : Int32} (h : cI o L e ρ m k V) : cI o L e ρ m k (upd2 V (o + 1) j v) := by
  have hr : ∀ a, a ≠ o + 1 → upd2 V (o + 1) j v a = V a := fun a ha => upd2_ra ha
  obtain ⟨h1, h2, h3, h4, h5, h6, h7, h8⟩ := h
  refine ⟨cW_of (hr _ (by omega)) (hr _ (by omega)) (hr _ (by omega)) (hr _ (by omega)) (hr _ (by omega)) (hr _ (by omega)) (fun i hi => by rw [hr _ (by omega)]) h1, by rw [hr _ (by omega)]; exact h2, h3, h4, h5, h6, fun i hi => ?_, by rw [hr _ (by omega)]; exact h8⟩
  rw [hr _ (by omega)]
  exact h7 i hi
theorem all_0 {F : Nat → Int32} {L : Nat} (h : ∃ w, w ≤ 5040 ∧ rsum F L = nI w) : 0 < rsum F L ↔ ¬ rsum F L = 0 := by
  obtain ⟨w, hw, e⟩ := h
  rw [e]
  constructor
  · intro h1 h2; rw [h2] at h1; exact absurd h1 (by decide)
  · intro h1
    rcases Nat.eq_zero_or_pos w with q | q
    · subst q; exact absurd rfl h1
    · exact nI_lt (a := 0) (b := w) q (by omega)

set_option maxRecDepth 100000 in
set_option maxHeartbeats 4000000 in
theorem q_dig {κ : mKp} {n : Nat} {sh : mSh} {P : mPt} {D : mDt} {E : mEt} {q r : Nat} {lo : Nat → Nat} (hmS : sh q = some (.inl 7)) (hmP : P q 1 = some r) (hqr : q < r) (hL : rLay r lo sh P) {o L e m k : Nat} {ρ : Nat → Nat} {V : mDt} {t1 t2 t3 : Int32} (hS : rSim o L e ρ m k V r lo t1 t2 t3 D) (hI : cI o L e ρ m k V) (hbw : ∀ p, p ≤ L → ∃ w, w ≤ 5040 ∧ rsum (fun p => V (o + 6 + ρ p) 2) p = nI w) (x : Int32) : mFnI κ yX7_dig cX7_dig 3 (Option.some Jvm.ClassFile.FieldType.int) 2 47 [.ref q, .int x] n sh P D E (fun ans D' => rOut 1 2 True (wP x 1 80) (V (o + 1) 1 + x ≤ 90 ∧ 0 < rsum (fun p => V (o + 6 + ρ p) 2) L) (D' q 0) (ans = (5 + V (o + 1) 1 / 10) * x ∧ rSim o L e ρ m k (upd2 (payD o ρ L ((5 + V (o + 1) 1 / 10) * x) V) (o + 1) 1 (V (o + 1) 1 + x)) r lo t1 t2 t3 D') (rSim o L e ρ m k V r lo t1 t2 t3 D') ∧ ∀ a, (a < q ∨ r + 32 ≤ a) → D' a = D a) := by
  refine mMet_of (by decide) (Nat.le_of_ble_eq_true rfl) ?_
  intro Γ Q hQ h hin
  have h : mOk Γ κ RX7 cX7_dig 3 (Option.some Jvm.ClassFile.FieldType.int) { frames := 2, cells := 0, slots := 0, locals := 47 } := h
  have hW := hI.1
  have hinj := hI.2.2.2.2.1
  have hρ : ∀ p, p < L → ρ p < 10 := fun p hp => (hW.1.2.2 p hp).1
  have hL10 := hW.1.2.1
  have hm8 := hW.2.2.2.1.1
  have hk8 := hW.2.2.2.2.2.1
  show mV Γ Q 0 0 n sh P D E [(0, .ref q), (1, .int x)] [] 0
  refine V_aload_n h 1 0 rfl dX7_dig_0 rfl ?_
  refine V_iconst h 2 (v := 0) (by decide) dX7_dig_1 rfl ?_
  refine p_X7_16 h 5 hmS dX7_dig_2 rfl ?_
  obtain ⟨D1, eD1⟩ : ∃ zz, zz = upd2 D q 0 0 := ⟨_, rfl⟩
  rw [← eD1]
  have hS1 := rSim_q (D' := D1) hS hm8 hk8 hL.2.2.2.1 hqr (fun a ha => by rw [eD1, upd2_ra ha])
  refine V_iload_n h 6 1 rfl dX7_dig_5 rfl ?_
  refine V_iconst h 7 (v := 1) (by decide) dX7_dig_6 rfl ?_
  refine V_bipush h 9 (v := 80) (by decide) dX7_dig_7 rfl ?_
  refine CSI h 12 (As := [.int x, .int 1, .int 80]) (q_in x 1 80) qL_X7_23 qT_X7_in qZ_X7 qC_X7_in hd_X7_in ⟨Nat.le_of_ble_eq_true rfl, Nat.le_of_ble_eq_true rfl⟩ (Nat.le_of_ble_eq_true rfl) rfl rfl dX7_dig_9 (Nat.zero_le _) (Nat.zero_le _) (fun r2 D2 hq2 => ?_)
  rw [hq2.1, hq2.2]
  refine V_if_ne h 21 15 dX7_dig_12 (by decide) rfl (fun c12 => ?_) (fun c12 => ?_)
  · skip
    refine V_aload_n h 22 0 rfl dX7_dig_21 rfl ?_
    refine g_X7_10 h 25 (b := r) hmS hmP dX7_dig_22 rfl ?_
    refine g_X7_82 h 28 (R_s0 hL) dX7_dig_25 rfl ?_
    refine V_top (y := V (o + 1) 1) (by rw [eD1, upd2_nk (by decide)]; exact hS.2.2.2.2.1.2.2.2.2.2.2.1) ?_
    refine V_iload_n h 29 1 rfl dX7_dig_28 rfl ?_
    refine V_iadd h 30 dX7_dig_29 rfl ?_
    refine V_bipush h 32 (v := 90) (by decide) dX7_dig_30 rfl ?_
    refine V_icmp_gt h 45 35 dX7_dig_32 (by decide) rfl (fun c32 => ?_) (fun c32 => ?_)
    · skip
      refine V_aload_n h 46 0 rfl dX7_dig_45 rfl ?_
      refine V_iconst h 47 (v := 2) (by decide) dX7_dig_46 rfl ?_
      refine CVI h 50 (As := [.int 2]) (q_no hmS 2) rfl hmS qL_X7_31 qI_X7_no qS_X7_no qZ_X7 qC_X7_no hd_X7_no ⟨Nat.le_of_ble_eq_true rfl, Nat.le_of_ble_eq_true rfl⟩ (Nat.le_of_ble_eq_true rfl) rfl rfl dX7_dig_47 (Nat.zero_le _) (Nat.zero_le _) (fun r3 D3 hq3 => ?_)
      obtain ⟨eD3, erD3⟩ := hq3
      rw [erD3]
      exact V_iret h rfl hQ (Nat.zero_le _) (Nat.zero_le _) ⟨rfl, rfl, rfl, rfl, _, rfl, ⟨rO3 trivial (wI_1 c12) (fun z => absurd z.1 (Int32.not_le.mpr c32)) (by rw [eD3, upd2_eq]) (rSim_q hS hm8 hk8 hL.2.2.2.1 hqr (fun a ha => by rw [eD3, eD1, upd2_ra ha, upd2_ra ha])), fun a ha => by rw [eD3, eD1, upd2_ra (by omega), upd2_ra (by omega)]⟩⟩ dX7_dig_50
    · skip
      refine V_aload_n h 36 0 rfl dX7_dig_35 rfl ?_
      refine g_X7_10 h 39 (b := r) hmS hmP dX7_dig_36 rfl ?_
      refine CVI h 42 (As := []) (r_all hL hS1 hW) rfl (R_s0 hL) qL_X7_35 qI_X6_all qS_X6_all qZ_X6 qC_X6_all hd_X6_all ⟨Nat.le_of_ble_eq_true rfl, Nat.le_of_ble_eq_true rfl⟩ (Nat.le_of_ble_eq_true rfl) rfl rfl dX7_dig_39 (Nat.zero_le _) (Nat.zero_le _) (fun r4 D4 hq4 => ?_)
      rw [hq4.1, hq4.2]
      refine V_if_ne h 51 45 dX7_dig_42 (by decide) rfl (fun c42 => ?_) (fun c42 => ?_)
      · skip
        have hA0 : ¬ rsum (fun p => V (o + 6 + ρ p) 2) L = 0 := c42
        have hL0 : 0 < L := Nat.pos_of_ne_zero (fun z => hA0 (by subst z; rfl))
        refine V_iload_n h 52 1 rfl dX7_dig_51 rfl ?_
        refine V_iconst h 53 (v := 5) (by decide) dX7_dig_52 rfl ?_
        refine V_aload_n h 54 0 rfl dX7_dig_53 rfl ?_
        refine g_X7_10 h 57 (b := r) hmS hmP dX7_dig_54 rfl ?_
        refine g_X7_82 h 60 (R_s0 hL) dX7_dig_57 rfl ?_
        refine V_top (y := V (o + 1) 1) (by rw [eD1, upd2_nk (by decide)]; exact hS.2.2.2.2.1.2.2.2.2.2.2.1) ?_
        refine V_bipush h 62 (v := 10) (by decide) dX7_dig_60 rfl ?_
        refine V_idiv h 63 (by decide) dX7_dig_62 rfl ?_
        refine V_iadd h 64 dX7_dig_63 rfl ?_
        refine V_imul h 65 dX7_dig_64 rfl ?_
        refine V_istore_n h 66 [(2, .int (x * (5 + ((V (o + 1) 1) / 10)))), (0, .ref q), (1, .int x)] (by decide) rfl dX7_dig_65 rfl ?_
        refine V_aload_n h 67 1 rfl dX7_dig_66 rfl ?_
        refine g_X7_10 h 70 (b := r) hmS hmP dX7_dig_67 rfl ?_
        refine V_dup h 71 rfl dX7_dig_70 rfl ?_
        refine g_X7_82 h 74 (R_s0 hL) dX7_dig_71 rfl ?_
        refine V_top (y := V (o + 1) 1) (by rw [eD1, upd2_nk (by decide)]; exact hS.2.2.2.2.1.2.2.2.2.2.2.1) ?_
        refine V_iload_n h 75 2 rfl dX7_dig_74 rfl ?_
        refine V_iadd h 76 dX7_dig_75 rfl ?_
        refine p_X7_82 h 79 (R_s0 hL) dX7_dig_76 rfl ?_
        obtain ⟨D5, eD5⟩ : ∃ zz, zz = upd2 D1 r 11 ((V (o + 1) 1) + x) := ⟨_, rfl⟩
        rw [← eD5]
        refine V_aload_n h 80 1 rfl dX7_dig_79 rfl ?_
        refine V_iload_n h 81 0 rfl dX7_dig_80 rfl ?_
        have hSC : rSim o L e ρ m k (upd2 V (o + 1) 1 (V (o + 1) 1 + x)) r lo t1 t2 t3 D5 := rSim_ch hS1 hm8 hk8 hL.2.2.2.1 (j := 1) (by decide) eD5
        have hIC : cI o L e ρ m k (upd2 V (o + 1) 1 (V (o + 1) 1 + x)) := cI_ch hI
        have hAC : rsum (fun p => (upd2 V (o + 1) 1 (V (o + 1) 1 + x)) (o + 6 + ρ p) 2) L = rsum (fun p => V (o + 6 + ρ p) 2) L := rsum_cg (fun p hp => by show upd2 V (o + 1) 1 _ (o + 6 + ρ p) 2 = _; rw [upd2_ra (by omega)])
        refine CVI h 84 (As := [.int (x * (5 + ((V (o + 1) 1) / 10)))]) (q_pay hmS hmP hqr hL hSC hIC hL0 (by rw [hAC]; exact hA0) (x * (5 + ((V (o + 1) 1) / 10)))) rfl hmS qL_X7_85 qI_X7_pay qS_X7_pay qZ_X7 qC_X7_pay hd_X7_pay ⟨Nat.le_of_ble_eq_true rfl, Nat.le_of_ble_eq_true rfl⟩ (Nat.le_of_ble_eq_true rfl) rfl rfl dX7_dig_81 (Nat.zero_le _) (Nat.zero_le _) (fun r6 D6 hq6 => ?_)
        obtain ⟨⟨er9, hSP⟩, hFP⟩ := hq6
        exact V_iret h rfl hQ (Nat.zero_le _) (Nat.zero_le _) ⟨rfl, rfl, rfl, rfl, _, rfl, ⟨rO4 trivial (wI_1 c12) (⟨Int32.not_lt.mp c32, (all_0 (hbw L (Nat.le_refl _))).mpr c42⟩) (by rw [hFP q (by omega), eD5, eD1, upd2_na (by omega), upd2_eq]) ⟨er9.trans (Int32.mul_comm _ _), by rw [← payD_ch, Int32.mul_comm (5 + V (o + 1) 1 / 10) x]; exact hSP⟩, fun a ha => by rw [hFP a (by omega), eD5, eD1, upd2_ra (by omega), upd2_ra (by omega)]⟩⟩ dX7_dig_84
      · skip
        refine V_aload_n h 46 0 rfl dX7_dig_45 rfl ?_
        refine V_iconst h 47 (v := 2) (by decide) dX7_dig_46 rfl ?_
        refine CVI h 50 (As := [.int 2]) (q_no hmS 2) rfl hmS qL_X7_31 qI_X7_no qS_X7_no qZ_X7 qC_X7_no hd_X7_no ⟨Nat.le_of_ble_eq_true rfl, Nat.le_of_ble_eq_true rfl⟩ (Nat.le_of_ble_eq_true rfl) rfl rfl dX7_dig_47 (Nat.zero_le _) (Nat.zero_le _) (fun r7 D7 hq7 => ?_)
        obtain ⟨eD7, erD7⟩ := hq7
        rw [erD7]
        exact V_iret h rfl hQ (Nat.zero_le _) (Nat.zero_le _) ⟨rfl, rfl, rfl, rfl, _, rfl, ⟨rO3 trivial (wI_1 c12) (fun z => (all_0 (hbw L (Nat.le_refl _))).mp z.2 c42) (by rw [eD7, upd2_eq]) (rSim_q hS hm8 hk8 hL.2.2.2.1 hqr (fun a ha => by rw [eD7, eD1, upd2_ra ha, upd2_ra ha])), fun a ha => by rw [eD7, eD1, upd2_ra (by omega), upd2_ra (by omega)]⟩⟩ dX7_dig_50
  · skip
    refine V_aload_n h 16 0 rfl dX7_dig_15 rfl ?_
    refine V_iconst h 17 (v := 1) (by decide) dX7_dig_16 rfl ?_
    refine CVI h 20 (As := [.int 1]) (q_no hmS 1) rfl hmS qL_X7_31 qI_X7_no qS_X7_no qZ_X7 qC_X7_no hd_X7_no ⟨Nat.le_of_ble_eq_true rfl, Nat.le_of_ble_eq_true rfl⟩ (Nat.le_of_ble_eq_true rfl) rfl rfl dX7_dig_17 (Nat.zero_le _) (Nat.zero_le _) (fun r8 D8 hq8 => ?_)
    obtain ⟨eD8, erD8⟩ := hq8
    rw [erD8]
    exact V_iret h rfl hQ (Nat.zero_le _) (Nat.zero_le _) ⟨rfl, rfl, rfl, rfl, _, rfl, ⟨rO2 trivial (wI_0 c12) (by rw [eD8, upd2_eq]) (rSim_q hS hm8 hk8 hL.2.2.2.1 hqr (fun a ha => by rw [eD8, eD1, upd2_ra ha, upd2_ra ha])), fun a ha => by rw [eD8, eD1, upd2_ra (by omega), upd2_ra (by omega)]⟩⟩ dX7_dig_20

set_option maxRecDepth 100000 in
set_option maxHeartbeats 4000000 in
theorem q_clean {κ : mKp} {n : Nat} {sh : mSh} {P : mPt} {D : mDt} {E : mEt} {q r : Nat} {lo : Nat → Nat} (hmS : sh q = some (.inl 7)) (hmP : P q 1 = some r) (hqr : q < r) (hL : rLay r lo sh P) {o L e m k : Nat} {ρ : Nat → Nat} {V : mDt} {t1 t2 t3 : Int32} (hS : rSim o L e ρ m k V r lo t1 t2 t3 D) (hI : cI o L e ρ m k V) (hbw : ∀ p, p ≤ L → ∃ w, w ≤ 5040 ∧ rsum (fun p => V (o + 6 + ρ p) 2) p = nI w) (x : Int32) : mFnI κ yX7_clean cX7_clean 2 (Option.some Jvm.ClassFile.FieldType.int) 2 47 [.ref q, .int x] n sh P D E (fun ans D' => rOut 1 2 True (wP x 1 30) (x ≤ V (o + 1) 2 ∧ 0 < rsum (fun p => V (o + 6 + ρ p) 2) L) (D' q 0) (ans = 3 * x ∧ rSim o L e ρ m k (upd2 (payD o ρ L (3 * x) V) (o + 1) 2 (V (o + 1) 2 - x)) r lo t1 t2 t3 D') (rSim o L e ρ m k V r lo t1 t2 t3 D') ∧ ∀ a, (a < q ∨ r + 32 ≤ a) → D' a = D a) := by
  refine mMet_of (by decide) (Nat.le_of_ble_eq_true rfl) ?_
  intro Γ Q hQ h hin
  have h : mOk Γ κ RX7 cX7_clean 2 (Option.some Jvm.ClassFile.FieldType.int) { frames := 2, cells := 0, slots := 0, locals := 47 } := h
  have hW := hI.1
  have hinj := hI.2.2.2.2.1
  have hρ : ∀ p, p < L → ρ p < 10 := fun p hp => (hW.1.2.2 p hp).1
  have hL10 := hW.1.2.1
  have hm8 := hW.2.2.2.1.1
  have hk8 := hW.2.2.2.2.2.1
  show mV Γ Q 0 0 n sh P D E [(0, .ref q), (1, .int x)] [] 0
  refine V_aload_n h 1 0 rfl dX7_clean_0 rfl ?_
  refine V_iconst h 2 (v := 0) (by decide) dX7_clean_1 rfl ?_
  refine p_X7_16 h 5 hmS dX7_clean_2 rfl ?_
  obtain ⟨D1, eD1⟩ : ∃ zz, zz = upd2 D q 0 0 := ⟨_, rfl⟩
  rw [← eD1]
  have hS1 := rSim_q (D' := D1) hS hm8 hk8 hL.2.2.2.1 hqr (fun a ha => by rw [eD1, upd2_ra ha])
  refine V_iload_n h 6 1 rfl dX7_clean_5 rfl ?_
  refine V_iconst h 7 (v := 1) (by decide) dX7_clean_6 rfl ?_
  refine V_bipush h 9 (v := 30) (by decide) dX7_clean_7 rfl ?_
  refine CSI h 12 (As := [.int x, .int 1, .int 30]) (q_in x 1 30) qL_X7_23 qT_X7_in qZ_X7 qC_X7_in hd_X7_in ⟨Nat.le_of_ble_eq_true rfl, Nat.le_of_ble_eq_true rfl⟩ (Nat.le_of_ble_eq_true rfl) rfl rfl dX7_clean_9 (Nat.zero_le _) (Nat.zero_le _) (fun r2 D2 hq2 => ?_)
  rw [hq2.1, hq2.2]
  refine V_if_ne h 21 15 dX7_clean_12 (by decide) rfl (fun c12 => ?_) (fun c12 => ?_)
  · skip
    refine V_iload_n h 22 1 rfl dX7_clean_21 rfl ?_
    refine V_aload_n h 23 0 rfl dX7_clean_22 rfl ?_
    refine g_X7_10 h 26 (b := r) hmS hmP dX7_clean_23 rfl ?_
    refine g_X7_88 h 29 (R_s0 hL) dX7_clean_26 rfl ?_
    refine V_top (y := V (o + 1) 2) (by rw [eD1, upd2_nk (by decide)]; exact hS.2.2.2.2.1.2.2.2.2.2.2.2.1) ?_
    refine V_icmp_gt h 42 32 dX7_clean_29 (by decide) rfl (fun c29 => ?_) (fun c29 => ?_)
    · skip
      refine V_aload_n h 43 0 rfl dX7_clean_42 rfl ?_
      refine V_iconst h 44 (v := 2) (by decide) dX7_clean_43 rfl ?_
      refine CVI h 47 (As := [.int 2]) (q_no hmS 2) rfl hmS qL_X7_31 qI_X7_no qS_X7_no qZ_X7 qC_X7_no hd_X7_no ⟨Nat.le_of_ble_eq_true rfl, Nat.le_of_ble_eq_true rfl⟩ (Nat.le_of_ble_eq_true rfl) rfl rfl dX7_clean_44 (Nat.zero_le _) (Nat.zero_le _) (fun r3 D3 hq3 => ?_)
      obtain ⟨eD3, erD3⟩ := hq3
      rw [erD3]
      exact V_iret h rfl hQ (Nat.zero_le _) (Nat.zero_le _) ⟨rfl, rfl, rfl, rfl, _, rfl, ⟨rO3 trivial (wI_1 c12) (fun z => absurd z.1 (Int32.not_le.mpr c29)) (by rw [eD3, upd2_eq]) (rSim_q hS hm8 hk8 hL.2.2.2.1 hqr (fun a ha => by rw [eD3, eD1, upd2_ra ha, upd2_ra ha])), fun a ha => by rw [eD3, eD1, upd2_ra (by omega), upd2_ra (by omega)]⟩⟩ dX7_clean_47
    · skip
      refine V_aload_n h 33 0 rfl dX7_clean_32 rfl ?_
      refine g_X7_10 h 36 (b := r) hmS hmP dX7_clean_33 rfl ?_
      refine CVI h 39 (As := []) (r_all hL hS1 hW) rfl (R_s0 hL) qL_X7_35 qI_X6_all qS_X6_all qZ_X6 qC_X6_all hd_X6_all ⟨Nat.le_of_ble_eq_true rfl, Nat.le_of_ble_eq_true rfl⟩ (Nat.le_of_ble_eq_true rfl) rfl rfl dX7_clean_36 (Nat.zero_le _) (Nat.zero_le _) (fun r4 D4 hq4 => ?_)
      rw [hq4.1, hq4.2]
      refine V_if_ne h 48 42 dX7_clean_39 (by decide) rfl (fun c39 => ?_) (fun c39 => ?_)
      · skip
        have hA0 : ¬ rsum (fun p => V (o + 6 + ρ p) 2) L = 0 := c39
        have hL0 : 0 < L := Nat.pos_of_ne_zero (fun z => hA0 (by subst z; rfl))
        refine V_aload_n h 49 0 rfl dX7_clean_48 rfl ?_
        refine g_X7_10 h 52 (b := r) hmS hmP dX7_clean_49 rfl ?_
        refine V_dup h 53 rfl dX7_clean_52 rfl ?_
        refine g_X7_88 h 56 (R_s0 hL) dX7_clean_53 rfl ?_
        refine V_top (y := V (o + 1) 2) (by rw [eD1, upd2_nk (by decide)]; exact hS.2.2.2.2.1.2.2.2.2.2.2.2.1) ?_
        refine V_iload_n h 57 1 rfl dX7_clean_56 rfl ?_
        refine V_isub h 58 dX7_clean_57 rfl ?_
        refine p_X7_88 h 61 (R_s0 hL) dX7_clean_58 rfl ?_
        obtain ⟨D5, eD5⟩ : ∃ zz, zz = upd2 D1 r 12 ((V (o + 1) 2) - x) := ⟨_, rfl⟩
        rw [← eD5]
        refine V_aload_n h 62 0 rfl dX7_clean_61 rfl ?_
        refine V_iconst h 63 (v := 3) (by decide) dX7_clean_62 rfl ?_
        refine V_iload_n h 64 1 rfl dX7_clean_63 rfl ?_
        refine V_imul h 65 dX7_clean_64 rfl ?_
        have hSC : rSim o L e ρ m k (upd2 V (o + 1) 2 (V (o + 1) 2 - x)) r lo t1 t2 t3 D5 := rSim_ch hS1 hm8 hk8 hL.2.2.2.1 (j := 2) (by decide) eD5
        have hIC : cI o L e ρ m k (upd2 V (o + 1) 2 (V (o + 1) 2 - x)) := cI_ch hI
        have hAC : rsum (fun p => (upd2 V (o + 1) 2 (V (o + 1) 2 - x)) (o + 6 + ρ p) 2) L = rsum (fun p => V (o + 6 + ρ p) 2) L := rsum_cg (fun p hp => by show upd2 V (o + 1) 2 _ (o + 6 + ρ p) 2 = _; rw [upd2_ra (by omega)])
        refine CVI h 68 (As := [.int (3 * x)]) (q_pay hmS hmP hqr hL hSC hIC hL0 (by rw [hAC]; exact hA0) (3 * x)) rfl hmS qL_X7_85 qI_X7_pay qS_X7_pay qZ_X7 qC_X7_pay hd_X7_pay ⟨Nat.le_of_ble_eq_true rfl, Nat.le_of_ble_eq_true rfl⟩ (Nat.le_of_ble_eq_true rfl) rfl rfl dX7_clean_65 (Nat.zero_le _) (Nat.zero_le _) (fun r6 D6 hq6 => ?_)
        obtain ⟨⟨er9, hSP⟩, hFP⟩ := hq6
        exact V_iret h rfl hQ (Nat.zero_le _) (Nat.zero_le _) ⟨rfl, rfl, rfl, rfl, _, rfl, ⟨rO4 trivial (wI_1 c12) (⟨Int32.not_lt.mp c29, (all_0 (hbw L (Nat.le_refl _))).mpr c39⟩) (by rw [hFP q (by omega), eD5, eD1, upd2_na (by omega), upd2_eq]) ⟨er9.trans rfl, by rw [← payD_ch]; exact hSP⟩, fun a ha => by rw [hFP a (by omega), eD5, eD1, upd2_ra (by omega), upd2_ra (by omega)]⟩⟩ dX7_clean_68
      · skip
        refine V_aload_n h 43 0 rfl dX7_clean_42 rfl ?_
        refine V_iconst h 44 (v := 2) (by decide) dX7_clean_43 rfl ?_
        refine CVI h 47 (As := [.int 2]) (q_no hmS 2) rfl hmS qL_X7_31 qI_X7_no qS_X7_no qZ_X7 qC_X7_no hd_X7_no ⟨Nat.le_of_ble_eq_true rfl, Nat.le_of_ble_eq_true rfl⟩ (Nat.le_of_ble_eq_true rfl) rfl rfl dX7_clean_44 (Nat.zero_le _) (Nat.zero_le _) (fun r7 D7 hq7 => ?_)
        obtain ⟨eD7, erD7⟩ := hq7
        rw [erD7]
        exact V_iret h rfl hQ (Nat.zero_le _) (Nat.zero_le _) ⟨rfl, rfl, rfl, rfl, _, rfl, ⟨rO3 trivial (wI_1 c12) (fun z => (all_0 (hbw L (Nat.le_refl _))).mp z.2 c39) (by rw [eD7, upd2_eq]) (rSim_q hS hm8 hk8 hL.2.2.2.1 hqr (fun a ha => by rw [eD7, eD1, upd2_ra ha, upd2_ra ha])), fun a ha => by rw [eD7, eD1, upd2_ra (by omega), upd2_ra (by omega)]⟩⟩ dX7_clean_47
  · skip
    refine V_aload_n h 16 0 rfl dX7_clean_15 rfl ?_
    refine V_iconst h 17 (v := 1) (by decide) dX7_clean_16 rfl ?_
    refine CVI h 20 (As := [.int 1]) (q_no hmS 1) rfl hmS qL_X7_31 qI_X7_no qS_X7_no qZ_X7 qC_X7_no hd_X7_no ⟨Nat.le_of_ble_eq_true rfl, Nat.le_of_ble_eq_true rfl⟩ (Nat.le_of_ble_eq_true rfl) rfl rfl dX7_clean_17 (Nat.zero_le _) (Nat.zero_le _) (fun r8 D8 hq8 => ?_)
    obtain ⟨eD8, erD8⟩ := hq8
    rw [erD8]
    exact V_iret h rfl hQ (Nat.zero_le _) (Nat.zero_le _) ⟨rfl, rfl, rfl, rfl, _, rfl, ⟨rO2 trivial (wI_0 c12) (by rw [eD8, upd2_eq]) (rSim_q hS hm8 hk8 hL.2.2.2.1 hqr (fun a ha => by rw [eD8, eD1, upd2_ra ha, upd2_ra ha])), fun a ha => by rw [eD8, eD1, upd2_ra (by omega), upd2_ra (by omega)]⟩⟩ dX7_clean_20
