/-- the row behind one that comes last -/
def rhoA (ρ : Nat → Nat) (L e : Nat) : Nat → Nat := fun p => if p < L then ρ p else e
theorem rSim_add {o L e : Nat} {ρ : Nat → Nat} {m k : Nat} {V : mDt} {r : Nat} {lo : Nat → Nat} {t1 t2 t3 : Int32} {D D' : mDt} {w c p mm : Int32} (h : rSim o L e ρ m k V r lo t1 t2 t3 D) (hm : m ≤ 8) (hk : k ≤ 8) (hlo : ∀ i, i < 8 → lo i < 8) (he : e < 10) (hLe : L ≤ e) (hz : ∀ j, 1 ≤ j → j < 15 → V (o + 6 + e) j = 0)
    (hD : ∀ a, r ≤ a → a < r + 31 → a ≠ r → a ≠ r + 12 → a ≠ r + 2 + e → D' a = D a) (h0 : ∀ j, j ≠ 5 → j ≠ 6 → D' r j = D r j) (h5 : D' r 5 = nI (e + 1)) (h6 : D' r 6 = nI (L + 1)) (h12 : ∀ z, z < L → D' (r + 12) z = D (r + 12) z) (h12e : D' (r + 12) L = nI e)
    (hrow : D' (r + 2 + e) 0 = w ∧ D' (r + 2 + e) 1 = c ∧ D' (r + 2 + e) 2 = p ∧ D' (r + 2 + e) 3 = mm ∧ D' (r + 2 + e) 4 = 50 ∧ D' (r + 2 + e) 5 = 0 ∧ D' (r + 2 + e) 6 = 0 ∧ D' (r + 2 + e) 7 = 0 ∧ D' (r + 2 + e) 8 = 0 ∧ D' (r + 2 + e) 9 = 0 ∧ D' (r + 2 + e) 10 = 0 ∧ D' (r + 2 + e) 11 = 1) : rSim o (L + 1) (e + 1) (rhoA ρ L e) m k (addD o e L w c p mm V) r lo t1 t2 t3 D' := by
  have v1 : ∀ a, a ≠ o + 2 → a ≠ o + 4 → a ≠ o + 6 + e → addD o e L w c p mm V a = V a := fun a a1 a2 a3 => by rw [addD, upd2_ra a1, upd2_ra a1, upd2_ra a2, setRow_ne a3]
  have ve : addD o e L w c p mm V (o + 6 + e) = upd (settleX w c p mm (V (o + 6 + e))) 1 1 := by rw [addD, upd2_ra (by omega), upd2_ra (by omega), upd2_ra (by omega), setRow_eq]
  obtain ⟨h1, h2, h3, h4, ⟨g1, g2, g3, g4, g5, g6, g7, g8, g9⟩, h6'⟩ := h
  refine ⟨fun i hi => ?_, fun z hz => ?_, fun i hi j hj => ?_, fun i hi j hj => ?_, ⟨h5, h6, ?_, ?_, ?_, ?_, ?_, ?_, ?_⟩, ?_⟩
  · by_cases q : i = e
    · subst q
      obtain ⟨r0, r1, r2, r3, r4, r5, r6, r7, r8, r9, r10, r11⟩ := hrow
      rw [ve]
      intro j hj
      have z7 := hz 7 (by decide) (by decide)
      have z8 := hz 8 (by decide) (by decide)
      have z9 := hz 9 (by decide) (by decide)
      have z10 := hz 10 (by decide) (by decide)
      have z12 := hz 12 (by decide) (by decide)
      have z13 := hz 13 (by decide) (by decide)
      obtain rfl | rfl | rfl | rfl | rfl | rfl | rfl | rfl | rfl | rfl | rfl | rfl : j = 0 ∨ j = 1 ∨ j = 2 ∨ j = 3 ∨ j = 4 ∨ j = 5 ∨ j = 6 ∨ j = 7 ∨ j = 8 ∨ j = 9 ∨ j = 10 ∨ j = 11 := by omega
      · exact r0
      · exact r1
      · exact r2
      · exact r3
      · exact r4
      · exact r5.trans z7.symm
      · exact r6.trans z8.symm
      · exact r7.trans z9.symm
      · exact r8.trans z10.symm
      · exact r9.trans z12.symm
      · exact r10.trans z13.symm
      · exact r11
    · rw [hD _ (by omega) (by omega) (by omega) (by omega) (by omega), v1 _ (by omega) (by omega) (by omega)]; exact h1 i hi
  · unfold rhoA
    by_cases q : z < L
    · rw [if_pos q, h12 z q]; exact h2 z q
    · have : z = L := by omega
      subst this
      rw [if_neg q]; exact h12e
  · have := hlo i (by omega)
    rw [hD _ (by omega) (by omega) (by omega) (by omega) (by omega), v1 _ (by omega) (by omega) (by omega)]; exact h3 i hi j hj
  · rw [hD _ (by omega) (by omega) (by omega) (by omega) (by omega), v1 _ (by omega) (by omega) (by omega)]; exact h4 i hi j hj
  · rw [h0 _ (by decide) (by decide)]; exact g3
  · rw [h0 _ (by decide) (by decide)]; exact g4
  · rw [h0 _ (by decide) (by decide), v1 _ (by omega) (by omega) (by omega)]; exact g5
  · rw [h0 _ (by decide) (by decide), v1 _ (by omega) (by omega) (by omega)]; exact g6
  · rw [h0 _ (by decide) (by decide), v1 _ (by omega) (by omega) (by omega)]; exact g7
  · rw [h0 _ (by decide) (by decide), v1 _ (by omega) (by omega) (by omega)]; exact g8
  · rw [h0 _ (by decide) (by decide), v1 _ (by omega) (by omega) (by omega)]; exact g9
  · unfold rTot; rw [h0 _ (by decide) (by decide), h0 _ (by decide) (by decide), h0 _ (by decide) (by decide), v1 _ (by omega) (by omega) (by omega)]; exact h6'
theorem addF_lt {f : Nat → Int32} {m : Nat} {a b c e : Int32} {z : Nat} (h : z < m * 4) : addF f m a b c e z = f z := by
  simp only [addF, upd]; rw [if_neg (by omega), if_neg (by omega), if_neg (by omega), if_neg (by omega)]
theorem addF_at {f : Nat → Int32} {m : Nat} {a b c e : Int32} : addF f m a b c e (m * 4 + 0) = a ∧ addF f m a b c e (m * 4 + 1) = b ∧ addF f m a b c e (m * 4 + 2) = c ∧ addF f m a b c e (m * 4 + 3) = e := by
  refine ⟨?_, ?_, ?_, ?_⟩ <;> simp [addF, upd]
theorem rSim_lend {o L e : Nat} {ρ : Nat → Nat} {m k : Nat} {V : mDt} {r : Nat} {lo : Nat → Nat} {t1 t2 t3 : Int32} {D D' : mDt} {x y w c : Int32} (h : rSim o L e ρ m k V r lo t1 t2 t3 D) (hm : m < 8) (hk : k ≤ 8) (hlo : ∀ i, i < 8 → lo i < 8) (hli : ∀ i j, i < 8 → j < 8 → lo i = lo j → i = j)
    (hD : ∀ a, r ≤ a → a < r + 31 → a ≠ r → a ≠ r + 14 + lo m → D' a = D a) (h0 : ∀ j, j ≠ 7 → D' r j = D r j) (h7 : D' r 7 = nI (m + 1)) (hrow : D' (r + 14 + lo m) 0 = x ∧ D' (r + 14 + lo m) 1 = y ∧ D' (r + 14 + lo m) 2 = w ∧ D' (r + 14 + lo m) 3 = c) : rSim o L e ρ (m + 1) k (upd2 (setRow V (o + 17) (addF (V (o + 17)) m x y w c)) (o + 16) 1 (nI (m + 1))) r lo t1 t2 t3 D' := by
  have v1 : ∀ a, a ≠ o + 16 → a ≠ o + 17 → upd2 (setRow V (o + 17) (addF (V (o + 17)) m x y w c)) (o + 16) 1 (nI (m + 1)) a = V a := fun a a1 a2 => by rw [upd2_ra a1, setRow_ne a2]
  have v17 : upd2 (setRow V (o + 17) (addF (V (o + 17)) m x y w c)) (o + 16) 1 (nI (m + 1)) (o + 17) = addF (V (o + 17)) m x y w c := by rw [upd2_ra (by omega), setRow_eq]
  have hlm := hlo m hm
  obtain ⟨h1, h2, h3, h4, ⟨g1, g2, g3, g4, g5, g6, g7, g8, g9⟩, h6'⟩ := h
  refine ⟨fun i hi => ?_, fun z hz => ?_, fun i hi j hj => ?_, fun i hi j hj => ?_, ⟨?_, ?_, h7, ?_, ?_, ?_, ?_, ?_, ?_⟩, ?_⟩
  · rw [hD _ (by omega) (by omega) (by omega) (by omega), v1 _ (by omega) (by omega)]; exact h1 i hi
  · rw [hD _ (by omega) (by omega) (by omega) (by omega)]; exact h2 z hz
  · rw [v17]
    by_cases q : i = m
    · subst q
      obtain ⟨r0, r1, r2, r3⟩ := hrow
      obtain ⟨a0, a1, a2, a3⟩ := addF_at (f := V (o + 17)) (m := i) (a := x) (b := y) (c := w) (e := c)
      obtain rfl | rfl | rfl | rfl : j = 0 ∨ j = 1 ∨ j = 2 ∨ j = 3 := by omega
      · rw [a0]; exact r0
      · rw [a1]; exact r1
      · rw [a2]; exact r2
      · rw [a3]; exact r3
    · have hl1 := hlo i (by omega)
      have hne : lo i ≠ lo m := fun z => q (hli i m (by omega) hm z)
      rw [hD _ (by omega) (by omega) (by omega) (by omega), addF_lt (by omega)]; exact h3 i (by omega) j hj
  · rw [hD _ (by omega) (by omega) (by omega) (by omega), v1 _ (by omega) (by omega)]; exact h4 i hi j hj
  · rw [h0 _ (by decide)]; exact g1
  · rw [h0 _ (by decide)]; exact g2
  · rw [h0 _ (by decide)]; exact g4
  · rw [h0 _ (by decide), v1 _ (by omega) (by omega)]; exact g5
  · rw [h0 _ (by decide), v1 _ (by omega) (by omega)]; exact g6
  · rw [h0 _ (by decide), v1 _ (by omega) (by omega)]; exact g7
  · rw [h0 _ (by decide), v1 _ (by omega) (by omega)]; exact g8
  · rw [h0 _ (by decide), v1 _ (by omega) (by omega)]; exact g9
  · unfold rTot; rw [h0 _ (by decide), h0 _ (by decide), h0 _ (by decide), v1 _ (by omega) (by omega)]; exact h6'
theorem rSim_sale {o L e : Nat} {ρ : Nat → Nat} {m k : Nat} {V : mDt} {r : Nat} {lo : Nat → Nat} {t1 t2 t3 : Int32} {D D' : mDt} {x y w : Int32} (h : rSim o L e ρ m k V r lo t1 t2 t3 D) (hm : m ≤ 8) (hk : k < 8) (hlo : ∀ i, i < 8 → lo i < 8)
    (hD : ∀ a, r ≤ a → a < r + 31 → a ≠ r → a ≠ r + 23 + k → D' a = D a) (h0 : ∀ j, j ≠ 8 → D' r j = D r j) (h8 : D' r 8 = nI (k + 1)) (hrow : D' (r + 23 + k) 0 = x ∧ D' (r + 23 + k) 1 = y ∧ D' (r + 23 + k) 2 = w) : rSim o L e ρ m (k + 1) (upd2 (setRow V (o + 19) (addF (V (o + 19)) k x y w 0)) (o + 18) 1 (nI (k + 1))) r lo t1 t2 t3 D' := by
  have v1 : ∀ a, a ≠ o + 18 → a ≠ o + 19 → upd2 (setRow V (o + 19) (addF (V (o + 19)) k x y w 0)) (o + 18) 1 (nI (k + 1)) a = V a := fun a a1 a2 => by rw [upd2_ra a1, setRow_ne a2]
  have v19 : upd2 (setRow V (o + 19) (addF (V (o + 19)) k x y w 0)) (o + 18) 1 (nI (k + 1)) (o + 19) = addF (V (o + 19)) k x y w 0 := by rw [upd2_ra (by omega), setRow_eq]
  obtain ⟨h1, h2, h3, h4, ⟨g1, g2, g3, g4, g5, g6, g7, g8, g9⟩, h6'⟩ := h
  refine ⟨fun i hi => ?_, fun z hz => ?_, fun i hi j hj => ?_, fun i hi j hj => ?_, ⟨?_, ?_, ?_, h8, ?_, ?_, ?_, ?_, ?_⟩, ?_⟩
  · rw [hD _ (by omega) (by omega) (by omega) (by omega), v1 _ (by omega) (by omega)]; exact h1 i hi
  · rw [hD _ (by omega) (by omega) (by omega) (by omega)]; exact h2 z hz
  · have := hlo i (by omega)
    rw [hD _ (by omega) (by omega) (by omega) (by omega), v1 _ (by omega) (by omega)]; exact h3 i hi j hj
  · rw [v19]
    by_cases q : i = k
    · subst q
      obtain ⟨r0, r1, r2⟩ := hrow
      obtain ⟨a0, a1, a2, -⟩ := addF_at (f := V (o + 19)) (m := i) (a := x) (b := y) (c := w) (e := 0)
      obtain rfl | rfl | rfl : j = 0 ∨ j = 1 ∨ j = 2 := by omega
      · rw [a0]; exact r0
      · rw [a1]; exact r1
      · rw [a2]; exact r2
    · rw [hD _ (by omega) (by omega) (by omega) (by omega), addF_lt (by omega)]; exact h4 i (by omega) j hj
  · rw [h0 _ (by decide)]; exact g1
  · rw [h0 _ (by decide)]; exact g2
  · rw [h0 _ (by decide)]; exact g3
  · rw [h0 _ (by decide), v1 _ (by omega) (by omega)]; exact g5
  · rw [h0 _ (by decide), v1 _ (by omega) (by omega)]; exact g6
  · rw [h0 _ (by decide), v1 _ (by omega) (by omega)]; exact g7
  · rw [h0 _ (by decide), v1 _ (by omega) (by omega)]; exact g8
  · rw [h0 _ (by decide), v1 _ (by omega) (by omega)]; exact g9
  · unfold rTot; rw [h0 _ (by decide), h0 _ (by decide), h0 _ (by decide), v1 _ (by omega) (by omega)]; exact h6'
theorem nIe_10 {e : Nat} (he : e ≤ 10) (h : ¬ nI e = 10) : e < 10 := by
  rcases Nat.lt_or_ge e 10 with q | q
  · exact q
  · exact absurd (show nI e = 10 by rw [show e = 10 by omega]; rfl) h
theorem nIe_8 {e : Nat} (he : e ≤ 8) (h : ¬ nI e = 8) : e < 8 := by
  rcases Nat.lt_or_ge e 8 with q | q
  · exact q
  · exact absurd (show nI e = 8 by rw [show e = 8 by omega]; rfl) h

set_option maxRecDepth 100000 in
set_option maxHeartbeats 4000000 in
theorem q_owner {κ : mKp} {n : Nat} {sh : mSh} {P : mPt} {D : mDt} {E : mEt} {q r : Nat} {lo : Nat → Nat} (hmS : sh q = some (.inl 7)) (hmP : P q 1 = some r) (hqr : q < r) (hL : rLay r lo sh P) {o L e m k : Nat} {ρ : Nat → Nat} {V : mDt} {t1 t2 t3 : Int32} (hS : rSim o L e ρ m k V r lo t1 t2 t3 D) (hI : cI o L e ρ m k V) (hrn : r + 32 ≤ n) (hz : ∀ i, e ≤ i → i < 10 → ∀ j, 1 ≤ j → j < 15 → V (o + 6 + i) j = 0) (w c p mm : Int32) : mMet κ yX7_owner cX7_owner 6 (Option.some Jvm.ClassFile.FieldType.int) { frames := 1, cells := 1, slots := 12, locals := 48 } [.ref q, .int w, .int c, .int p, .int mm] n sh P D E (qP n sh P D E q r (fun ans lo' D' => rOut 1 2 True (wP w 0 5040 ∧ wP c 0 9999 ∧ wP p 0 200 ∧ wP mm 0 20) (e < 10 ∧ w ≤ 5040 - rsum (fun p => V (o + 6 + ρ p) 2) L) (D' q 0) (ans = nI e ∧ rSim o (L + 1) (e + 1) (rhoA ρ L e) m k (addD o e L w c p mm V) r lo' t1 t2 t3 D') (rSim o L e ρ m k V r lo' t1 t2 t3 D'))) := by
  refine mMet_of (by decide) (Nat.le_of_ble_eq_true rfl) ?_
  intro Γ Q hQ h hin
  have h : mOk Γ κ RX7 cX7_owner 6 (Option.some Jvm.ClassFile.FieldType.int) { frames := 1, cells := 1, slots := 12, locals := 48 } := h
  have hW := hI.1
  have hinj := hI.2.2.2.2.1
  have hρ : ∀ p, p < L → ρ p < 10 := fun p hp => (hW.1.2.2 p hp).1
  have hL10 := hW.1.2.1
  have hm8 := hW.2.2.2.1.1
  have hk8 := hW.2.2.2.2.2.1
  show mV Γ Q 0 0 n sh P D E [(0, .ref q), (1, .int w), (2, .int c), (3, .int p), (4, .int mm)] [] 0
  refine V_aload_n h 1 0 rfl dX7_owner_0 rfl ?_
  refine V_iconst h 2 (v := 0) (by decide) dX7_owner_1 rfl ?_
  refine p_X7_16 h 5 hmS dX7_owner_2 rfl ?_
  obtain ⟨D1, eD1⟩ : ∃ zz, zz = upd2 D q 0 0 := ⟨_, rfl⟩
  rw [← eD1]
  have hS1 := rSim_q (D' := D1) hS hm8 hk8 hL.2.2.2.1 hqr (fun a ha => by rw [eD1, upd2_ra ha])
  refine V_iload_n h 6 1 rfl dX7_owner_5 rfl ?_
  refine V_iconst h 7 (v := 0) (by decide) dX7_owner_6 rfl ?_
  refine V_sipush h 10 (v := 5040) (by decide) dX7_owner_7 rfl ?_
  refine CSI h 13 (As := [.int w, .int 0, .int 5040]) (q_in w 0 5040) qL_X7_23 qT_X7_in qZ_X7 qC_X7_in hd_X7_in ⟨Nat.le_of_ble_eq_true rfl, Nat.le_of_ble_eq_true rfl⟩ (Nat.le_of_ble_eq_true rfl) rfl rfl dX7_owner_10 (Nat.le_of_ble_eq_true rfl) (Nat.le_of_ble_eq_true rfl) (fun r2 D2 hq2 => ?_)
  rw [hq2.1, hq2.2]
  refine V_if_eq h 49 16 dX7_owner_13 (by decide) rfl (fun c13 => ?_) (fun c13 => ?_)
  · skip
    refine V_aload_n h 50 0 rfl dX7_owner_49 rfl ?_
    refine V_iconst h 51 (v := 1) (by decide) dX7_owner_50 rfl ?_
    refine CVI h 54 (As := [.int 1]) (q_no hmS 1) rfl hmS qL_X7_31 qI_X7_no qS_X7_no qZ_X7 qC_X7_no hd_X7_no ⟨Nat.le_of_ble_eq_true rfl, Nat.le_of_ble_eq_true rfl⟩ (Nat.le_of_ble_eq_true rfl) rfl rfl dX7_owner_51 (Nat.le_of_ble_eq_true rfl) (Nat.le_of_ble_eq_true rfl) (fun r3 D3 hq3 => ?_)
    obtain ⟨eD3, erD3⟩ := hq3
    rw [erD3]
    exact V_iret h rfl hQ (Nat.le_of_ble_eq_true rfl) (Nat.le_of_ble_eq_true rfl) ⟨Nat.le_refl _, rfl, fun _ _ => rfl, fun _ _ _ => rfl, _, rfl, lo, hL, fun a _ ha => by rw [eD3, eD1, upd2_ra (by omega), upd2_ra (by omega)], rO2 trivial (fun z => wI_0 c13 z.1) (by rw [eD3, upd2_eq]) (rSim_q hS hm8 hk8 hL.2.2.2.1 hqr (fun a ha => by rw [eD3, eD1, upd2_ra ha, upd2_ra ha]))⟩ dX7_owner_54
  · skip
    refine V_iload_n h 17 2 rfl dX7_owner_16 rfl ?_
    refine V_iconst h 18 (v := 0) (by decide) dX7_owner_17 rfl ?_
    refine V_sipush h 21 (v := 9999) (by decide) dX7_owner_18 rfl ?_
    refine CSI h 24 (As := [.int c, .int 0, .int 9999]) (q_in c 0 9999) qL_X7_23 qT_X7_in qZ_X7 qC_X7_in hd_X7_in ⟨Nat.le_of_ble_eq_true rfl, Nat.le_of_ble_eq_true rfl⟩ (Nat.le_of_ble_eq_true rfl) rfl rfl dX7_owner_21 (Nat.le_of_ble_eq_true rfl) (Nat.le_of_ble_eq_true rfl) (fun r4 D4 hq4 => ?_)
    rw [hq4.1, hq4.2]
    refine V_if_eq h 49 27 dX7_owner_24 (by decide) rfl (fun c24 => ?_) (fun c24 => ?_)
    · skip
      refine V_aload_n h 50 0 rfl dX7_owner_49 rfl ?_
      refine V_iconst h 51 (v := 1) (by decide) dX7_owner_50 rfl ?_
      refine CVI h 54 (As := [.int 1]) (q_no hmS 1) rfl hmS qL_X7_31 qI_X7_no qS_X7_no qZ_X7 qC_X7_no hd_X7_no ⟨Nat.le_of_ble_eq_true rfl, Nat.le_of_ble_eq_true rfl⟩ (Nat.le_of_ble_eq_true rfl) rfl rfl dX7_owner_51 (Nat.le_of_ble_eq_true rfl) (Nat.le_of_ble_eq_true rfl) (fun r5 D5 hq5 => ?_)
      obtain ⟨eD5, erD5⟩ := hq5
      rw [erD5]
      exact V_iret h rfl hQ (Nat.le_of_ble_eq_true rfl) (Nat.le_of_ble_eq_true rfl) ⟨Nat.le_refl _, rfl, fun _ _ => rfl, fun _ _ _ => rfl, _, rfl, lo, hL, fun a _ ha => by rw [eD5, eD1, upd2_ra (by omega), upd2_ra (by omega)], rO2 trivial (fun z => wI_0 c24 z.2.1) (by rw [eD5, upd2_eq]) (rSim_q hS hm8 hk8 hL.2.2.2.1 hqr (fun a ha => by rw [eD5, eD1, upd2_ra ha, upd2_ra ha]))⟩ dX7_owner_54
    · skip
      refine V_iload_n h 28 3 rfl dX7_owner_27 rfl ?_
      refine V_iconst h 29 (v := 0) (by decide) dX7_owner_28 rfl ?_
      refine V_sipush h 32 (v := 200) (by decide) dX7_owner_29 rfl ?_
      refine CSI h 35 (As := [.int p, .int 0, .int 200]) (q_in p 0 200) qL_X7_23 qT_X7_in qZ_X7 qC_X7_in hd_X7_in ⟨Nat.le_of_ble_eq_true rfl, Nat.le_of_ble_eq_true rfl⟩ (Nat.le_of_ble_eq_true rfl) rfl rfl dX7_owner_32 (Nat.le_of_ble_eq_true rfl) (Nat.le_of_ble_eq_true rfl) (fun r6 D6 hq6 => ?_)
      rw [hq6.1, hq6.2]
      refine V_if_eq h 49 38 dX7_owner_35 (by decide) rfl (fun c35 => ?_) (fun c35 => ?_)
      · skip
        refine V_aload_n h 50 0 rfl dX7_owner_49 rfl ?_
        refine V_iconst h 51 (v := 1) (by decide) dX7_owner_50 rfl ?_
        refine CVI h 54 (As := [.int 1]) (q_no hmS 1) rfl hmS qL_X7_31 qI_X7_no qS_X7_no qZ_X7 qC_X7_no hd_X7_no ⟨Nat.le_of_ble_eq_true rfl, Nat.le_of_ble_eq_true rfl⟩ (Nat.le_of_ble_eq_true rfl) rfl rfl dX7_owner_51 (Nat.le_of_ble_eq_true rfl) (Nat.le_of_ble_eq_true rfl) (fun r7 D7 hq7 => ?_)
        obtain ⟨eD7, erD7⟩ := hq7
        rw [erD7]
        exact V_iret h rfl hQ (Nat.le_of_ble_eq_true rfl) (Nat.le_of_ble_eq_true rfl) ⟨Nat.le_refl _, rfl, fun _ _ => rfl, fun _ _ _ => rfl, _, rfl, lo, hL, fun a _ ha => by rw [eD7, eD1, upd2_ra (by omega), upd2_ra (by omega)], rO2 trivial (fun z => wI_0 c35 z.2.2.1) (by rw [eD7, upd2_eq]) (rSim_q hS hm8 hk8 hL.2.2.2.1 hqr (fun a ha => by rw [eD7, eD1, upd2_ra ha, upd2_ra ha]))⟩ dX7_owner_54
      · skip
        refine V_iload h 40 4 rfl dX7_owner_38 rfl ?_
        refine V_iconst h 41 (v := 0) (by decide) dX7_owner_40 rfl ?_
        refine V_bipush h 43 (v := 20) (by decide) dX7_owner_41 rfl ?_
        refine CSI h 46 (As := [.int mm, .int 0, .int 20]) (q_in mm 0 20) qL_X7_23 qT_X7_in qZ_X7 qC_X7_in hd_X7_in ⟨Nat.le_of_ble_eq_true rfl, Nat.le_of_ble_eq_true rfl⟩ (Nat.le_of_ble_eq_true rfl) rfl rfl dX7_owner_43 (Nat.le_of_ble_eq_true rfl) (Nat.le_of_ble_eq_true rfl) (fun r8 D8 hq8 => ?_)
        rw [hq8.1, hq8.2]
        refine V_if_ne h 55 49 dX7_owner_46 (by decide) rfl (fun c46 => ?_) (fun c46 => ?_)
        · skip
          refine V_aload_n h 56 0 rfl dX7_owner_55 rfl ?_
          refine g_X7_10 h 59 (b := r) hmS hmP dX7_owner_56 rfl ?_
          refine g_X7_20 h 62 (R_s0 hL) dX7_owner_59 rfl ?_
          refine V_top (y := nI e) (by rw [eD1, upd2_nk (by decide)]; exact hS.2.2.2.2.1.1) ?_
          refine V_bipush h 64 (v := 10) (by decide) dX7_owner_62 rfl ?_
          refine V_icmp_eq h 82 67 dX7_owner_64 (by decide) rfl (fun c64 => ?_) (fun c64 => ?_)
          · skip
            refine V_aload_n h 83 0 rfl dX7_owner_82 rfl ?_
            refine V_iconst h 84 (v := 2) (by decide) dX7_owner_83 rfl ?_
            refine CVI h 87 (As := [.int 2]) (q_no hmS 2) rfl hmS qL_X7_31 qI_X7_no qS_X7_no qZ_X7 qC_X7_no hd_X7_no ⟨Nat.le_of_ble_eq_true rfl, Nat.le_of_ble_eq_true rfl⟩ (Nat.le_of_ble_eq_true rfl) rfl rfl dX7_owner_84 (Nat.le_of_ble_eq_true rfl) (Nat.le_of_ble_eq_true rfl) (fun r9 D9 hq9 => ?_)
            obtain ⟨eD9, erD9⟩ := hq9
            rw [erD9]
            exact V_iret h rfl hQ (Nat.le_of_ble_eq_true rfl) (Nat.le_of_ble_eq_true rfl) ⟨Nat.le_refl _, rfl, fun _ _ => rfl, fun _ _ _ => rfl, _, rfl, lo, hL, fun a _ ha => by rw [eD9, eD1, upd2_ra (by omega), upd2_ra (by omega)], rO3 trivial (⟨wI_1 c13, wI_1 c24, wI_1 c35, wI_1 c46⟩) (fun z => absurd ((nI_eq (a := e) (b := 10) (by omega) (by decide)).mp c64) (by have := z.1; omega)) (by rw [eD9, upd2_eq]) (rSim_q hS hm8 hk8 hL.2.2.2.1 hqr (fun a ha => by rw [eD9, eD1, upd2_ra ha, upd2_ra ha]))⟩ dX7_owner_87
          · skip
            refine V_iload_n h 68 1 rfl dX7_owner_67 rfl ?_
            refine V_sipush h 71 (v := 5040) (by decide) dX7_owner_68 rfl ?_
            refine V_aload_n h 72 0 rfl dX7_owner_71 rfl ?_
            refine g_X7_10 h 75 (b := r) hmS hmP dX7_owner_72 rfl ?_
            refine CVI h 78 (As := []) (r_all hL hS1 hW) rfl (R_s0 hL) qL_X7_35 qI_X6_all qS_X6_all qZ_X6 qC_X6_all hd_X6_all ⟨Nat.le_of_ble_eq_true rfl, Nat.le_of_ble_eq_true rfl⟩ (Nat.le_of_ble_eq_true rfl) rfl rfl dX7_owner_75 (Nat.le_of_ble_eq_true rfl) (Nat.le_of_ble_eq_true rfl) (fun r10 D10 hq10 => ?_)
            rw [hq10.1, hq10.2]
            refine V_isub h 79 dX7_owner_78 rfl ?_
            refine V_icmp_le h 88 82 dX7_owner_79 (by decide) rfl (fun c79 => ?_) (fun c79 => ?_)
            · skip
              have he10 := nIe_10 hI.2.2.2.1 c64
              have hLe := hI.2.2.1
              have hkk8 := hk8
              refine V_bipush h 90 (v := 12) (by decide) dX7_owner_88 rfl ?_
              refine V_newI h 92 (n + 1) 1 12 (len := 12) qarrayClass_170 rfl (by decide) (Nat.le_of_ble_eq_true rfl) (Nat.le_of_ble_eq_true rfl) dX7_owner_90 rfl (by first | omega | dsimp only | (dsimp only; omega)) (by first | omega | dsimp only | (dsimp only; omega)) (by first | omega | dsimp only | (dsimp only; omega)) ?_
              obtain ⟨S11, eS11⟩ : ∃ zz, zz = updS sh n (.inr (0, 12)) := ⟨_, rfl⟩
              rw [← eS11]
              obtain ⟨P11, eP11⟩ : ∃ zz, zz = clrP P n := ⟨_, rfl⟩
              rw [← eP11]
              obtain ⟨D11, eD11⟩ : ∃ zz, zz = clrD D1 n := ⟨_, rfl⟩
              rw [← eD11]
              have fn12 : S11 n = some (.inr (0, 12)) := by rw [eS11]; exact updS_eq
              have hA : agr n sh P D1 S11 P11 D11 := by rw [eS11, eP11, eD11]; exact agr_new (Nat.le_refl _)
              have hmSA := agr_s hA (show q < n by omega) hmS
              have hmPA := agr_p hA (show q < n by omega) hmP
              have hLA := agr_L hA hL hrn
              have hSA := agr_S hA hS1 hm8 hk8 hL.2.2.2.1 hrn
              refine V_dup h 93 rfl dX7_owner_92 rfl ?_
              refine V_iconst h 94 (v := 0) (by decide) dX7_owner_93 rfl ?_
              refine V_iload_n h 95 1 rfl dX7_owner_94 rfl ?_
              refine V_iast h 96 0 fn12 (by decide) (by decide) (by decide) dX7_owner_95 rfl ?_
              obtain ⟨D13, eD13⟩ : ∃ zz, zz = upd2 D11 n 0 w := ⟨_, rfl⟩
              rw [← eD13]
              refine V_dup h 97 rfl dX7_owner_96 rfl ?_
              refine V_iconst h 98 (v := 1) (by decide) dX7_owner_97 rfl ?_
              refine V_iload_n h 99 2 rfl dX7_owner_98 rfl ?_
              refine V_iast h 100 1 fn12 (by decide) (by decide) (by decide) dX7_owner_99 rfl ?_
              obtain ⟨D14, eD14⟩ : ∃ zz, zz = upd2 D13 n 1 c := ⟨_, rfl⟩
              rw [← eD14]
              refine V_dup h 101 rfl dX7_owner_100 rfl ?_
              refine V_iconst h 102 (v := 2) (by decide) dX7_owner_101 rfl ?_
              refine V_iload_n h 103 3 rfl dX7_owner_102 rfl ?_
              refine V_iast h 104 2 fn12 (by decide) (by decide) (by decide) dX7_owner_103 rfl ?_
              obtain ⟨D15, eD15⟩ : ∃ zz, zz = upd2 D14 n 2 p := ⟨_, rfl⟩
              rw [← eD15]
              refine V_dup h 105 rfl dX7_owner_104 rfl ?_
              refine V_iconst h 106 (v := 3) (by decide) dX7_owner_105 rfl ?_
              refine V_iload h 108 4 rfl dX7_owner_106 rfl ?_
              refine V_iast h 109 3 fn12 (by decide) (by decide) (by decide) dX7_owner_108 rfl ?_
              obtain ⟨D16, eD16⟩ : ∃ zz, zz = upd2 D15 n 3 mm := ⟨_, rfl⟩
              rw [← eD16]
              refine V_dup h 110 rfl dX7_owner_109 rfl ?_
              refine V_iconst h 111 (v := 4) (by decide) dX7_owner_110 rfl ?_
              refine V_bipush h 113 (v := 50) (by decide) dX7_owner_111 rfl ?_
              refine V_iast h 114 4 fn12 (by decide) (by decide) (by decide) dX7_owner_113 rfl ?_
              obtain ⟨D17, eD17⟩ : ∃ zz, zz = upd2 D16 n 4 50 := ⟨_, rfl⟩
              rw [← eD17]
              refine V_dup h 115 rfl dX7_owner_114 rfl ?_
              refine V_iconst h 116 (v := 5) (by decide) dX7_owner_115 rfl ?_
              refine V_iconst h 117 (v := 0) (by decide) dX7_owner_116 rfl ?_
              refine V_iast h 118 5 fn12 (by decide) (by decide) (by decide) dX7_owner_117 rfl ?_
              obtain ⟨D18, eD18⟩ : ∃ zz, zz = upd2 D17 n 5 0 := ⟨_, rfl⟩
              rw [← eD18]
              refine V_dup h 119 rfl dX7_owner_118 rfl ?_
              refine V_bipush h 121 (v := 6) (by decide) dX7_owner_119 rfl ?_
              refine V_iconst h 122 (v := 0) (by decide) dX7_owner_121 rfl ?_
              refine V_iast h 123 6 fn12 (by decide) (by decide) (by decide) dX7_owner_122 rfl ?_
              obtain ⟨D19, eD19⟩ : ∃ zz, zz = upd2 D18 n 6 0 := ⟨_, rfl⟩
              rw [← eD19]
              refine V_dup h 124 rfl dX7_owner_123 rfl ?_
              refine V_bipush h 126 (v := 7) (by decide) dX7_owner_124 rfl ?_
              refine V_iconst h 127 (v := 0) (by decide) dX7_owner_126 rfl ?_
              refine V_iast h 128 7 fn12 (by decide) (by decide) (by decide) dX7_owner_127 rfl ?_
              obtain ⟨D20, eD20⟩ : ∃ zz, zz = upd2 D19 n 7 0 := ⟨_, rfl⟩
              rw [← eD20]
              refine V_dup h 129 rfl dX7_owner_128 rfl ?_
              refine V_bipush h 131 (v := 8) (by decide) dX7_owner_129 rfl ?_
              refine V_iconst h 132 (v := 0) (by decide) dX7_owner_131 rfl ?_
              refine V_iast h 133 8 fn12 (by decide) (by decide) (by decide) dX7_owner_132 rfl ?_
              obtain ⟨D21, eD21⟩ : ∃ zz, zz = upd2 D20 n 8 0 := ⟨_, rfl⟩
              rw [← eD21]
              refine V_dup h 134 rfl dX7_owner_133 rfl ?_
              refine V_bipush h 136 (v := 9) (by decide) dX7_owner_134 rfl ?_
              refine V_iconst h 137 (v := 0) (by decide) dX7_owner_136 rfl ?_
              refine V_iast h 138 9 fn12 (by decide) (by decide) (by decide) dX7_owner_137 rfl ?_
              obtain ⟨D22, eD22⟩ : ∃ zz, zz = upd2 D21 n 9 0 := ⟨_, rfl⟩
              rw [← eD22]
              refine V_dup h 139 rfl dX7_owner_138 rfl ?_
              refine V_bipush h 141 (v := 10) (by decide) dX7_owner_139 rfl ?_
              refine V_iconst h 142 (v := 0) (by decide) dX7_owner_141 rfl ?_
              refine V_iast h 143 10 fn12 (by decide) (by decide) (by decide) dX7_owner_142 rfl ?_
              obtain ⟨D23, eD23⟩ : ∃ zz, zz = upd2 D22 n 10 0 := ⟨_, rfl⟩
              rw [← eD23]
              refine V_dup h 144 rfl dX7_owner_143 rfl ?_
              refine V_bipush h 146 (v := 11) (by decide) dX7_owner_144 rfl ?_
              refine V_iconst h 147 (v := 1) (by decide) dX7_owner_146 rfl ?_
              refine V_iast h 148 11 fn12 (by decide) (by decide) (by decide) dX7_owner_147 rfl ?_
              obtain ⟨D24, eD24⟩ : ∃ zz, zz = upd2 D23 n 11 1 := ⟨_, rfl⟩
              rw [← eD24]
              refine V_astore h 150 [(5, .ref n), (0, .ref q), (1, .int w), (2, .int c), (3, .int p), (4, .int mm)] (by decide) rfl dX7_owner_148 rfl ?_
              refine V_aload h 152 0 rfl dX7_owner_150 rfl ?_
              refine V_iconst h 153 (v := 0) (by decide) dX7_owner_152 rfl ?_
              refine V_aload_n h 154 1 rfl dX7_owner_153 rfl ?_
              refine V_aload_n h 155 1 rfl dX7_owner_154 rfl ?_
              refine g_X7_10 h 158 (b := r) hmSA hmPA dX7_owner_155 rfl ?_
              refine g_X7_20 h 161 (R_s0 hLA) dX7_owner_158 rfl ?_
              refine V_top (y := nI e) (by rw [eD24, upd2_nk (by decide), eD23, upd2_nk (by decide), eD22, upd2_nk (by decide), eD21, upd2_nk (by decide), eD20, upd2_nk (by decide), eD19, upd2_nk (by decide), eD18, upd2_na (by omega), eD17, upd2_nk (by decide), eD16, upd2_nk (by decide), eD15, upd2_nk (by decide), eD14, upd2_nk (by decide), eD13, upd2_nk (by decide)]; exact (hSA.2.2.2.2.1.1)) ?_
              refine CVR h 164 (As := [.int (nI e)]) (q_at hmSA hmPA hLA (t := e) he10) rfl hmSA qL_X7_39 qI_X7_at qS_X7_at qZ_X7 qC_X7_at hd_X7_at ⟨Nat.le_of_ble_eq_true rfl, Nat.le_of_ble_eq_true rfl⟩ (Nat.le_of_ble_eq_true rfl) rfl rfl dX7_owner_161 (Nat.le_of_ble_eq_true rfl) (Nat.le_of_ble_eq_true rfl) (fun r25 D25 hq25 => ?_)
              rw [hq25.1, hq25.2]
              refine V_iconst h 165 (v := 0) (by decide) dX7_owner_164 rfl ?_
              refine V_bipush h 167 (v := 12) (by decide) dX7_owner_165 rfl ?_
              refine V_copyi h 170 0 0 12 qL_X7_43 fn12 (R_sw hLA he10) rfl rfl rfl (by omega) (by omega) (by decide) (by decide) (Nat.le_of_ble_eq_true rfl) (Nat.le_of_ble_eq_true rfl) dX7_owner_167 rfl ?_
              obtain ⟨D26, eD26⟩ : ∃ zz, zz = cpD D24 n (r + 2 + e) 0 0 12 := ⟨_, rfl⟩
              rw [← eD26]
              have hKr : ∀ a, a < n → a ≠ r + 2 + e → D26 a = D1 a := fun a a1 a2 => by rw [eD26, cpD_ne a2, eD24, eD23, eD22, eD21, eD20, eD19, eD18, eD17, eD16, eD15, eD14, eD13, upd2_ra (by omega), upd2_ra (by omega), upd2_ra (by omega), upd2_ra (by omega), upd2_ra (by omega), upd2_ra (by omega), upd2_ra (by omega), upd2_ra (by omega), upd2_ra (by omega), upd2_ra (by omega), upd2_ra (by omega), upd2_ra (by omega), eD11, clrD_ne (by omega)]
              have hk0 : D26 (r + 2 + e) 0 = w := by rw [eD26, cpD_in (by omega) (by omega)]; show D24 n 0 = _; rw [eD24, upd2_nk (by decide), eD23, upd2_nk (by decide), eD22, upd2_nk (by decide), eD21, upd2_nk (by decide), eD20, upd2_nk (by decide), eD19, upd2_nk (by decide), eD18, upd2_nk (by decide), eD17, upd2_nk (by decide), eD16, upd2_nk (by decide), eD15, upd2_nk (by decide), eD14, upd2_nk (by decide), eD13, upd2_eq]
              have hk1 : D26 (r + 2 + e) 1 = c := by rw [eD26, cpD_in (by omega) (by omega)]; show D24 n 1 = _; rw [eD24, upd2_nk (by decide), eD23, upd2_nk (by decide), eD22, upd2_nk (by decide), eD21, upd2_nk (by decide), eD20, upd2_nk (by decide), eD19, upd2_nk (by decide), eD18, upd2_nk (by decide), eD17, upd2_nk (by decide), eD16, upd2_nk (by decide), eD15, upd2_nk (by decide), eD14, upd2_eq]
              have hk2 : D26 (r + 2 + e) 2 = p := by rw [eD26, cpD_in (by omega) (by omega)]; show D24 n 2 = _; rw [eD24, upd2_nk (by decide), eD23, upd2_nk (by decide), eD22, upd2_nk (by decide), eD21, upd2_nk (by decide), eD20, upd2_nk (by decide), eD19, upd2_nk (by decide), eD18, upd2_nk (by decide), eD17, upd2_nk (by decide), eD16, upd2_nk (by decide), eD15, upd2_eq]
              have hk3 : D26 (r + 2 + e) 3 = mm := by rw [eD26, cpD_in (by omega) (by omega)]; show D24 n 3 = _; rw [eD24, upd2_nk (by decide), eD23, upd2_nk (by decide), eD22, upd2_nk (by decide), eD21, upd2_nk (by decide), eD20, upd2_nk (by decide), eD19, upd2_nk (by decide), eD18, upd2_nk (by decide), eD17, upd2_nk (by decide), eD16, upd2_eq]
              have hk4 : D26 (r + 2 + e) 4 = 50 := by rw [eD26, cpD_in (by omega) (by omega)]; show D24 n 4 = _; rw [eD24, upd2_nk (by decide), eD23, upd2_nk (by decide), eD22, upd2_nk (by decide), eD21, upd2_nk (by decide), eD20, upd2_nk (by decide), eD19, upd2_nk (by decide), eD18, upd2_nk (by decide), eD17, upd2_eq]
              have hk5 : D26 (r + 2 + e) 5 = 0 := by rw [eD26, cpD_in (by omega) (by omega)]; show D24 n 5 = _; rw [eD24, upd2_nk (by decide), eD23, upd2_nk (by decide), eD22, upd2_nk (by decide), eD21, upd2_nk (by decide), eD20, upd2_nk (by decide), eD19, upd2_nk (by decide), eD18, upd2_eq]
              have hk6 : D26 (r + 2 + e) 6 = 0 := by rw [eD26, cpD_in (by omega) (by omega)]; show D24 n 6 = _; rw [eD24, upd2_nk (by decide), eD23, upd2_nk (by decide), eD22, upd2_nk (by decide), eD21, upd2_nk (by decide), eD20, upd2_nk (by decide), eD19, upd2_eq]
              have hk7 : D26 (r + 2 + e) 7 = 0 := by rw [eD26, cpD_in (by omega) (by omega)]; show D24 n 7 = _; rw [eD24, upd2_nk (by decide), eD23, upd2_nk (by decide), eD22, upd2_nk (by decide), eD21, upd2_nk (by decide), eD20, upd2_eq]
              have hk8 : D26 (r + 2 + e) 8 = 0 := by rw [eD26, cpD_in (by omega) (by omega)]; show D24 n 8 = _; rw [eD24, upd2_nk (by decide), eD23, upd2_nk (by decide), eD22, upd2_nk (by decide), eD21, upd2_eq]
              have hk9 : D26 (r + 2 + e) 9 = 0 := by rw [eD26, cpD_in (by omega) (by omega)]; show D24 n 9 = _; rw [eD24, upd2_nk (by decide), eD23, upd2_nk (by decide), eD22, upd2_eq]
              have hk10 : D26 (r + 2 + e) 10 = 0 := by rw [eD26, cpD_in (by omega) (by omega)]; show D24 n 10 = _; rw [eD24, upd2_nk (by decide), eD23, upd2_eq]
              have hk11 : D26 (r + 2 + e) 11 = 1 := by rw [eD26, cpD_in (by omega) (by omega)]; show D24 n 11 = _; rw [eD24, upd2_eq]
              refine V_aload_n h 171 1 rfl dX7_owner_170 rfl ?_
              refine g_X7_10 h 174 (b := r) hmSA hmPA dX7_owner_171 rfl ?_
              refine g_X7_49 h 177 (b := r + 12) (R_s0 hLA) (R_p1 hLA) dX7_owner_174 rfl ?_
              refine V_aload_n h 178 1 rfl dX7_owner_177 rfl ?_
              refine g_X7_10 h 181 (b := r) hmSA hmPA dX7_owner_178 rfl ?_
              refine V_dup h 182 rfl dX7_owner_181 rfl ?_
              refine g_X7_53 h 185 (R_s0 hLA) dX7_owner_182 rfl ?_
              refine V_top (y := nI L) (by rw [hKr r (by omega) (by omega)]; exact hS1.2.2.2.2.1.2.1) ?_
              refine V_dup_x1 h 186 rfl rfl dX7_owner_185 rfl ?_
              refine V_iconst h 187 (v := 1) (by decide) dX7_owner_186 rfl ?_
              refine V_iadd h 188 dX7_owner_187 rfl ?_
              refine p_X7_53 h 191 (R_s0 hLA) dX7_owner_188 rfl ?_
              obtain ⟨D27, eD27⟩ : ∃ zz, zz = upd2 D26 r 6 ((nI L) + 1) := ⟨_, rfl⟩
              rw [← eD27]
              refine V_aload_n h 192 1 rfl dX7_owner_191 rfl ?_
              refine g_X7_10 h 195 (b := r) hmSA hmPA dX7_owner_192 rfl ?_
              refine g_X7_20 h 198 (R_s0 hLA) dX7_owner_195 rfl ?_
              refine V_top (y := nI e) (by rw [eD27, upd2_nk (by decide)]; exact (by rw [hKr r (by omega) (by omega)]; exact hS1.2.2.2.2.1.1)) ?_
              refine V_iast h 199 L (R_s12 hLA) rfl (by omega) (by decide) dX7_owner_198 rfl ?_
              obtain ⟨D28, eD28⟩ : ∃ zz, zz = upd2 D27 (r + 12) L (nI e) := ⟨_, rfl⟩
              rw [← eD28]
              refine V_aload_n h 200 1 rfl dX7_owner_199 rfl ?_
              refine g_X7_10 h 203 (b := r) hmSA hmPA dX7_owner_200 rfl ?_
              refine V_dup h 204 rfl dX7_owner_203 rfl ?_
              refine g_X7_20 h 207 (R_s0 hLA) dX7_owner_204 rfl ?_
              refine V_top (y := nI e) (by rw [eD28, upd2_na (by omega), eD27, upd2_nk (by decide)]; exact (by rw [hKr r (by omega) (by omega)]; exact hS1.2.2.2.2.1.1)) ?_
              refine V_dup_x1 h 208 rfl rfl dX7_owner_207 rfl ?_
              refine V_iconst h 209 (v := 1) (by decide) dX7_owner_208 rfl ?_
              refine V_iadd h 210 dX7_owner_209 rfl ?_
              refine p_X7_20 h 213 (R_s0 hLA) dX7_owner_210 rfl ?_
              obtain ⟨D29, eD29⟩ : ∃ zz, zz = upd2 D28 r 5 ((nI e) + 1) := ⟨_, rfl⟩
              rw [← eD29]
              exact V_iret h rfl hQ (Nat.le_of_ble_eq_true rfl) (Nat.le_of_ble_eq_true rfl) ⟨by omega, rfl, fun a ha => (hA a ha).1, fun a ha _ => (hA a ha).2.1, _, rfl, lo, hLA, fun a ha h2 => by rw [eD29, eD28, eD27, upd2_ra (by omega), upd2_ra (by omega), upd2_ra (by omega), hKr a ha (by omega), eD1, upd2_ra (by omega)], rO4 trivial ⟨wI_1 c13, wI_1 c24, wI_1 c35, wI_1 c46⟩ ⟨he10, Int32.not_lt.mp (fun z9 => absurd c79 (Int32.not_le.mpr z9))⟩ (by rw [eD29, eD28, eD27, upd2_na (by omega), upd2_na (by omega), upd2_na (by omega), hKr q (by omega) (by omega), eD1, upd2_eq]) ⟨rfl, rSim_add (w := w) (c := c) (p := p) (mm := mm) hS1 hm8 hkk8 hL.2.2.2.1 he10 hLe (hz e (Nat.le_refl _) he10) (fun a a1 a2 a3 a4 a5 => by rw [eD29, eD28, eD27, upd2_ra a3, upd2_ra a4, upd2_ra a3, hKr a (by omega) a5]) (fun j j5 j6 => by rw [eD29, eD28, eD27, upd2_nk j5, upd2_na (by omega), upd2_nk j6, hKr r (by omega) (by omega)]) (by rw [eD29, upd2_eq, nI_1]) (by rw [eD29, eD28, eD27, upd2_nk (by decide), upd2_na (by omega), upd2_eq, nI_1]) (fun z hz2 => by rw [eD29, eD28, eD27, upd2_na (by omega), upd2_nk (by omega), upd2_na (by omega), hKr _ (by omega) (by omega)]) (by rw [eD29, eD28, upd2_na (by omega), upd2_eq]) (by rw [show D29 (r + 2 + e) = D26 (r + 2 + e) by rw [eD29, eD28, eD27, upd2_ra (by omega), upd2_ra (by omega), upd2_ra (by omega)]]; exact ⟨hk0, hk1, hk2, hk3, hk4, hk5, hk6, hk7, hk8, hk9, hk10, hk11⟩)⟩⟩ dX7_owner_213
            · skip
              refine V_aload_n h 83 0 rfl dX7_owner_82 rfl ?_
              refine V_iconst h 84 (v := 2) (by decide) dX7_owner_83 rfl ?_
              refine CVI h 87 (As := [.int 2]) (q_no hmS 2) rfl hmS qL_X7_31 qI_X7_no qS_X7_no qZ_X7 qC_X7_no hd_X7_no ⟨Nat.le_of_ble_eq_true rfl, Nat.le_of_ble_eq_true rfl⟩ (Nat.le_of_ble_eq_true rfl) rfl rfl dX7_owner_84 (Nat.le_of_ble_eq_true rfl) (Nat.le_of_ble_eq_true rfl) (fun r30 D30 hq30 => ?_)
              obtain ⟨eD30, erD30⟩ := hq30
              rw [erD30]
              exact V_iret h rfl hQ (Nat.le_of_ble_eq_true rfl) (Nat.le_of_ble_eq_true rfl) ⟨Nat.le_refl _, rfl, fun _ _ => rfl, fun _ _ _ => rfl, _, rfl, lo, hL, fun a _ ha => by rw [eD30, eD1, upd2_ra (by omega), upd2_ra (by omega)], rO3 trivial (⟨wI_1 c13, wI_1 c24, wI_1 c35, wI_1 c46⟩) (fun z => c79 z.2) (by rw [eD30, upd2_eq]) (rSim_q hS hm8 hk8 hL.2.2.2.1 hqr (fun a ha => by rw [eD30, eD1, upd2_ra ha, upd2_ra ha]))⟩ dX7_owner_87
        · skip
          refine V_aload_n h 50 0 rfl dX7_owner_49 rfl ?_
          refine V_iconst h 51 (v := 1) (by decide) dX7_owner_50 rfl ?_
          refine CVI h 54 (As := [.int 1]) (q_no hmS 1) rfl hmS qL_X7_31 qI_X7_no qS_X7_no qZ_X7 qC_X7_no hd_X7_no ⟨Nat.le_of_ble_eq_true rfl, Nat.le_of_ble_eq_true rfl⟩ (Nat.le_of_ble_eq_true rfl) rfl rfl dX7_owner_51 (Nat.le_of_ble_eq_true rfl) (Nat.le_of_ble_eq_true rfl) (fun r31 D31 hq31 => ?_)
          obtain ⟨eD31, erD31⟩ := hq31
          rw [erD31]
          exact V_iret h rfl hQ (Nat.le_of_ble_eq_true rfl) (Nat.le_of_ble_eq_true rfl) ⟨Nat.le_refl _, rfl, fun _ _ => rfl, fun _ _ _ => rfl, _, rfl, lo, hL, fun a _ ha => by rw [eD31, eD1, upd2_ra (by omega), upd2_ra (by omega)], rO2 trivial (fun z => wI_0 c46 z.2.2.2) (by rw [eD31, upd2_eq]) (rSim_q hS hm8 hk8 hL.2.2.2.1 hqr (fun a ha => by rw [eD31, eD1, upd2_ra ha, upd2_ra ha]))⟩ dX7_owner_54

set_option maxRecDepth 100000 in
set_option maxHeartbeats 4000000 in
theorem q_lend {κ : mKp} {n : Nat} {sh : mSh} {P : mPt} {D : mDt} {E : mEt} {q r : Nat} {lo : Nat → Nat} (hmS : sh q = some (.inl 7)) (hmP : P q 1 = some r) (hqr : q < r) (hL : rLay r lo sh P) {o L e m k : Nat} {ρ : Nat → Nat} {V : mDt} {t1 t2 t3 : Int32} (hS : rSim o L e ρ m k V r lo t1 t2 t3 D) (hI : cI o L e ρ m k V) (hrn : r + 32 ≤ n) (x y w c : Int32) : mMet κ yX7_lend cX7_lend 6 (Option.some Jvm.ClassFile.FieldType.int) { frames := 2, cells := 1, slots := 4, locals := 48 } [.ref q, .int x, .int y, .int w, .int c] n sh P D E (qP n sh P D E q r (fun ans lo' D' => rOut 2 3 (livP L ρ x ∧ livP L ρ y) (¬ x = y ∧ wP w 1 5040 ∧ wP c 1 20) (m < 8) (D' q 0) ((w ≤ V (numb o x) 2 - amtF (V (o + 17)) 0 x m ∧ ans = nI (m + 1) ∧ rSim o L e ρ (m + 1) k (upd2 (setRow V (o + 17) (addF (V (o + 17)) m x y w c)) (o + 16) 1 (nI (m + 1))) r lo' t1 t2 t3 D') ∨ (¬ w ≤ V (numb o x) 2 - amtF (V (o + 17)) 0 x m ∧ ans = -2 ∧ rSim o L e ρ m k V r lo' t1 t2 t3 D')) (rSim o L e ρ m k V r lo' t1 t2 t3 D'))) := by
  refine mMet_of (by decide) (Nat.le_of_ble_eq_true rfl) ?_
  intro Γ Q hQ h hin
  have h : mOk Γ κ RX7 cX7_lend 6 (Option.some Jvm.ClassFile.FieldType.int) { frames := 2, cells := 1, slots := 4, locals := 48 } := h
  have hW := hI.1
  have hinj := hI.2.2.2.2.1
  have hρ : ∀ p, p < L → ρ p < 10 := fun p hp => (hW.1.2.2 p hp).1
  have hL10 := hW.1.2.1
  have hm8 := hW.2.2.2.1.1
  have hk8 := hW.2.2.2.2.2.1
  show mV Γ Q 0 0 n sh P D E [(0, .ref q), (1, .int x), (2, .int y), (3, .int w), (4, .int c)] [] 0
  refine V_aload_n h 1 0 rfl dX7_lend_0 rfl ?_
  refine V_iconst h 2 (v := 0) (by decide) dX7_lend_1 rfl ?_
  refine p_X7_16 h 5 hmS dX7_lend_2 rfl ?_
  obtain ⟨D1, eD1⟩ : ∃ zz, zz = upd2 D q 0 0 := ⟨_, rfl⟩
  rw [← eD1]
  have hS1 := rSim_q (D' := D1) hS hm8 hk8 hL.2.2.2.1 hqr (fun a ha => by rw [eD1, upd2_ra ha])
  refine V_aload_n h 6 0 rfl dX7_lend_5 rfl ?_
  refine V_iload_n h 7 1 rfl dX7_lend_6 rfl ?_
  refine CVI h 10 (As := [.int x]) (q_lives hmS hmP hqr hL hS1 hI x) rfl hmS qL_X7_56 qI_X7_lives qS_X7_lives qZ_X7 qC_X7_lives hd_X7_lives ⟨Nat.le_of_ble_eq_true rfl, Nat.le_of_ble_eq_true rfl⟩ (Nat.le_of_ble_eq_true rfl) rfl rfl dX7_lend_7 (Nat.le_of_ble_eq_true rfl) (Nat.le_of_ble_eq_true rfl) (fun r2 D2 hq2 => ?_)
  rw [hq2.1]
  have hv_x := hq2.2
  refine V_if_eq h 21 13 dX7_lend_10 (by decide) rfl (fun c10 => ?_) (fun c10 => ?_)
  · skip
    have nl_x := lv_n hv_x c10
    refine V_aload_n h 22 0 rfl dX7_lend_21 rfl ?_
    refine V_iconst h 23 (v := 1) (by decide) dX7_lend_22 rfl ?_
    refine CVI h 26 (As := [.int 1]) (q_no hmS 1) rfl hmS qL_X7_31 qI_X7_no qS_X7_no qZ_X7 qC_X7_no hd_X7_no ⟨Nat.le_of_ble_eq_true rfl, Nat.le_of_ble_eq_true rfl⟩ (Nat.le_of_ble_eq_true rfl) rfl rfl dX7_lend_23 (Nat.le_of_ble_eq_true rfl) (Nat.le_of_ble_eq_true rfl) (fun r3 D3 hq3 => ?_)
    obtain ⟨eD3, erD3⟩ := hq3
    rw [erD3]
    exact V_iret h rfl hQ (Nat.le_of_ble_eq_true rfl) (Nat.le_of_ble_eq_true rfl) ⟨Nat.le_refl _, rfl, fun _ _ => rfl, fun _ _ _ => rfl, _, rfl, lo, hL, fun a _ ha => by rw [eD3, eD1, upd2_ra (by omega), upd2_ra (by omega)], rO1 (fun z => nl_x z.1) (by rw [eD3, upd2_eq]) (rSim_q hS hm8 hk8 hL.2.2.2.1 hqr (fun a ha => by rw [eD3, eD1, upd2_ra ha, upd2_ra ha]))⟩ dX7_lend_26
  · skip
    have hl_x := lv_y hv_x c10
    refine V_aload_n h 14 0 rfl dX7_lend_13 rfl ?_
    refine V_iload_n h 15 2 rfl dX7_lend_14 rfl ?_
    refine CVI h 18 (As := [.int y]) (q_lives hmS hmP hqr hL hS1 hI y) rfl hmS qL_X7_56 qI_X7_lives qS_X7_lives qZ_X7 qC_X7_lives hd_X7_lives ⟨Nat.le_of_ble_eq_true rfl, Nat.le_of_ble_eq_true rfl⟩ (Nat.le_of_ble_eq_true rfl) rfl rfl dX7_lend_15 (Nat.le_of_ble_eq_true rfl) (Nat.le_of_ble_eq_true rfl) (fun r4 D4 hq4 => ?_)
    rw [hq4.1]
    have hv_y := hq4.2
    refine V_if_ne h 27 21 dX7_lend_18 (by decide) rfl (fun c18 => ?_) (fun c18 => ?_)
    · skip
      have hl_y := lv_y hv_y c18
      refine V_iload_n h 28 1 rfl dX7_lend_27 rfl ?_
      refine V_iload_n h 29 2 rfl dX7_lend_28 rfl ?_
      refine V_icmp_eq h 54 32 dX7_lend_29 (by decide) rfl (fun c29 => ?_) (fun c29 => ?_)
      · skip
        refine V_aload_n h 55 0 rfl dX7_lend_54 rfl ?_
        refine V_iconst h 56 (v := 2) (by decide) dX7_lend_55 rfl ?_
        refine CVI h 59 (As := [.int 2]) (q_no hmS 2) rfl hmS qL_X7_31 qI_X7_no qS_X7_no qZ_X7 qC_X7_no hd_X7_no ⟨Nat.le_of_ble_eq_true rfl, Nat.le_of_ble_eq_true rfl⟩ (Nat.le_of_ble_eq_true rfl) rfl rfl dX7_lend_56 (Nat.le_of_ble_eq_true rfl) (Nat.le_of_ble_eq_true rfl) (fun r5 D5 hq5 => ?_)
        obtain ⟨eD5, erD5⟩ := hq5
        rw [erD5]
        exact V_iret h rfl hQ (Nat.le_of_ble_eq_true rfl) (Nat.le_of_ble_eq_true rfl) ⟨Nat.le_refl _, rfl, fun _ _ => rfl, fun _ _ _ => rfl, _, rfl, lo, hL, fun a _ ha => by rw [eD5, eD1, upd2_ra (by omega), upd2_ra (by omega)], rO2 (⟨hl_x, hl_y⟩) (fun z => z.1 c29) (by rw [eD5, upd2_eq]) (rSim_q hS hm8 hk8 hL.2.2.2.1 hqr (fun a ha => by rw [eD5, eD1, upd2_ra ha, upd2_ra ha]))⟩ dX7_lend_59
      · skip
        refine V_iload_n h 33 3 rfl dX7_lend_32 rfl ?_
        refine V_iconst h 34 (v := 1) (by decide) dX7_lend_33 rfl ?_
        refine V_sipush h 37 (v := 5040) (by decide) dX7_lend_34 rfl ?_
        refine CSI h 40 (As := [.int w, .int 1, .int 5040]) (q_in w 1 5040) qL_X7_23 qT_X7_in qZ_X7 qC_X7_in hd_X7_in ⟨Nat.le_of_ble_eq_true rfl, Nat.le_of_ble_eq_true rfl⟩ (Nat.le_of_ble_eq_true rfl) rfl rfl dX7_lend_37 (Nat.le_of_ble_eq_true rfl) (Nat.le_of_ble_eq_true rfl) (fun r6 D6 hq6 => ?_)
        rw [hq6.1, hq6.2]
        refine V_if_eq h 54 43 dX7_lend_40 (by decide) rfl (fun c40 => ?_) (fun c40 => ?_)
        · skip
          refine V_aload_n h 55 0 rfl dX7_lend_54 rfl ?_
          refine V_iconst h 56 (v := 2) (by decide) dX7_lend_55 rfl ?_
          refine CVI h 59 (As := [.int 2]) (q_no hmS 2) rfl hmS qL_X7_31 qI_X7_no qS_X7_no qZ_X7 qC_X7_no hd_X7_no ⟨Nat.le_of_ble_eq_true rfl, Nat.le_of_ble_eq_true rfl⟩ (Nat.le_of_ble_eq_true rfl) rfl rfl dX7_lend_56 (Nat.le_of_ble_eq_true rfl) (Nat.le_of_ble_eq_true rfl) (fun r7 D7 hq7 => ?_)
          obtain ⟨eD7, erD7⟩ := hq7
          rw [erD7]
          exact V_iret h rfl hQ (Nat.le_of_ble_eq_true rfl) (Nat.le_of_ble_eq_true rfl) ⟨Nat.le_refl _, rfl, fun _ _ => rfl, fun _ _ _ => rfl, _, rfl, lo, hL, fun a _ ha => by rw [eD7, eD1, upd2_ra (by omega), upd2_ra (by omega)], rO2 (⟨hl_x, hl_y⟩) (fun z => wI_0 c40 z.2.1) (by rw [eD7, upd2_eq]) (rSim_q hS hm8 hk8 hL.2.2.2.1 hqr (fun a ha => by rw [eD7, eD1, upd2_ra ha, upd2_ra ha]))⟩ dX7_lend_59
        · skip
          refine V_iload h 45 4 rfl dX7_lend_43 rfl ?_
          refine V_iconst h 46 (v := 1) (by decide) dX7_lend_45 rfl ?_
          refine V_bipush h 48 (v := 20) (by decide) dX7_lend_46 rfl ?_
          refine CSI h 51 (As := [.int c, .int 1, .int 20]) (q_in c 1 20) qL_X7_23 qT_X7_in qZ_X7 qC_X7_in hd_X7_in ⟨Nat.le_of_ble_eq_true rfl, Nat.le_of_ble_eq_true rfl⟩ (Nat.le_of_ble_eq_true rfl) rfl rfl dX7_lend_48 (Nat.le_of_ble_eq_true rfl) (Nat.le_of_ble_eq_true rfl) (fun r8 D8 hq8 => ?_)
          rw [hq8.1, hq8.2]
          refine V_if_ne h 60 54 dX7_lend_51 (by decide) rfl (fun c51 => ?_) (fun c51 => ?_)
          · skip
            refine V_aload_n h 61 0 rfl dX7_lend_60 rfl ?_
            refine g_X7_10 h 64 (b := r) hmS hmP dX7_lend_61 rfl ?_
            refine g_X7_63 h 67 (R_s0 hL) dX7_lend_64 rfl ?_
            refine V_top (y := nI m) (by rw [eD1, upd2_nk (by decide)]; exact hS.2.2.2.2.1.2.2.1) ?_
            refine V_bipush h 69 (v := 8) (by decide) dX7_lend_67 rfl ?_
            refine V_icmp_ne h 78 72 dX7_lend_69 (by decide) rfl (fun c69 => ?_) (fun c69 => ?_)
            · skip
              have hm := nIe_8 hm8 c69
              have hkk8 := hk8
              have hlm := hL.2.2.2.1 m hm
              have hl_x2 := hl_x
              have hl_y2 := hl_y
              obtain ⟨p, hp, ex⟩ := hl_x2
              obtain ⟨p2, hp2, ey⟩ := hl_y2
              have hp10 := hρ p hp
              have hp210 := hρ p2 hp2
              have hne : ρ p ≠ ρ p2 := fun z => c29 (by rw [ex, ey, z])
              subst ex
              subst ey
              have nx : numb o (nI (ρ p)) = o + 6 + ρ p := numb_nI hp10
              have ny : numb o (nI (ρ p2)) = o + 6 + ρ p2 := numb_nI hp210
              refine V_aload_n h 79 0 rfl dX7_lend_78 rfl ?_
              refine V_iload_n h 80 1 rfl dX7_lend_79 rfl ?_
              refine CVR h 83 (As := [.int (nI (ρ p))]) (q_at hmS hmP hL (t := (ρ p)) (hρ p hp)) rfl hmS qL_X7_39 qI_X7_at qS_X7_at qZ_X7 qC_X7_at hd_X7_at ⟨Nat.le_of_ble_eq_true rfl, Nat.le_of_ble_eq_true rfl⟩ (Nat.le_of_ble_eq_true rfl) rfl rfl dX7_lend_80 (Nat.le_of_ble_eq_true rfl) (Nat.le_of_ble_eq_true rfl) (fun r9 D9 hq9 => ?_)
              rw [hq9.1, hq9.2]
              refine V_iconst h 84 (v := 0) (by decide) dX7_lend_83 rfl ?_
              refine V_iald h 85 0 (R_sw hL (hρ p hp)) (by decide) (by decide) (by decide) dX7_lend_84 rfl ?_
              refine V_top (y := V (o + 6 + (ρ p)) 2) (by rw [eD1, upd2_na (by omega)]; exact (hS.1 (ρ p) (hρ p hp) 0 (by decide))) ?_
              refine V_aload_n h 86 0 rfl dX7_lend_85 rfl ?_
              refine g_X7_10 h 89 (b := r) hmS hmP dX7_lend_86 rfl ?_
              refine V_iload_n h 90 1 rfl dX7_lend_89 rfl ?_
              refine CVI h 93 (As := [.int (nI (ρ p))]) (r_lent hL hS1 hW (nI (ρ p))) rfl (R_s0 hL) qL_X7_60 qI_X6_lent qS_X6_lent qZ_X6 qC_X6_lent hd_X6_lent ⟨Nat.le_of_ble_eq_true rfl, Nat.le_of_ble_eq_true rfl⟩ (Nat.le_of_ble_eq_true rfl) rfl rfl dX7_lend_90 (Nat.le_of_ble_eq_true rfl) (Nat.le_of_ble_eq_true rfl) (fun r10 D10 hq10 => ?_)
              rw [hq10.1, hq10.2]
              refine V_isub h 94 dX7_lend_93 rfl ?_
              refine V_iload_n h 95 3 rfl dX7_lend_94 rfl ?_
              refine V_icmp_ge h 101 98 dX7_lend_95 (by decide) rfl (fun c95 => ?_) (fun c95 => ?_)
              · skip
                refine V_iconst h 102 (v := 4) (by decide) dX7_lend_101 rfl ?_
                refine V_newI h 104 (n + 1) 1 4 (len := 4) qarrayClass_170 rfl (by decide) (Nat.le_of_ble_eq_true rfl) (Nat.le_of_ble_eq_true rfl) dX7_lend_102 rfl (by first | omega | dsimp only | (dsimp only; omega)) (by first | omega | dsimp only | (dsimp only; omega)) (by first | omega | dsimp only | (dsimp only; omega)) ?_
                obtain ⟨S11, eS11⟩ : ∃ zz, zz = updS sh n (.inr (0, 4)) := ⟨_, rfl⟩
                rw [← eS11]
                obtain ⟨P11, eP11⟩ : ∃ zz, zz = clrP P n := ⟨_, rfl⟩
                rw [← eP11]
                obtain ⟨D11, eD11⟩ : ∃ zz, zz = clrD D1 n := ⟨_, rfl⟩
                rw [← eD11]
                have fn12 : S11 n = some (.inr (0, 4)) := by rw [eS11]; exact updS_eq
                have hA : agr n sh P D1 S11 P11 D11 := by rw [eS11, eP11, eD11]; exact agr_new (Nat.le_refl _)
                have hmSA := agr_s hA (show q < n by omega) hmS
                have hmPA := agr_p hA (show q < n by omega) hmP
                have hLA := agr_L hA hL hrn
                have hSA := agr_S hA hS1 hm8 hk8 hL.2.2.2.1 hrn
                refine V_dup h 105 rfl dX7_lend_104 rfl ?_
                refine V_iconst h 106 (v := 0) (by decide) dX7_lend_105 rfl ?_
                refine V_iload_n h 107 1 rfl dX7_lend_106 rfl ?_
                refine V_iast h 108 0 fn12 (by decide) (by decide) (by decide) dX7_lend_107 rfl ?_
                obtain ⟨D13, eD13⟩ : ∃ zz, zz = upd2 D11 n 0 (nI (ρ p)) := ⟨_, rfl⟩
                rw [← eD13]
                refine V_dup h 109 rfl dX7_lend_108 rfl ?_
                refine V_iconst h 110 (v := 1) (by decide) dX7_lend_109 rfl ?_
                refine V_iload_n h 111 2 rfl dX7_lend_110 rfl ?_
                refine V_iast h 112 1 fn12 (by decide) (by decide) (by decide) dX7_lend_111 rfl ?_
                obtain ⟨D14, eD14⟩ : ∃ zz, zz = upd2 D13 n 1 (nI (ρ p2)) := ⟨_, rfl⟩
                rw [← eD14]
                refine V_dup h 113 rfl dX7_lend_112 rfl ?_
                refine V_iconst h 114 (v := 2) (by decide) dX7_lend_113 rfl ?_
                refine V_iload_n h 115 3 rfl dX7_lend_114 rfl ?_
                refine V_iast h 116 2 fn12 (by decide) (by decide) (by decide) dX7_lend_115 rfl ?_
                obtain ⟨D15, eD15⟩ : ∃ zz, zz = upd2 D14 n 2 w := ⟨_, rfl⟩
                rw [← eD15]
                refine V_dup h 117 rfl dX7_lend_116 rfl ?_
                refine V_iconst h 118 (v := 3) (by decide) dX7_lend_117 rfl ?_
                refine V_iload h 120 4 rfl dX7_lend_118 rfl ?_
                refine V_iast h 121 3 fn12 (by decide) (by decide) (by decide) dX7_lend_120 rfl ?_
                obtain ⟨D16, eD16⟩ : ∃ zz, zz = upd2 D15 n 3 c := ⟨_, rfl⟩
                rw [← eD16]
                refine V_astore h 123 [(5, .ref n), (0, .ref q), (1, .int (nI (ρ p))), (2, .int (nI (ρ p2))), (3, .int w), (4, .int c)] (by decide) rfl dX7_lend_121 rfl ?_
                refine V_aload h 125 0 rfl dX7_lend_123 rfl ?_
                refine V_iconst h 126 (v := 0) (by decide) dX7_lend_125 rfl ?_
                refine V_aload_n h 127 1 rfl dX7_lend_126 rfl ?_
                refine g_X7_10 h 130 (b := r) hmSA hmPA dX7_lend_127 rfl ?_
                refine g_X7_66 h 133 (b := r + 13) (R_s0 hLA) (R_p2 hLA) dX7_lend_130 rfl ?_
                refine V_aload_n h 134 1 rfl dX7_lend_133 rfl ?_
                refine g_X7_10 h 137 (b := r) hmSA hmPA dX7_lend_134 rfl ?_
                refine V_dup h 138 rfl dX7_lend_137 rfl ?_
                refine g_X7_63 h 141 (R_s0 hLA) dX7_lend_138 rfl ?_
                refine V_top (y := nI m) (by rw [eD16, upd2_nk (by decide), eD15, upd2_nk (by decide), eD14, upd2_nk (by decide), eD13, upd2_nk (by decide)]; exact (hSA.2.2.2.2.1.2.2.1)) ?_
                refine V_dup_x1 h 142 rfl rfl dX7_lend_141 rfl ?_
                refine V_iconst h 143 (v := 1) (by decide) dX7_lend_142 rfl ?_
                refine V_iadd h 144 dX7_lend_143 rfl ?_
                refine p_X7_63 h 147 (R_s0 hLA) dX7_lend_144 rfl ?_
                obtain ⟨D17, eD17⟩ : ∃ zz, zz = upd2 D16 r 7 ((nI m) + 1) := ⟨_, rfl⟩
                rw [← eD17]
                refine V_aald h 148 (b := r + 14 + lo m) m (Or.inr rfl) (R_s13 hLA) rfl (by omega) (by decide) (R_pl hLA hm) dX7_lend_147 rfl ?_
                refine V_iconst h 149 (v := 0) (by decide) dX7_lend_148 rfl ?_
                refine V_iconst h 150 (v := 4) (by decide) dX7_lend_149 rfl ?_
                refine V_copyi h 153 0 0 4 qL_X7_43 fn12 (R_sL hLA hm) rfl rfl rfl (by omega) (by omega) (by decide) (by decide) (Nat.le_of_ble_eq_true rfl) (Nat.le_of_ble_eq_true rfl) dX7_lend_150 rfl ?_
                obtain ⟨D18, eD18⟩ : ∃ zz, zz = cpD D17 n (r + 14 + lo m) 0 0 4 := ⟨_, rfl⟩
                rw [← eD18]
                have hKr : ∀ a, a < n → a ≠ r + 14 + lo m → a ≠ r → D18 a = D1 a := fun a a1 a2 a3 => by rw [eD18, cpD_ne a2, eD17, eD16, eD15, eD14, eD13, upd2_ra (by omega), upd2_ra (by omega), upd2_ra (by omega), upd2_ra (by omega), upd2_ra (by omega), eD11, clrD_ne (by omega)]
                have hk0 : D18 (r + 14 + lo m) 0 = nI (ρ p) := by rw [eD18, cpD_in (by omega) (by omega)]; show D17 n 0 = _; rw [eD17, upd2_na (by omega), eD16, upd2_nk (by decide), eD15, upd2_nk (by decide), eD14, upd2_nk (by decide), eD13, upd2_eq]
                have hk1 : D18 (r + 14 + lo m) 1 = nI (ρ p2) := by rw [eD18, cpD_in (by omega) (by omega)]; show D17 n 1 = _; rw [eD17, upd2_na (by omega), eD16, upd2_nk (by decide), eD15, upd2_nk (by decide), eD14, upd2_eq]
                have hk2 : D18 (r + 14 + lo m) 2 = w := by rw [eD18, cpD_in (by omega) (by omega)]; show D17 n 2 = _; rw [eD17, upd2_na (by omega), eD16, upd2_nk (by decide), eD15, upd2_eq]
                have hk3 : D18 (r + 14 + lo m) 3 = c := by rw [eD18, cpD_in (by omega) (by omega)]; show D17 n 3 = _; rw [eD17, upd2_na (by omega), eD16, upd2_eq]
                have hn7 : D18 r 7 = nI (m + 1) := by rw [eD18, cpD_ne (by omega), eD17, upd2_eq, nI_1]
                have hKr0 : ∀ j, j ≠ 7 → D18 r j = D1 r j := fun j j7 => by rw [eD18, cpD_ne (by omega), eD17, upd2_nk j7, eD16, eD15, eD14, eD13, upd2_ra (by omega), upd2_ra (by omega), upd2_ra (by omega), upd2_ra (by omega), eD11, clrD_ne (by omega)]
                refine V_aload_n h 154 1 rfl dX7_lend_153 rfl ?_
                refine g_X7_10 h 157 (b := r) hmSA hmPA dX7_lend_154 rfl ?_
                refine g_X7_63 h 160 (R_s0 hLA) dX7_lend_157 rfl ?_
                refine V_top (y := nI (m + 1)) hn7 ?_
                exact V_iret h rfl hQ (Nat.le_of_ble_eq_true rfl) (Nat.le_of_ble_eq_true rfl) ⟨by omega, rfl, fun a ha => (hA a ha).1, fun a ha _ => (hA a ha).2.1, _, rfl, lo, hLA, fun a ha h2 => by rw [hKr a ha (by omega) (by omega), eD1, upd2_ra (by omega)], rO4 ⟨hl_x, hl_y⟩ ⟨c29, wI_1 c40, wI_1 c51⟩ hm (by rw [hKr q (by omega) (by omega) (by omega), eD1, upd2_eq]) (Or.inl ⟨by rw [nx]; exact c95, rfl, rSim_lend (x := nI (ρ p)) (y := nI (ρ p2)) (w := w) (c := c) hS1 hm hkk8 hL.2.2.2.1 hL.2.2.2.2 (fun a a1 a2 a3 a4 => by rw [hKr a (by omega) a4 a3]) (fun j j7 => hKr0 j j7) hn7 ⟨hk0, hk1, hk2, hk3⟩⟩)⟩ dX7_lend_160
              · skip
                refine V_bipush h 100 (v := (-2)) (by decide) dX7_lend_98 rfl ?_
                exact V_iret h rfl hQ (Nat.le_of_ble_eq_true rfl) (Nat.le_of_ble_eq_true rfl) ⟨Nat.le_refl _, rfl, fun _ _ => rfl, fun _ _ _ => rfl, _, rfl, lo, hL, fun a ha h2 => by rw [eD1, upd2_ra (by omega)], rO4 ⟨hl_x, hl_y⟩ ⟨c29, wI_1 c40, wI_1 c51⟩ hm (by rw [eD1, upd2_eq]) (Or.inr ⟨by rw [nx]; exact c95, rfl, hS1⟩)⟩ dX7_lend_100
            · skip
              refine V_aload_n h 73 0 rfl dX7_lend_72 rfl ?_
              refine V_iconst h 74 (v := 3) (by decide) dX7_lend_73 rfl ?_
              refine CVI h 77 (As := [.int 3]) (q_no hmS 3) rfl hmS qL_X7_31 qI_X7_no qS_X7_no qZ_X7 qC_X7_no hd_X7_no ⟨Nat.le_of_ble_eq_true rfl, Nat.le_of_ble_eq_true rfl⟩ (Nat.le_of_ble_eq_true rfl) rfl rfl dX7_lend_74 (Nat.le_of_ble_eq_true rfl) (Nat.le_of_ble_eq_true rfl) (fun r19 D19 hq19 => ?_)
              obtain ⟨eD19, erD19⟩ := hq19
              rw [erD19]
              exact V_iret h rfl hQ (Nat.le_of_ble_eq_true rfl) (Nat.le_of_ble_eq_true rfl) ⟨Nat.le_refl _, rfl, fun _ _ => rfl, fun _ _ _ => rfl, _, rfl, lo, hL, fun a _ ha => by rw [eD19, eD1, upd2_ra (by omega), upd2_ra (by omega)], rO3 (⟨hl_x, hl_y⟩) (⟨c29, wI_1 c40, wI_1 c51⟩) (fun z => absurd ((nI_eq (a := m) (b := 8) (by omega) (by decide)).mp c69) (by omega)) (by rw [eD19, upd2_eq]) (rSim_q hS hm8 hk8 hL.2.2.2.1 hqr (fun a ha => by rw [eD19, eD1, upd2_ra ha, upd2_ra ha]))⟩ dX7_lend_77
          · skip
            refine V_aload_n h 55 0 rfl dX7_lend_54 rfl ?_
            refine V_iconst h 56 (v := 2) (by decide) dX7_lend_55 rfl ?_
            refine CVI h 59 (As := [.int 2]) (q_no hmS 2) rfl hmS qL_X7_31 qI_X7_no qS_X7_no qZ_X7 qC_X7_no hd_X7_no ⟨Nat.le_of_ble_eq_true rfl, Nat.le_of_ble_eq_true rfl⟩ (Nat.le_of_ble_eq_true rfl) rfl rfl dX7_lend_56 (Nat.le_of_ble_eq_true rfl) (Nat.le_of_ble_eq_true rfl) (fun r20 D20 hq20 => ?_)
            obtain ⟨eD20, erD20⟩ := hq20
            rw [erD20]
            exact V_iret h rfl hQ (Nat.le_of_ble_eq_true rfl) (Nat.le_of_ble_eq_true rfl) ⟨Nat.le_refl _, rfl, fun _ _ => rfl, fun _ _ _ => rfl, _, rfl, lo, hL, fun a _ ha => by rw [eD20, eD1, upd2_ra (by omega), upd2_ra (by omega)], rO2 (⟨hl_x, hl_y⟩) (fun z => wI_0 c51 z.2.2) (by rw [eD20, upd2_eq]) (rSim_q hS hm8 hk8 hL.2.2.2.1 hqr (fun a ha => by rw [eD20, eD1, upd2_ra ha, upd2_ra ha]))⟩ dX7_lend_59
    · skip
      have nl_y := lv_n hv_y c18
      refine V_aload_n h 22 0 rfl dX7_lend_21 rfl ?_
      refine V_iconst h 23 (v := 1) (by decide) dX7_lend_22 rfl ?_
      refine CVI h 26 (As := [.int 1]) (q_no hmS 1) rfl hmS qL_X7_31 qI_X7_no qS_X7_no qZ_X7 qC_X7_no hd_X7_no ⟨Nat.le_of_ble_eq_true rfl, Nat.le_of_ble_eq_true rfl⟩ (Nat.le_of_ble_eq_true rfl) rfl rfl dX7_lend_23 (Nat.le_of_ble_eq_true rfl) (Nat.le_of_ble_eq_true rfl) (fun r21 D21 hq21 => ?_)
      obtain ⟨eD21, erD21⟩ := hq21
      rw [erD21]
      exact V_iret h rfl hQ (Nat.le_of_ble_eq_true rfl) (Nat.le_of_ble_eq_true rfl) ⟨Nat.le_refl _, rfl, fun _ _ => rfl, fun _ _ _ => rfl, _, rfl, lo, hL, fun a _ ha => by rw [eD21, eD1, upd2_ra (by omega), upd2_ra (by omega)], rO1 (fun z => nl_y z.2) (by rw [eD21, upd2_eq]) (rSim_q hS hm8 hk8 hL.2.2.2.1 hqr (fun a ha => by rw [eD21, eD1, upd2_ra ha, upd2_ra ha]))⟩ dX7_lend_26

set_option maxRecDepth 100000 in
set_option maxHeartbeats 4000000 in
theorem q_ahead {κ : mKp} {n : Nat} {sh : mSh} {P : mPt} {D : mDt} {E : mEt} {q r : Nat} {lo : Nat → Nat} (hmS : sh q = some (.inl 7)) (hmP : P q 1 = some r) (hqr : q < r) (hL : rLay r lo sh P) {o L e m k : Nat} {ρ : Nat → Nat} {V : mDt} {t1 t2 t3 : Int32} (hS : rSim o L e ρ m k V r lo t1 t2 t3 D) (hI : cI o L e ρ m k V) (hrn : r + 32 ≤ n) (x y w c : Int32) : mMet κ yX7_ahead cX7_ahead 6 (Option.some Jvm.ClassFile.FieldType.int) { frames := 2, cells := 1, slots := 3, locals := 48 } [.ref q, .int x, .int y, .int w, .int c] n sh P D E (qP n sh P D E q r (fun ans lo' D' => rOut 2 3 (livP L ρ x ∧ livP L ρ y) (¬ x = y ∧ wP w 1 999 ∧ wP c 0 9999) (k < 8) (D' q 0) ((c ≤ V (numb o y) 3 ∧ ans = nI (k + 1) ∧ rSim o L e ρ m (k + 1) (upd2 (setRow (payB (numb o x) (numb o y) c V) (o + 19) (addF (payB (numb o x) (numb o y) c V (o + 19)) k x y w 0)) (o + 18) 1 (nI (k + 1))) r lo' t1 t2 t3 D') ∨ (¬ c ≤ V (numb o y) 3 ∧ ans = -3 ∧ rSim o L e ρ m k V r lo' t1 t2 t3 D')) (rSim o L e ρ m k V r lo' t1 t2 t3 D'))) := by
  refine mMet_of (by decide) (Nat.le_of_ble_eq_true rfl) ?_
  intro Γ Q hQ h hin
  have h : mOk Γ κ RX7 cX7_ahead 6 (Option.some Jvm.ClassFile.FieldType.int) { frames := 2, cells := 1, slots := 3, locals := 48 } := h
  have hW := hI.1
  have hinj := hI.2.2.2.2.1
  have hρ : ∀ p, p < L → ρ p < 10 := fun p hp => (hW.1.2.2 p hp).1
  have hL10 := hW.1.2.1
  have hm8 := hW.2.2.2.1.1
  have hk8 := hW.2.2.2.2.2.1
  show mV Γ Q 0 0 n sh P D E [(0, .ref q), (1, .int x), (2, .int y), (3, .int w), (4, .int c)] [] 0
  refine V_aload_n h 1 0 rfl dX7_ahead_0 rfl ?_
  refine V_iconst h 2 (v := 0) (by decide) dX7_ahead_1 rfl ?_
  refine p_X7_16 h 5 hmS dX7_ahead_2 rfl ?_
  obtain ⟨D1, eD1⟩ : ∃ zz, zz = upd2 D q 0 0 := ⟨_, rfl⟩
  rw [← eD1]
  have hS1 := rSim_q (D' := D1) hS hm8 hk8 hL.2.2.2.1 hqr (fun a ha => by rw [eD1, upd2_ra ha])
  refine V_aload_n h 6 0 rfl dX7_ahead_5 rfl ?_
  refine V_iload_n h 7 1 rfl dX7_ahead_6 rfl ?_
  refine CVI h 10 (As := [.int x]) (q_lives hmS hmP hqr hL hS1 hI x) rfl hmS qL_X7_56 qI_X7_lives qS_X7_lives qZ_X7 qC_X7_lives hd_X7_lives ⟨Nat.le_of_ble_eq_true rfl, Nat.le_of_ble_eq_true rfl⟩ (Nat.le_of_ble_eq_true rfl) rfl rfl dX7_ahead_7 (Nat.le_of_ble_eq_true rfl) (Nat.le_of_ble_eq_true rfl) (fun r2 D2 hq2 => ?_)
  rw [hq2.1]
  have hv_x := hq2.2
  refine V_if_eq h 21 13 dX7_ahead_10 (by decide) rfl (fun c10 => ?_) (fun c10 => ?_)
  · skip
    have nl_x := lv_n hv_x c10
    refine V_aload_n h 22 0 rfl dX7_ahead_21 rfl ?_
    refine V_iconst h 23 (v := 1) (by decide) dX7_ahead_22 rfl ?_
    refine CVI h 26 (As := [.int 1]) (q_no hmS 1) rfl hmS qL_X7_31 qI_X7_no qS_X7_no qZ_X7 qC_X7_no hd_X7_no ⟨Nat.le_of_ble_eq_true rfl, Nat.le_of_ble_eq_true rfl⟩ (Nat.le_of_ble_eq_true rfl) rfl rfl dX7_ahead_23 (Nat.le_of_ble_eq_true rfl) (Nat.le_of_ble_eq_true rfl) (fun r3 D3 hq3 => ?_)
    obtain ⟨eD3, erD3⟩ := hq3
    rw [erD3]
    exact V_iret h rfl hQ (Nat.le_of_ble_eq_true rfl) (Nat.le_of_ble_eq_true rfl) ⟨Nat.le_refl _, rfl, fun _ _ => rfl, fun _ _ _ => rfl, _, rfl, lo, hL, fun a _ ha => by rw [eD3, eD1, upd2_ra (by omega), upd2_ra (by omega)], rO1 (fun z => nl_x z.1) (by rw [eD3, upd2_eq]) (rSim_q hS hm8 hk8 hL.2.2.2.1 hqr (fun a ha => by rw [eD3, eD1, upd2_ra ha, upd2_ra ha]))⟩ dX7_ahead_26
  · skip
    have hl_x := lv_y hv_x c10
    refine V_aload_n h 14 0 rfl dX7_ahead_13 rfl ?_
    refine V_iload_n h 15 2 rfl dX7_ahead_14 rfl ?_
    refine CVI h 18 (As := [.int y]) (q_lives hmS hmP hqr hL hS1 hI y) rfl hmS qL_X7_56 qI_X7_lives qS_X7_lives qZ_X7 qC_X7_lives hd_X7_lives ⟨Nat.le_of_ble_eq_true rfl, Nat.le_of_ble_eq_true rfl⟩ (Nat.le_of_ble_eq_true rfl) rfl rfl dX7_ahead_15 (Nat.le_of_ble_eq_true rfl) (Nat.le_of_ble_eq_true rfl) (fun r4 D4 hq4 => ?_)
    rw [hq4.1]
    have hv_y := hq4.2
    refine V_if_ne h 27 21 dX7_ahead_18 (by decide) rfl (fun c18 => ?_) (fun c18 => ?_)
    · skip
      have hl_y := lv_y hv_y c18
      refine V_iload_n h 28 1 rfl dX7_ahead_27 rfl ?_
      refine V_iload_n h 29 2 rfl dX7_ahead_28 rfl ?_
      refine V_icmp_eq h 55 32 dX7_ahead_29 (by decide) rfl (fun c29 => ?_) (fun c29 => ?_)
      · skip
        refine V_aload_n h 56 0 rfl dX7_ahead_55 rfl ?_
        refine V_iconst h 57 (v := 2) (by decide) dX7_ahead_56 rfl ?_
        refine CVI h 60 (As := [.int 2]) (q_no hmS 2) rfl hmS qL_X7_31 qI_X7_no qS_X7_no qZ_X7 qC_X7_no hd_X7_no ⟨Nat.le_of_ble_eq_true rfl, Nat.le_of_ble_eq_true rfl⟩ (Nat.le_of_ble_eq_true rfl) rfl rfl dX7_ahead_57 (Nat.le_of_ble_eq_true rfl) (Nat.le_of_ble_eq_true rfl) (fun r5 D5 hq5 => ?_)
        obtain ⟨eD5, erD5⟩ := hq5
        rw [erD5]
        exact V_iret h rfl hQ (Nat.le_of_ble_eq_true rfl) (Nat.le_of_ble_eq_true rfl) ⟨Nat.le_refl _, rfl, fun _ _ => rfl, fun _ _ _ => rfl, _, rfl, lo, hL, fun a _ ha => by rw [eD5, eD1, upd2_ra (by omega), upd2_ra (by omega)], rO2 (⟨hl_x, hl_y⟩) (fun z => z.1 c29) (by rw [eD5, upd2_eq]) (rSim_q hS hm8 hk8 hL.2.2.2.1 hqr (fun a ha => by rw [eD5, eD1, upd2_ra ha, upd2_ra ha]))⟩ dX7_ahead_60
      · skip
        refine V_iload_n h 33 3 rfl dX7_ahead_32 rfl ?_
        refine V_iconst h 34 (v := 1) (by decide) dX7_ahead_33 rfl ?_
        refine V_sipush h 37 (v := 999) (by decide) dX7_ahead_34 rfl ?_
        refine CSI h 40 (As := [.int w, .int 1, .int 999]) (q_in w 1 999) qL_X7_23 qT_X7_in qZ_X7 qC_X7_in hd_X7_in ⟨Nat.le_of_ble_eq_true rfl, Nat.le_of_ble_eq_true rfl⟩ (Nat.le_of_ble_eq_true rfl) rfl rfl dX7_ahead_37 (Nat.le_of_ble_eq_true rfl) (Nat.le_of_ble_eq_true rfl) (fun r6 D6 hq6 => ?_)
        rw [hq6.1, hq6.2]
        refine V_if_eq h 55 43 dX7_ahead_40 (by decide) rfl (fun c40 => ?_) (fun c40 => ?_)
        · skip
          refine V_aload_n h 56 0 rfl dX7_ahead_55 rfl ?_
          refine V_iconst h 57 (v := 2) (by decide) dX7_ahead_56 rfl ?_
          refine CVI h 60 (As := [.int 2]) (q_no hmS 2) rfl hmS qL_X7_31 qI_X7_no qS_X7_no qZ_X7 qC_X7_no hd_X7_no ⟨Nat.le_of_ble_eq_true rfl, Nat.le_of_ble_eq_true rfl⟩ (Nat.le_of_ble_eq_true rfl) rfl rfl dX7_ahead_57 (Nat.le_of_ble_eq_true rfl) (Nat.le_of_ble_eq_true rfl) (fun r7 D7 hq7 => ?_)
          obtain ⟨eD7, erD7⟩ := hq7
          rw [erD7]
          exact V_iret h rfl hQ (Nat.le_of_ble_eq_true rfl) (Nat.le_of_ble_eq_true rfl) ⟨Nat.le_refl _, rfl, fun _ _ => rfl, fun _ _ _ => rfl, _, rfl, lo, hL, fun a _ ha => by rw [eD7, eD1, upd2_ra (by omega), upd2_ra (by omega)], rO2 (⟨hl_x, hl_y⟩) (fun z => wI_0 c40 z.2.1) (by rw [eD7, upd2_eq]) (rSim_q hS hm8 hk8 hL.2.2.2.1 hqr (fun a ha => by rw [eD7, eD1, upd2_ra ha, upd2_ra ha]))⟩ dX7_ahead_60
        · skip
          refine V_iload h 45 4 rfl dX7_ahead_43 rfl ?_
          refine V_iconst h 46 (v := 0) (by decide) dX7_ahead_45 rfl ?_
          refine V_sipush h 49 (v := 9999) (by decide) dX7_ahead_46 rfl ?_
          refine CSI h 52 (As := [.int c, .int 0, .int 9999]) (q_in c 0 9999) qL_X7_23 qT_X7_in qZ_X7 qC_X7_in hd_X7_in ⟨Nat.le_of_ble_eq_true rfl, Nat.le_of_ble_eq_true rfl⟩ (Nat.le_of_ble_eq_true rfl) rfl rfl dX7_ahead_49 (Nat.le_of_ble_eq_true rfl) (Nat.le_of_ble_eq_true rfl) (fun r8 D8 hq8 => ?_)
          rw [hq8.1, hq8.2]
          refine V_if_ne h 61 55 dX7_ahead_52 (by decide) rfl (fun c52 => ?_) (fun c52 => ?_)
          · skip
            refine V_aload_n h 62 0 rfl dX7_ahead_61 rfl ?_
            refine g_X7_10 h 65 (b := r) hmS hmP dX7_ahead_62 rfl ?_
            refine g_X7_76 h 68 (R_s0 hL) dX7_ahead_65 rfl ?_
            refine V_top (y := nI k) (by rw [eD1, upd2_nk (by decide)]; exact hS.2.2.2.2.1.2.2.2.1) ?_
            refine V_bipush h 70 (v := 8) (by decide) dX7_ahead_68 rfl ?_
            refine V_icmp_ne h 79 73 dX7_ahead_70 (by decide) rfl (fun c70 => ?_) (fun c70 => ?_)
            · skip
              have hk := nIe_8 hk8 c70
              have hkk8 := hm8
              have hl_x2 := hl_x
              have hl_y2 := hl_y
              obtain ⟨p, hp, ex⟩ := hl_x2
              obtain ⟨p2, hp2, ey⟩ := hl_y2
              have hp10 := hρ p hp
              have hp210 := hρ p2 hp2
              have hne : ρ p ≠ ρ p2 := fun z => c29 (by rw [ex, ey, z])
              subst ex
              subst ey
              have nx : numb o (nI (ρ p)) = o + 6 + ρ p := numb_nI hp10
              have ny : numb o (nI (ρ p2)) = o + 6 + ρ p2 := numb_nI hp210
              refine V_aload_n h 80 0 rfl dX7_ahead_79 rfl ?_
              refine V_iload_n h 81 2 rfl dX7_ahead_80 rfl ?_
              refine CVR h 84 (As := [.int (nI (ρ p2))]) (q_at hmS hmP hL (t := (ρ p2)) (hρ p2 hp2)) rfl hmS qL_X7_39 qI_X7_at qS_X7_at qZ_X7 qC_X7_at hd_X7_at ⟨Nat.le_of_ble_eq_true rfl, Nat.le_of_ble_eq_true rfl⟩ (Nat.le_of_ble_eq_true rfl) rfl rfl dX7_ahead_81 (Nat.le_of_ble_eq_true rfl) (Nat.le_of_ble_eq_true rfl) (fun r9 D9 hq9 => ?_)
              rw [hq9.1, hq9.2]
              refine V_iconst h 85 (v := 1) (by decide) dX7_ahead_84 rfl ?_
              refine V_iald h 86 1 (R_sw hL (hρ p2 hp2)) (by decide) (by decide) (by decide) dX7_ahead_85 rfl ?_
              refine V_top (y := V (o + 6 + (ρ p2)) 3) (by rw [eD1, upd2_nk (by decide)]; exact (hS.1 (ρ p2) (hρ p2 hp2) 1 (by decide))) ?_
              refine V_iload h 88 4 rfl dX7_ahead_86 rfl ?_
              refine V_icmp_ge h 94 91 dX7_ahead_88 (by decide) rfl (fun c88 => ?_) (fun c88 => ?_)
              · skip
                refine V_aload_n h 95 0 rfl dX7_ahead_94 rfl ?_
                refine V_iload_n h 96 2 rfl dX7_ahead_95 rfl ?_
                refine CVR h 99 (As := [.int (nI (ρ p2))]) (q_at hmS hmP hL (t := (ρ p2)) (hρ p2 hp2)) rfl hmS qL_X7_39 qI_X7_at qS_X7_at qZ_X7 qC_X7_at hd_X7_at ⟨Nat.le_of_ble_eq_true rfl, Nat.le_of_ble_eq_true rfl⟩ (Nat.le_of_ble_eq_true rfl) rfl rfl dX7_ahead_96 (Nat.le_of_ble_eq_true rfl) (Nat.le_of_ble_eq_true rfl) (fun r10 D10 hq10 => ?_)
                rw [hq10.1, hq10.2]
                refine V_iconst h 100 (v := 1) (by decide) dX7_ahead_99 rfl ?_
                refine V_dup2 h 101 rfl rfl dX7_ahead_100 rfl ?_
                refine V_iald h 102 1 (R_sw hL (hρ p2 hp2)) (by decide) (by decide) (by decide) dX7_ahead_101 rfl ?_
                refine V_top (y := V (o + 6 + (ρ p2)) 3) (by rw [eD1, upd2_nk (by decide)]; exact (hS.1 (ρ p2) (hρ p2 hp2) 1 (by decide))) ?_
                refine V_iload h 104 4 rfl dX7_ahead_102 rfl ?_
                refine V_isub h 105 dX7_ahead_104 rfl ?_
                refine V_iast h 106 1 (R_sw hL (hρ p2 hp2)) (by decide) (by decide) (by decide) dX7_ahead_105 rfl ?_
                obtain ⟨D11, eD11⟩ : ∃ zz, zz = upd2 D1 (r + 2 + (ρ p2)) 1 ((V (o + 6 + (ρ p2)) 3) - c) := ⟨_, rfl⟩
                rw [← eD11]
                refine V_aload_n h 107 0 rfl dX7_ahead_106 rfl ?_
                refine V_iload_n h 108 1 rfl dX7_ahead_107 rfl ?_
                refine CVR h 111 (As := [.int (nI (ρ p))]) (q_at hmS hmP hL (t := (ρ p)) (hρ p hp)) rfl hmS qL_X7_39 qI_X7_at qS_X7_at qZ_X7 qC_X7_at hd_X7_at ⟨Nat.le_of_ble_eq_true rfl, Nat.le_of_ble_eq_true rfl⟩ (Nat.le_of_ble_eq_true rfl) rfl rfl dX7_ahead_108 (Nat.le_of_ble_eq_true rfl) (Nat.le_of_ble_eq_true rfl) (fun r12 D12 hq12 => ?_)
                rw [hq12.1, hq12.2]
                refine V_iconst h 112 (v := 1) (by decide) dX7_ahead_111 rfl ?_
                refine V_dup2 h 113 rfl rfl dX7_ahead_112 rfl ?_
                refine V_iald h 114 1 (R_sw hL (hρ p hp)) (by decide) (by decide) (by decide) dX7_ahead_113 rfl ?_
                refine V_top (y := V (o + 6 + (ρ p)) 3) (by rw [eD11, upd2_na (by omega), eD1, upd2_nk (by decide)]; exact (hS.1 (ρ p) (hρ p hp) 1 (by decide))) ?_
                refine V_iload h 116 4 rfl dX7_ahead_114 rfl ?_
                refine V_iadd h 117 dX7_ahead_116 rfl ?_
                refine V_iast h 118 1 (R_sw hL (hρ p hp)) (by decide) (by decide) (by decide) dX7_ahead_117 rfl ?_
                obtain ⟨D13, eD13⟩ : ∃ zz, zz = upd2 D11 (r + 2 + (ρ p)) 1 ((V (o + 6 + (ρ p)) 3) + c) := ⟨_, rfl⟩
                rw [← eD13]
                have hSP : rSim o L e ρ m k (payB (o + 6 + ρ p) (o + 6 + ρ p2) c V) r lo t1 t2 t3 D13 := rSim_2 hS1 hm8 hk8 hL.2.2.2.1 hp10 hp210 hne (fun a a1 a2 a3 => by rw [eD13, eD11, upd2_ra (by omega), upd2_ra (by omega)]) (by rw [eD13, eD11, upd2_row, upd2_ra (by omega)]; exact rwq_upd (hS1.1 _ hp10) 1 (by decide) rfl) (by rw [eD13, eD11, upd2_ra (by omega), upd2_row]; exact rwq_upd (hS1.1 _ hp210) 1 (by decide) rfl)
                refine V_iconst h 119 (v := 3) (by decide) dX7_ahead_118 rfl ?_
                refine V_newI h 121 (n + 1) 1 3 (len := 3) qarrayClass_170 rfl (by decide) (Nat.le_of_ble_eq_true rfl) (Nat.le_of_ble_eq_true rfl) dX7_ahead_119 rfl (by first | omega | dsimp only | (dsimp only; omega)) (by first | omega | dsimp only | (dsimp only; omega)) (by first | omega | dsimp only | (dsimp only; omega)) ?_
                obtain ⟨S14, eS14⟩ : ∃ zz, zz = updS sh n (.inr (0, 3)) := ⟨_, rfl⟩
                rw [← eS14]
                obtain ⟨P14, eP14⟩ : ∃ zz, zz = clrP P n := ⟨_, rfl⟩
                rw [← eP14]
                obtain ⟨D14, eD14⟩ : ∃ zz, zz = clrD D13 n := ⟨_, rfl⟩
                rw [← eD14]
                have fn15 : S14 n = some (.inr (0, 3)) := by rw [eS14]; exact updS_eq
                have hA : agr n sh P D13 S14 P14 D14 := by rw [eS14, eP14, eD14]; exact agr_new (Nat.le_refl _)
                have hmSA := agr_s hA (show q < n by omega) hmS
                have hmPA := agr_p hA (show q < n by omega) hmP
                have hLA := agr_L hA hL hrn
                have hSA := agr_S hA hSP hm8 hk8 hL.2.2.2.1 hrn
                refine V_dup h 122 rfl dX7_ahead_121 rfl ?_
                refine V_iconst h 123 (v := 0) (by decide) dX7_ahead_122 rfl ?_
                refine V_iload_n h 124 1 rfl dX7_ahead_123 rfl ?_
                refine V_iast h 125 0 fn15 (by decide) (by decide) (by decide) dX7_ahead_124 rfl ?_
                obtain ⟨D16, eD16⟩ : ∃ zz, zz = upd2 D14 n 0 (nI (ρ p)) := ⟨_, rfl⟩
                rw [← eD16]
                refine V_dup h 126 rfl dX7_ahead_125 rfl ?_
                refine V_iconst h 127 (v := 1) (by decide) dX7_ahead_126 rfl ?_
                refine V_iload_n h 128 2 rfl dX7_ahead_127 rfl ?_
                refine V_iast h 129 1 fn15 (by decide) (by decide) (by decide) dX7_ahead_128 rfl ?_
                obtain ⟨D17, eD17⟩ : ∃ zz, zz = upd2 D16 n 1 (nI (ρ p2)) := ⟨_, rfl⟩
                rw [← eD17]
                refine V_dup h 130 rfl dX7_ahead_129 rfl ?_
                refine V_iconst h 131 (v := 2) (by decide) dX7_ahead_130 rfl ?_
                refine V_iload_n h 132 3 rfl dX7_ahead_131 rfl ?_
                refine V_iast h 133 2 fn15 (by decide) (by decide) (by decide) dX7_ahead_132 rfl ?_
                obtain ⟨D18, eD18⟩ : ∃ zz, zz = upd2 D17 n 2 w := ⟨_, rfl⟩
                rw [← eD18]
                refine V_astore h 135 [(5, .ref n), (0, .ref q), (1, .int (nI (ρ p))), (2, .int (nI (ρ p2))), (3, .int w), (4, .int c)] (by decide) rfl dX7_ahead_133 rfl ?_
                refine V_aload h 137 0 rfl dX7_ahead_135 rfl ?_
                refine V_iconst h 138 (v := 0) (by decide) dX7_ahead_137 rfl ?_
                refine V_aload_n h 139 1 rfl dX7_ahead_138 rfl ?_
                refine g_X7_10 h 142 (b := r) hmSA hmPA dX7_ahead_139 rfl ?_
                refine g_X7_79 h 145 (b := r + 22) (R_s0 hLA) (R_p3 hLA) dX7_ahead_142 rfl ?_
                refine V_aload_n h 146 1 rfl dX7_ahead_145 rfl ?_
                refine g_X7_10 h 149 (b := r) hmSA hmPA dX7_ahead_146 rfl ?_
                refine V_dup h 150 rfl dX7_ahead_149 rfl ?_
                refine g_X7_76 h 153 (R_s0 hLA) dX7_ahead_150 rfl ?_
                refine V_top (y := nI k) (by rw [eD18, upd2_nk (by decide), eD17, upd2_nk (by decide), eD16, upd2_nk (by decide)]; exact (hSA.2.2.2.2.1.2.2.2.1)) ?_
                refine V_dup_x1 h 154 rfl rfl dX7_ahead_153 rfl ?_
                refine V_iconst h 155 (v := 1) (by decide) dX7_ahead_154 rfl ?_
                refine V_iadd h 156 dX7_ahead_155 rfl ?_
                refine p_X7_76 h 159 (R_s0 hLA) dX7_ahead_156 rfl ?_
                obtain ⟨D19, eD19⟩ : ∃ zz, zz = upd2 D18 r 8 ((nI k) + 1) := ⟨_, rfl⟩
                rw [← eD19]
                refine V_aald h 160 (b := r + 23 + k) k (Or.inr rfl) (R_s22 hLA) rfl (by omega) (by decide) (R_ps hLA hk) dX7_ahead_159 rfl ?_
                refine V_iconst h 161 (v := 0) (by decide) dX7_ahead_160 rfl ?_
                refine V_iconst h 162 (v := 3) (by decide) dX7_ahead_161 rfl ?_
                refine V_copyi h 165 0 0 3 qL_X7_43 fn15 (R_ss hLA hk) rfl rfl rfl (by omega) (by omega) (by decide) (by decide) (Nat.le_of_ble_eq_true rfl) (Nat.le_of_ble_eq_true rfl) dX7_ahead_162 rfl ?_
                obtain ⟨D20, eD20⟩ : ∃ zz, zz = cpD D19 n (r + 23 + k) 0 0 3 := ⟨_, rfl⟩
                rw [← eD20]
                have hKr : ∀ a, a < n → a ≠ r + 23 + k → a ≠ r → D20 a = D13 a := fun a a1 a2 a3 => by rw [eD20, cpD_ne a2, eD19, eD18, eD17, eD16, upd2_ra (by omega), upd2_ra (by omega), upd2_ra (by omega), upd2_ra (by omega), eD14, clrD_ne (by omega)]
                have hk0 : D20 (r + 23 + k) 0 = nI (ρ p) := by rw [eD20, cpD_in (by omega) (by omega)]; show D19 n 0 = _; rw [eD19, upd2_na (by omega), eD18, upd2_nk (by decide), eD17, upd2_nk (by decide), eD16, upd2_eq]
                have hk1 : D20 (r + 23 + k) 1 = nI (ρ p2) := by rw [eD20, cpD_in (by omega) (by omega)]; show D19 n 1 = _; rw [eD19, upd2_na (by omega), eD18, upd2_nk (by decide), eD17, upd2_eq]
                have hk2 : D20 (r + 23 + k) 2 = w := by rw [eD20, cpD_in (by omega) (by omega)]; show D19 n 2 = _; rw [eD19, upd2_na (by omega), eD18, upd2_eq]
                have hn7 : D20 r 8 = nI (k + 1) := by rw [eD20, cpD_ne (by omega), eD19, upd2_eq, nI_1]
                have hKr0 : ∀ j, j ≠ 8 → D20 r j = D13 r j := fun j j7 => by rw [eD20, cpD_ne (by omega), eD19, upd2_nk j7, eD18, eD17, eD16, upd2_ra (by omega), upd2_ra (by omega), upd2_ra (by omega), eD14, clrD_ne (by omega)]
                refine V_aload_n h 166 1 rfl dX7_ahead_165 rfl ?_
                refine g_X7_10 h 169 (b := r) hmSA hmPA dX7_ahead_166 rfl ?_
                refine g_X7_76 h 172 (R_s0 hLA) dX7_ahead_169 rfl ?_
                refine V_top (y := nI (k + 1)) hn7 ?_
                exact V_iret h rfl hQ (Nat.le_of_ble_eq_true rfl) (Nat.le_of_ble_eq_true rfl) ⟨by omega, rfl, fun a ha => (hA a ha).1, fun a ha _ => (hA a ha).2.1, _, rfl, lo, hLA, fun a ha h2 => by rw [hKr a ha (by omega) (by omega), eD13, eD11, upd2_ra (by omega), upd2_ra (by omega), eD1, upd2_ra (by omega)], rO4 ⟨hl_x, hl_y⟩ ⟨c29, wI_1 c40, wI_1 c52⟩ hk (by rw [hKr q (by omega) (by omega) (by omega), eD13, eD11, upd2_ra (by omega), upd2_ra (by omega), eD1, upd2_eq]) (Or.inl ⟨by rw [ny]; exact c88, rfl, by rw [nx, ny]; exact rSim_sale (x := nI (ρ p)) (y := nI (ρ p2)) (w := w) hSP hm8 hk hL.2.2.2.1 (fun a a1 a2 a3 a4 => by rw [hKr a (by omega) a4 a3]) hKr0 hn7 ⟨hk0, hk1, hk2⟩⟩)⟩ dX7_ahead_172
              · skip
                refine V_bipush h 93 (v := (-3)) (by decide) dX7_ahead_91 rfl ?_
                exact V_iret h rfl hQ (Nat.le_of_ble_eq_true rfl) (Nat.le_of_ble_eq_true rfl) ⟨Nat.le_refl _, rfl, fun _ _ => rfl, fun _ _ _ => rfl, _, rfl, lo, hL, fun a ha h2 => by rw [eD1, upd2_ra (by omega)], rO4 ⟨hl_x, hl_y⟩ ⟨c29, wI_1 c40, wI_1 c52⟩ hk (by rw [eD1, upd2_eq]) (Or.inr ⟨by rw [ny]; exact c88, rfl, hS1⟩)⟩ dX7_ahead_93
            · skip
              refine V_aload_n h 74 0 rfl dX7_ahead_73 rfl ?_
              refine V_iconst h 75 (v := 3) (by decide) dX7_ahead_74 rfl ?_
              refine CVI h 78 (As := [.int 3]) (q_no hmS 3) rfl hmS qL_X7_31 qI_X7_no qS_X7_no qZ_X7 qC_X7_no hd_X7_no ⟨Nat.le_of_ble_eq_true rfl, Nat.le_of_ble_eq_true rfl⟩ (Nat.le_of_ble_eq_true rfl) rfl rfl dX7_ahead_75 (Nat.le_of_ble_eq_true rfl) (Nat.le_of_ble_eq_true rfl) (fun r21 D21 hq21 => ?_)
              obtain ⟨eD21, erD21⟩ := hq21
              rw [erD21]
              exact V_iret h rfl hQ (Nat.le_of_ble_eq_true rfl) (Nat.le_of_ble_eq_true rfl) ⟨Nat.le_refl _, rfl, fun _ _ => rfl, fun _ _ _ => rfl, _, rfl, lo, hL, fun a _ ha => by rw [eD21, eD1, upd2_ra (by omega), upd2_ra (by omega)], rO3 (⟨hl_x, hl_y⟩) (⟨c29, wI_1 c40, wI_1 c52⟩) (fun z => absurd ((nI_eq (a := k) (b := 8) (by omega) (by decide)).mp c70) (by omega)) (by rw [eD21, upd2_eq]) (rSim_q hS hm8 hk8 hL.2.2.2.1 hqr (fun a ha => by rw [eD21, eD1, upd2_ra ha, upd2_ra ha]))⟩ dX7_ahead_78
          · skip
            refine V_aload_n h 56 0 rfl dX7_ahead_55 rfl ?_
            refine V_iconst h 57 (v := 2) (by decide) dX7_ahead_56 rfl ?_
            refine CVI h 60 (As := [.int 2]) (q_no hmS 2) rfl hmS qL_X7_31 qI_X7_no qS_X7_no qZ_X7 qC_X7_no hd_X7_no ⟨Nat.le_of_ble_eq_true rfl, Nat.le_of_ble_eq_true rfl⟩ (Nat.le_of_ble_eq_true rfl) rfl rfl dX7_ahead_57 (Nat.le_of_ble_eq_true rfl) (Nat.le_of_ble_eq_true rfl) (fun r22 D22 hq22 => ?_)
            obtain ⟨eD22, erD22⟩ := hq22
            rw [erD22]
            exact V_iret h rfl hQ (Nat.le_of_ble_eq_true rfl) (Nat.le_of_ble_eq_true rfl) ⟨Nat.le_refl _, rfl, fun _ _ => rfl, fun _ _ _ => rfl, _, rfl, lo, hL, fun a _ ha => by rw [eD22, eD1, upd2_ra (by omega), upd2_ra (by omega)], rO2 (⟨hl_x, hl_y⟩) (fun z => wI_0 c52 z.2.2) (by rw [eD22, upd2_eq]) (rSim_q hS hm8 hk8 hL.2.2.2.1 hqr (fun a ha => by rw [eD22, eD1, upd2_ra ha, upd2_ra ha]))⟩ dX7_ahead_60
    · skip
      have nl_y := lv_n hv_y c18
      refine V_aload_n h 22 0 rfl dX7_ahead_21 rfl ?_
      refine V_iconst h 23 (v := 1) (by decide) dX7_ahead_22 rfl ?_
      refine CVI h 26 (As := [.int 1]) (q_no hmS 1) rfl hmS qL_X7_31 qI_X7_no qS_X7_no qZ_X7 qC_X7_no hd_X7_no ⟨Nat.le_of_ble_eq_true rfl, Nat.le_of_ble_eq_true rfl⟩ (Nat.le_of_ble_eq_true rfl) rfl rfl dX7_ahead_23 (Nat.le_of_ble_eq_true rfl) (Nat.le_of_ble_eq_true rfl) (fun r23 D23 hq23 => ?_)
      obtain ⟨eD23, erD23⟩ := hq23
      rw [erD23]
      exact V_iret h rfl hQ (Nat.le_of_ble_eq_true rfl) (Nat.le_of_ble_eq_true rfl) ⟨Nat.le_refl _, rfl, fun _ _ => rfl, fun _ _ _ => rfl, _, rfl, lo, hL, fun a _ ha => by rw [eD23, eD1, upd2_ra (by omega), upd2_ra (by omega)], rO1 (fun z => nl_y z.2) (by rw [eD23, upd2_eq]) (rSim_q hS hm8 hk8 hL.2.2.2.1 hqr (fun a ha => by rw [eD23, eD1, upd2_ra ha, upd2_ra ha]))⟩ dX7_ahead_26
