/-! what all pay for -/
theorem share_nI {cst w A : Nat} (h1 : cst ≤ 1120) (h2 : w ≤ A) (h3 : 1 ≤ A) (h4 : A ≤ 5040) : cst * w / A ≤ cst ∧ nI cst * nI w / nI A = nI (cst * w / A) := by
  have hm : cst * w ≤ cst * A := Nat.mul_le_mul_left _ h2
  have hm2 : cst * w ≤ 1120 * 5040 := Nat.mul_le_mul h1 (by omega)
  exact ⟨Nat.div_le_of_le_mul (by rw [Nat.mul_comm A]; exact hm), by rw [nI_mul, nI_div (by omega) (by omega)]⟩
theorem lsub_bd {cst : Nat} {f : Nat → Int32} (hc : cst ≤ 1120) : ∀ {n : Nat}, n ≤ 10 → (∀ p, p < n → ∃ s, s ≤ cst ∧ f p = nI s) → -(1120 * n : Int) ≤ (lsub (nI cst) f n).toInt ∧ (lsub (nI cst) f n).toInt ≤ 1120 := by
  intro n
  induction n with
  | zero => intro _ _; rw [lsub, nI_toInt (by omega)]; omega
  | succ n ih =>
    intro hn h
    obtain ⟨a1, a2⟩ := ih (by omega) (fun p hp => h p (by omega))
    obtain ⟨s, hs, es⟩ := h n (by omega)
    have e1 : (nI s).toInt = s := nI_toInt (by omega)
    have e2 : (lsub (nI cst) f n - nI s).toInt = (lsub (nI cst) f n).toInt - s := by
      rw [ti_sub] <;> rw [e1] <;> omega
    rw [lsub, es, e2]
    omega
section GI5
variable {o L e m k dd c : Nat} {ρ : Nat → Nat} {V V' : mDt}
theorem gI_ch0 {j : Nat} {v : Int32} (h : gI o L e ρ m k V dd c) (hv : j = 1 → ∃ l, l ≤ 90 ∧ v = nI l) : gI o L e ρ m k (upd2 V (o + 1) j v) dd c := by
  have hr : ∀ a, a ≠ o + 1 → upd2 V (o + 1) j v a = V a := fun a ha => upd2_ra ha
  obtain ⟨h1, h2, h3, h4, h5, ⟨b, b1, b2, b3⟩, h7, h8, h9⟩ := h
  refine ⟨cI_ch h1, gX_ch h2, h3, fun i hi h10 => by rw [hr _ (by omega)]; exact h4 i hi h10, fun i hi => by rw [hr _ (by omega)]; exact h5 i hi, ⟨b, fun i hi => by rw [hr _ (by omega)]; exact b1 i hi, b2, b3⟩, by rw [hr _ (by omega)]; exact h7, by rw [hr _ (by omega)]; exact h8, ?_⟩
  by_cases q : j = 1
  · subst q; rw [upd2_eq]; exact hv rfl
  · rw [upd2_nk (fun z => q z.symm)]; exact h9
theorem gI_paid {cst : Nat} (h : gI o L e ρ m k V dd c) (hc : c ≤ 600) (hcst : cst ≤ 1120) (hpos : 0 < rsum (fun p => V (o + 6 + ρ p) 2) L) : gI o L e ρ m k (payD o ρ L (nI cst) V) dd (c + 1) := by
  have hW := h.1.1
  have hρ : ∀ p, p < L → ρ p < 10 := fun p hp => (hW.1.2.2 p hp).1
  have hL10 := hW.1.2.1
  have hinj := h.1.2.2.2.2.1
  have hρe := h.1.2.2.2.2.2.1
  obtain ⟨b, b1, b2, b3⟩ := h.2.2.2.2.2.1
  have hd := h.2.2.1
  have hA : rsum (fun p => V (o + 6 + ρ p) 2) L = nI (nsm (fun p => b (ρ p)) L) := rsum_nsm (fun p hp => b1 _ (hρ p hp)) L (Nat.le_refl _)
  have hA1 : 1 ≤ nsm (fun p => b (ρ p)) L := by
    rw [hA] at hpos
    exact (nI_ltI (a := 0) (by omega) (by omega)).1 hpos
  have hbA : ∀ p, p < L → b (ρ p) ≤ nsm (fun p => b (ρ p)) L := fun p hp => nsm_le (f := fun p => b (ρ p)) hp
  have hL0 : 0 < L := by
    rcases Nat.eq_zero_or_pos L with z | z
    · subst z; rw [nsm] at hA1; omega
    · exact z
  have b3' := b3
  generalize hAd : nsm (fun p => b (ρ p)) L = A at hA hA1 hbA b3
  obtain ⟨M, hMd⟩ : ∃ M, M = mapD o ρ (fun _ => shareX (nI cst) (nI A)) V L := ⟨_, rfl⟩
  have hMr : ∀ p, p < L → ∃ s, s ≤ cst ∧ M (o + 6 + ρ p) = upd (V (o + 6 + ρ p)) 3 (V (o + 6 + ρ p) 3 - nI s) := fun p hp => by
    obtain ⟨s1, s2⟩ := share_nI hcst (hbA p hp) hA1 b3
    refine ⟨_, s1, ?_⟩
    rw [hMd, map_at hinj L (Nat.le_refl _) p hp, shareX, b1 _ (hρ p hp), s2]
  have hMo : ∀ a, (∀ p, p < L → a ≠ o + 6 + ρ p) → M a = V a := fun a ha => by rw [hMd]; exact mapD_other ha
  have hpd : payD o ρ L (nI cst) V = upd2 M (o + 6 + ρ 0) 3 (M (o + 6 + ρ 0) 3 - lsub (nI cst) (fun p => nI cst * V (o + 6 + ρ p) 2 / nI A) L) := by
    unfold payD
    rw [hA, hMd]
    congr 3
    funext p
    congr 2
    exact mapD_j (fun _ _ => rfl)
  have hls := lsub_bd (f := fun p => nI cst * V (o + 6 + ρ p) 2 / nI A) hcst hL10 (fun p hp => by
    obtain ⟨s1, s2⟩ := share_nI hcst (hbA p hp) hA1 b3
    exact ⟨_, s1, by rw [b1 _ (hρ p hp), s2]⟩)
  generalize lsub (nI cst) (fun p => nI cst * V (o + 6 + ρ p) 2 / nI A) L = X at *
  rw [hpd]
  have hlive : ∀ i, i < 10 → (∃ p, p < L ∧ i = ρ p) ∨ ∀ p, p < L → o + 6 + i ≠ o + 6 + ρ p := fun i hi => by
    by_cases q : ∃ p, p < L ∧ i = ρ p
    · exact Or.inl q
    · exact Or.inr (fun p hp z => q ⟨p, hp, by omega⟩)
  have hMj : ∀ i, i < 10 → ∀ j, j ≠ 3 → M (o + 6 + i) j = V (o + 6 + i) j := fun i hi j hj => by
    rcases hlive i hi with ⟨p, hp, rfl⟩ | q
    · obtain ⟨s, -, es⟩ := hMr p hp
      rw [es]; simp [upd, hj]
    · rw [hMo _ q]
  have h0 := hρ 0 hL0
  have hMB : ∀ i, i < 10 → rB (40000 * (c + dd) + 1120) (10000 * (c + 1 + dd)) (M (o + 6 + i)) := fun i hi => by
    have hr := h.2.2.2.2.1 i hi
    rcases hlive i hi with ⟨p, hp, rfl⟩ | q
    · obtain ⟨s, hs, es⟩ := hMr p hp
      rw [es]
      exact rB_3 (rB_ge hr (Nat.le_refl _) (by omega)) (coin_sub (c := 1120) hr.1 (by rw [nI_toInt (by omega)]; omega) (by omega))
    · rw [hMo _ q]; exact rB_ge hr (by omega) (by omega)
  refine gI_rows h (fun a ha => by rw [upd2_ra (by omega), hMo _ (fun p hp => by have := hρ p hp; omega)]) (fun i hi j hj => by rw [upd2_nk (by omega), hMj i hi j (by omega)]) (fun i hi => ?_) ⟨b, fun i hi => by rw [upd2_nk (by omega), hMj i hi 2 (by omega)]; exact b1 i hi, b2, b3'⟩ (fun i i1 i2 => ?_)
  · by_cases q : i = ρ 0
    · subst q
      rw [upd2_row]
      have hr := hMB (ρ 0) hi
      have hx := coin_sub (c := 11200) (y := X) hr.1 (by omega) (by omega)
      exact rB_3 (rB_ge hr (Nat.le_refl _) (Nat.le_refl _)) (by omega)
    · rw [upd2_ra (by omega)]; exact rB_ge (hMB i hi) (by omega) (Nat.le_refl _)
  · have := hρe 0 hL0
    rw [upd2_ra (by omega), hMo _ (fun p hp => by have := hρe p hp; omega)]
theorem gI_dig {x : Int32} (h : gI o L e ρ m k V dd c) (hc : c ≤ 600) (hx : wP x 1 80) (hg : V (o + 1) 1 + x ≤ 90) (hpos : 0 < rsum (fun p => V (o + 6 + ρ p) 2) L) : gI o L e ρ m k (upd2 (payD o ρ L ((5 + V (o + 1) 1 / 10) * x) V) (o + 1) 1 (V (o + 1) 1 + x)) dd (c + 1) := by
  obtain ⟨l, hl, el⟩ := h.2.2.2.2.2.2.2.2
  obtain ⟨x0, x1, x2, rfl⟩ := wP_N (a := 1) (b := 80) hx (by decide) (by decide)
  have ec : (5 + V (o + 1) 1 / 10) * nI x0 = nI ((5 + l / 10) * x0) := by
    rw [el, show (10 : Int32) = nI 10 from rfl, nI_div (by omega) (by omega), show (5 : Int32) = nI 5 from rfl, nI_add, nI_mul]
  have hb : (5 + l / 10) * x0 ≤ 14 * 80 := Nat.mul_le_mul (by omega) x2
  rw [el, nI_add] at hg
  have hlx := (nI_leI (a := l + x0) (b := 90) (by omega) (by omega)).1 hg
  rw [ec, el, nI_add]
  exact gI_ch0 (gI_paid h hc (by omega) hpos) (fun _ => ⟨l + x0, hlx, rfl⟩)
theorem gI_clean {x v : Int32} (h : gI o L e ρ m k V dd c) (hc : c ≤ 600) (hx : wP x 1 30) (hpos : 0 < rsum (fun p => V (o + 6 + ρ p) 2) L) : gI o L e ρ m k (upd2 (payD o ρ L (3 * x) V) (o + 1) 2 v) dd (c + 1) := by
  obtain ⟨x0, x1, x2, rfl⟩ := wP_N (a := 1) (b := 30) hx (by decide) (by decide)
  rw [show (3 : Int32) = nI 3 from rfl, nI_mul]
  exact gI_ch0 (gI_paid h hc (by omega) hpos) (fun z => absurd z (by decide))
/-! what of it the asking needs -/
theorem gI_hz (h : gI o L e ρ m k V dd c) : ∀ i, e ≤ i → i < 10 → ∀ j, 1 ≤ j → j < 15 → V (o + 6 + i) j = 0 := h.2.2.2.1
theorem gI_hM (h : gI o L e ρ m k V dd c) : ∀ i, i < 10 → ∃ v, v ≤ 99 ∧ V (o + 6 + i) 6 = nI v := fun i hi => (h.2.2.2.2.1 i hi).2.2.2.1
theorem gI_len (h : gI o L e ρ m k V dd c) : ∃ l, l ≤ 90 ∧ V (o + 1) 1 = nI l := h.2.2.2.2.2.2.2.2
theorem gI_b0 (h : gI o L e ρ m k V dd c) : ∀ i, i < 10 → ∃ w, w ≤ 5040 ∧ V (o + 6 + i) 2 = nI w := bsum_0 h.2.2.2.2.2.1
theorem gI_bw (h : gI o L e ρ m k V dd c) : ∀ p, p ≤ L → ∃ w, w ≤ 5040 ∧ rsum (fun p => V (o + 6 + ρ p) 2) p = nI w := bsum_w h.2.2.2.2.2.1 (fun p hp => (h.1.1.1.2.2 p hp).1)
theorem gI_am (h : gI o L e ρ m k V dd c) : ∀ i, i < m → ∃ a, a ≤ 5040 ∧ V (o + 17) (i * 4 + 2) = nI a := h.2.2.2.2.2.2.1
theorem gI_bd (h : gI o L e ρ m k V dd c) (hc : c ≤ 600) : ∀ i, i < 10 → ∀ j, j < 7 → j ≠ 4 → j ≠ 5 → -536870912 ≤ (V (o + 6 + i) (clm j)).toInt ∧ (V (o + 6 + i) (clm j)).toInt ≤ 536870912 := fun i hi j hj h4 h5 => by
  have hd := h.2.2.1
  obtain ⟨w2, hw2, e2⟩ := gI_b0 h i hi
  obtain ⟨h3, ⟨p, hp, ep, -⟩, ⟨w5, hw5, e5⟩, -, -, w8, hw8, e8⟩ := h.2.2.2.2.1 i hi
  obtain rfl | rfl | rfl | rfl | rfl : j = 0 ∨ j = 1 ∨ j = 2 ∨ j = 3 ∨ j = 6 := by omega
  · show -536870912 ≤ (V (o + 6 + i) 2).toInt ∧ (V (o + 6 + i) 2).toInt ≤ 536870912
    rw [e2, nI_toInt (by omega)]; omega
  · show -536870912 ≤ (V (o + 6 + i) 3).toInt ∧ (V (o + 6 + i) 3).toInt ≤ 536870912
    omega
  · show -536870912 ≤ (V (o + 6 + i) 4).toInt ∧ (V (o + 6 + i) 4).toInt ≤ 536870912
    rw [ep, nI_toInt (by omega)]; omega
  · show -536870912 ≤ (V (o + 6 + i) 5).toInt ∧ (V (o + 6 + i) 5).toInt ≤ 536870912
    rw [e5, nI_toInt (by omega)]; omega
  · show -536870912 ≤ (V (o + 6 + i) 8).toInt ∧ (V (o + 6 + i) 8).toInt ≤ 536870912
    rw [e8, nI_toInt (by omega)]; omega
end GI5
