theorem rhoA_lt {ρ : Nat → Nat} {L e p : Nat} (h : p < L) : rhoA ρ L e p = ρ p := by rw [rhoA, if_pos h]
theorem rhoA_eq {ρ : Nat → Nat} {L e : Nat} : rhoA ρ L e L = e := by rw [rhoA, if_neg (by omega)]
section GI2
variable {o L e m k dd c : Nat} {ρ : Nat → Nat} {V V' : mDt}
theorem addD_ra {w cc p mm : Int32} {a : Nat} (h1 : a ≠ o + 2) (h2 : a ≠ o + 4) (h3 : a ≠ o + 6 + e) : addD o e L w cc p mm V a = V a := by
  rw [addD, upd2_ra h1, upd2_ra h1, upd2_ra h2, setRow_ne h3]
theorem addD_e {w cc p mm : Int32} : addD o e L w cc p mm V (o + 6 + e) = upd (settleX w cc p mm (V (o + 6 + e))) 1 1 := by
  rw [addD, upd2_ra (by omega), upd2_ra (by omega), upd2_ra (by omega), setRow_eq]
theorem addD_4 {w cc p mm : Int32} : addD o e L w cc p mm V (o + 4) = upd (V (o + 4)) L (nI e) := by
  rw [addD, upd2_ra (by omega), upd2_ra (by omega), upd2_row, setRow_ne (by omega)]
theorem addD_24 {w cc p mm : Int32} : addD o e L w cc p mm V (o + 2) 4 = nI (L + 1) := by
  rw [addD, upd2_nk (by omega), upd2_eq]
theorem addD_23 {w cc p mm : Int32} : addD o e L w cc p mm V (o + 2) 3 = nI (e + 1) := by
  rw [addD, upd2_eq]
theorem gI_owner {w cc p mm : Int32} (h : gI o L e ρ m k V dd c) (hg : wP w 0 5040 ∧ wP cc 0 9999 ∧ wP p 0 200 ∧ wP mm 0 20) (he : e < 10) (hw : w ≤ 5040 - rsum (fun p => V (o + 6 + ρ p) 2) L) : gI o (L + 1) (e + 1) (rhoA ρ L e) m k (addD o e L w cc p mm V) dd (c + 1) := by
  obtain ⟨g1, g2, g3, g4⟩ := hg
  obtain ⟨w0, -, hw2, rfl⟩ := wP_N (a := 0) (b := 5040) g1 (by decide) (by decide)
  obtain ⟨c0, -, hc2, rfl⟩ := wP_N (a := 0) (b := 9999) g2 (by decide) (by decide)
  obtain ⟨p0, -, hp2, rfl⟩ := wP_N (a := 0) (b := 200) g3 (by decide) (by decide)
  obtain ⟨m0, -, hm2, rfl⟩ := wP_N (a := 0) (b := 20) g4 (by decide) (by decide)
  obtain ⟨⟨hW, i2, i3, i4, i5, i6, i7, i8⟩, ⟨-, hinj, hfl, hto, hcy, hpa, hd⟩, h3, h4, h5, h6, h7, h8, h9⟩ := h
  have hρ := fun p hp => (hW.1.2.2 p hp).1
  have hro : ∀ i, i ≠ e → addD o e L (nI w0) (nI c0) (nI p0) (nI m0) V (o + 6 + i) = V (o + 6 + i) := fun i hi => addD_ra (by omega) (by omega) (by omega)
  have hre : ∀ j, addD o e L (nI w0) (nI c0) (nI p0) (nI m0) V (o + 6 + e) j = upd (settleX (nI w0) (nI c0) (nI p0) (nI m0) (V (o + 6 + e))) 1 1 j := fun j => by rw [addD_e]
  have hpOk : pOk o (L + 1) (rhoA ρ L e) (addD o e L (nI w0) (nI c0) (nI p0) (nI m0) V) := by
    refine ⟨addD_24, by omega, fun p hp => ?_⟩
    rw [addD_4]
    by_cases q : p < L
    · rw [rhoA_lt q]
      exact ⟨hρ p q, by simp only [upd]; rw [if_neg (by omega)]; exact (hW.1.2.2 p q).2⟩
    · have : p = L := by omega
      subst this
      rw [rhoA_eq]
      exact ⟨he, by simp [upd]⟩
  have hcW : cW o (L + 1) (rhoA ρ L e) m k (addD o e L (nI w0) (nI c0) (nI p0) (nI m0) V) := by
    refine ⟨hpOk, fun i hi => ?_, by rw [addD_ra (by omega) (by omega) (by omega)]; exact hW.2.2.1, by rw [addD_ra (by omega) (by omega) (by omega)]; exact hW.2.2.2.1, by rw [addD_ra (by omega) (by omega) (by omega)]; exact hW.2.2.2.2.1, by rw [addD_ra (by omega) (by omega) (by omega)]; exact hW.2.2.2.2.2⟩
    by_cases q : i = e
    · subst q; rw [hre]; exact hW.2.1 i hi
    · rw [hro i q]; exact hW.2.1 i hi
  have hinj2 : ∀ p q, p < q → q < L + 1 → rhoA ρ L e p ≠ rhoA ρ L e q := fun p q h1 h2 => by
    rw [rhoA_lt (by omega)]
    by_cases z : q < L
    · rw [rhoA_lt z]; exact hinj p q h1 z
    · have : q = L := by omega
      subst this
      rw [rhoA_eq]
      have := i6 p h1
      omega
  refine ⟨⟨hcW, addD_23, by omega, by omega, hinj2, fun p hp => ?_, fun i hi => ?_, by rw [addD_ra (by omega) (by omega) (by omega)]; exact i8⟩, ⟨hcW, hinj2, fun i hi => ?_, fun i hi => ?_, fun i hi => ?_, fun i hi => ?_, ?_⟩, h3, fun i h1 h2 j j1 j2 => ?_, fun i hi => ?_, ?_, ?_, ?_, ?_⟩
  · by_cases q : p < L
    · rw [rhoA_lt q]; have := i6 p q; omega
    · have : p = L := by omega
      subst this
      rw [rhoA_eq]; omega
  · by_cases q : i = e
    · subst q
      exact Or.inl ⟨by rw [hre]; simp [upd], L, by omega, rhoA_eq⟩
    · rw [hro i q]
      rcases i7 i hi with ⟨a1, p, a2, a3⟩ | ⟨a1, a2⟩
      · exact Or.inl ⟨a1, p, by omega, by rw [rhoA_lt a2]; exact a3⟩
      · refine Or.inr ⟨a1, fun p hp => ?_⟩
        by_cases z : p < L
        · rw [rhoA_lt z]; exact a2 p z
        · have : p = L := by omega
          subst this
          rw [rhoA_eq]; omega
  · by_cases q : i = e
    · subst q; rw [hre]; exact hfl i hi
    · rw [hro i q]; exact hfl i hi
  · rw [addD_ra (by omega) (by omega) (by omega)]
    obtain ⟨p, a1, a2⟩ := hto i hi
    exact ⟨p, by omega, by rw [rhoA_lt a1]; exact a2⟩
  · rw [addD_ra (by omega) (by omega) (by omega)]; exact hcy i hi
  · by_cases q : i = e
    · subst q; rw [hre]; exact ⟨p0, by omega, by simp [upd, settleX]⟩
    · rw [hro i q]; exact hpa i hi
  · rw [addD_ra (by omega) (by omega) (by omega)]; exact hd
  · rw [hro i (by omega)]; exact h4 i (by omega) h2 j j1 j2
  · by_cases q : i = e
    · subst q
      have z := h4 i (Nat.le_refl _) hi
      have z7 := z 7 (by decide) (by decide)
      have z8 := z 8 (by decide) (by decide)
      have z9 := z 9 (by decide) (by decide)
      have e3 : addD o i L (nI w0) (nI c0) (nI p0) (nI m0) V (o + 6 + i) 3 = nI c0 := hre 3
      have e4 : addD o i L (nI w0) (nI c0) (nI p0) (nI m0) V (o + 6 + i) 4 = nI p0 := hre 4
      have e5 : addD o i L (nI w0) (nI c0) (nI p0) (nI m0) V (o + 6 + i) 5 = nI m0 := hre 5
      have e6 : addD o i L (nI w0) (nI c0) (nI p0) (nI m0) V (o + 6 + i) 6 = nI 50 := hre 6
      have e7 : addD o i L (nI w0) (nI c0) (nI p0) (nI m0) V (o + 6 + i) 7 = nI 0 := (hre 7).trans z7
      have e8 : addD o i L (nI w0) (nI c0) (nI p0) (nI m0) V (o + 6 + i) 8 = nI 0 := (hre 8).trans z8
      have e9 : addD o i L (nI w0) (nI c0) (nI p0) (nI m0) V (o + 6 + i) 9 = nI 0 := (hre 9).trans z9
      refine ⟨?_, ⟨p0, hp2, e4, 0, by omega, e9⟩, ⟨m0, hm2, e5⟩, ⟨50, by omega, e6⟩, ⟨0, by omega, e7⟩, 0, by omega, e8⟩
      rw [e3, ti_nI (by omega)]
      omega
    · rw [hro i q]; exact rB_ge (h5 i hi) (by omega) (by omega)
  · obtain ⟨b, b1, b2, b3⟩ := h6
    have hs : rsum (fun p => V (o + 6 + ρ p) 2) L = nI (nsm (fun p => b (ρ p)) L) := rsum_nsm (fun p hp => b1 _ (hρ p hp)) L (Nat.le_refl _)
    have hle : w0 + nsm (fun p => b (ρ p)) L ≤ 5040 := by
      rw [hs, Int32.le_iff_toInt_le, ti_nI (by omega), ti_sub] at hw <;> rw [show (5040 : Int32) = nI 5040 from rfl, ti_nI (by omega), ti_nI (by omega)] at * <;> omega
    refine ⟨fun i => if i = e then w0 else b i, fun i hi => ?_, fun i => ?_, ?_⟩
    · by_cases q : i = e
      · subst q; rw [hre]; simp [upd, settleX]
      · rw [hro i q]; simp only [if_neg q]; exact b1 i hi
    · dsimp only
      split
      · omega
      · exact b2 i
    · rw [nsm, rhoA_eq, nsm_cg (g := fun p => b (ρ p)) (fun z hz => by rw [rhoA_lt hz]; have := i6 z hz; exact if_neg (by omega))]
      simp only [if_true]
      omega
  · rw [addD_ra (by omega) (by omega) (by omega)]; exact h7
  · rw [addD_ra (by omega) (by omega) (by omega)]
    exact fun i hi => ⟨(h8 i hi).1, by have := (h8 i hi).2.1; omega, by have := (h8 i hi).2.2; omega⟩
  · rw [addD_ra (by omega) (by omega) (by omega)]; exact h9
theorem livP_R {x : Int32} (h : livP L ρ x) (hρ : ∀ p, p < L → ρ p < 10) : livR L ρ (toN x) ∧ toN x < 10 ∧ x = nI (toN x) := by
  obtain ⟨q, hq, rfl⟩ := h
  have h10 := hρ q hq
  have ht : toN (nI (ρ q)) = ρ q := nI_clamp (show ρ q < 2 ^ 31 by omega)
  rw [ht]
  exact ⟨⟨q, hq, rfl⟩, h10, rfl⟩
theorem dOk_add {f : Nat → Int32} {x y w z : Int32} (h : dOk f m) (hm : m < 8) (hx : toN x < 10 ∧ x = nI (toN x)) (hy : toN y < 10 ∧ y = nI (toN y)) : dOk (addF f m x y w z) (m + 1) := by
  rw [dOk_dls, dls_add]
  refine ⟨by omega, fun r hr => ?_⟩
  rw [List.mem_append] at hr
  rcases hr with hr | hr
  · exact (dOk_dls.1 h).2 r hr
  · rw [List.mem_singleton] at hr
    subst hr
    exact ⟨hx, hy⟩
theorem gI_lend {x y w z : Int32} (h : gI o L e ρ m k V dd c) (hl : livP L ρ x ∧ livP L ρ y) (hw : wP w 1 5040) (hz : wP z 1 20) (hm : m < 8) : gI o L e ρ (m + 1) k (upd2 (setRow V (o + 17) (addF (V (o + 17)) m x y w z)) (o + 16) 1 (nI (m + 1))) dd (c + 1) := by
  obtain ⟨⟨hW, i2, i3, i4, i5, i6, i7, i8⟩, ⟨-, hinj, hfl, hto, hcy, hpa, hd⟩, h3, h4, h5, ⟨b, b1, b2, b3⟩, h7, h8, h9⟩ := gI_c (c' := c + 1) h (by omega)
  have hρ := fun p hp => (hW.1.2.2 p hp).1
  have hx := livP_R hl.1 hρ
  have hy := livP_R hl.2 hρ
  obtain ⟨w0, hw1, hw2, ew⟩ := wP_N (a := 1) (b := 5040) hw (by decide) (by decide)
  obtain ⟨z0, hz1, hz2, ez⟩ := wP_N (a := 1) (b := 20) hz (by decide) (by decide)
  obtain ⟨a0, a1, a2, a3⟩ := addF_at (f := V (o + 17)) (m := m) (a := x) (b := y) (c := w) (e := z)
  have r : ∀ a, a ≠ o + 16 → a ≠ o + 17 → upd2 (setRow V (o + 17) (addF (V (o + 17)) m x y w z)) (o + 16) 1 (nI (m + 1)) a = V a := fun a q1 q2 => by rw [upd2_ra q1, setRow_ne q2]
  have r17 : upd2 (setRow V (o + 17) (addF (V (o + 17)) m x y w z)) (o + 16) 1 (nI (m + 1)) (o + 17) = addF (V (o + 17)) m x y w z := by rw [upd2_ra (by omega), setRow_eq]
  have hcW : cW o L ρ (m + 1) k (upd2 (setRow V (o + 17) (addF (V (o + 17)) m x y w z)) (o + 16) 1 (nI (m + 1))) := by
    refine ⟨pOk_of (r _ (by omega) (by omega)) (r _ (by omega) (by omega)) hW.1, fun i hi => by rw [r _ (by omega) (by omega)]; exact hW.2.1 i hi, upd2_eq, ?_, by rw [r _ (by omega) (by omega)]; exact hW.2.2.2.2.1, by rw [r _ (by omega) (by omega)]; exact hW.2.2.2.2.2⟩
    rw [r17]; exact dOk_add hW.2.2.2.1 hm hx.2 hy.2
  refine ⟨⟨hcW, by rw [r _ (by omega) (by omega)]; exact i2, i3, i4, i5, i6, fun i hi => by rw [r _ (by omega) (by omega)]; exact i7 i hi, by rw [r _ (by omega) (by omega)]; exact i8⟩, ⟨hcW, hinj, fun i hi => by rw [r _ (by omega) (by omega)]; exact hfl i hi, fun i hi => ?_, fun i hi => ?_, fun i hi => by rw [r _ (by omega) (by omega)]; exact hpa i hi, by rw [r _ (by omega) (by omega)]; exact hd⟩, h3, fun i q1 q2 => by rw [r _ (by omega) (by omega)]; exact h4 i q1 q2, fun i hi => by rw [r _ (by omega) (by omega)]; exact h5 i hi, ⟨b, fun i hi => by rw [r _ (by omega) (by omega)]; exact b1 i hi, b2, b3⟩, fun i hi => ?_, by rw [r _ (by omega) (by omega)]; exact h8, by rw [r _ (by omega) (by omega)]; exact h9⟩
  · rw [r17]
    by_cases q : i < m
    · rw [addF_lt (by omega)]; exact hto i q
    · have : i = m := by omega
      subst this
      rw [a1]; exact hy.1
  · rw [r17]
    by_cases q : i < m
    · rw [addF_lt (by omega)]; exact hcy i q
    · have : i = m := by omega
      subst this
      rw [a3]; exact ⟨z0, hz1, by omega, ez⟩
  · rw [r17]
    by_cases q : i < m
    · rw [addF_lt (by omega)]; exact h7 i q
    · have : i = m := by omega
      subst this
      rw [a2]; exact ⟨w0, hw2, ew⟩
theorem gI_ahead {x y w z : Int32} (h : gI o L e ρ m k V dd c) (hl : livP L ρ x ∧ livP L ρ y) (hw : wP w 1 999) (hm : k < 8) : gI o L e ρ m (k + 1) (upd2 (setRow V (o + 19) (addF (V (o + 19)) k x y w z)) (o + 18) 1 (nI (k + 1))) dd c := by
  obtain ⟨⟨hW, i2, i3, i4, i5, i6, i7, i8⟩, ⟨-, hinj, hfl, hto, hcy, hpa, hd⟩, h3, h4, h5, ⟨b, b1, b2, b3⟩, h7, h8, h9⟩ := h
  have hρ := fun p hp => (hW.1.2.2 p hp).1
  have hx := livP_R hl.1 hρ
  have hy := livP_R hl.2 hρ
  obtain ⟨w0, hw1, hw2, ew⟩ := wP_N (a := 1) (b := 999) hw (by decide) (by decide)
  obtain ⟨a0, a1, a2, a3⟩ := addF_at (f := V (o + 19)) (m := k) (a := x) (b := y) (c := w) (e := z)
  have r : ∀ a, a ≠ o + 18 → a ≠ o + 19 → upd2 (setRow V (o + 19) (addF (V (o + 19)) k x y w z)) (o + 18) 1 (nI (k + 1)) a = V a := fun a q1 q2 => by rw [upd2_ra q1, setRow_ne q2]
  have r17 : upd2 (setRow V (o + 19) (addF (V (o + 19)) k x y w z)) (o + 18) 1 (nI (k + 1)) (o + 19) = addF (V (o + 19)) k x y w z := by rw [upd2_ra (by omega), setRow_eq]
  have hcW : cW o L ρ m (k + 1) (upd2 (setRow V (o + 19) (addF (V (o + 19)) k x y w z)) (o + 18) 1 (nI (k + 1))) := by
    refine ⟨pOk_of (r _ (by omega) (by omega)) (r _ (by omega) (by omega)) hW.1, fun i hi => by rw [r _ (by omega) (by omega)]; exact hW.2.1 i hi, by rw [r _ (by omega) (by omega)]; exact hW.2.2.1, by rw [r _ (by omega) (by omega)]; exact hW.2.2.2.1, upd2_eq, ?_⟩
    rw [r17]; exact dOk_add hW.2.2.2.2.2 hm hx.2 hy.2
  refine ⟨⟨hcW, by rw [r _ (by omega) (by omega)]; exact i2, i3, i4, i5, i6, fun i hi => by rw [r _ (by omega) (by omega)]; exact i7 i hi, by rw [r _ (by omega) (by omega)]; exact i8⟩, ⟨hcW, hinj, fun i hi => by rw [r _ (by omega) (by omega)]; exact hfl i hi, fun i hi => by rw [r _ (by omega) (by omega)]; exact hto i hi, fun i hi => by rw [r _ (by omega) (by omega)]; exact hcy i hi, fun i hi => by rw [r _ (by omega) (by omega)]; exact hpa i hi, by rw [r _ (by omega) (by omega)]; exact hd⟩, h3, fun i q1 q2 => by rw [r _ (by omega) (by omega)]; exact h4 i q1 q2, fun i hi => by rw [r _ (by omega) (by omega)]; exact h5 i hi, ⟨b, fun i hi => by rw [r _ (by omega) (by omega)]; exact b1 i hi, b2, b3⟩, by rw [r _ (by omega) (by omega)]; exact h7, fun i hi => ?_, by rw [r _ (by omega) (by omega)]; exact h9⟩
  rw [r17]
  by_cases q : i < k
  · rw [addF_lt (by omega), addF_lt (by omega), addF_lt (by omega)]; exact h8 i q
  · have : i = k := by omega
    subst this
    rw [a0, a1, a2]
    obtain ⟨p1, b1, b2⟩ := hx.1
    obtain ⟨p2, b3, b4⟩ := hy.1
    exact ⟨⟨w0, hw2, ew⟩, by have := i6 p1 b1; omega, by have := i6 p2 b3; omega⟩
end GI2
