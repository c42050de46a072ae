theorem nsm_add {f : Nat → Nat} {a : Nat} : ∀ {b : Nat}, nsm f (a + b) = nsm f a + nsm (fun i => f (a + i)) b := by
  intro b
  induction b with
  | zero => rfl
  | succ b ih => rw [← Nat.add_assoc, nsm, nsm, ih]; omega
theorem nsm_bd {f : Nat → Nat} {B : Nat} : ∀ {n : Nat}, (∀ i, i < n → f i ≤ B) → nsm f n ≤ B * n := by
  intro n
  induction n with
  | zero => intro _; exact Nat.zero_le _
  | succ n ih =>
    intro h
    have h1 := ih (fun i hi => h i (by omega))
    have h2 := h n (by omega)
    rw [nsm, Nat.mul_succ]; omega
section GI3
variable {o L e m k dd c q hc : Nat} {ρ : Nat → Nat} {V V' : mDt}
theorem heir_in (hc1 : 1 ≤ hc) {p : Nat} (hp : p < L) (hq : q < L) (hne : p ≠ q) : ∃ z, z < L + hc - 1 ∧ heirRow ρ q hc e z = ρ p := by
  by_cases h : p < q
  · exact ⟨p, by omega, by rw [heirRow, if_pos h]⟩
  · exact ⟨p + hc - 1, by omega, by rw [heirRow, if_neg (by omega), if_neg (by omega)]; congr 1; omega⟩
theorem heir_new (hq : q < L) {i : Nat} (hi : i < hc) : q + i < L + hc - 1 ∧ heirRow ρ q hc e (q + i) = e + i :=
  ⟨by omega, by rw [heirRow, if_neg (by omega), if_pos (by omega)]; congr 1; omega⟩
theorem heir_cases (hq : q < L) (hc1 : 1 ≤ hc) {p : Nat} (hp : p < L + hc - 1) : (∃ z, z < L ∧ z ≠ q ∧ heirRow ρ q hc e p = ρ z ∧ ((p < q ∧ z = p) ∨ (q + hc ≤ p ∧ z = p + 1 - hc))) ∨ (∃ i, i < hc ∧ heirRow ρ q hc e p = e + i ∧ p = q + i) := by
  by_cases h : p < q
  · exact Or.inl ⟨p, by omega, by omega, by rw [heirRow, if_pos h], Or.inl ⟨h, rfl⟩⟩
  · by_cases h2 : p < q + hc
    · exact Or.inr ⟨p - q, by omega, by rw [heirRow, if_neg h, if_pos h2], by omega⟩
    · exact Or.inl ⟨p + 1 - hc, by omega, by omega, by rw [heirRow, if_neg h, if_neg h2], Or.inr ⟨by omega, rfl⟩⟩
theorem heir_inj (hq : q < L) (hc1 : 1 ≤ hc) (hinj : ∀ p q, p < q → q < L → ρ p ≠ ρ q) (hρ : ∀ p, p < L → ρ p < e) : ∀ p p', p < p' → p' < L + hc - 1 → heirRow ρ q hc e p ≠ heirRow ρ q hc e p' := by
  intro p p' h1 h2
  rcases heir_cases (ρ := ρ) (e := e) hq hc1 (show p < L + hc - 1 by omega) with ⟨z, a1, a2, a3, a4⟩ | ⟨i, a1, a2, a3⟩ <;> rcases heir_cases (ρ := ρ) (e := e) hq hc1 h2 with ⟨z', b1, b2, b3, b4⟩ | ⟨i', b1, b2, b3⟩
  · rw [a3, b3]; exact hinj _ _ (by omega) b1
  · rw [a3, b2]; have := hρ z a1; omega
  · rw [a2, b3]; have := hρ z' b1; omega
  · rw [a2, b2]; omega
theorem part_nI {s d w i : Nat} (h4 : s + d ≤ 4) (h1 : 1 ≤ s + d) (hi : i < s + d) (hw : w ≤ 536870912) : (partF (nI w) (nI s) (nI d) (nI i)).toInt.toNat ≤ w ∧ partF (nI w) (nI s) (nI d) (nI i) = nI (partF (nI w) (nI s) (nI d) (nI i)).toInt.toNat := by
  have ht : (nI w).toInt = w := nI_toInt (by omega)
  obtain ⟨a1, a2⟩ := (part_bd (dv := nI w) h4 h1 hi (by omega) (by omega)).1 (by omega)
  refine ⟨by omega, Int32.toInt_inj.1 ?_⟩
  rw [nI_toInt (by omega)]; omega
theorem gI_die {s d : Nat} {k2 : Nat} (h : gI o L e ρ m k V dd c) (hc6 : c ≤ 600) (hq : q < L) (hsd : s + d = hc) (hc1 : 1 ≤ hc) (hc4 : hc ≤ 4) (he : e + hc ≤ 10) (hk2 : V' (o + 16) 1 = nI k2) (hkm : k2 ≤ m) (hV : dieOk o q hc e (nI s) (nI d) L ρ m k V V') : gI o (L + hc - 1) (e + hc) (heirRow ρ q hc e) k2 k V' dd (c + 1) := by
  subst hsd
  obtain ⟨⟨hW, i2, i3, i4, i5, i6, i7, i8⟩, ⟨-, hinj, hfl, hto, hcy, hpa, hd⟩, h3, h4, h5, h6, h7, h8, h9⟩ := gI_c (c' := c + 1) h (by omega)
  have hρ := fun p hp => (hW.1.2.2 p hp).1
  have hm8 := hW.2.2.2.1.1
  have hqe := i6 q hq
  obtain ⟨v1, v2, v3, v4, v5, v6, ⟨k3, hk3, v7, v8⟩, v9, v10, v11⟩ := hV
  have : k3 = k2 := by
    have e1 := v7.symm.trans hk2
    have e2 := congrArg Int32.toNatClampNeg e1
    rwa [nI_clamp (by omega), nI_clamp (by omega)] at e2
  subst this
  -- the loans that stay
  have hl : ∀ i, i < k3 → ∃ j, j < m ∧ (∀ t, t < 4 → V' (o + 17) (i * 4 + t) = V (o + 17) (j * 4 + t)) ∧ V (o + 17) (j * 4 + 1) ≠ nI (ρ q) := fun i hi => by
    have h1 : drow (V' (o + 17)) i ∈ dls (V' (o + 17)) k3 := List.mem_map.mpr ⟨i, List.mem_range.mpr hi, rfl⟩
    rw [v8] at h1
    obtain ⟨r, hr, hr2⟩ := List.mem_filterMap.mp h1
    obtain ⟨j, hj, rfl⟩ := List.mem_map.mp hr
    have hj := List.mem_range.mp hj
    unfold endR at hr2
    split at hr2
    · cases hr2
    · split at hr2
      · cases hr2
      · rename_i q1 q2
        have hr3 := Option.some.inj hr2
        exact ⟨j, hj, fun t ht => (drow_j hr3 ht).symm, q2⟩
  -- the sales that pass
  have hs : ∀ i, i < k → V' (o + 19) (i * 4 + 0) = (if V (o + 19) (i * 4 + 0) = nI (ρ q) then nI e else V (o + 19) (i * 4 + 0)) ∧ V' (o + 19) (i * 4 + 1) = (if V (o + 19) (i * 4 + 1) = nI (ρ q) then nI e else V (o + 19) (i * 4 + 1)) ∧ V' (o + 19) (i * 4 + 2) = V (o + 19) (i * 4 + 2) := fun i hi => by
    have e1 := dls_at (g := fun z => passR (nI (ρ q)) (nI e) (drow (V (o + 19)) z)) (by rw [v10]; simp [dls]) hi
    exact ⟨congrArg (fun z => z.1) e1, congrArg (fun z => z.2.1) e1, congrArg (fun z => z.2.2.1) e1⟩
  have hte : toN (nI e) = e := nI_clamp (by omega)
  have hpOk : pOk o (L + (s + d) - 1) (heirRow ρ q (s + d) e) V' := by
    refine ⟨v1, by omega, fun p hp => ⟨?_, v3 p hp⟩⟩
    rcases heir_cases (ρ := ρ) (e := e) hq hc1 hp with ⟨z, a1, -, a3, -⟩ | ⟨i, a1, a2, -⟩
    · rw [a3]; exact hρ z a1
    · rw [a2]; omega
  have hrow : ∀ i, i < 10 → (i = ρ q ∧ V' (o + 6 + i) = upd (V (o + 6 + i)) 1 0) ∨ (∃ z, z < s + d ∧ i = e + z ∧ V' (o + 6 + i) = inhX (upd (V (o + 6 + ρ q)) 1 0) (nI s) (nI d) (nI z) (upd (V (o + 6 + i)) 1 1)) ∨ (i ≠ ρ q ∧ (i < e ∨ e + (s + d) ≤ i) ∧ V' (o + 6 + i) = V (o + 6 + i)) := fun i hi => by
    by_cases q1 : i = ρ q
    · exact Or.inl ⟨q1, by rw [q1]; exact v5⟩
    · by_cases q2 : i < e ∨ e + (s + d) ≤ i
      · exact Or.inr (Or.inr ⟨q1, q2, v6 i hi q1 q2⟩)
      · obtain ⟨z, rfl⟩ : ∃ z, i = e + z := ⟨i - e, by omega⟩
        exact Or.inr (Or.inl ⟨z, by omega, rfl, v4 z (by omega)⟩)
  have hro : ∀ i, i < 10 → ∀ j, (j = 0 ∨ 8 < j) → V' (o + 6 + i) j = V (o + 6 + i) j := fun i hi j hj => by
    rcases hrow i hi with ⟨-, e1⟩ | ⟨z, -, -, e1⟩ | ⟨-, -, e1⟩
    · rw [e1]; simp only [upd]; rw [if_neg (by omega)]
    · rw [e1]; simp only [upd, inhX]
      rw [if_neg (by omega), if_neg (by omega), if_neg (by omega), if_neg (by omega), if_neg (by omega), if_neg (by omega), if_neg (by omega), if_neg (by omega)]
    · rw [e1]
  have hcW : cW o (L + (s + d) - 1) (heirRow ρ q (s + d) e) k3 k V' := by
    refine ⟨hpOk, fun i hi => by rw [hro i hi 0 (Or.inl rfl)]; exact hW.2.1 i hi, v7, ⟨by omega, fun i hi => ?_⟩, v9, ⟨hW.2.2.2.2.2.1, fun i hi => ?_⟩⟩
    · obtain ⟨j, hj, e1, -⟩ := hl i hi
      rw [e1 0 (by decide), e1 1 (by decide)]
      exact hW.2.2.2.1.2 j hj
    · obtain ⟨e1, e2, -⟩ := hs i hi
      obtain ⟨a1, a2⟩ := hW.2.2.2.2.2.2 i hi
      rw [e1, e2]
      refine ⟨?_, ?_⟩
      · split
        · exact ⟨by rw [hte]; omega, by rw [hte]⟩
        · exact a1
      · split
        · exact ⟨by rw [hte]; omega, by rw [hte]⟩
        · exact a2
  have hinj2 := heir_inj (e := e) hq hc1 hinj i6
  have hpart : ∀ {w i : Nat}, i < s + d → w ≤ 536870912 → (partF (nI w) (nI s) (nI d) (nI i)).toInt.toNat ≤ w ∧ partF (nI w) (nI s) (nI d) (nI i) = nI (partF (nI w) (nI s) (nI d) (nI i)).toInt.toNat := fun hi hw => part_nI hc4 hc1 hi hw
  refine ⟨⟨hcW, v2, by omega, he, hinj2, fun p hp => ?_, fun i hi => ?_, by rw [v11 _ (by omega)]; exact i8⟩, ⟨hcW, hinj2, fun i hi => by rw [hro i hi 11 (by omega)]; exact hfl i hi, fun i hi => ?_, fun i hi => ?_, fun i hi => ?_, by rw [v11 _ (by omega)]; exact hd⟩, h3, fun i a1 a2 j j1 j2 => ?_, fun i hi => ?_, ?_, fun i hi => ?_, fun i hi => ?_, by rw [v11 _ (by omega)]; exact h9⟩
  · rcases heir_cases (ρ := ρ) (e := e) hq hc1 hp with ⟨z, a1, -, a3, -⟩ | ⟨i, a1, a2, -⟩
    · rw [a3]; have := i6 z a1; omega
    · rw [a2]; omega
  · rcases hrow i hi with ⟨q1, e1⟩ | ⟨z, hz, q1, e1⟩ | ⟨q1, q2, e1⟩
    · refine Or.inr ⟨by rw [e1]; simp [upd], fun p hp => ?_⟩
      rcases heir_cases (ρ := ρ) (e := e) hq hc1 hp with ⟨z, a1, a2, a3, -⟩ | ⟨i, a1, a2, -⟩
      · rw [a3, q1]
        by_cases t : z < q
        · exact hinj _ _ t hq
        · exact fun w => hinj q z (by omega) a1 w.symm
      · rw [a2]; omega
    · obtain ⟨n1, n2⟩ := heir_new (ρ := ρ) (e := e) (hc := s + d) hq hz
      exact Or.inl ⟨by rw [e1]; simp [upd, inhX], q + z, n1, by rw [n2, q1]⟩
    · rw [e1]
      rcases i7 i hi with ⟨a1, p, a2, a3⟩ | ⟨a1, a2⟩
      · obtain ⟨z, z1, z2⟩ := heir_in (ρ := ρ) (e := e) hc1 a2 hq (fun w => q1 (by rw [← a3, w]))
        exact Or.inl ⟨a1, z, z1, by rw [z2, a3]⟩
      · refine Or.inr ⟨a1, fun p hp => ?_⟩
        rcases heir_cases (ρ := ρ) (e := e) hq hc1 hp with ⟨z, b1, b2, b3, -⟩ | ⟨t, b1, b2, -⟩
        · rw [b3]; exact a2 z b1
        · rw [b2]; omega
  · obtain ⟨j, hj, e1, e2⟩ := hl i hi
    rw [e1 1 (by decide)]
    obtain ⟨p, p1, p2⟩ := hto j hj
    have hpq : p ≠ q := fun w => e2 (by
      have := (hW.2.2.2.1.2 j hj).2.2
      rw [this, ← p2, w])
    obtain ⟨z, z1, z2⟩ := heir_in (ρ := ρ) (e := e) hc1 p1 hq hpq
    exact ⟨z, z1, by rw [z2, p2]⟩
  · obtain ⟨j, hj, e1, -⟩ := hl i hi
    rw [e1 3 (by decide)]; exact hcy j hj
  · rcases hrow i hi with ⟨-, e1⟩ | ⟨z, hz, -, e1⟩ | ⟨-, -, e1⟩
    · rw [e1]; simpa [upd] using hpa i hi
    · obtain ⟨p, p1, p2⟩ := hpa (ρ q) (hρ q hq)
      refine ⟨_, ?_, show V' (o + 6 + i) 4 = nI (partF (nI p) (nI s) (nI d) (nI z)).toInt.toNat from ?_⟩
      · have := (hpart hz (show p ≤ 536870912 by omega)).1; omega
      · rw [← (hpart hz (show p ≤ 536870912 by omega)).2, e1, ← p2]; rfl
    · rw [e1]; exact hpa i hi
  · rcases hrow i a2 with ⟨q1, -⟩ | ⟨z, hz, q1, -⟩ | ⟨-, -, e1⟩
    · omega
    · omega
    · rw [e1]; exact h4 i (by omega) a2 j j1 j2
  · rcases hrow i hi with ⟨-, e1⟩ | ⟨z, hz, q1, e1⟩ | ⟨-, -, e1⟩
    · rw [e1]; exact rB_o (h5 i hi) (by omega)
    · obtain ⟨r3, ⟨p, p1, p2, p3, p4, p5⟩, ⟨w5, r5, r5'⟩, ⟨w6, r6, r6'⟩, ⟨w7, r7, r7'⟩, w8, r8, r8'⟩ := h5 (ρ q) (hρ q hq)
      have z9 := h4 i (by omega) hi 9 (by decide) (by decide)
      have e3 : V' (o + 6 + i) 3 = partF (V (o + 6 + ρ q) 3) (nI s) (nI d) (nI z) := by rw [e1]; rfl
      have e4 : V' (o + 6 + i) 4 = partF (V (o + 6 + ρ q) 4) (nI s) (nI d) (nI z) := by rw [e1]; rfl
      have e5 : V' (o + 6 + i) 5 = partF (V (o + 6 + ρ q) 5) (nI s) (nI d) (nI z) := by rw [e1]; rfl
      have e8 : V' (o + 6 + i) 8 = partF (V (o + 6 + ρ q) 8) (nI s) (nI d) (nI z) := by rw [e1]; rfl
      have e6 : V' (o + 6 + i) 6 = V (o + 6 + ρ q) 6 := by rw [e1]; rfl
      have e7 : V' (o + 6 + i) 7 = V (o + 6 + ρ q) 7 := by rw [e1]; rfl
      have e9 : V' (o + 6 + i) 9 = nI 0 := (hro i hi 9 (by omega)).trans z9
      rw [p2] at e4
      rw [r5'] at e5
      rw [r8'] at e8
      refine ⟨?_, ⟨_, ?_, e4.trans (hpart hz (by omega)).2, 0, by omega, e9⟩, ⟨_, ?_, e5.trans (hpart hz (by omega)).2⟩, ⟨w6, r6, e6.trans r6'⟩, ⟨w7, r7, e7.trans r7'⟩, _, ?_, e8.trans (hpart hz (by omega)).2⟩
      · rw [e3]
        have hb := part_bd (dv := V (o + 6 + ρ q) 3) hc4 hc1 hz (by omega) (by omega)
        by_cases t : 0 ≤ (V (o + 6 + ρ q) 3).toInt
        · have := hb.1 t; omega
        · have := hb.2 (by omega); omega
      · have := (hpart hz (show p ≤ 536870912 by omega)).1; omega
      · have := (hpart hz (show w5 ≤ 536870912 by omega)).1; omega
      · have := (hpart hz (show w8 ≤ 536870912 by omega)).1; omega
    · rw [e1]; exact h5 i hi
  · obtain ⟨b, b1, b2, b3⟩ := h6
    have hbq := b2 (ρ q)
    have hpn : ∀ i, i < s + d → (partF (nI (b (ρ q))) (nI s) (nI d) (nI i)).toInt.toNat ≤ b (ρ q) ∧ partF (nI (b (ρ q))) (nI s) (nI d) (nI i) = nI (partF (nI (b (ρ q))) (nI s) (nI d) (nI i)).toInt.toNat := fun i hi => hpart hi (by omega)
    have hps := part_sum (dv := nI (b (ρ q))) hc4 hc1 (by rw [ti_nI (by omega)]; omega) (by rw [ti_nI (by omega)]; omega)
    have hps2 := rsum_nsm (F := fun i => partF (nI (b (ρ q))) (nI s) (nI d) (nI i)) (f := fun i => (partF (nI (b (ρ q))) (nI s) (nI d) (nI i)).toInt.toNat) (fun i hi => (hpn i hi).2) (s + d) (Nat.le_refl _)
    rw [hps] at hps2
    have hbd := nsm_bd (f := fun i => (partF (nI (b (ρ q))) (nI s) (nI d) (nI i)).toInt.toNat) (fun i hi => (hpn i hi).1)
    have hbd2 : b (ρ q) * (s + d) ≤ 5040 * 4 := Nat.mul_le_mul hbq hc4
    have hpe : nsm (fun i => (partF (nI (b (ρ q))) (nI s) (nI d) (nI i)).toInt.toNat) (s + d) = b (ρ q) := by
      have e2 := congrArg Int32.toNatClampNeg hps2
      rw [nI_clamp (by omega), nI_clamp (by omega)] at e2
      exact e2.symm
    have hsplit : nsm (fun p => b (ρ p)) L = nsm (fun p => b (ρ p)) q + b (ρ q) + nsm (fun i => b (ρ (q + 1 + i))) (L - (q + 1)) := by
      have e1 := nsm_add (f := fun p => b (ρ p)) (a := q + 1) (b := L - (q + 1))
      rw [show q + 1 + (L - (q + 1)) = L by omega, nsm] at e1
      exact e1
    refine ⟨fun i => if e ≤ i ∧ i < e + (s + d) then (partF (nI (b (ρ q))) (nI s) (nI d) (nI (i - e))).toInt.toNat else b i, fun i hi => ?_, fun i => ?_, ?_⟩
    · rcases hrow i hi with ⟨q1, e1⟩ | ⟨z, hz, q1, e1⟩ | ⟨-, q1, e1⟩
      · dsimp only
        rw [if_neg (by omega), e1]; simpa [upd] using b1 i hi
      · dsimp only
        rw [if_pos (by omega), q1, Nat.add_sub_cancel_left, ← (hpn z hz).2, ← q1, ← b1 _ (hρ q hq), e1]; rfl
      · dsimp only
        rw [if_neg (by omega), e1]; exact b1 i hi
    · dsimp only
      split
      · have := (hpn (i - e) (by omega)).1; omega
      · exact b2 i
    · have e1 := nsm_add (f := fun p => (fun i => if e ≤ i ∧ i < e + (s + d) then (partF (nI (b (ρ q))) (nI s) (nI d) (nI (i - e))).toInt.toNat else b i) (heirRow ρ q (s + d) e p)) (a := q) (b := (s + d) + (L - (q + 1)))
      have e2 := nsm_add (f := fun i => (fun i => if e ≤ i ∧ i < e + (s + d) then (partF (nI (b (ρ q))) (nI s) (nI d) (nI (i - e))).toInt.toNat else b i) (heirRow ρ q (s + d) e (q + i))) (a := s + d) (b := L - (q + 1))
      rw [show L + (s + d) - 1 = q + ((s + d) + (L - (q + 1))) by omega, e1, e2]
      rw [nsm_cg (L := q) (g := fun p => b (ρ p)) (fun z hz => ?_), nsm_cg (L := s + d) (g := fun i => (partF (nI (b (ρ q))) (nI s) (nI d) (nI i)).toInt.toNat) (fun z hz => ?_), nsm_cg (L := L - (q + 1)) (g := fun i => b (ρ (q + 1 + i))) (fun z hz => ?_), hpe]
      · omega
      · dsimp only
        have e3 : heirRow ρ q (s + d) e (q + (s + d + z)) = ρ (q + 1 + z) := by
          rw [heirRow, if_neg (by omega), if_neg (by omega)]; congr 1; omega
        rw [e3]
        have := i6 (q + 1 + z) (by omega)
        rw [if_neg (by omega)]
      · dsimp only
        rw [(heir_new (ρ := ρ) (e := e) (hc := s + d) hq hz).2, if_pos (by omega), Nat.add_sub_cancel_left]
      · dsimp only
        have := i6 z (by omega)
        rw [heirRow, if_pos hz, if_neg (by omega)]
  · obtain ⟨j, hj, e1, -⟩ := hl i hi
    rw [e1 2 (by decide)]; exact h7 j hj
  · obtain ⟨e1, e2, e3⟩ := hs i hi
    obtain ⟨b1, b2, b3⟩ := h8 i hi
    rw [e1, e2, e3]
    refine ⟨b1, ?_, ?_⟩
    · split
      · rw [hte]; omega
      · omega
    · split
      · rw [hte]; omega
      · omega
end GI3
