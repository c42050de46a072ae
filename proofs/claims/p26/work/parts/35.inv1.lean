/-! what the class keeps from call to call -/
/-- one owner's row: coins within C either way, dates within T -/
def rB (C T : Nat) (x : Nat → Int32) : Prop := (-(C : Int) ≤ (x 3).toInt ∧ (x 3).toInt ≤ C) ∧ (∃ p, p ≤ 200 ∧ x 4 = nI p ∧ ∃ q, q ≤ p ∧ x 9 = nI q) ∧ (∃ w, w ≤ 20 ∧ x 5 = nI w) ∧ (∃ w, w ≤ 99 ∧ x 6 = nI w) ∧ (∃ w, w ≤ 99 ∧ x 7 = nI w) ∧ (∃ w, w ≤ T ∧ x 8 = nI w)
def nsm (f : Nat → Nat) : Nat → Nat
  | 0 => 0
  | k + 1 => nsm f k + f k
def bsum (o : Nat) (ρ : Nat → Nat) (L : Nat) (V : mDt) : Prop := ∃ b : Nat → Nat, (∀ i, i < 10 → V (o + 6 + i) 2 = nI (b i)) ∧ (∀ i, b i ≤ 5040) ∧ nsm (fun p => b (ρ p)) L ≤ 5040
def gI (o L e : Nat) (ρ : Nat → Nat) (m k : Nat) (V : mDt) (dd c : Nat) : Prop := cI o L e ρ m k V ∧ gX o L ρ m k V dd ∧ dd ≤ 2000 ∧ (∀ i, e ≤ i → i < 10 → ∀ j, 1 ≤ j → j < 15 → V (o + 6 + i) j = 0) ∧ (∀ i, i < 10 → rB (40000 * (c + dd)) (10000 * (c + dd)) (V (o + 6 + i))) ∧ bsum o ρ L V ∧ (∀ i, i < m → ∃ a, a ≤ 5040 ∧ V (o + 17) (i * 4 + 2) = nI a) ∧ (∀ i, i < k → (∃ a, a ≤ 999 ∧ V (o + 19) (i * 4 + 2) = nI a) ∧ toN (V (o + 19) (i * 4 + 0)) < e ∧ toN (V (o + 19) (i * 4 + 1)) < e) ∧ ∃ l, l ≤ 90 ∧ V (o + 1) 1 = nI l
theorem nsm_le {f : Nat → Nat} {L p : Nat} (hp : p < L) : f p ≤ nsm f L := by
  induction L with
  | zero => omega
  | succ L ih =>
    rw [nsm]
    by_cases q : p = L
    · subst q; omega
    · have := ih (by omega); omega
theorem nsm_mono {f : Nat → Nat} {L p : Nat} (hp : p ≤ L) : nsm f p ≤ nsm f L := by
  induction L with
  | zero => have : p = 0 := by omega
            subst this; exact Nat.le_refl _
  | succ L ih =>
    by_cases q : p = L + 1
    · subst q; exact Nat.le_refl _
    · have := ih (by omega); rw [nsm]; omega
theorem nsm_cg {f g : Nat → Nat} {L : Nat} (h : ∀ p, p < L → f p = g p) : nsm f L = nsm g L := by
  induction L with
  | zero => rfl
  | succ L ih => rw [nsm, nsm, ih (fun p hp => h p (by omega)), h L (by omega)]
theorem nsm_upd {b : Nat → Nat} {ρ : Nat → Nat} {v : Nat} : ∀ {L p : Nat}, (∀ p q, p < q → q < L → ρ p ≠ ρ q) → p < L → nsm (fun z => if ρ z = ρ p then v else b (ρ z)) L + b (ρ p) = nsm (fun z => b (ρ z)) L + v := by
  intro L
  induction L with
  | zero => intro p _ hp; omega
  | succ L ih =>
    intro p hinj hp
    rw [nsm, nsm]
    by_cases q : p = L
    · subst q
      rw [if_pos rfl, nsm_cg (g := fun z => b (ρ z)) (fun z hz => if_neg (hinj z p hz (by omega)))]
      omega
    · have h1 := ih (fun p q h1 h2 => hinj p q h1 (by omega)) (show p < L by omega)
      rw [if_neg (fun z => hinj p L (by omega) (by omega) z.symm)]
      omega
theorem rsum_nsm {F : Nat → Int32} {f : Nat → Nat} {L : Nat} (h : ∀ p, p < L → F p = nI (f p)) : ∀ p, p ≤ L → rsum F p = nI (nsm f p) := by
  intro p
  induction p with
  | zero => intro _; rfl
  | succ p ih => intro hp; rw [rsum, nsm, ih (by omega), h p (by omega), nI_add]
theorem bsum_0 {o L : Nat} {ρ : Nat → Nat} {V : mDt} (h : bsum o ρ L V) : ∀ i, i < 10 → ∃ w, w ≤ 5040 ∧ V (o + 6 + i) 2 = nI w := by
  obtain ⟨b, h1, h2, h3⟩ := h
  exact fun i hi => ⟨b i, h2 i, h1 i hi⟩
theorem bsum_w {o L : Nat} {ρ : Nat → Nat} {V : mDt} (h : bsum o ρ L V) (hρ : ∀ p, p < L → ρ p < 10) : ∀ p, p ≤ L → ∃ w, w ≤ 5040 ∧ rsum (fun p => V (o + 6 + ρ p) 2) p = nI w := by
  obtain ⟨b, h1, h2, h3⟩ := h
  intro p hp
  refine ⟨nsm (fun p => b (ρ p)) p, Nat.le_trans (nsm_mono hp) h3, rsum_nsm (fun p hp => h1 _ (hρ p hp)) p hp⟩
theorem rB_ge {C C' T T' : Nat} {x : Nat → Int32} (h : rB C T x) (hC : C ≤ C') (hT : T ≤ T') : rB C' T' x := by
  obtain ⟨⟨h1, h2⟩, h3, h4, h5, h6, w, h7, h8⟩ := h
  exact ⟨⟨by omega, by omega⟩, h3, h4, h5, h6, w, by omega, h8⟩
theorem rB_o {C T : Nat} {x : Nat → Int32} {j : Nat} {v : Int32} (h : rB C T x) (hj : j < 3 ∨ 9 < j) : rB C T (upd x j v) := by
  have e : ∀ z, z ≠ j → upd x j v z = x z := fun z hz => by simp [upd, hz]
  unfold rB
  rw [e 3 (by omega), e 4 (by omega), e 9 (by omega), e 5 (by omega), e 6 (by omega), e 7 (by omega), e 8 (by omega)]
  exact h
theorem rB_eq {C T : Nat} {x y : Nat → Int32} (h : rB C T x) (e : ∀ j, 3 ≤ j → j < 10 → y j = x j) : rB C T y := by
  unfold rB
  rw [e 3 (by decide) (by decide), e 4 (by decide) (by decide), e 9 (by decide) (by decide), e 5 (by decide) (by decide), e 6 (by decide) (by decide), e 7 (by decide) (by decide), e 8 (by decide) (by decide)]
  exact h
theorem rB_3 {C C' T : Nat} {x : Nat → Int32} {v : Int32} (h : rB C T x) (hv : -(C' : Int) ≤ v.toInt ∧ v.toInt ≤ C') : rB C' T (upd x 3 v) := by
  have e : ∀ z, z ≠ 3 → upd x 3 v z = x z := fun z hz => by simp [upd, hz]
  have e3 : upd x 3 v 3 = v := by simp [upd]
  obtain ⟨h1, h3⟩ := h
  unfold rB
  rw [e3, e 4 (by omega), e 9 (by omega), e 5 (by omega), e 6 (by omega), e 7 (by omega), e 8 (by omega)]
  exact ⟨hv, h3⟩
theorem rB_8 {C T T' : Nat} {x : Nat → Int32} {w : Nat} (h : rB C T x) (hw : w ≤ T') : rB C T' (upd x 8 (nI w)) := by
  have e : ∀ z, z ≠ 8 → upd x 8 (nI w) z = x z := fun z hz => by simp [upd, hz]
  have e8 : upd x 8 (nI w) 8 = nI w := by simp [upd]
  obtain ⟨h1, h3, h4, h5, h6, -⟩ := h
  unfold rB
  rw [e8, e 3 (by omega), e 4 (by omega), e 9 (by omega), e 5 (by omega), e 6 (by omega), e 7 (by omega)]
  exact ⟨h1, h3, h4, h5, h6, w, hw, rfl⟩
theorem ti_nI {a : Nat} (h : a < 2 ^ 31) : (nI a).toInt = a := nI_toInt h
theorem coin_add {C c : Nat} {x y : Int32} (hx : -(C : Int) ≤ x.toInt ∧ x.toInt ≤ C) (hy : -(c : Int) ≤ y.toInt ∧ y.toInt ≤ c) (h : C + c ≤ 2000000000) : -((C + c : Nat) : Int) ≤ (x + y).toInt ∧ (x + y).toInt ≤ ((C + c : Nat) : Int) := by
  rw [ti_add (by omega) (by omega)]; omega
theorem coin_sub {C c : Nat} {x y : Int32} (hx : -(C : Int) ≤ x.toInt ∧ x.toInt ≤ C) (hy : -(c : Int) ≤ y.toInt ∧ y.toInt ≤ c) (h : C + c ≤ 2000000000) : -((C + c : Nat) : Int) ≤ (x - y).toInt ∧ (x - y).toInt ≤ ((C + c : Nat) : Int) := by
  rw [ti_sub (by omega) (by omega)]; omega
section GI
variable {o L e m k dd c : Nat} {ρ : Nat → Nat} {V V' : mDt}
theorem gI_c {c' : Nat} (h : gI o L e ρ m k V dd c) (hc : c ≤ c') : gI o L e ρ m k V dd c' := by
  obtain ⟨h1, h2, h3, h4, h5, h6⟩ := h
  exact ⟨h1, h2, h3, h4, fun i hi => rB_ge (h5 i hi) (by omega) (by omega), h6⟩
theorem gX_of (hV : ∀ a, (a < o + 6 ∨ o + 16 ≤ a) → V' a = V a) (hW : cW o L ρ m k V') (hf : ∀ i, i < 10 → V' (o + 6 + i) 11 = V (o + 6 + i) 11) (hp : ∀ i, i < 10 → ∃ p, p ≤ 100000 ∧ V' (o + 6 + i) 4 = nI p) (h : gX o L ρ m k V dd) : gX o L ρ m k V' dd := by
  obtain ⟨-, hinj, hfl, hto, hcy, hpa, hd⟩ := h
  refine ⟨hW, hinj, fun i hi => by rw [hf i hi]; exact hfl i hi, fun i hi => ?_, fun i hi => ?_, hp, by rw [hV _ (by omega)]; exact hd⟩
  · rw [hV _ (by omega)]; exact hto i hi
  · rw [hV _ (by omega)]; exact hcy i hi
theorem gI_rows {c' : Nat} (h : gI o L e ρ m k V dd c) (hV : ∀ a, (a < o + 6 ∨ o + 16 ≤ a) → V' a = V a) (h0 : ∀ i, i < 10 → ∀ j, (j = 0 ∨ j = 1 ∨ j = 11) → V' (o + 6 + i) j = V (o + 6 + i) j) (hB : ∀ i, i < 10 → rB (40000 * (c' + dd)) (10000 * (c' + dd)) (V' (o + 6 + i))) (hs : bsum o ρ L V') (hz : ∀ i, e ≤ i → i < 10 → V' (o + 6 + i) = V (o + 6 + i)) : gI o L e ρ m k V' dd c' := by
  obtain ⟨⟨i1, i2, i3, i4, i5, i6, i7, i8⟩, h2, h3, h4, h5, h6, h7, h8, h9⟩ := h
  have hW : cW o L ρ m k V' := cW_of (hV _ (by omega)) (hV _ (by omega)) (hV _ (by omega)) (hV _ (by omega)) (hV _ (by omega)) (hV _ (by omega)) (fun i hi => h0 i hi 0 (Or.inl rfl)) i1
  refine ⟨⟨hW, by rw [hV _ (by omega)]; exact i2, i3, i4, i5, i6, fun i hi => by rw [h0 i hi 1 (Or.inr (Or.inl rfl))]; exact i7 i hi, by rw [hV _ (by omega)]; exact i8⟩, gX_of hV hW (fun i hi => h0 i hi 11 (Or.inr (Or.inr rfl))) (fun i hi => ?_) h2, h3, fun i h1 hi => by rw [hz i h1 hi]; exact h4 i h1 hi, hB, hs, by rw [hV _ (by omega)]; exact h7, by rw [hV _ (by omega)]; exact h8, by rw [hV _ (by omega)]; exact h9⟩
  obtain ⟨-, ⟨p, hp, e1, -⟩, -⟩ := hB i hi
  exact ⟨p, by omega, e1⟩
theorem gI_blk (h : gI o L e ρ m k V dd c) (hV : ∀ a, o ≤ a → a < o + 20 → V' a = V a) : gI o L e ρ m k V' dd c := by
  have hcI := cI_blk h.1 hV
  obtain ⟨h1, h2, h3, h4, h5, ⟨b, b1, b2, b3⟩, h7, h8, h9⟩ := h
  obtain ⟨-, hinj, hfl, hto, hcy, hpa, hd⟩ := h2
  have r : ∀ i, i < 10 → V' (o + 6 + i) = V (o + 6 + i) := fun i hi => hV _ (by omega) (by omega)
  refine ⟨hcI, ⟨hcI.1, hinj, fun i hi => by rw [r i hi]; exact hfl i hi, fun i hi => ?_, fun i hi => ?_, fun i hi => by rw [r i hi]; exact hpa i hi, ?_⟩, h3, fun i hi h10 => by rw [r i h10]; exact h4 i hi h10, fun i hi => by rw [r i hi]; exact h5 i hi, ⟨b, fun i hi => by rw [r i hi]; exact b1 i hi, b2, b3⟩, ?_, ?_, ?_⟩
  · rw [hV _ (by omega) (by omega)]; exact hto i hi
  · rw [hV _ (by omega) (by omega)]; exact hcy i hi
  · rw [hV _ (by omega) (by omega)]; exact hd
  · rw [hV _ (by omega) (by omega)]; exact h7
  · rw [hV _ (by omega) (by omega)]; exact h8
  · rw [hV _ (by omega) (by omega)]; exact h9
/-- the channel is told -/
theorem gI_ch {j : Nat} {v : Int32} (h : gI o L e ρ m k V dd c) (hv : j = 1 → ∃ l, l ≤ 90 ∧ v = nI l) : gI o L e ρ m k (upd2 V (o + 1) j v) dd (c + 1) := by
  have hr : ∀ a, a ≠ o + 1 → upd2 V (o + 1) j v a = V a := fun a ha => upd2_ra ha
  obtain ⟨h1, h2, h3, h4, h5, ⟨b, b1, b2, b3⟩, h7, h8, h9⟩ := gI_c (c' := c + 1) h (by omega)
  refine ⟨cI_ch h1, gX_ch h2, h3, fun i hi h10 => by rw [hr _ (by omega)]; exact h4 i hi h10, fun i hi => by rw [hr _ (by omega)]; exact h5 i hi, ⟨b, fun i hi => by rw [hr _ (by omega)]; exact b1 i hi, b2, b3⟩, by rw [hr _ (by omega)]; exact h7, by rw [hr _ (by omega)]; exact h8, ?_⟩
  by_cases q : j = 1
  · subst q; rw [upd2_eq]; exact hv rfl
  · rw [upd2_nk (fun z => q z.symm)]; exact h9
/-- two rows of owners who live go on -/
theorem gI_two {p p2 : Nat} {fa fb : Nat → Int32} (h : gI o L e ρ m k V dd c) (hp : p < L) (hp2 : p2 < L) (hne : ρ p ≠ ρ p2) (ha : ∀ j, (j = 0 ∨ j = 1 ∨ j = 11) → fa j = V (o + 6 + ρ p) j) (hb : ∀ j, (j = 0 ∨ j = 1 ∨ j = 11) → fb j = V (o + 6 + ρ p2) j) (hA : rB (40000 * (c + 1 + dd)) (10000 * (c + 1 + dd)) fa) (hB : rB (40000 * (c + 1 + dd)) (10000 * (c + 1 + dd)) fb) (hs : bsum o ρ L (setRow (setRow V (o + 6 + ρ p) fa) (o + 6 + ρ p2) fb)) : gI o L e ρ m k (setRow (setRow V (o + 6 + ρ p) fa) (o + 6 + ρ p2) fb) dd (c + 1) := by
  have hρ : ∀ p, p < L → ρ p < 10 := fun p hp => (h.1.1.1.2.2 p hp).1
  have hρe : ∀ p, p < L → ρ p < e := h.1.2.2.2.2.2.1
  have h10 := hρ p hp
  have h210 := hρ p2 hp2
  have he := hρe p hp
  have he2 := hρe p2 hp2
  have r1 : ∀ a, a ≠ o + 6 + ρ p → a ≠ o + 6 + ρ p2 → setRow (setRow V (o + 6 + ρ p) fa) (o + 6 + ρ p2) fb a = V a := fun a a1 a2 => by rw [setRow_ne a2, setRow_ne a1]
  have ra : setRow (setRow V (o + 6 + ρ p) fa) (o + 6 + ρ p2) fb (o + 6 + ρ p) = fa := by rw [setRow_ne (by omega), setRow_eq]
  have rb : setRow (setRow V (o + 6 + ρ p) fa) (o + 6 + ρ p2) fb (o + 6 + ρ p2) = fb := setRow_eq
  refine gI_rows h (fun a ha => r1 a (by omega) (by omega)) (fun i hi j hj => ?_) (fun i hi => ?_) hs (fun i h1 h2 => r1 _ (by omega) (by omega))
  · by_cases q1 : i = ρ p
    · subst q1; rw [ra]; exact ha j hj
    · by_cases q2 : i = ρ p2
      · subst q2; rw [rb]; exact hb j hj
      · rw [r1 _ (by omega) (by omega)]
  · by_cases q1 : i = ρ p
    · subst q1; rw [ra]; exact hA
    · by_cases q2 : i = ρ p2
      · subst q2; rw [rb]; exact hB
      · rw [r1 _ (by omega) (by omega)]; exact rB_ge (h.2.2.2.2.1 i hi) (by omega) (by omega)
theorem bsum_2 {p p2 : Nat} {fa fb : Nat → Int32} (h : bsum o ρ L V) (ha : fa 2 = V (o + 6 + ρ p) 2) (hb : fb 2 = V (o + 6 + ρ p2) 2) : bsum o ρ L (setRow (setRow V (o + 6 + ρ p) fa) (o + 6 + ρ p2) fb) := by
  obtain ⟨b, b1, b2, b3⟩ := h
  refine ⟨b, fun i hi => ?_, b2, b3⟩
  by_cases q2 : o + 6 + i = o + 6 + ρ p2
  · rw [q2, setRow_eq, hb, ← q2]; exact b1 i hi
  · rw [setRow_ne q2]
    by_cases q1 : o + 6 + i = o + 6 + ρ p
    · rw [q1, setRow_eq, ha, ← q1]; exact b1 i hi
    · rw [setRow_ne q1]; exact b1 i hi
theorem coin_w {w : Int32} {a b : Int32} {C : Nat} (h : wP w a b) (ha : -(C : Int) ≤ a.toInt) (hb : b.toInt ≤ C) : -(C : Int) ≤ w.toInt ∧ w.toInt ≤ C := by
  obtain ⟨h1, h2⟩ := h
  rw [Int32.le_iff_toInt_le] at h1 h2
  exact ⟨by omega, by omega⟩
theorem gI_pay {p p2 : Nat} {w : Int32} {g g2 : Nat → Int32} (h : gI o L e ρ m k V dd c) (hc : c ≤ 600) (hp : p < L) (hp2 : p2 < L) (hw : wP w 0 9999) : rB (40000 * (c + 1 + dd)) (10000 * (c + 1 + dd)) (upd (V (o + 6 + ρ p)) 3 (V (o + 6 + ρ p) 3 + w)) ∧ rB (40000 * (c + 1 + dd)) (10000 * (c + 1 + dd)) (upd (V (o + 6 + ρ p2)) 3 (V (o + 6 + ρ p2) 3 - w)) := by
  have hρ : ∀ p, p < L → ρ p < 10 := fun p hp => (h.1.1.1.2.2 p hp).1
  have hd := h.2.2.1
  have hw2 := coin_w (C := 40000) hw (by decide) (by decide)
  have h1 := h.2.2.2.2.1 _ (hρ p hp)
  have h2 := h.2.2.2.2.1 _ (hρ p2 hp2)
  have c1 := coin_add h1.1 hw2 (by omega)
  have c2 := coin_sub h2.1 hw2 (by omega)
  have e : 40000 * (c + dd) + 40000 = 40000 * (c + 1 + dd) := by omega
  rw [e] at c1 c2
  exact ⟨rB_3 (rB_ge h1 (Nat.le_refl _) (show 10000 * (c + dd) ≤ 10000 * (c + 1 + dd) by omega)) c1, rB_3 (rB_ge h2 (Nat.le_refl _) (show 10000 * (c + dd) ≤ 10000 * (c + 1 + dd) by omega)) c2⟩
theorem gI_payB {p p2 : Nat} {w : Int32} (h : gI o L e ρ m k V dd c) (hc : c ≤ 600) (hp : p < L) (hp2 : p2 < L) (hne : ρ p ≠ ρ p2) (hw : wP w 0 9999) : gI o L e ρ m k (payB (o + 6 + ρ p) (o + 6 + ρ p2) w V) dd (c + 1) := by
  obtain ⟨hA, hB⟩ := gI_pay (g := V 0) (g2 := V 0) h hc hp hp2 hw
  have u : ∀ (x : Nat → Int32) (v : Int32) (j : Nat), j ≠ 3 → upd x 3 v j = x j := fun x v j hj => by simp [upd, hj]
  exact gI_two h hp hp2 hne (fun j hj => u _ _ j (by omega)) (fun j hj => u _ _ j (by omega)) hA hB (bsum_2 h.2.2.2.2.2.1 (u _ _ 2 (by decide)) (u _ _ 2 (by decide)))
theorem gI_pollen {p p2 : Nat} {w : Int32} (h : gI o L e ρ m k V dd c) (hc : c ≤ 600) (hp : p < L) (hp2 : p2 < L) (hne : ρ p ≠ ρ p2) (hw : wP w 1 200) : gI o L e ρ m k (moveD 10 (o + 6 + ρ p) (o + 6 + ρ p2) w w V) dd (c + 1) := by
  obtain ⟨hA, hB⟩ := gI_pay (g := V 0) (g2 := V 0) h hc hp hp2 (w := w) ⟨Int32.le_trans (by decide) hw.1, Int32.le_trans hw.2 (by decide)⟩
  have u : ∀ (x : Nat → Int32) (v v2 : Int32) (j : Nat), j ≠ 3 → j ≠ 10 → upd (upd x 3 v) 10 v2 j = x j := fun x v v2 j hj hj2 => by simp [upd, hj, hj2]
  exact gI_two h hp hp2 hne (fun j hj => u _ _ _ j (by omega) (by omega)) (fun j hj => u _ _ _ j (by omega) (by omega)) (rB_o hA (by omega)) (rB_o hB (by omega)) (bsum_2 h.2.2.2.2.2.1 (u _ _ _ 2 (by decide) (by decide)) (u _ _ _ 2 (by decide) (by decide)))
theorem amt_ok {f : Nat → Int32} {x : Int32} {cl : Nat} : ∀ {m : Nat}, (∀ i, i < m → ∃ a, a ≤ 5040 ∧ f (i * 4 + 2) = nI a) → ∃ A, A ≤ 5040 * m ∧ amtF f cl x m = nI A := by
  intro m
  induction m with
  | zero => intro _; exact ⟨0, by omega, rfl⟩
  | succ m ih =>
    intro h
    obtain ⟨A, hA, eA⟩ := ih (fun i hi => h i (by omega))
    obtain ⟨a, ha, ea⟩ := h m (by omega)
    rw [amtF]
    split
    · exact ⟨A + a, by omega, by rw [eA, ea, nI_add]⟩
    · exact ⟨A, by omega, eA⟩
theorem gI_sell {p p2 : Nat} {w cn x : Int32} (h : gI o L e ρ m k V dd c) (hc : c ≤ 600) (hp : p < L) (hp2 : p2 < L) (hne : ρ p ≠ ρ p2) (hw : wP w 1 5040) (hcn : wP cn 0 9999) (hle : w ≤ V (o + 6 + ρ p) 2 - amtF (V (o + 17)) 0 x m) : gI o L e ρ m k (moveD 2 (o + 6 + ρ p) (o + 6 + ρ p2) w cn V) dd (c + 1) := by
  have hρ : ∀ p, p < L → ρ p < 10 := fun p hp => (h.1.1.1.2.2 p hp).1
  have hinj := h.1.2.2.2.2.1
  have hm8 := h.1.1.2.2.2.1.1
  obtain ⟨hA, hB⟩ := gI_pay (g := V 0) (g2 := V 0) h hc hp hp2 hcn
  have u : ∀ (x : Nat → Int32) (v v2 : Int32) (j : Nat), j ≠ 3 → j ≠ 2 → upd (upd x 3 v) 2 v2 j = x j := fun x v v2 j hj hj2 => by simp [upd, hj, hj2]
  refine gI_two h hp hp2 hne (fun j hj => u _ _ _ j (by omega) (by omega)) (fun j hj => u _ _ _ j (by omega) (by omega)) (rB_o hA (by omega)) (rB_o hB (by omega)) ?_
  obtain ⟨b, b1, b2, b3⟩ := h.2.2.2.2.2.1
  obtain ⟨A, hA1, hA2⟩ := amt_ok (x := x) (cl := 0) h.2.2.2.2.2.2.1
  obtain ⟨w0, hw1, hw2, rfl⟩ := wP_N (a := 1) (b := 5040) hw (by decide) (by decide)
  have hb1 := b2 (ρ p)
  have hle2 : w0 ≤ b (ρ p) := by
    rw [b1 _ (hρ p hp), hA2, Int32.le_iff_toInt_le, ti_nI (by omega), ti_sub] at hle <;> rw [ti_nI (by omega), ti_nI (by omega)] at * <;> omega
  have s1 := nsm_upd (b := b) (ρ := ρ) (v := b (ρ p) - w0) hinj hp
  have s2 := nsm_upd (b := fun i => if i = ρ p then b (ρ p) - w0 else b i) (ρ := ρ) (v := b (ρ p2) + w0) hinj hp2
  have e2 : (if ρ p2 = ρ p then b (ρ p) - w0 else b (ρ p2)) = b (ρ p2) := if_neg (fun z => hne z.symm)
  rw [e2] at s2
  have sle : nsm (fun z => if ρ z = ρ p2 then b (ρ p2) + w0 else if ρ z = ρ p then b (ρ p) - w0 else b (ρ z)) L ≤ 5040 := by omega
  refine ⟨fun i => if i = ρ p2 then b (ρ p2) + w0 else if i = ρ p then b (ρ p) - w0 else b i, fun i hi => ?_, fun i => ?_, sle⟩
  · by_cases q2 : i = ρ p2
    · subst q2
      dsimp only
      rw [if_pos rfl, setRow_eq]
      show V (o + 6 + ρ p2) 2 + nI w0 = _
      rw [b1 _ hi, nI_add]
    · dsimp only
      rw [if_neg q2, setRow_ne (by omega)]
      by_cases q1 : i = ρ p
      · subst q1
        rw [if_pos rfl, setRow_eq]
        show V (o + 6 + ρ p) 2 - nI w0 = _
        rw [b1 _ hi, nI_sub hle2]
      · rw [if_neg q1, setRow_ne (by omega)]; exact b1 i hi
  · by_cases q2 : i = ρ p2
    · have := nsm_le (f := fun z => if ρ z = ρ p2 then b (ρ p2) + w0 else if ρ z = ρ p then b (ρ p) - w0 else b (ρ z)) hp2
      rw [if_pos rfl] at this
      dsimp only
      rw [if_pos q2]; omega
    · dsimp only
      rw [if_neg q2]
      split
      · omega
      · exact b2 i
theorem gI_pollinate {p : Nat} {w : Int32} (h : gI o L e ρ m k V dd c) (hp : p < L) (hw : wP w 1 200) (hle : V (o + 6 + ρ p) 9 + w ≤ V (o + 6 + ρ p) 4) : gI o L e ρ m k (upd2 V (o + 6 + ρ p) 9 (V (o + 6 + ρ p) 9 + w)) dd (c + 1) := by
  have hρ : ∀ p, p < L → ρ p < 10 := fun p hp => (h.1.1.1.2.2 p hp).1
  have hρe := h.1.2.2.2.2.2.1 p hp
  have h10 := hρ p hp
  obtain ⟨w0, hw1, hw2, rfl⟩ := wP_N (a := 1) (b := 200) hw (by decide) (by decide)
  refine gI_rows h (fun a ha => upd2_ra (by omega)) (fun i hi j hj => ?_) (fun i hi => ?_) ?_ (fun i h1 h2 => upd2_ra (by omega))
  · by_cases q : j = 9
    · omega
    · rw [upd2_nk q]
  · by_cases q1 : i = ρ p
    · subst q1
      rw [upd2_row]
      obtain ⟨h1, ⟨p0, hp0, e0, q0, hq0, e9⟩, h4, h5, h6, w8, hw8, e8⟩ := h.2.2.2.2.1 _ hi
      have u : ∀ (x : Nat → Int32) (v : Int32) (j : Nat), j ≠ 9 → upd x 9 v j = x j := fun x v j hj => by simp [upd, hj]
      rw [e9, e0, nI_add] at hle
      have := (nI_leI (by omega) (by omega)).mp hle
      refine ⟨?_, ⟨p0, hp0, ?_, q0 + w0, this, ?_⟩, ?_, ?_, ?_, w8, by omega, ?_⟩
      · rw [u _ _ 3 (by decide)]; omega
      · rw [u _ _ 4 (by decide)]; exact e0
      · show upd _ 9 _ 9 = _
        rw [show upd (V (o + 6 + ρ p)) 9 (V (o + 6 + ρ p) 9 + nI w0) 9 = V (o + 6 + ρ p) 9 + nI w0 by simp [upd], e9, nI_add]
      · rw [u _ _ 5 (by decide)]; exact h4
      · rw [u _ _ 6 (by decide)]; exact h5
      · rw [u _ _ 7 (by decide)]; exact h6
      · rw [u _ _ 8 (by decide)]; exact e8
    · rw [upd2_ra (by omega)]; exact rB_ge (h.2.2.2.2.1 i hi) (by omega) (by omega)
  · obtain ⟨b, b1, b2, b3⟩ := h.2.2.2.2.2.1
    exact ⟨b, fun i hi => by rw [upd2_nk (by decide)]; exact b1 i hi, b2, b3⟩
end GI
