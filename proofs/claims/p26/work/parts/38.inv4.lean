/-! days -/
theorem dv_bd {a : Int32} {b : Nat} (hb : 20 ≤ b) (hb2 : b ≤ 4000) : -107374183 ≤ (a / nI b).toInt ∧ (a / nI b).toInt ≤ 107374183 := by
  have e : (a / nI b).toInt = a.toInt.tdiv b := by
    rw [Int32.toInt_div_of_ne_right, nI_toInt (by omega)]
    intro h
    have h1 : (nI b).toInt = (-1 : Int32).toInt := by rw [h]
    rw [nI_toInt (by omega), show (-1 : Int32).toInt = -1 from rfl] at h1
    omega
  rw [e]
  have h1 := a.le_toInt
  have h2 := a.toInt_lt
  have hn : (a.toInt.tdiv b).natAbs ≤ 107374183 := by
    rw [Int.natAbs_tdiv]
    have h3 : a.toInt.natAbs ≤ 2147483648 := by omega
    have h4 : a.toInt.natAbs / (b : Int).natAbs ≤ 2147483648 / 20 := Nat.le_trans (Nat.div_le_div_right h3) (Nat.div_le_div_left (by omega) (by omega))
    exact Nat.le_trans h4 (by decide)
  omega
theorem imin_ti (x y : Int32) : (imin x y).toInt = min x.toInt y.toInt := by
  unfold imin
  split
  · rename_i h; rw [Int32.lt_iff_toInt_lt] at h; omega
  · rename_i h; rw [Int32.lt_iff_toInt_lt] at h; omega
theorem imax_ti (x y : Int32) : (imax x y).toInt = max x.toInt y.toInt := by
  unfold imax
  split
  · rename_i h; rw [Int32.lt_iff_toInt_lt] at h; omega
  · rename_i h; rw [Int32.lt_iff_toInt_lt] at h; omega
theorem ex_nI {x : Int32} {b : Nat} (h0 : 0 ≤ x.toInt) (h1 : x.toInt ≤ b) : ∃ w, w ≤ b ∧ x = nI w := by
  have := x.toInt_lt
  exact ⟨x.toInt.toNat, by omega, Int32.toInt_inj.1 (by rw [nI_toInt (by omega)]; omega)⟩
theorem rB_moist {C T : Nat} {x : Nat → Int32} {nd : Int32} (h : rB C T x) (hn : ∃ b, 20 ≤ b ∧ b ≤ 4000 ∧ nd = nI b) : rB C T (moistX nd x) := by
  obtain ⟨b, hb1, hb2, rfl⟩ := hn
  obtain ⟨h3, h4, h5, ⟨w, hw, e6⟩, h7⟩ := h
  have hd := dv_bd (a := x 12 * 30) hb1 hb2
  have e40 : (imin 40 (x 12 * 30 / nI b)).toInt = min 40 (x 12 * 30 / nI b).toInt := imin_ti _ _
  have hw6 : (x 6).toInt = w := by rw [e6]; exact nI_toInt (by omega)
  have ea : (x 6 + imin 40 (x 12 * 30 / nI b)).toInt = w + min 40 (x 12 * 30 / nI b).toInt := by
    rw [ti_add] <;> rw [hw6, e40] <;> omega
  have eb : (imin 99 (x 6 + imin 40 (x 12 * 30 / nI b))).toInt = min 99 (w + min 40 (x 12 * 30 / nI b).toInt) := by
    rw [imin_ti, ea]; rfl
  have ec : (imin 99 (x 6 + imin 40 (x 12 * 30 / nI b)) - 6).toInt = min 99 (w + min 40 (x 12 * 30 / nI b).toInt) - 6 := by
    rw [ti_sub] <;> rw [eb, show (6 : Int32).toInt = 6 from rfl] <;> omega
  have ed : (imax 0 (imin 99 (x 6 + imin 40 (x 12 * 30 / nI b)) - 6)).toInt = max 0 (min 99 (w + min 40 (x 12 * 30 / nI b).toInt) - 6) := by
    rw [imax_ti, ec]; rfl
  exact ⟨h3, h4, h5, ex_nI (by show 0 ≤ (imax 0 (imin 99 (x 6 + imin 40 (x 12 * 30 / nI b)) - 6)).toInt; omega) (by show (imax 0 (imin 99 (x 6 + imin 40 (x 12 * 30 / nI b)) - 6)).toInt ≤ _; omega), h7⟩
theorem rB_7 {C T : Nat} {x : Nat → Int32} (h : rB C T x) : rB C T (upd x 7 (imin 99 (x 7 + 1))) := by
  obtain ⟨h3, h4, h5, h6, ⟨w, hw, e7⟩, h8⟩ := h
  have ea : (x 7 + 1).toInt = w + 1 := by
    rw [e7, nI_1, nI_toInt (by omega)]; omega
  have eb : (imin 99 (x 7 + 1)).toInt = min 99 ((w : Int) + 1) := by rw [imin_ti, ea]; rfl
  exact ⟨h3, h4, h5, h6, ex_nI (by show 0 ≤ (imin 99 (x 7 + 1)).toInt; omega) (by show (imin 99 (x 7 + 1)).toInt ≤ _; omega), h8⟩
theorem rB_wither {C T : Nat} {x : Nat → Int32} {z : Int32} (h : rB C T x) (h1 : 1 ≤ x 4 * 20) : rB C T (witherX z x) := by
  unfold witherX
  split
  · exact h
  · split
    · exact h
    · obtain ⟨h3, ⟨p, hp, e4, q, hq, e9⟩, h5⟩ := h
      have hp1 : 1 ≤ p := by
        rcases Nat.eq_zero_or_pos p with t | t
        · subst t; rw [e4] at h1; exact absurd h1 (by decide)
        · exact t
      have en : x 4 - (x 4 / 10 + 1) = nI (p - (p / 10 + 1)) := by rw [e4]; exact pal_less hp1 (by omega)
      have e9' : (imin (x 9) (x 4 - (x 4 / 10 + 1))).toInt = min (q : Int) (p - (p / 10 + 1) : Nat) := by
        rw [imin_ti, en, e9, nI_toInt (by omega), nI_toInt (by omega)]
      obtain ⟨w, hw, ew⟩ := ex_nI (b := p - (p / 10 + 1)) (show 0 ≤ (imin (x 9) (x 4 - (x 4 / 10 + 1))).toInt by omega) (by omega)
      exact ⟨h3, ⟨p - (p / 10 + 1), by omega, en, w, hw, ew⟩, h5⟩
theorem rB_grow {C T : Nat} {x : Nat → Int32} {z : Int32} (h : rB C T x) : rB C T (growX z x) := by
  unfold growX
  split
  · rename_i h1
    have hn : ∃ b, 20 ≤ b ∧ b ≤ 4000 ∧ x 4 * 20 = nI b := by
      obtain ⟨h3, ⟨p, hp, e4, q, hq, e9⟩, h5⟩ := h
      have hp1 : 1 ≤ p := by
        rcases Nat.eq_zero_or_pos p with t | t
        · subst t; rw [e4] at h1; exact absurd h1 (by decide)
        · exact t
      exact ⟨p * 20, by omega, by omega, by rw [e4, show (20 : Int32) = nI 20 from rfl, nI_mul]⟩
    have hm := rB_moist h hn
    have h4 : moistX (x 4 * 20) x 4 = x 4 := rfl
    split
    · exact rB_wither hm (by rw [h4]; exact h1)
    · exact rB_wither (rB_7 hm) (by show 1 ≤ moistX (x 4 * 20) x 4 * 20; rw [h4]; exact h1)
  · exact h
theorem palm_bd {C T : Nat} {x : Nat → Int32} (h : rB C T x) : ∃ w, w ≤ 1980 ∧ palmReap x = nI w := by
  obtain ⟨-, ⟨p, hp, -, q, hq, e9⟩, -, ⟨w6, h6, e6⟩, ⟨w7, h7, e7⟩, -⟩ := h
  have hb : q * w6 * (100 - w7) ≤ 1980000 := by
    have h1 : q * w6 ≤ 200 * 99 := Nat.mul_le_mul (by omega) h6
    have h2 : q * w6 * (100 - w7) ≤ 200 * 99 * 100 := Nat.mul_le_mul h1 (by omega)
    omega
  refine ⟨q * w6 * (100 - w7) / 1000, by omega, ?_⟩
  rw [palmReap, e9, e6, e7, show (100 : Int32) = nI 100 from rfl, nI_sub (by omega), nI_mul, nI_mul, show (1000 : Int32) = nI 1000 from rfl, nI_div (by omega) (by omega)]
theorem rB_reap {C T : Nat} {x : Nat → Int32} (h : rB C T x) : rB C (T + 1980) (reapX x) := by
  obtain ⟨z, hz, ez⟩ := palm_bd h
  obtain ⟨h3, ⟨p, hp, e4, q, hq, e9⟩, h5, h6, h7, w, hw, e8⟩ := h
  exact ⟨h3, ⟨p, hp, e4, 0, by omega, rfl⟩, h5, h6, h7, w + z, by omega, by show x 8 + palmReap x = _; rw [e8, ez, nI_add]⟩
section GI4
variable {o L e m k dd c C T : Nat} {ρ : Nat → Nat} {V V' : mDt}
theorem map_rB {X : (Nat → Int32) → Nat → Int32} {T' : Nat} (hinj : ∀ p q, p < q → q < L → ρ p ≠ ρ q) (hX : ∀ x, rB C T x → rB C T' (X x)) (hT : T ≤ T') (h : ∀ i, i < 10 → rB C T (V (o + 6 + i))) (hρ : ∀ p, p < L → ρ p < 10) : ∀ i, i < 10 → rB C T' (mapD o ρ (fun _ => X) V L (o + 6 + i)) := fun i hi => by
  by_cases q : ∃ p, p < L ∧ ρ p = i
  · obtain ⟨p, hp, rfl⟩ := q
    rw [map_at hinj L (Nat.le_refl _) p hp]
    exact hX _ (h _ hi)
  · rw [mapD_other (fun p hp z => q ⟨p, hp, by omega⟩)]
    exact rB_ge (h i hi) (Nat.le_refl _) hT
theorem row_u8 {a0 w T' : Nat} {v : Int32} (h : ∀ i, i < 10 → rB C T (V (o + 6 + i))) (hv : v = nI w) (hw : w ≤ T') (hT : T ≤ T') : ∀ i, i < 10 → rB C T' (upd2 V (o + 6 + a0) 8 v (o + 6 + i)) := fun i hi => by
  by_cases q : i = a0
  · subst q; rw [upd2_row, hv]; exact rB_8 (h i hi) hw
  · rw [upd2_ra (by omega)]; exact rB_ge (h i hi) (Nat.le_refl _) hT
theorem row_u3 {a0 C' : Nat} {v : Int32} (h : ∀ i, i < 10 → rB C T (V (o + 6 + i))) (hv : -(C' : Int) ≤ v.toInt ∧ v.toInt ≤ C') (hC : C ≤ C') : ∀ i, i < 10 → rB C' T (upd2 V (o + 6 + a0) 3 v (o + 6 + i)) := fun i hi => by
  by_cases q : i = a0
  · subst q; rw [upd2_row]; exact rB_3 (h i hi) hv
  · rw [upd2_ra (by omega)]; exact rB_ge (h i hi) hC (Nat.le_refl _)
theorem row_dsS {a b w : Nat} (ha : a < 10) (hb : b < 10) (hw : w ≤ 999) (hC : C ≤ 1000000000) (hT : T ≤ 1000000000) (h : ∀ i, i < 10 → rB C T (V (o + 6 + i))) : ∀ i, i < 10 → rB (C + 3996) (T + 999) (dsS o (o + 6 + a) (o + 6 + b) (nI w) V (o + 6 + i)) := by
  obtain ⟨-, -, -, -, -, w8, h8, e8⟩ := h a ha
  have et : imin (nI w) (V (o + 6 + a) 8) = nI (min w w8) := by
    rw [e8]
    apply Int32.toInt_inj.1
    rw [imin_ti, nI_toInt (by omega), nI_toInt (by omega), nI_toInt (by omega)]; omega
  have hx : ∀ X : Int32, X = nI (w - min w w8) → -(1998 : Int) ≤ (2 * X).toInt ∧ (2 * X).toInt ≤ 1998 := fun X hX => by
    rw [hX, show (2 : Int32) = nI 2 from rfl, nI_mul, nI_toInt (by omega)]; omega
  have eu : nI w - nI (min w w8) = nI (w - min w w8) := nI_sub (by omega)
  have hu := hx _ eu
  unfold dsS
  rw [et]
  have r1 := row_u8 (a0 := a) (v := V (o + 6 + a) 8 - nI (min w w8)) (T' := T) h (w := w8 - min w w8) (by rw [e8, nI_sub (by omega)]) (by omega) (Nat.le_refl _)
  generalize upd2 V (o + 6 + a) 8 (V (o + 6 + a) 8 - nI (min w w8)) = V1 at r1 ⊢
  obtain ⟨-, -, -, -, -, w8', h8', e8'⟩ := r1 b hb
  have r2 := row_u8 (a0 := b) (v := V1 (o + 6 + b) 8 + nI (min w w8)) (T' := T + 999) r1 (w := w8' + min w w8) (by rw [e8', nI_add]) (by omega) (by omega)
  generalize upd2 V1 (o + 6 + b) 8 (V1 (o + 6 + b) 8 + nI (min w w8)) = V2 at r2 ⊢
  have r3 := row_u3 (a0 := a) (v := V2 (o + 6 + a) 3 - 2 * (nI w - nI (min w w8))) r2 (coin_sub (c := 1998) (r2 a ha).1 hu (by omega)) (by omega)
  generalize upd2 V2 (o + 6 + a) 3 (V2 (o + 6 + a) 3 - 2 * (nI w - nI (min w w8))) = V3 at r3 ⊢
  have r4 := row_u3 (a0 := b) (v := V3 (o + 6 + b) 3 + 2 * (nI w - nI (min w w8))) r3 (coin_add (c := 1998) (r3 b hb).1 hu (by omega)) (by omega)
  exact r4
theorem row_dsD {f : Nat → Int32} (hC : C ≤ 900000000) (hT : T ≤ 900000000) (hk : k ≤ 8) (hd : dOk f k) (hf : ∀ i, i < k → ∃ a, a ≤ 999 ∧ f (i * 4 + 2) = nI a) (h : ∀ i, i < 10 → rB C T (V (o + 6 + i))) : ∀ t, t ≤ k → ∀ i, i < 10 → rB (C + 3996 * t) (T + 999 * t) (dsD o f V t (o + 6 + i)) := by
  intro t
  induction t with
  | zero => intro _; exact h
  | succ t ih =>
    intro ht
    obtain ⟨a, ha, ea⟩ := hf t (by omega)
    have h1 := (hd.2 t (by omega)).1.1
    have h2 := (hd.2 t (by omega)).2.1
    rw [dsD, ea]
    have := row_dsS h1 h2 ha (by omega) (by omega) (ih (by omega))
    intro i hi
    exact rB_ge (this i hi) (by omega) (by omega)
def gJ (o L e : Nat) (ρ : Nat → Nat) (m k : Nat) (V : mDt) (dd C T : Nat) : Prop := cI o L e ρ m k V ∧ gX o L ρ m k V dd ∧ dd ≤ 2000 ∧ (∀ i, e ≤ i → i < 10 → ∀ j, 1 ≤ j → j < 15 → V (o + 6 + i) j = 0) ∧ (∀ i, i < 10 → rB C T (V (o + 6 + i))) ∧ bsum o ρ L V ∧ (∀ i, i < m → ∃ a, a ≤ 5040 ∧ V (o + 17) (i * 4 + 2) = nI a) ∧ (∀ i, i < k → (∃ a, a ≤ 999 ∧ V (o + 19) (i * 4 + 2) = nI a) ∧ toN (V (o + 19) (i * 4 + 0)) < e ∧ toN (V (o + 19) (i * 4 + 1)) < e) ∧ ∃ l, l ≤ 90 ∧ V (o + 1) 1 = nI l
theorem bsum_cg (h : bsum o ρ L V) (e : ∀ i, i < 10 → V' (o + 6 + i) 2 = V (o + 6 + i) 2) : bsum o ρ L V' := by
  obtain ⟨b, b1, b2, b3⟩ := h
  exact ⟨b, fun i hi => by rw [e i hi]; exact b1 i hi, b2, b3⟩
theorem cI_row {m' k' : Nat} (h : cI o L e ρ m' k' V) (hW : cW o L ρ m k V') (h2 : V' (o + 2) 3 = V (o + 2) 3) (h1 : ∀ i, i < 10 → V' (o + 6 + i) 1 = V (o + 6 + i) 1) (h5 : V' (o + 5) 1 = V (o + 5) 1) : cI o L e ρ m k V' := by
  obtain ⟨-, i2, i3, i4, i5, i6, i7, i8⟩ := h
  exact ⟨hW, by rw [h2]; exact i2, i3, i4, i5, i6, fun i hi => by rw [h1 i hi]; exact i7 i hi, by rw [h5]; exact i8⟩
theorem chDayD_1 {cc : Nat} {x z : Int32} : chDayD cc x z V cc 1 = V cc 1 := by
  unfold chDayD
  split
  · rw [upd2_nk (by decide)]
  · rw [upd2_nk (by decide), upd2_nk (by decide)]
theorem gJ_dayB {x : Int32} (h : gJ o L e ρ m k V dd C T) (hd : dd + 1 ≤ 2000) : gJ o L e ρ m k (dayB o ρ L x m V) (dd + 1) C T := by
  obtain ⟨hI, hX, h3, h4, h5, h6, h7, h8, h9⟩ := h
  have hW := hI.1
  have hXB := gX_dayB (x := x) hX
  obtain ⟨-, hinj, hfl, hto, hcy, hpa, hdd⟩ := hX
  have hρ : ∀ p, p < L → ρ p < 10 := fun p hp => (hW.1.2.2 p hp).1
  have hWA := cW_dayA (x := x) hW
  have er : ∀ a, o + 1 < a → (a < o + 6 ∨ o + 16 ≤ a) → dayB o ρ L x m V a = V a := fun a h1 h2 => by rw [dayB, mapD_row h2 hρ, wtrD_row ⟨by omega, h2⟩ hρ hWA.2.2.2.1, dayA_ra h1]
  have e1 : dayB o ρ L x m V (o + 1) 1 = V (o + 1) 1 := by
    rw [dayB, mapD_row (by omega) hρ, wtrD_row (by omega) hρ hWA.2.2.2.1, dayA, chDayD_1, upd2_na (by omega)]
  have ej : ∀ j, j < 11 → j ≠ 4 → j ≠ 6 → j ≠ 7 → j ≠ 9 → ∀ i, dayB o ρ L x m V (o + 6 + i) j = V (o + 6 + i) j := fun j j1 j2 j3 j4 j5 i => by
    rw [dayB, mapD_j (fun _ _ => growX_j j2 j3 j4 j5), wtrD_j j1, dayA_ra (by omega)]
  refine ⟨cI_row hI hXB.1 (by rw [er _ (by omega) (by omega)]) (fun i hi => ej 1 (by decide) (by decide) (by decide) (by decide) (by decide) i) (by rw [er _ (by omega) (by omega)]), hXB, hd, fun i i1 i2 j j1 j2 => ?_, fun i hi => ?_, bsum_cg h6 (fun i hi => ej 2 (by decide) (by decide) (by decide) (by decide) (by decide) i), by rw [er _ (by omega) (by omega)]; exact h7, by rw [er _ (by omega) (by omega)]; exact h8, by rw [e1]; exact h9⟩
  · have hn : ∀ p, p < L → o + 6 + i ≠ o + 6 + ρ p := fun p hp => by have := hI.2.2.2.2.2.1 p hp; omega
    rw [dayB, mapD_other hn]
    by_cases q : j = 11
    · subst q
      exact wtr_11 hinj (fun i hi => by rw [dayA_ra (by omega)]; exact hfl i hi) (fun i hi => by rw [dayA_ra (by omega)]; exact hto i hi) i2
    · rw [wtrD, tkD_out hn (by omega), wtrB_11 (by omega) q, dayA_ra (by omega)]
      exact h4 i i1 i2 j j1 j2
  · rw [dayB]
    exact map_rB hinj (fun _ hx => rB_grow hx) (Nat.le_refl _) (fun i hi => rB_eq (h5 i hi) (fun j _ hj => by rw [wtrD_j (by omega), dayA_ra (by omega)])) hρ i hi
theorem gJ_dayH (h : gJ o L e ρ m k V dd C T) (hC : C ≤ 800000000) (hT : T ≤ 800000000) : gJ o L e ρ m 0 (dayH o ρ L k V) dd (C + 32000) (T + 10000) := by
  obtain ⟨hI, hX, h3, h4, h5, h6, h7, h8, h9⟩ := h
  have hW := hI.1
  have hXH := gX_dayH hX
  obtain ⟨-, hinj, hfl, hto, hcy, hpa, hdd⟩ := hX
  have hρ : ∀ p, p < L → ρ p < 10 := fun p hp => (hW.1.2.2 p hp).1
  have hR := cW_dayR hW
  have hk8 := hW.2.2.2.2.2.1
  have vr : ∀ a, a ≠ o → a ≠ o + 18 → (a < o + 6 ∨ o + 16 ≤ a) → dayH o ρ L k V a = V a := fun a h1 h2 h3 => by
    rw [dayH, upd2_ra h2, dsD_row (m := k) h3 hR.2.2.2.2.2 (Nat.le_refl _), dayR, upd2_ra h1, mapD_row h3 hρ]
  have vw : ∀ t j, t < 10 → j ≠ 8 → j ≠ 3 → (∀ x : Nat → Int32, reapX x j = x j) → dayH o ρ L k V (o + 6 + t) j = V (o + 6 + t) j := fun t j ht h1 h2 h3 => by
    rw [dayH, upd2_ra (by omega), dsD_0 h1 h2, dayR, upd2_ra (by omega), mapD_j (fun _ x => h3 x)]
  have e19 : dayR o ρ L V (o + 19) = V (o + 19) := by rw [dayR, upd2_ra (by omega), mapD_row (by omega) hρ]
  have hdk : dOk (V (o + 19)) k := hW.2.2.2.2.2
  refine ⟨cI_row hI hXH.1 (by rw [vr _ (by omega) (by omega) (by omega)]) (fun i hi => vw i 1 hi (by decide) (by decide) (fun _ => rfl)) (by rw [vr _ (by omega) (by omega) (by omega)]), hXH, h3, fun i i1 i2 j j1 j2 => ?_, fun i hi => ?_, bsum_cg h6 (fun i hi => vw i 2 hi (by decide) (by decide) (fun _ => rfl)), by rw [vr _ (by omega) (by omega) (by omega)]; exact h7, fun i hi => absurd hi (by omega), by rw [vr _ (by omega) (by omega) (by omega)]; exact h9⟩
  · have hn : ∀ p, p < L → o + 6 + i ≠ o + 6 + ρ p := fun p hp => by have := hI.2.2.2.2.2.1 p hp; omega
    have hout : ∀ t, t ≤ k → dsD o (V (o + 19)) (dayR o ρ L V) t (o + 6 + i) = dayR o ρ L V (o + 6 + i) := by
      intro t
      induction t with
      | zero => intro _; rfl
      | succ t ih =>
        intro ht
        obtain ⟨-, q1, q2⟩ := h8 t (by omega)
        rw [dsD, dsS, upd2_ra (by omega), upd2_ra (by omega), upd2_ra (by omega), upd2_ra (by omega)]
        exact ih (by omega)
    rw [dayH, upd2_ra (by omega), e19, hout k (Nat.le_refl _), dayR, upd2_ra (by omega), mapD_other hn]
    exact h4 i i1 i2 j j1 j2
  · rw [dayH, upd2_ra (by omega), e19]
    have hr : ∀ i, i < 10 → rB C (T + 1980) (dayR o ρ L V (o + 6 + i)) := fun i hi => by
      rw [dayR, upd2_ra (by omega)]
      exact map_rB hinj (fun _ hx => rB_reap hx) (by omega) h5 hρ i hi
    exact rB_ge (row_dsD (by omega) (by omega) hk8 hdk (fun i hi => (h8 i hi).1) hr k (Nat.le_refl _) i hi) (by omega) (by omega)
theorem gJ_short (h : gJ o L e ρ m k V dd C T) : gJ o L e ρ (ageG (V (o + 17)) m).2 k (shortD o m V) dd C T := by
  obtain ⟨hI, hX, h3, h4, h5, h6, h7, h8, h9⟩ := h
  have v1 : ∀ a, a ≠ o + 16 → a ≠ o + 17 → shortD o m V a = V a := fun a h1 h2 => by rw [shortD, upd2_ra h1, setRow_ne h2]
  have v17 : shortD o m V (o + 17) = (ageG (V (o + 17)) m).1 := by rw [shortD, upd2_ra (by omega), setRow_eq]
  have hXS := gX_short hX
  have hk := ageG_ok (V (o + 17)) m
  have hI' := cI_row (V' := shortD o m V) hI hXS.1 (by rw [v1 _ (by omega) (by omega)]) (fun i hi => by rw [v1 _ (by omega) (by omega)]) (by rw [v1 _ (by omega) (by omega)])
  refine ⟨hI', hXS, h3, fun i i1 i2 => by rw [v1 _ (by omega) (by omega)]; exact h4 i i1 i2, fun i hi => by rw [v1 _ (by omega) (by omega)]; exact h5 i hi, bsum_cg h6 (fun i hi => by rw [v1 _ (by omega) (by omega)]), fun i hi => ?_, by rw [v1 _ (by omega) (by omega)]; exact h8, by rw [v1 _ (by omega) (by omega)]; exact h9⟩
  rw [v17]
  have hm : drow (ageG (V (o + 17)) m).1 i ∈ dls (ageG (V (o + 17)) m).1 (ageG (V (o + 17)) m).2 := List.mem_map.mpr ⟨i, List.mem_range.mpr hi, rfl⟩
  rw [hk.2.1] at hm
  obtain ⟨r, hr, e⟩ := List.mem_filterMap.mp hm
  obtain ⟨j, hj, rfl⟩ := List.mem_map.mp hr
  unfold ageR at e
  split at e
  · cases e
  · have e2 := Option.some.inj e
    have e3 : (ageG (V (o + 17)) m).1 (i * 4 + 2) = V (o + 17) (j * 4 + 2) := (congrArg (fun q => q.2.2.1) e2).symm
    rw [e3]; exact h7 j (List.mem_range.mp hj)
theorem gJ_day {x : Int32} (h : gJ o L e ρ m k V dd C T) (hC : C ≤ 800000000) (hT : T ≤ 800000000) (hd : dd + 1 ≤ 2000) : gJ o L e ρ (dayD o ρ L x (V, m, k)).2.1 (dayD o ρ L x (V, m, k)).2.2 (dayD o ρ L x (V, m, k)).1 (dd + 1) (C + 40000) (T + 10000) := by
  have up : ∀ {m k C1 T1 : Nat} {V : mDt}, gJ o L e ρ m k V (dd + 1) C1 T1 → C1 ≤ C + 40000 → T1 ≤ T + 10000 → gJ o L e ρ m k V (dd + 1) (C + 40000) (T + 10000) := by
    rintro m k C1 T1 V ⟨h1, h2, h3, h4, h5, h6⟩ b1 b2
    exact ⟨h1, h2, h3, h4, fun i hi => rB_ge (h5 i hi) b1 b2, h6⟩
  have hW := h.1.1
  have hB := gJ_dayB (x := x) h hd
  by_cases c1 : rm70 (V o 4 + 1) = 60
  · by_cases c2 : rm7 (V o 4 + 1) = 0
    · rw [dayD_11 hW c1 c2]; exact up (gJ_short (gJ_dayH hB hC hT)) (by omega) (by omega)
    · rw [dayD_10 hW c1 c2]; exact up (gJ_dayH hB hC hT) (by omega) (by omega)
  · by_cases c2 : rm7 (V o 4 + 1) = 0
    · rw [dayD_01 hW c1 c2]; exact up (gJ_short hB) (by omega) (by omega)
    · rw [dayD_00 hW c1 c2]; exact up hB (by omega) (by omega)
theorem gI_days {x : Int32} {c : Nat} (h : gI o L e ρ m k V dd c) (hc : c ≤ 600) : ∀ i, dd + i ≤ 2000 → gI o L e ρ (daysD o ρ L x (V, m, k) i).2.1 (daysD o ρ L x (V, m, k) i).2.2 (daysD o ρ L x (V, m, k) i).1 (dd + i) c := by
  intro i
  induction i with
  | zero => intro _; exact h
  | succ i ih =>
    intro hd
    have h1 : gJ o L e ρ (daysD o ρ L x (V, m, k) i).2.1 (daysD o ρ L x (V, m, k) i).2.2 (daysD o ρ L x (V, m, k) i).1 (dd + i) (40000 * (c + (dd + i))) (10000 * (c + (dd + i))) := ih (by omega)
    have h2 := gJ_day (x := x) h1 (by omega) (by omega) (by omega)
    rw [show 40000 * (c + (dd + i)) + 40000 = 40000 * (c + (dd + (i + 1))) by omega, show 10000 * (c + (dd + i)) + 10000 = 10000 * (c + (dd + (i + 1))) by omega] at h2
    exact h2
theorem gI_pass {x w : Int32} {c d : Nat} (h : gI o L e ρ m k V dd c) (hc : c ≤ 600) (hd : d ≤ 70) (hw : w = nI d) (hle : V o 4 + w ≤ 2000) : gI o L e ρ (daysD o ρ L x (V, m, k) d).2.1 (daysD o ρ L x (V, m, k) d).2.2 (daysD o ρ L x (V, m, k) d).1 (dd + d) (c + 1) := by
  have hdd := h.2.2.1
  have e4 : V o 4 = nI dd := h.2.1.2.2.2.2.2.2
  rw [e4, hw, nI_add] at hle
  have : dd + d ≤ 2000 := (nI_leI (a := dd + d) (b := 2000) (by omega) (by omega)).1 hle
  exact gI_c (gI_days h hc d this) (by omega)
end GI4
