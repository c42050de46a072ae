/-! what comes to all is what comes to each; the harvest -/
theorem rsum_add (F G : Nat → Int32) (n : Nat) : rsum (fun p => F p + G p) n = rsum F n + rsum G n := by
  induction n with
  | zero => rfl
  | succ n ih => rw [rsum, rsum, rsum, ih]; ac_rfl
theorem rsum_0 (n : Nat) : rsum (fun _ => 0) n = 0 := by
  induction n with
  | zero => rfl
  | succ n ih => rw [rsum, ih]; rfl
theorem i_aw (a w d : Int32) : a + w - d = a - d + w := by
  rw [Int32.sub_eq_add_neg, Int32.sub_eq_add_neg]; ac_rfl
section CAME
variable {o L m k : Nat} {ρ : Nat → Nat} {D : mDt} {x : Int32}
theorem tkD_fin (hinj : ∀ p q, p < q → q < L → ρ p ≠ ρ q) {A : mDt} : ∀ i, i ≤ L → ∀ p, p < i → tkD o ρ A i (o + 6 + ρ p) = tkD o ρ A (p + 1) (o + 6 + ρ p) := by
  intro i
  induction i with
  | zero => intro _ p hp; omega
  | succ i ih =>
    intro hi p hp
    by_cases e : p = i
    · subst e; rfl
    · have h1 := hinj p i (by omega) (by omega)
      rw [tkD, tkS_out (by omega) (by omega)]
      exact ih (by omega) p (by omega)
theorem take_13 (pl : Int32) (x : Nat → Int32) : takeX pl x 13 = x 13 + takeX pl x 12 := by simp [takeX, upd]
theorem came_wtr (hinj : ∀ p q, p < q → q < L → ρ p ≠ ρ q) {A : mDt} {p : Nat} (hp : p < L) : wtrD o ρ L m A (o + 6 + ρ p) 13 = A (o + 6 + ρ p) 13 + tkD o ρ (wtrB o ρ L m A) (p + 1) (o + 6 + ρ p) 12 := by
  rw [wtrD, tkD_fin hinj L (Nat.le_refl _) p hp, tkD, tkS_row (by omega), take_13, tkD_out (fun q hq => by have := hinj q p hq hp; omega) (by omega), wtrB_11 (by omega) (by decide)]
theorem dayE_w {X : mDt} {i : Nat} (hi : i < 10) : (dayE o m X).1 (o + 6 + i) = X (o + 6 + i) := by
  unfold dayE
  split
  · show shortD o m X (o + 6 + i) = _
    rw [shortD, upd2_ra (by omega), setRow_ne (by omega)]
  · rfl
theorem dayE_o {X : mDt} : (dayE o m X).1 o = X o := by
  unfold dayE
  split
  · show shortD o m X o = _
    rw [shortD, upd2_ra (by omega), setRow_ne (by omega)]
  · rfl
theorem dayC_w {X : mDt} {i j : Nat} (hi : i < 10) (h8 : j ≠ 8) (h3 : j ≠ 3) (hr : ∀ x : Nat → Int32, reapX x j = x j) : (dayC o ρ L k X).1 (o + 6 + i) j = X (o + 6 + i) j := by
  unfold dayC
  split
  · show dayH o ρ L k X (o + 6 + i) j = _
    rw [dayH, upd2_ra (by omega), dsD_0 h8 h3, dayR, upd2_ra (by omega), mapD_j (fun _ x => hr x)]
  · rfl
theorem came_day (hW : cW o L ρ m k D) (hinj : ∀ p q, p < q → q < L → ρ p ≠ ρ q) {p : Nat} (hp : p < L) : (dayD o ρ L x (D, m, k)).1 (o + 6 + ρ p) 13 = D (o + 6 + ρ p) 13 + tkD o ρ (wtrB o ρ L m (dayA o x D)) (p + 1) (o + 6 + ρ p) 12 := by
  have hρ := (hW.1.2.2 p hp).1
  show (dayE o m (dayC o ρ L k (dayB o ρ L x m D)).1).1 (o + 6 + ρ p) 13 = _
  rw [dayE_w hρ, dayC_w hρ (by decide) (by decide) (fun x => by simp [reapX, upd]), dayB, mapD_j (fun _ _ => growX_j (by decide) (by decide) (by decide) (by decide)), came_wtr hinj hp, dayA_ra (by omega)]
theorem came_days (hW : cW o L ρ m k D) (hinj : ∀ p q, p < q → q < L → ρ p ≠ ρ q) : ∀ n, rsum (fun p => (daysD o ρ L x (D, m, k) n).1 (o + 6 + ρ p) 13 - D (o + 6 + ρ p) 13) L = daysS o ρ L x (D, m, k) n := by
  intro n
  induction n with
  | zero =>
    show rsum (fun p => D (o + 6 + ρ p) 13 - D (o + 6 + ρ p) 13) L = 0
    rw [rsum_c2 (F := fun _ => 0) (fun p _ => by show D (o + 6 + ρ p) 13 - D (o + 6 + ρ p) 13 = 0; exact Int32.sub_self _), rsum_0]
  | succ n ih =>
    have w1 := cW_days (x := x) (q := (D, m, k)) hW n
    have hs : daysS o ρ L x (D, m, k) (n + 1) = daysS o ρ L x (D, m, k) n + dayS o ρ L x (daysD o ρ L x (D, m, k) n) := rfl
    rw [hs, ← ih]
    have e : daysD o ρ L x (D, m, k) n = ((daysD o ρ L x (D, m, k) n).1, (daysD o ρ L x (D, m, k) n).2.1, (daysD o ρ L x (D, m, k) n).2.2) := rfl
    rw [dayS, wtrR, ← rsum_add]
    refine rsum_c2 (fun p hp => ?_)
    show (dayD o ρ L x (daysD o ρ L x (D, m, k) n)).1 (o + 6 + ρ p) 13 - _ = _
    rw [e, came_day w1 hinj hp, i_aw]
theorem dayB_7 (hW : cW o L ρ m k D) : dayB o ρ L x m D o 7 = D o 7 := by
  have hρ : ∀ p, p < L → ρ p < 10 := fun p hp => (hW.1.2.2 p hp).1
  have tk7 : ∀ (i : Nat) (A : mDt), tkD o ρ A i o 7 = A o 7 := fun i A => by
    induction i with
    | zero => rfl
    | succ i ih => rw [tkD, tkS_o (by omega) (by decide)]; exact ih
  rw [dayB, mapD_row (by omega) hρ, wtrD, tk7, wtrB, upd2_nk (by decide), gwD_11 (by decide), dayA, chDayD_ra (by omega), upd2_nk (by decide)]
theorem dayB_8 {i : Nat} : dayB o ρ L x m D (o + 6 + i) 8 = D (o + 6 + i) 8 := by
  rw [dayB, mapD_j (fun _ _ => growX_j (by decide) (by decide) (by decide) (by decide)), wtrD_j (by decide), dayA_ra (by omega)]
theorem day_nh (hW : cW o L ρ m k D) (hn : ¬ rm70 (D o 4 + 1) = 60) : (dayD o ρ L x (D, m, k)).1 o 7 = D o 7 ∧ ∀ i, i < 10 → (dayD o ρ L x (D, m, k)).1 (o + 6 + i) 8 = D (o + 6 + i) 8 := by
  have hc : (dayC o ρ L k (dayB o ρ L x m D)).1 = dayB o ρ L x m D := by
    unfold dayC
    rw [dayB_o hW, if_neg hn]
  refine ⟨?_, fun i hi => ?_⟩
  · show (dayE o m (dayC o ρ L k (dayB o ρ L x m D)).1).1 o 7 = _
    rw [dayE_o, hc, dayB_7 hW]
  · show (dayE o m (dayC o ρ L k (dayB o ρ L x m D)).1).1 (o + 6 + i) 8 = _
    rw [dayE_w hi, hc, dayB_8]
theorem day_h (hW : cW o L ρ m 0 D) (hinj : ∀ p q, p < q → q < L → ρ p ≠ ρ q) (hh : rm70 (D o 4 + 1) = 60) : (dayD o ρ L x (D, m, 0)).1 o 7 = D o 7 + rsum (fun p => (dayD o ρ L x (D, m, 0)).1 (o + 6 + ρ p) 14) L ∧ ∀ p, p < L → (dayD o ρ L x (D, m, 0)).1 (o + 6 + ρ p) 8 = D (o + 6 + ρ p) 8 + (dayD o ρ L x (D, m, 0)).1 (o + 6 + ρ p) 14 ∧ (dayD o ρ L x (D, m, 0)).1 (o + 6 + ρ p) 14 = palmReap (dayB o ρ L x m D (o + 6 + ρ p)) := by
  have hρ : ∀ p, p < L → ρ p < 10 := fun p hp => (hW.1.2.2 p hp).1
  have hc : (dayC o ρ L 0 (dayB o ρ L x m D)).1 = upd2 (dayR o ρ L (dayB o ρ L x m D)) (o + 18) 1 0 := by
    unfold dayC
    rw [dayB_o hW, if_pos hh]
    rfl
  have hrow : ∀ p, p < L → (dayD o ρ L x (D, m, 0)).1 (o + 6 + ρ p) = reapX (dayB o ρ L x m D (o + 6 + ρ p)) := fun p hp => by
    show (dayE o m (dayC o ρ L 0 (dayB o ρ L x m D)).1).1 (o + 6 + ρ p) = _
    have hlt := hρ p hp
    rw [dayE_w (hρ p hp), hc, upd2_ra (by omega), dayR, upd2_ra (by omega), map_at hinj L (Nat.le_refl _) p hp]
  have r14 : ∀ y : Nat → Int32, reapX y 14 = palmReap y := fun y => by simp [reapX, upd]
  have r8 : ∀ y : Nat → Int32, reapX y 8 = y 8 + palmReap y := fun y => by simp [reapX, upd]
  refine ⟨?_, fun p hp => ⟨?_, ?_⟩⟩
  · rw [rsum_c2 (F := fun p => mapD o ρ (fun _ => reapX) (dayB o ρ L x m D) (p + 1) (o + 6 + ρ p) 14) (fun p hp => by
      show (dayD o ρ L x (D, m, 0)).1 (o + 6 + ρ p) 14 = _
      rw [hrow p hp, map_at hinj (p + 1) (by omega) p (by omega)])]
    show (dayE o m (dayC o ρ L 0 (dayB o ρ L x m D)).1).1 o 7 = _
    rw [dayE_o, hc, upd2_ra (by omega), dayR, upd2_eq, dayB_7 hW]
  · rw [hrow p hp, r8, r14, dayB_8]
  · rw [hrow p hp, r14]
end CAME
/-- from a day to the harvest -/
theorem to_harv {o L e m dd c : Nat} {ρ : Nat → Nat} {D : mDt} {x : Int32} (h : gI o L e ρ m 0 D dd c) (hc : c ≤ 600) (hd : dd + harvN dd ≤ 2000) : (daysD o ρ L x (D, m, 0) (harvN dd)).1 o 7 = D o 7 + rsum (fun p => (daysD o ρ L x (D, m, 0) (harvN dd)).1 (o + 6 + ρ p) 14) L ∧ (∀ p, p < L → (daysD o ρ L x (D, m, 0) (harvN dd)).1 (o + 6 + ρ p) 8 = D (o + 6 + ρ p) 8 + (daysD o ρ L x (D, m, 0) (harvN dd)).1 (o + 6 + ρ p) 14) ∧ (∀ p, p < L → ∃ w, w ≤ 1980 ∧ (daysD o ρ L x (D, m, 0) (harvN dd)).1 (o + 6 + ρ p) 14 = nI w) ∧ (dd + harvN dd) % 70 = 60 := by
  have hinj := h.2.1.2.1
  have hW := h.1.1
  have k0 : ∀ n, (daysD o ρ L x (D, m, 0) n).2.2 = 0 := fun n => by
    induction n with
    | zero => rfl
    | succ n ih => exact dayD_k0 ih
  have hst : ∀ n, dd + n ≤ 2000 → gI o L e ρ (daysD o ρ L x (D, m, 0) n).2.1 0 (daysD o ρ L x (D, m, 0) n).1 (dd + n) c := fun n hn => by
    have := gI_days (x := x) h hc n hn
    rw [k0 n] at this
    exact this
  have e4 : ∀ n, dd + n ≤ 2000 → (daysD o ρ L x (D, m, 0) n).1 o 4 = nI (dd + n) := fun n hn => (hst n hn).2.1.2.2.2.2.2.2
  obtain ⟨M, hM⟩ : ∃ M, harvN dd = M + 1 := ⟨harvN dd - 1, by have := (harvN_le dd).1; omega⟩
  have hm60 : (dd + harvN dd) % 70 = 60 := by unfold harvN; split <;> omega
  have hno : ∀ i, i < M → ¬ (dd + i + 1) % 70 = 60 := fun i hi => by
    have : harvN dd = M + 1 := hM
    unfold harvN at this
    split at this <;> omega
  rw [hM] at hd hm60 ⊢
  have hq : ∀ n, daysD o ρ L x (D, m, 0) n = ((daysD o ρ L x (D, m, 0) n).1, (daysD o ρ L x (D, m, 0) n).2.1, 0) := fun n => Prod.ext rfl (Prod.ext rfl (k0 n))
  have run : ∀ n, n ≤ M → (daysD o ρ L x (D, m, 0) n).1 o 7 = D o 7 ∧ ∀ i, i < 10 → (daysD o ρ L x (D, m, 0) n).1 (o + 6 + i) 8 = D (o + 6 + i) 8 := by
    intro n
    induction n with
    | zero => intro _; exact ⟨rfl, fun _ _ => rfl⟩
    | succ n ih =>
      intro hn
      obtain ⟨i1, i2⟩ := ih (by omega)
      have g := hst n (by omega)
      have hx : ¬ rm70 ((daysD o ρ L x (D, m, 0) n).1 o 4 + 1) = 60 := by
        rw [e4 n (by omega), nI_1, rm70_nI (by omega), show (60 : Int32) = nI 60 from rfl, nI_eq (by omega) (by omega)]
        exact hno n (by omega)
      have d := day_nh (x := x) g.1.1 hx
      rw [daysD, hq n]
      exact ⟨d.1.trans i1, fun i hi => (d.2 i hi).trans (i2 i hi)⟩
  obtain ⟨r1, r2⟩ := run M (Nat.le_refl _)
  have g := hst M (by omega)
  have hx : rm70 ((daysD o ρ L x (D, m, 0) M).1 o 4 + 1) = 60 := by
    rw [e4 M (by omega), nI_1, rm70_nI (by omega), show (60 : Int32) = nI 60 from rfl, nI_eq (by omega) (by omega)]
    exact hm60
  have d := day_h (x := x) g.1.1 hinj hx
  have gB : gJ o L e ρ (daysD o ρ L x (D, m, 0) M).2.1 0 (dayB o ρ L x (daysD o ρ L x (D, m, 0) M).2.1 (daysD o ρ L x (D, m, 0) M).1) (dd + M + 1) (40000 * (c + (dd + M))) (10000 * (c + (dd + M))) := gJ_dayB g (by omega)
  rw [daysD, hq M]
  refine ⟨d.1.trans (by rw [r1]), fun p hp => (d.2 p hp).1.trans (by rw [r2 _ (hW.1.2.2 p hp).1]), fun p hp => ?_, hm60⟩
  rw [(d.2 p hp).2]
  exact palm_bd (gB.2.2.2.2.1 _ (hW.1.2.2 p hp).1)
