def clm (j : Nat) : Nat := [2, 3, 4, 5, 6, 7, 8, 9, 10, 12, 13, 1].getD j 0
/-- t stands in the row -/
def livR (L : Nat) (ρ : Nat → Nat) (t : Nat) : Prop := ∃ p, p < L ∧ ρ p = t
theorem tkS_row {o a : Nat} (ha : o < a) {pl : Int32} {D : mDt} : tkS o a pl D a = takeX pl (D a) := by
  rw [tkS, upd2_ra (by omega), tkM, setRow_eq, upd2_ra (by omega)]
theorem tkS_out {o a b : Nat} {pl : Int32} {D : mDt} (h : b ≠ o) (h2 : b ≠ a) : tkS o a pl D b = D b := by
  rw [tkS, upd2_ra h, tkM, setRow_ne h2, upd2_ra h]
theorem tkS_o {o a j : Nat} (ha : o < a) {pl : Int32} {D : mDt} (h : j ≠ 6) : tkS o a pl D o j = D o j := by
  rw [tkS, upd2_nk h, tkM, setRow_ne (by omega), upd2_nk h]
theorem tkD_out {o : Nat} {ρ : Nat → Nat} {D : mDt} {k a : Nat} (h : ∀ p, p < k → a ≠ o + 6 + ρ p) (h0 : a ≠ o) : tkD o ρ D k a = D a := by
  induction k with
  | zero => rfl
  | succ k ih =>
    rw [tkD, tkS_out h0 (h k (Nat.lt_succ_self k))]
    exact ih (fun p hp => h p (Nat.lt_succ_of_lt hp))
/-- what a day needs of the class's block -/
def gX (o L : Nat) (ρ : Nat → Nat) (m k : Nat) (V : mDt) (dd : Nat) : Prop := cW o L ρ m k V ∧ (∀ p q, p < q → q < L → ρ p ≠ ρ q) ∧ (∀ i, i < 10 → V (o + 6 + i) 11 = 0) ∧ (∀ i, i < m → livR L ρ (toN (V (o + 17) (i * 4 + 1)))) ∧ (∀ i, i < m → ∃ c, 1 ≤ c ∧ c < 2 ^ 31 ∧ V (o + 17) (i * 4 + 3) = nI c) ∧ (∀ i, i < 10 → ∃ p, p ≤ 100000 ∧ V (o + 6 + i) 4 = nI p) ∧ V o 4 = nI dd
theorem wtrD_j {o L m t j : Nat} {ρ : Nat → Nat} {V : mDt} (hj : j < 11) : wtrD o ρ L m V (o + 6 + t) j = V (o + 6 + t) j := by
  rw [wtrD, tkD_0 hj (by omega), wtrB_11 (by omega) (by omega)]
theorem dayB_o {o L m : Nat} {ρ : Nat → Nat} {V : mDt} {x : Int32} {k : Nat} (hW : cW o L ρ m k V) : dayB o ρ L x m V o 4 = V o 4 + 1 := by
  have hρ : ∀ p, p < L → ρ p < 10 := fun p hp => (hW.1.2.2 p hp).1
  have tk4 : ∀ (i : Nat) (D : mDt), tkD o ρ D i o 4 = D o 4 := fun i D => by
    induction i with
    | zero => rfl
    | succ i ih => rw [tkD, tkS_o (by omega) (by decide)]; exact ih
  rw [dayB, mapD_row (by omega) hρ, wtrD, tk4, wtrB, upd2_nk (by decide), gwD_11 (by decide), dayA, chDayD_ra (by omega), upd2_eq]

theorem dayD_00 {o L m k : Nat} {ρ : Nat → Nat} {V : mDt} {x : Int32} (hW : cW o L ρ m k V) (h1 : ¬ rm70 (V o 4 + 1) = 60) (h2 : ¬ rm7 (V o 4 + 1) = 0) : dayD o ρ L x (V, m, k) = (dayB o ρ L x m V, m, k) := by
  unfold dayD dayC dayE
  simp only [dayB_o hW]
  rw [if_neg h1]; simp only [dayB_o hW]; rw [if_neg h2]
theorem dayD_01 {o L m k : Nat} {ρ : Nat → Nat} {V : mDt} {x : Int32} (hW : cW o L ρ m k V) (h1 : ¬ rm70 (V o 4 + 1) = 60) (h2 : rm7 (V o 4 + 1) = 0) : dayD o ρ L x (V, m, k) = (shortD o m (dayB o ρ L x m V), (ageG (dayB o ρ L x m V (o + 17)) m).2, k) := by
  unfold dayD dayC dayE
  simp only [dayB_o hW]
  rw [if_neg h1]; simp only [dayB_o hW]; rw [if_pos h2]
theorem dayH_4 {o L m k : Nat} {ρ : Nat → Nat} {V : mDt} {x : Int32} (hW : cW o L ρ m k V) : dayH o ρ L k (dayB o ρ L x m V) o 4 = V o 4 + 1 := by
  have hWB := cW_dayB (x := x) hW
  rw [dayH, upd2_ra (by omega), dsD_row (m := k) (by omega) (cW_dayR hWB).2.2.2.2.2 (Nat.le_refl _), dayR, upd2_nk (by decide), mapD_row (by omega) (fun p hp => (hW.1.2.2 p hp).1), dayB_o hW]
theorem dayD_10 {o L m k : Nat} {ρ : Nat → Nat} {V : mDt} {x : Int32} (hW : cW o L ρ m k V) (h1 : rm70 (V o 4 + 1) = 60) (h2 : ¬ rm7 (V o 4 + 1) = 0) : dayD o ρ L x (V, m, k) = (dayH o ρ L k (dayB o ρ L x m V), m, 0) := by
  unfold dayD dayC dayE
  simp only [dayB_o hW]
  rw [if_pos h1]; simp only [dayH_4 hW]; rw [if_neg h2]
theorem dayD_11 {o L m k : Nat} {ρ : Nat → Nat} {V : mDt} {x : Int32} (hW : cW o L ρ m k V) (h1 : rm70 (V o 4 + 1) = 60) (h2 : rm7 (V o 4 + 1) = 0) : dayD o ρ L x (V, m, k) = (shortD o m (dayH o ρ L k (dayB o ρ L x m V)), (ageG (dayH o ρ L k (dayB o ρ L x m V) (o + 17)) m).2, 0) := by
  unfold dayD dayC dayE
  simp only [dayB_o hW]
  rw [if_pos h1]; simp only [dayH_4 hW]; rw [if_pos h2]

theorem lentD_nl {o L m : Nat} {ρ : Nat → Nat} {f : Nat → Int32} {y en fb fl : Int32} {D : mDt} (hto : ∀ i, i < m → livR L ρ (toN (f (i * 4 + 1)))) {t : Nat} (ht : ¬ livR L ρ t) : ∀ i, i ≤ m → lentD o f y en fb fl D i (o + 6 + t) 11 = D (o + 6 + t) 11 := by
  intro i
  induction i with
  | zero => intro _; rfl
  | succ i ih =>
    intro hi
    rw [lentD]
    split
    · have hne : t ≠ toN (f (i * 4 + 1)) := fun e => ht (by rw [e]; exact hto i (by omega))
      rw [upd2_na (by omega)]; exact ih (by omega)
    · exact ih (by omega)
theorem gwD_nl {o L m : Nat} {ρ : Nat → Nat} {f F : Nat → Int32} {fb fl : Int32} {D : mDt} (hto : ∀ i, i < m → livR L ρ (toN (f (i * 4 + 1)))) {t : Nat} (ht : ¬ livR L ρ t) : ∀ i, i ≤ L → gwD o ρ f m fb fl F D i (o + 6 + t) 11 = D (o + 6 + t) 11 := by
  intro i
  induction i with
  | zero => intro _; rfl
  | succ i ih =>
    intro hi
    have hne : t ≠ ρ i := fun e => ht ⟨i, by omega, e.symm⟩
    rw [gwD, gwS, upd2_na (by omega), lentD_nl hto ht m (Nat.le_refl _)]
    exact ih (by omega)
theorem tk_11 {o L : Nat} {ρ : Nat → Nat} (hinj : ∀ p q, p < q → q < L → ρ p ≠ ρ q) {D : mDt} : ∀ i, i ≤ L → ∀ p, p < i → tkD o ρ D i (o + 6 + ρ p) 11 = 0 := by
  intro i
  induction i with
  | zero => intro _ p hp; omega
  | succ i ih =>
    intro hi p hp
    rw [tkD]
    by_cases e : p = i
    · subst e; rw [tkS_row (by omega)]; simp [takeX, upd]
    · have := hinj p i (by omega) (by omega)
      rw [tkS_out (by omega) (by omega)]; exact ih (by omega) p (by omega)
theorem wtr_11 {o L m : Nat} {ρ : Nat → Nat} {V : mDt} (hinj : ∀ p q, p < q → q < L → ρ p ≠ ρ q) (hfl : ∀ i, i < 10 → V (o + 6 + i) 11 = 0) (hto : ∀ i, i < m → livR L ρ (toN (V (o + 17) (i * 4 + 1)))) {t : Nat} (ht : t < 10) : wtrD o ρ L m V (o + 6 + t) 11 = 0 := by
  rw [wtrD]
  by_cases e : livR L ρ t
  · obtain ⟨p, hp, rfl⟩ := e
    exact tk_11 hinj L (Nat.le_refl _) p hp
  · rw [tkD_out (fun p hp q => e ⟨p, hp, by omega⟩) (by omega), wtrB, upd2_ra (by omega), gwD_nl hto e L (Nat.le_refl _)]
    exact hfl t ht
theorem pal_less {p : Nat} (h1 : 1 ≤ p) (hp : p ≤ 100000) : nI p - (nI p / 10 + 1) = nI (p - (p / 10 + 1)) := by
  rw [show (10 : Int32) = nI 10 from rfl, nI_div (by omega) (by omega), nI_1, nI_sub (by omega)]
theorem grow_4 {z : Int32} {x : Nat → Int32} (h : ∃ p, p ≤ 100000 ∧ x 4 = nI p) : ∃ p, p ≤ 100000 ∧ growX z x 4 = nI p := by
  obtain ⟨p, hp, e⟩ := h
  have hw : ∀ y : Nat → Int32, y 4 = nI p → 1 ≤ p → ∃ p, p ≤ 100000 ∧ witherX z y 4 = nI p := fun y hy h1 => by
    unfold witherX
    split
    · exact ⟨p, hp, hy⟩
    · split
      · exact ⟨p, hp, hy⟩
      · refine ⟨p - (p / 10 + 1), by omega, ?_⟩
        show y 4 - (y 4 / 10 + 1) = _
        rw [hy]; exact pal_less h1 hp
  unfold growX
  split
  · rename_i h1
    have hp1 : 1 ≤ p := by
      rcases Nat.eq_zero_or_pos p with q | q
      · subst q; rw [e] at h1; exact absurd h1 (by decide)
      · exact q
    split
    · exact hw _ e hp1
    · exact hw _ e hp1
  · exact ⟨p, hp, e⟩
theorem map_4 {o : Nat} {ρ : Nat → Nat} {z : Int32} {V : mDt} (h : ∀ i, i < 10 → ∃ p, p ≤ 100000 ∧ V (o + 6 + i) 4 = nI p) : ∀ k t, t < 10 → ∃ p, p ≤ 100000 ∧ mapD o ρ (fun _ => growX z) V k (o + 6 + t) 4 = nI p := by
  intro k
  induction k with
  | zero => exact h
  | succ k ih =>
    intro t ht
    rw [mapD]
    by_cases e : t = ρ k
    · subst e; rw [setRow_eq]; exact grow_4 (ih _ ht)
    · rw [setRow_ne (by omega)]; exact ih t ht
theorem gage_keep {f : Nat → Int32} {m L : Nat} {ρ : Nat → Nat} (hto : ∀ i, i < m → livR L ρ (toN (f (i * 4 + 1)))) (hcy : ∀ i, i < m → ∃ c, 1 ≤ c ∧ c < 2 ^ 31 ∧ f (i * 4 + 3) = nI c) : (∀ i, i < (ageG f m).2 → livR L ρ (toN ((ageG f m).1 (i * 4 + 1)))) ∧ ∀ i, i < (ageG f m).2 → ∃ c, 1 ≤ c ∧ c < 2 ^ 31 ∧ (ageG f m).1 (i * 4 + 3) = nI c := by
  have h := (ageG_ok f m).2.1
  have key : ∀ i, i < (ageG f m).2 → ∃ j, j < m ∧ ageR (drow f j) = some (drow (ageG f m).1 i) := fun i hi => by
    have hm : drow (ageG f m).1 i ∈ dls (ageG f m).1 (ageG f m).2 := List.mem_map.mpr ⟨i, List.mem_range.mpr hi, rfl⟩
    rw [h] at hm
    obtain ⟨r, hr, e⟩ := List.mem_filterMap.mp hm
    obtain ⟨j, hj, rfl⟩ := List.mem_map.mp hr
    exact ⟨j, List.mem_range.mp hj, e⟩
  refine ⟨fun i hi => ?_, fun i hi => ?_⟩
  · obtain ⟨j, hj, e⟩ := key i hi
    unfold ageR at e
    split at e
    · cases e
    · have e2 := Option.some.inj e
      have : (ageG f m).1 (i * 4 + 1) = f (j * 4 + 1) := (congrArg (fun q => q.2.1) e2).symm
      rw [this]; exact hto j hj
  · obtain ⟨j, hj, e⟩ := key i hi
    unfold ageR at e
    split at e
    · cases e
    · rename_i hn
      have e2 := Option.some.inj e
      have e3 : (ageG f m).1 (i * 4 + 3) = f (j * 4 + 3) - 1 := (congrArg (fun q => q.2.2.2) e2).symm
      obtain ⟨c, h1, h2, h3⟩ := hcy j hj
      have hn' : ¬ f (j * 4 + 3) - 1 ≤ 0 := hn
      rw [h3] at hn' e3
      obtain ⟨d, rfl⟩ : ∃ d, c = d + 1 := ⟨c - 1, by omega⟩
      rw [nI_pred] at hn' e3
      refine ⟨d, ?_, by omega, e3⟩
      rcases Nat.eq_zero_or_pos d with q | q
      · subst q; exact absurd (show nI 0 ≤ 0 by decide) hn'
      · exact q
theorem gX_dayB {o L m k dd : Nat} {ρ : Nat → Nat} {V : mDt} {x : Int32} (h : gX o L ρ m k V dd) : gX o L ρ m k (dayB o ρ L x m V) (dd + 1) := by
  obtain ⟨hW, hinj, hfl, hto, hcy, hpa, hd⟩ := h
  have hρ : ∀ p, p < L → ρ p < 10 := fun p hp => (hW.1.2.2 p hp).1
  have hWA := cW_dayA (x := x) hW
  have e17 : dayB o ρ L x m V (o + 17) = V (o + 17) := by rw [dayB, mapD_row (by omega) hρ, wtrD_row (by omega) hρ hWA.2.2.2.1, dayA_ra (by omega)]
  refine ⟨cW_dayB hW, hinj, fun i hi => ?_, fun i hi => by rw [e17]; exact hto i hi, fun i hi => by rw [e17]; exact hcy i hi, fun i hi => ?_, by rw [dayB_o hW, hd, nI_1]⟩
  · rw [dayB, mapD_j (fun _ _ => growX_j (by decide) (by decide) (by decide) (by decide))]
    exact wtr_11 hinj (fun i hi => by rw [dayA_ra (by omega)]; exact hfl i hi) (fun i hi => by rw [dayA_ra (by omega)]; exact hto i hi) hi
  · rw [dayB]
    exact map_4 (fun i hi => by rw [wtrD_j (by decide), dayA_ra (by omega)]; exact hpa i hi) L i hi
theorem gX_dayH {o L m k dd : Nat} {ρ : Nat → Nat} {V : mDt} (h : gX o L ρ m k V dd) : gX o L ρ m 0 (dayH o ρ L k V) dd := by
  obtain ⟨hW, hinj, hfl, hto, hcy, hpa, hd⟩ := h
  have hρ : ∀ p, p < L → ρ p < 10 := fun p hp => (hW.1.2.2 p hp).1
  have hR := cW_dayR hW
  have vr : ∀ a, a ≠ o → a ≠ o + 18 → (a < o + 6 ∨ o + 16 ≤ a) → dayH o ρ L k V a = V a := fun a h1 h2 h3 => by
    rw [dayH, upd2_ra h2, dsD_row (m := k) h3 hR.2.2.2.2.2 (Nat.le_refl _), dayR, upd2_ra h1, mapD_row h3 hρ]
  have vw : ∀ t j, t < 10 → j ≠ 8 → j ≠ 3 → (∀ x : Nat → Int32, reapX x j = x j) → dayH o ρ L k V (o + 6 + t) j = V (o + 6 + t) j := fun t j ht h1 h2 h3 => by
    rw [dayH, upd2_ra (by omega), dsD_0 h1 h2, dayR, upd2_ra (by omega), mapD_j (fun _ x => h3 x)]
  refine ⟨cW_dayH hW, hinj, fun i hi => ?_, fun i hi => ?_, fun i hi => ?_, fun i hi => ?_, ?_⟩
  · rw [vw i 11 hi (by decide) (by decide) (fun _ => rfl)]; exact hfl i hi
  · rw [vr _ (by omega) (by omega) (by omega)]; exact hto i hi
  · rw [vr _ (by omega) (by omega) (by omega)]; exact hcy i hi
  · rw [vw i 4 hi (by decide) (by decide) (fun _ => rfl)]; exact hpa i hi
  · rw [dayH, upd2_ra (by omega), dsD_row (m := k) (by omega) hR.2.2.2.2.2 (Nat.le_refl _), dayR, upd2_nk (by decide), mapD_row (by omega) hρ]; exact hd
theorem gX_short {o L m k dd : Nat} {ρ : Nat → Nat} {V : mDt} (h : gX o L ρ m k V dd) : gX o L ρ (ageG (V (o + 17)) m).2 k (shortD o m V) dd := by
  obtain ⟨hW, hinj, hfl, hto, hcy, hpa, hd⟩ := h
  have v1 : ∀ a, a ≠ o + 16 → a ≠ o + 17 → shortD o m V a = V a := fun a h1 h2 => by rw [shortD, upd2_ra h1, setRow_ne h2]
  have v17 : shortD o m V (o + 17) = (ageG (V (o + 17)) m).1 := by rw [shortD, upd2_ra (by omega), setRow_eq]
  have hk := gage_keep hto hcy
  refine ⟨cW_short hW, hinj, fun i hi => ?_, fun i hi => ?_, fun i hi => ?_, fun i hi => ?_, ?_⟩
  · rw [v1 _ (by omega) (by omega)]; exact hfl i hi
  · rw [v17]; exact hk.1 i hi
  · rw [v17]; exact hk.2 i hi
  · rw [v1 _ (by omega) (by omega)]; exact hpa i hi
  · rw [v1 _ (by omega) (by omega)]; exact hd
theorem cI_ch {o L e : Nat} {ρ : Nat → Nat} {m k : Nat} {V : mDt} {j : Nat} {v : Int32} (h : cI o L e ρ m k V) : cI o L e ρ m k (upd2 V (o + 1) j v) := by
  have hr : ∀ a, a ≠ o + 1 → upd2 V (o + 1) j v a = V a := fun a ha => upd2_ra ha
  obtain ⟨h1, h2, h3, h4, h5, h6, h7, h8⟩ := h
  refine ⟨cW_of (hr _ (by omega)) (hr _ (by omega)) (hr _ (by omega)) (hr _ (by omega)) (hr _ (by omega)) (hr _ (by omega)) (fun i hi => by rw [hr _ (by omega)]) h1, by rw [hr _ (by omega)]; exact h2, h3, h4, h5, h6, fun i hi => ?_, by rw [hr _ (by omega)]; exact h8⟩
  rw [hr _ (by omega)]
  exact h7 i hi
theorem gX_ch {o L : Nat} {ρ : Nat → Nat} {m k dd : Nat} {V : mDt} {j : Nat} {v : Int32} (h : gX o L ρ m k V dd) : gX o L ρ m k (upd2 V (o + 1) j v) dd := by
  have hr : ∀ a, a ≠ o + 1 → upd2 V (o + 1) j v a = V a := fun a ha => upd2_ra ha
  obtain ⟨hW, hinj, hfl, hto, hcy, hpa, hd⟩ := h
  refine ⟨lk_days hW, hinj, fun i hi => ?_, fun i hi => ?_, fun i hi => ?_, fun i hi => ?_, ?_⟩
  · rw [hr _ (by omega)]; exact hfl i hi
  · rw [hr _ (by omega)]; exact hto i hi
  · rw [hr _ (by omega)]; exact hcy i hi
  · rw [hr _ (by omega)]; exact hpa i hi
  · rw [hr _ (by omega)]; exact hd
theorem map_at {o L : Nat} {ρ : Nat → Nat} {X : (Nat → Int32) → Nat → Int32} {D : mDt} (hinj : ∀ p q, p < q → q < L → ρ p ≠ ρ q) : ∀ k, k ≤ L → ∀ p, p < k → mapD o ρ (fun _ => X) D k (o + 6 + ρ p) = X (D (o + 6 + ρ p)) := by
  intro k
  induction k with
  | zero => intro _ p hp; omega
  | succ k ih =>
    intro hk p hp
    rw [mapD]
    by_cases e : p = k
    · subst e
      rw [setRow_eq, mapD_other (fun q hq => by have := hinj q p hq (by omega); omega)]
    · have := hinj p k (by omega) (by omega)
      rw [setRow_ne (by omega)]; exact ih (by omega) p (by omega)
/-- the row behind one that comes last -/
def rhoA (ρ : Nat → Nat) (L e : Nat) : Nat → Nat := fun p => if p < L then ρ p else e
theorem addF_lt {f : Nat → Int32} {m : Nat} {a b c e : Int32} {z : Nat} (h : z < m * 4) : addF f m a b c e z = f z := by
  simp only [addF, upd]; rw [if_neg (by omega), if_neg (by omega), if_neg (by omega), if_neg (by omega)]
theorem addF_at {f : Nat → Int32} {m : Nat} {a b c e : Int32} : addF f m a b c e (m * 4 + 0) = a ∧ addF f m a b c e (m * 4 + 1) = b ∧ addF f m a b c e (m * 4 + 2) = c ∧ addF f m a b c e (m * 4 + 3) = e := by
  refine ⟨?_, ?_, ?_, ?_⟩ <;> simp [addF, upd]
theorem bm32 {x : Int} (h1 : -2147483648 ≤ x) (h2 : x ≤ 2147483647) : x.bmod (2 ^ 32) = x := Int.bmod_eq_of_le (by omega) (by omega)
theorem ti_add {a b : Int32} (h1 : -2147483648 ≤ a.toInt + b.toInt) (h2 : a.toInt + b.toInt ≤ 2147483647) : (a + b).toInt = a.toInt + b.toInt := by rw [Int32.toInt_add]; exact bm32 h1 h2
theorem ti_sub {a b : Int32} (h1 : -2147483648 ≤ a.toInt - b.toInt) (h2 : a.toInt - b.toInt ≤ 2147483647) : (a - b).toInt = a.toInt - b.toInt := by rw [Int32.toInt_sub]; exact bm32 h1 h2
theorem ti_mul {a b : Int32} (h1 : -2147483648 ≤ a.toInt * b.toInt) (h2 : a.toInt * b.toInt ≤ 2147483647) : (a * b).toInt = a.toInt * b.toInt := by rw [Int32.toInt_mul]; exact bm32 h1 h2
theorem div_ti {x : Int32} {b : Nat} (hb : 1 ≤ b) (hb8 : b ≤ 8) : (x / nI b).toInt = x.toInt.tdiv b := by
  rw [Int32.toInt_div_of_ne_right, nI_toInt (by omega)]
  intro h
  have h1 : (nI b).toInt = (-1 : Int32).toInt := by rw [h]
  rw [nI_toInt (by omega), show (-1 : Int32).toInt = -1 from rfl] at h1
  omega
theorem xor_sg {x : Int32} {b : Nat} (hb : 1 ≤ b) (hb8 : b ≤ 8) : 0 ≤ x ^^^ nI b ↔ 0 ≤ x.toInt := by
  have key : ∀ z : Int32, 0 ≤ z ↔ z.toBitVec.msb = false := fun z => by
    rw [Int32.le_iff_toInt_le, Int32.toInt_zero, BitVec.msb_eq_toInt, Int32.toInt_toBitVec]
    simp
  have hm : (nI b).toBitVec.msb = false := (key _).mp (nI_pos' (by omega))
  rw [key, show (x ^^^ nI b).toBitVec = x.toBitVec ^^^ (nI b).toBitVec from rfl, BitVec.msb_xor, hm, Bool.xor_false, ← key, Int32.le_iff_toInt_le, Int32.toInt_zero]
theorem fd_ti {x : Int32} {b : Nat} (hb : 1 ≤ b) (hb8 : b ≤ 8) (h1 : -1073741824 ≤ x.toInt) (h2 : x.toInt ≤ 1073741824) : (fdivI x (nI b)).toInt = x.toInt / b := by
  have hd := div_ti (x := x) hb hb8
  have hbi : (nI b).toInt = b := nI_toInt (by omega)
  unfold fdivI
  by_cases h0 : 0 ≤ x.toInt
  · rw [if_pos ((xor_sg hb hb8).mpr h0), hd, Int.tdiv_eq_ediv_of_nonneg h0]
  · rw [if_neg (fun z => h0 ((xor_sg hb hb8).mp z))]
    have ht := @Int.tdiv_eq_ediv x.toInt (b : Int)
    have hq1 : x.toInt / (b : Int) * b ≤ x.toInt := Int.ediv_mul_le _ (by omega)
    have hq2 : x.toInt < (x.toInt / (b : Int) + 1) * b := Int.lt_ediv_add_one_mul_self _ (by omega)
    have hmul : (x / nI b * nI b).toInt = x.toInt.tdiv b * b := by
      rw [ti_mul, hd, hbi]
      · rw [hd, hbi, ht]
        split
        · have : x.toInt / (b : Int) * b ≤ x.toInt := hq1
          rw [Int.add_zero]
          have : (x.toInt / (b : Int) + 1) * b = x.toInt / (b : Int) * b + b := by rw [Int.add_mul, Int.one_mul]
          omega
        · rw [Int.sign_eq_one_of_pos (by omega)]
          have : (x.toInt / (b : Int) + 1) * b = x.toInt / (b : Int) * b + b := by rw [Int.add_mul, Int.one_mul]
          omega
      · rw [hd, hbi, ht]
        split
        · rw [Int.add_zero]; omega
        · rw [Int.sign_eq_one_of_pos (by omega)]
          have : (x.toInt / (b : Int) + 1) * b = x.toInt / (b : Int) * b + b := by rw [Int.add_mul, Int.one_mul]
          omega
    by_cases hdv : (b : Int) ∣ x.toInt
    · have hx : x / nI b * nI b = x := Int32.toInt_inj.1 (by rw [hmul, Int.tdiv_mul_cancel hdv])
      rw [if_pos hx, hd, Int.tdiv_eq_ediv_of_dvd hdv]
    · have hx : ¬ x / nI b * nI b = x := fun z => hdv ⟨x.toInt.tdiv b, by rw [Int.mul_comm, ← hmul, z]⟩
      rw [if_neg hx]
      have ht2 : x.toInt.tdiv b = x.toInt / (b : Int) + 1 := by
        rw [ht, if_neg (by intro z; rcases z with z | z; exact h0 z; exact hdv z), Int.sign_eq_one_of_pos (by omega)]
      have hlo : -1073741824 ≤ x.toInt / (b : Int) := Int.le_ediv_of_mul_le (by omega) (by
        have : (-1073741824 : Int) * b ≤ -1073741824 * 1 := Int.mul_le_mul_of_nonpos_left (by omega) (by omega)
        omega)
      have hhi : x.toInt / (b : Int) ≤ 0 := by
        have := Int.ediv_le_ediv (c := (b : Int)) (by omega) (show x.toInt ≤ 0 by omega)
        simpa using this
      rw [ti_sub, hd, ht2]
      · show x.toInt / (b : Int) + 1 - (1 : Int32).toInt = _
        rw [show (1 : Int32).toInt = 1 from rfl]; omega
      · rw [hd, ht2, show (1 : Int32).toInt = 1 from rfl]; omega
      · rw [hd, ht2, show (1 : Int32).toInt = 1 from rfl]; omega
/-- the share of the heir i ahead of what is left over -/
def baseF (dv : Int32) (s d i : Nat) : Int32 := if i < s then fdivI (2 * dv) (nI (2 * s + d)) else fdivI dv (nI (2 * s + d))
theorem ti_2 {dv : Int32} (hb1 : -536870912 ≤ dv.toInt) (hb2 : dv.toInt ≤ 536870912) : (2 * dv).toInt = 2 * dv.toInt := by
  rw [ti_mul] <;> rw [show (2 : Int32).toInt = 2 from rfl] <;> omega
theorem lsub_base {dv : Int32} {s d : Nat} : ∀ i, lsub dv (baseF dv s d) i = if i ≤ s then dv - nI i * fdivI (2 * dv) (nI (2 * s + d)) else dv - nI s * fdivI (2 * dv) (nI (2 * s + d)) - nI (i - s) * fdivI dv (nI (2 * s + d)) := by
  intro i
  induction i with
  | zero =>
    rw [if_pos (Nat.zero_le _), lsub, show nI 0 = 0 from rfl, Int32.zero_mul, Int32.sub_zero]
  | succ i ih =>
    rw [lsub, ih, baseF]
    have hss : ∀ a b c : Int32, a - b - c = a - (b + c) := fun a b c => by rw [Int32.sub_eq_add_neg, Int32.sub_eq_add_neg, Int32.sub_eq_add_neg, Int32.neg_add, Int32.add_assoc, ← Int32.sub_eq_add_neg (-b) c]
    by_cases h : i < s
    · rw [if_pos (by omega), if_pos h, if_pos (by omega), hss, ← nI_1, Int32.add_mul, Int32.one_mul]
    · rw [if_neg h, if_neg (show ¬ i + 1 ≤ s by omega)]
      by_cases h2 : i = s
      · subst h2
        rw [if_pos (Nat.le_refl _), show i + 1 - i = 1 by omega, show nI 1 = 1 from rfl, Int32.one_mul]
      · rw [if_neg (by omega), hss _ (nI (i - s) * _), show i + 1 - s = i - s + 1 by omega, ← nI_1 (i - s), Int32.add_mul, Int32.one_mul]
theorem left_ti {dv X Y : Int32} {s d : Nat} (h4 : s + d ≤ 4) (h1 : 1 ≤ s + d) (hb1 : -536870912 ≤ dv.toInt) (hb2 : dv.toInt ≤ 536870912) (eA : X.toInt = 2 * dv.toInt / ((2 * s + d : Nat) : Int)) (eB : Y.toInt = dv.toInt / ((2 * s + d : Nat) : Int)) : (dv - nI s * X - nI d * Y).toInt = dv.toInt - s * X.toInt - d * Y.toInt ∧ 0 ≤ dv.toInt - s * X.toInt - d * Y.toInt ∧ dv.toInt - s * X.toInt - d * Y.toInt < s + d ∧ -536870912 ≤ Y.toInt ∧ Y.toInt ≤ 536870912 ∧ (1 ≤ s → -536870912 ≤ X.toInt ∧ X.toInt ≤ 536870912) ∧ (0 ≤ dv.toInt → 0 ≤ X.toInt ∧ 0 ≤ Y.toInt ∧ (1 ≤ s → X.toInt ≤ dv.toInt) ∧ Y.toInt ≤ dv.toInt ∧ (1 ≤ dv.toInt - s * X.toInt - d * Y.toInt → (1 ≤ s → X.toInt < dv.toInt) ∧ (1 ≤ d → Y.toInt < dv.toInt))) ∧ (dv.toInt < 0 → (1 ≤ s → dv.toInt ≤ X.toInt ∧ X.toInt < 0) ∧ dv.toInt ≤ Y.toInt ∧ Y.toInt < 0) := by
  have hs : s = 0 ∨ s = 1 ∨ s = 2 ∨ s = 3 ∨ s = 4 := by omega
  have hd : d = 0 ∨ d = 1 ∨ d = 2 ∨ d = 3 ∨ d = 4 := by omega
  have es : (nI s).toInt = s := nI_toInt (by omega)
  have ed : (nI d).toInt = d := nI_toInt (by omega)
  have lin : 0 ≤ dv.toInt - s * X.toInt - d * Y.toInt ∧ dv.toInt - s * X.toInt - d * Y.toInt < s + d ∧ -536870912 ≤ Y.toInt ∧ Y.toInt ≤ 536870912 ∧ (1 ≤ s → -536870912 ≤ X.toInt ∧ X.toInt ≤ 536870912) ∧ (-2147483648 ≤ (s : Int) * X.toInt ∧ (s : Int) * X.toInt ≤ 2147483647) ∧ (-2147483648 ≤ (d : Int) * Y.toInt ∧ (d : Int) * Y.toInt ≤ 2147483647) ∧ (-2147483648 ≤ dv.toInt - (s : Int) * X.toInt ∧ dv.toInt - (s : Int) * X.toInt ≤ 2147483647) ∧ (0 ≤ dv.toInt → 0 ≤ X.toInt ∧ 0 ≤ Y.toInt ∧ (1 ≤ s → X.toInt ≤ dv.toInt) ∧ Y.toInt ≤ dv.toInt) ∧ (dv.toInt < 0 → (1 ≤ s → dv.toInt ≤ X.toInt ∧ X.toInt < 0) ∧ dv.toInt ≤ Y.toInt ∧ Y.toInt < 0) := by
    generalize dv.toInt = v at *
    generalize X.toInt = A at *
    generalize Y.toInt = B at *
    rcases hs with rfl | rfl | rfl | rfl | rfl <;> rcases hd with rfl | rfl | rfl | rfl | rfl
    all_goals first
      | omega
      | (simp at eA eB ⊢; omega)
  obtain ⟨l1, l2, l3, l4, l5, ⟨l6, l7⟩, ⟨l8, l9⟩, ⟨l10, l11⟩, l12, l13⟩ := lin
  have l14 : 0 ≤ dv.toInt → 1 ≤ dv.toInt - s * X.toInt - d * Y.toInt → (1 ≤ s → X.toInt < dv.toInt) ∧ (1 ≤ d → Y.toInt < dv.toInt) := fun h0 h9 => by
    obtain ⟨n1, n2, -, -⟩ := l12 h0
    clear eA eB l1 l2 l3 l4 l5 l6 l7 l8 l9 l10 l11 l12 l13
    generalize dv.toInt = v at *
    generalize X.toInt = A at *
    generalize Y.toInt = B at *
    rcases hs with rfl | rfl | rfl | rfl | rfl <;> rcases hd with rfl | rfl | rfl | rfl | rfl
    all_goals first
      | omega
      | (simp at h9 ⊢; omega)
  refine ⟨?_, l1, l2, l3, l4, l5, fun h0 => ⟨(l12 h0).1, (l12 h0).2.1, (l12 h0).2.2.1, (l12 h0).2.2.2, l14 h0⟩, l13⟩
  have m1 : (nI s * X).toInt = s * X.toInt := by rw [ti_mul] <;> rw [es] <;> assumption
  have m2 : (nI d * Y).toInt = d * Y.toInt := by rw [ti_mul] <;> rw [ed] <;> assumption
  have m3 : (dv - nI s * X).toInt = dv.toInt - s * X.toInt := by rw [ti_sub] <;> rw [m1] <;> assumption
  rw [ti_sub] <;> rw [m3, m2] <;> omega
theorem left_ok {dv : Int32} {s d : Nat} (h4 : s + d ≤ 4) (h1 : 1 ≤ s + d) (hb1 : -536870912 ≤ dv.toInt) (hb2 : dv.toInt ≤ 536870912) : ∃ t, t < s + d ∧ dv - nI s * fdivI (2 * dv) (nI (2 * s + d)) - nI d * fdivI dv (nI (2 * s + d)) = nI t := by
  have e2 := ti_2 hb1 hb2
  have eA := fd_ti (x := 2 * dv) (b := 2 * s + d) (by omega) (by omega) (by omega) (by omega)
  rw [e2] at eA
  have eB := fd_ti (x := dv) (b := 2 * s + d) (by omega) (by omega) (by omega) (by omega)
  obtain ⟨l0, l1, l2, -⟩ := left_ti h4 h1 hb1 hb2 eA eB
  refine ⟨(dv.toInt - s * (fdivI (2 * dv) (nI (2 * s + d))).toInt - d * (fdivI dv (nI (2 * s + d))).toInt).toNat, by omega, ?_⟩
  apply Int32.toInt_inj.1
  rw [l0, nI_toInt (by omega)]
  omega
theorem lsub_left {dv : Int32} {s d t : Nat} (h1 : 1 ≤ s + d) (ht : dv - nI s * fdivI (2 * dv) (nI (2 * s + d)) - nI d * fdivI dv (nI (2 * s + d)) = nI t) : lsub dv (baseF dv s d) (s + d) = nI t := by
  rw [lsub_base]
  by_cases h : d = 0
  · subst h
    rw [if_pos (by omega), ← ht, show nI 0 = 0 from rfl, Int32.zero_mul, Int32.sub_zero]; rfl
  · rw [if_neg (by omega), ← ht, show s + d - s = d by omega]
theorem part_eq {dv : Int32} {s d t i : Nat} (h4 : s + d ≤ 4) (h1 : 1 ≤ s + d) (hi : i < s + d) (htl : t < s + d) (ht : dv - nI s * fdivI (2 * dv) (nI (2 * s + d)) - nI d * fdivI dv (nI (2 * s + d)) = nI t) : partF dv (nI s) (nI d) (nI i) = baseF dv s d i + (if i < t then 1 else 0) := by
  have ep : 2 * nI s + nI d = nI (2 * s + d) := by rw [show (2 : Int32) = nI 2 from rfl, nI_mul, nI_add]
  have c1 : ∀ b, b < 100 → (nI i < nI b ↔ i < b) := fun b hb => nI_ltI (by omega) (by omega)
  unfold partF
  rw [ep, if_pos (show (1 : Int32) ≤ nI (2 * s + d) from nI_le (a := 1) (by omega) (by omega)), ht, baseF]
  simp only [c1 s (by omega), c1 t (by omega)]
/-- the shares of all heirs are the whole -/
theorem part_sum {dv : Int32} {s d : Nat} (h4 : s + d ≤ 4) (h1 : 1 ≤ s + d) (hb1 : -536870912 ≤ dv.toInt) (hb2 : dv.toInt ≤ 536870912) : rsum (fun i => partF dv (nI s) (nI d) (nI i)) (s + d) = dv := by
  obtain ⟨t, htl, ht⟩ := left_ok h4 h1 hb1 hb2
  have hl := lsub_left h1 ht
  have key : ∀ n, n ≤ s + d → rsum (fun i => partF dv (nI s) (nI d) (nI i)) n + lsub dv (baseF dv s d) n = dv + nI (if n < t then n else t) := by
    intro n
    induction n with
    | zero =>
      intro _
      rw [rsum, lsub, Int32.zero_add]
      split
      · exact (Int32.add_zero _).symm
      · rename_i q
        have : t = 0 := by omega
        subst this; exact (Int32.add_zero _).symm
    | succ n ih =>
      intro hn
      have hp := part_eq h4 h1 (show n < s + d by omega) htl ht
      rw [rsum, lsub, hp]
      have e : rsum (fun i => partF dv (nI s) (nI d) (nI i)) n + (baseF dv s d n + (if n < t then 1 else 0)) + (lsub dv (baseF dv s d) n - baseF dv s d n) = (rsum (fun i => partF dv (nI s) (nI d) (nI i)) n + lsub dv (baseF dv s d) n) + (if n < t then 1 else 0) := by
        generalize rsum (fun i => partF dv (nI s) (nI d) (nI i)) n = a
        generalize baseF dv s d n = b
        generalize lsub dv (baseF dv s d) n = c
        generalize (if n < t then (1 : Int32) else 0) = z
        rw [Int32.sub_eq_add_neg, Int32.add_assoc, Int32.add_assoc b z, ← Int32.add_assoc z c, Int32.add_comm b, Int32.add_assoc (z + c), Int32.add_left_neg, Int32.add_zero, Int32.add_assoc a c, Int32.add_comm z c]
      rw [e, ih (by omega), Int32.add_assoc]
      congr 1
      by_cases q : n < t
      · rw [if_pos q, if_pos q]
        by_cases q2 : n + 1 < t
        · rw [if_pos q2, nI_1]
        · rw [if_neg q2, nI_1, show n + 1 = t by omega]
      · rw [if_neg q, if_neg q, if_neg (by omega), Int32.add_zero]
  have h := key (s + d) (Nat.le_refl _)
  rw [hl, if_neg (by omega)] at h
  have := congrArg (fun z => z - nI t) h
  simp only [Int32.add_sub_cancel] at this
  exact this
theorem part_bd {dv : Int32} {s d i : Nat} (h4 : s + d ≤ 4) (h1 : 1 ≤ s + d) (hi : i < s + d) (hb1 : -536870912 ≤ dv.toInt) (hb2 : dv.toInt ≤ 536870912) : (0 ≤ dv.toInt → 0 ≤ (partF dv (nI s) (nI d) (nI i)).toInt ∧ (partF dv (nI s) (nI d) (nI i)).toInt ≤ dv.toInt) ∧ (dv.toInt < 0 → dv.toInt ≤ (partF dv (nI s) (nI d) (nI i)).toInt ∧ (partF dv (nI s) (nI d) (nI i)).toInt ≤ 0) := by
  have e2 := ti_2 hb1 hb2
  have eA := fd_ti (x := 2 * dv) (b := 2 * s + d) (by omega) (by omega) (by omega) (by omega)
  rw [e2] at eA
  have eB := fd_ti (x := dv) (b := 2 * s + d) (by omega) (by omega) (by omega) (by omega)
  obtain ⟨l0, l1, l2, l3, l4, l5, l6, l7⟩ := left_ti h4 h1 hb1 hb2 eA eB
  obtain ⟨t, htl, ht⟩ := left_ok h4 h1 hb1 hb2
  have htt : (t : Int) = dv.toInt - s * (fdivI (2 * dv) (nI (2 * s + d))).toInt - d * (fdivI dv (nI (2 * s + d))).toInt := by
    rw [← l0, ht, nI_toInt (by omega)]
  rw [part_eq h4 h1 hi htl ht, baseF]
  rw [← htt] at l6
  generalize (fdivI (2 * dv) (nI (2 * s + d))) = X at *
  generalize (fdivI dv (nI (2 * s + d))) = Y at *
  have hone : (if i < t then (1 : Int32) else 0).toInt = if i < t then 1 else 0 := by split <;> rfl
  have hsum : ((if i < s then X else Y) + (if i < t then (1 : Int32) else 0)).toInt = (if i < s then X.toInt else Y.toInt) + (if i < t then 1 else 0) := by
    have hXY : (if i < s then X else Y).toInt = if i < s then X.toInt else Y.toInt := by split <;> rfl
    by_cases q : i < s
    · have := l5 (by omega)
      rw [ti_add] <;> rw [hXY, hone] <;> rw [if_pos q] <;> split <;> omega
    · rw [ti_add] <;> rw [hXY, hone] <;> rw [if_neg q] <;> split <;> omega
  rw [hsum]
  refine ⟨fun h0 => ?_, fun h0 => ?_⟩
  · obtain ⟨a1, a2, a3, a4, a5⟩ := l6 h0
    by_cases q : i < s
    · rw [if_pos q]
      by_cases q2 : i < t
      · rw [if_pos q2]
        have := (a5 (by omega)).1 (by omega)
        omega
      · rw [if_neg q2]; have := a3 (by omega); omega
    · rw [if_neg q]
      by_cases q2 : i < t
      · rw [if_pos q2]
        have := (a5 (by omega)).2 (by omega)
        omega
      · rw [if_neg q2]; omega
  · obtain ⟨b1, b2, b3⟩ := l7 h0
    by_cases q : i < s
    · rw [if_pos q]
      have := b1 (by omega)
      split <;> omega
    · rw [if_neg q]
      split <;> omega

theorem dls_at {f : Nat → Int32} {k : Nat} {g : Nat → dRow} (h : dls f k = (List.range k).map g) {q : Nat} (hq : q < k) : drow f q = g q := by
  have h1 := congrArg (fun l => l[q]?) h
  simp only [dls, List.getElem?_map, List.getElem?_range hq, Option.map_some] at h1
  exact Option.some.inj h1
theorem drow_j {f g : Nat → Int32} {a b : Nat} (h : drow f a = drow g b) {j : Nat} (hj : j < 4) : f (a * 4 + j) = g (b * 4 + j) := by
  have h0 := congrArg (fun z => z.1) h
  have h1 := congrArg (fun z => z.2.1) h
  have h2 := congrArg (fun z => z.2.2.1) h
  have h3 := congrArg (fun z => z.2.2.2) h
  obtain rfl | rfl | rfl | rfl : j = 0 ∨ j = 1 ∨ j = 2 ∨ j = 3 := by omega
  · exact h0
  · exact h1
  · exact h2
  · exact h3
