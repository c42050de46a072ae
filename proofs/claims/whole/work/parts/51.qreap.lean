/-! without the sales nothing else goes on otherwise up to the harvest -/
theorem z18_u {o b j : Nat} {v w : Int32} {D : mDt} (h : b ≠ o + 18) : upd2 (upd2 D (o + 18) 1 v) b j w = upd2 (upd2 D b j w) (o + 18) 1 v := by
  funext a i
  by_cases h1 : a = b
  · subst h1
    rw [upd2_na h]
    by_cases hj : i = j
    · subst hj; rw [upd2_eq, upd2_eq]
    · rw [upd2_nk hj, upd2_nk hj, upd2_na h]
  · rw [upd2_na h1]
    by_cases h2 : a = o + 18
    · subst h2
      by_cases hj : i = 1
      · subst hj; rw [upd2_eq, upd2_eq]
      · rw [upd2_nk hj, upd2_nk hj, upd2_na h1]
    · rw [upd2_na h2, upd2_na h2, upd2_na h1]
theorem z18_s {o b : Nat} {v : Int32} {f : Nat → Int32} {D : mDt} (h : b ≠ o + 18) : setRow (upd2 D (o + 18) 1 v) b f = upd2 (setRow D b f) (o + 18) 1 v := by
  funext a i
  by_cases h1 : a = b
  · subst h1
    rw [upd2_na h, setRow_eq, setRow_eq]
  · rw [setRow_ne h1]
    by_cases h2 : a = o + 18
    · subst h2
      by_cases hj : i = 1
      · subst hj; rw [upd2_eq, upd2_eq]
      · rw [upd2_nk hj, upd2_nk hj, setRow_ne h1]
    · rw [upd2_na h2, upd2_na h2, setRow_ne h1]
theorem z18_ch {o : Nat} {x z v : Int32} {D : mDt} : chDayD (o + 1) x z (upd2 D (o + 18) 1 v) = upd2 (chDayD (o + 1) x z D) (o + 18) 1 v := by
  unfold chDayD
  rw [show upd2 D (o + 18) 1 v (o + 1) = D (o + 1) from upd2_ra (by omega)]
  split
  · rw [z18_u (by omega)]
  · rw [z18_u (by omega), z18_u (by omega)]
theorem z18_A {o : Nat} {x v : Int32} {D : mDt} : dayA o x (upd2 D (o + 18) 1 v) = upd2 (dayA o x D) (o + 18) 1 v := by
  unfold dayA
  rw [show upd2 D (o + 18) 1 v o = D o from upd2_ra (by omega), z18_u (by omega), z18_ch]
theorem z18_lent {o m : Nat} {f : Nat → Int32} {x en fb fl v : Int32} {D : mDt} (hd : dOk f m) : ∀ i, i ≤ m → lentD o f x en fb fl (upd2 D (o + 18) 1 v) i = upd2 (lentD o f x en fb fl D i) (o + 18) 1 v := by
  intro i
  induction i with
  | zero => intro _; rfl
  | succ i ih =>
    intro hi
    have hb := (hd.2 i (by omega)).2.1
    rw [lentD, lentD, ih (by omega)]
    split
    · rw [show upd2 (lentD o f x en fb fl D i) (o + 18) 1 v (o + 6 + toN (f (i * 4 + 1))) = lentD o f x en fb fl D i (o + 6 + toN (f (i * 4 + 1))) from upd2_ra (by omega), z18_u (by omega)]
    · rfl
theorem z18_gw {o m : Nat} {ρ : Nat → Nat} {f F : Nat → Int32} {fb fl v : Int32} {D : mDt} (hd : dOk f m) : ∀ k, (∀ p, p < k → ρ p < 10) → gwD o ρ f m fb fl F (upd2 D (o + 18) 1 v) k = upd2 (gwD o ρ f m fb fl F D k) (o + 18) 1 v := by
  intro k
  induction k with
  | zero => intro _; rfl
  | succ k ih =>
    intro hρ
    have hb := hρ k (by omega)
    rw [gwD, gwD, ih (fun p hp => hρ p (by omega)), gwS, gwS, z18_lent hd m (Nat.le_refl _)]
    rw [show upd2 (lentD o f (nI (ρ k)) (rsum F k + F k) fb fl (gwD o ρ f m fb fl F D k) m) (o + 18) 1 v (o + 6 + ρ k) = lentD o f (nI (ρ k)) (rsum F k + F k) fb fl (gwD o ρ f m fb fl F D k) m (o + 6 + ρ k) from upd2_ra (by omega), z18_u (by omega)]
theorem z18_wb {o L m : Nat} {ρ : Nat → Nat} {v : Int32} {D : mDt} (hd : dOk (D (o + 17)) m) (hρ : ∀ p, p < L → ρ p < 10) : wtrB o ρ L m (upd2 D (o + 18) 1 v) = upd2 (wtrB o ρ L m D) (o + 18) 1 v := by
  have e17 : upd2 D (o + 18) 1 v (o + 17) = D (o + 17) := upd2_ra (by omega)
  have e0 : upd2 D (o + 18) 1 v o = D o := upd2_ra (by omega)
  have e1 : upd2 D (o + 18) 1 v (o + 1) = D (o + 1) := upd2_ra (by omega)
  have eF : ∀ n, n ≤ L → rsum (fun p => upd2 D (o + 18) 1 v (o + 6 + ρ p) 2) n = rsum (fun p => D (o + 6 + ρ p) 2) n := fun n hn => rsum_cg (fun p hp => by have := hρ p (by omega); show upd2 D (o + 18) 1 v (o + 6 + ρ p) 2 = _; rw [upd2_na (by omega)])
  have eG : ∀ k, k ≤ L → ∀ X : mDt, gwD o ρ (D (o + 17)) m (rm7 (D o 4) * 720) (chFlow (D (o + 1))) (fun p => upd2 D (o + 18) 1 v (o + 6 + ρ p) 2) X k = gwD o ρ (D (o + 17)) m (rm7 (D o 4) * 720) (chFlow (D (o + 1))) (fun p => D (o + 6 + ρ p) 2) X k := by
    intro k
    induction k with
    | zero => intro _ _; rfl
    | succ k ih =>
      intro hk X
      have := hρ k (by omega)
      rw [gwD, gwD, ih (by omega), eF k (by omega)]
      show gwS o (D (o + 17)) m _ _ (ρ k) _ (upd2 D (o + 18) 1 v (o + 6 + ρ k) 2) _ = _
      rw [upd2_na (by omega)]
  unfold wtrB
  rw [e17, e0, e1, eF L (Nat.le_refl _), eG L (Nat.le_refl _), z18_gw hd L hρ, z18_u (by omega)]
theorem z18_tk {o : Nat} {ρ : Nat → Nat} {v : Int32} {D : mDt} : ∀ k, (∀ p, p < k → ρ p < 10) → tkD o ρ (upd2 D (o + 18) 1 v) k = upd2 (tkD o ρ D k) (o + 18) 1 v := by
  intro k
  induction k with
  | zero => intro _; rfl
  | succ k ih =>
    intro hρ
    have hb := hρ k (by omega)
    have r0 : ∀ X : mDt, upd2 X (o + 18) 1 v o = X o := fun X => upd2_ra (by omega)
    have r1 : ∀ X : mDt, upd2 X (o + 18) 1 v (o + 6 + ρ k) = X (o + 6 + ρ k) := fun X => upd2_ra (by omega)
    rw [tkD, tkD, ih (fun p hp => hρ p (by omega)), tkS, tkS, tkM, tkM, r0, r1, z18_u (by omega), r1, z18_s (by omega), r0, r1, z18_u (by omega)]
theorem z18_map {o : Nat} {ρ : Nat → Nat} {X : Nat → (Nat → Int32) → Nat → Int32} {v : Int32} {D : mDt} : ∀ k, (∀ p, p < k → ρ p < 10) → mapD o ρ X (upd2 D (o + 18) 1 v) k = upd2 (mapD o ρ X D k) (o + 18) 1 v := by
  intro k
  induction k with
  | zero => intro _; rfl
  | succ k ih =>
    intro hρ
    have hb := hρ k (by omega)
    rw [mapD, mapD, ih (fun p hp => hρ p (by omega)), show upd2 (mapD o ρ X D k) (o + 18) 1 v (o + 6 + ρ k) = mapD o ρ X D k (o + 6 + ρ k) from upd2_ra (by omega), z18_s (by omega)]
theorem z18_B {o L m k : Nat} {ρ : Nat → Nat} {x v : Int32} {D : mDt} (hW : cW o L ρ m k D) : dayB o ρ L x m (upd2 D (o + 18) 1 v) = upd2 (dayB o ρ L x m D) (o + 18) 1 v := by
  have hρ : ∀ p, p < L → ρ p < 10 := fun p hp => (hW.1.2.2 p hp).1
  unfold dayB
  rw [show upd2 D (o + 18) 1 v o = D o from upd2_ra (by omega), z18_A, wtrD, wtrD, z18_wb (cW_dayA hW).2.2.2.1 hρ, z18_tk L hρ, z18_map L hρ]
theorem z18_short {o m : Nat} {v : Int32} {D : mDt} : shortD o m (upd2 D (o + 18) 1 v) = upd2 (shortD o m D) (o + 18) 1 v := by
  unfold shortD
  rw [show upd2 D (o + 18) 1 v (o + 17) = D (o + 17) from upd2_ra (by omega), z18_s (by omega), z18_u (by omega)]
theorem cW_k0 {o L : Nat} {ρ : Nat → Nat} {m k : Nat} {V : mDt} (h : cW o L ρ m k V) : cW o L ρ m 0 (upd2 V (o + 18) 1 0) := by
  have hr : ∀ a, a ≠ o + 18 → upd2 V (o + 18) 1 0 a = V a := fun a ha => upd2_ra ha
  refine ⟨pOk_of (hr _ (by omega)) (hr _ (by omega)) h.1, fun i hi => by rw [hr _ (by omega)]; exact h.2.1 i hi, by rw [hr _ (by omega)]; exact h.2.2.1, by rw [hr _ (by omega)]; exact h.2.2.2.1, upd2_eq, dOk_0 _⟩
theorem gX_k0 {o L : Nat} {ρ : Nat → Nat} {m k dd : Nat} {V : mDt} (h : gX o L ρ m k V dd) : gX o L ρ m 0 (upd2 V (o + 18) 1 0) dd := by
  have hr : ∀ a, a ≠ o + 18 → upd2 V (o + 18) 1 0 a = V a := fun a ha => upd2_ra ha
  obtain ⟨hW, hinj, hfl, hto, hcy, hpa, hd⟩ := h
  refine ⟨cW_k0 hW, hinj, fun i hi => ?_, fun i hi => ?_, fun i hi => ?_, fun i hi => ?_, ?_⟩
  · rw [hr _ (by omega)]; exact hfl i hi
  · rw [hr _ (by omega)]; exact hto i hi
  · rw [hr _ (by omega)]; exact hcy i hi
  · rw [hr _ (by omega)]; exact hpa i hi
  · rw [hr _ (by omega)]; exact hd
theorem day_k0 {o L m k : Nat} {ρ : Nat → Nat} {x : Int32} {V : mDt} (hW : cW o L ρ m k V) (h60 : ¬ rm70 (V o 4 + 1) = 60) : dayD o ρ L x (upd2 V (o + 18) 1 0, m, 0) = (upd2 (dayD o ρ L x (V, m, k)).1 (o + 18) 1 0, (dayD o ρ L x (V, m, k)).2.1, 0) ∧ (dayD o ρ L x (V, m, k)).2.2 = k := by
  have hW0 := cW_k0 hW
  have e0 : upd2 V (o + 18) 1 0 o = V o := upd2_ra (by omega)
  by_cases c : rm7 (V o 4 + 1) = 0
  · rw [dayD_01 hW h60 c, dayD_01 hW0 (by rw [e0]; exact h60) (by rw [e0]; exact c), z18_B hW, z18_short]
    exact ⟨by rw [show upd2 (dayB o ρ L x m V) (o + 18) 1 0 (o + 17) = dayB o ρ L x m V (o + 17) from upd2_ra (by omega)], rfl⟩
  · rw [dayD_00 hW h60 c, dayD_00 hW0 (by rw [e0]; exact h60) (by rw [e0]; exact c), z18_B hW]
    exact ⟨rfl, rfl⟩
theorem dayB_8 {o L m i : Nat} {ρ : Nat → Nat} {x : Int32} {V : mDt} : dayB o ρ L x m V (o + 6 + i) 8 = V (o + 6 + i) 8 := by
  rw [dayB, mapD_j (fun _ _ => growX_j (by decide) (by decide) (by decide) (by decide)), wtrD_j (by decide), dayA_ra (by omega)]
theorem day_8 {o L m k i : Nat} {ρ : Nat → Nat} {x : Int32} {V : mDt} (hi : i < 10) (hW : cW o L ρ m k V) (h60 : ¬ rm70 (V o 4 + 1) = 60) : (dayD o ρ L x (V, m, k)).1 (o + 6 + i) 8 = V (o + 6 + i) 8 := by
  by_cases c : rm7 (V o 4 + 1) = 0
  · rw [dayD_01 hW h60 c]
    show shortD o m _ (o + 6 + i) 8 = _
    rw [shortD, upd2_na (by omega), setRow_ne (by omega), dayB_8]
  · rw [dayD_00 hW h60 c]; exact dayB_8
theorem trip_eq {q : mDt × Nat × Nat} {k : Nat} (h : q.2.2 = k) : q = (q.1, q.2.1, k) := by subst h; rfl
theorem days_k0 {o L m k dd : Nat} {ρ : Nat → Nat} {x : Int32} {V : mDt} (hG : gX o L ρ m k V dd) (hdd : dd < 2 ^ 29) {t : Nat} (ht : t ≤ 70) (h60 : ∀ i, i < t → (dd + i + 1) % 70 ≠ 60) : ∀ j, j ≤ t → daysD o ρ L x (upd2 V (o + 18) 1 0, m, 0) j = (upd2 (daysD o ρ L x (V, m, k) j).1 (o + 18) 1 0, (daysD o ρ L x (V, m, k) j).2.1, 0) ∧ (daysD o ρ L x (V, m, k) j).2.2 = k ∧ ∀ i, i < 10 → (daysD o ρ L x (V, m, k) j).1 (o + 6 + i) 8 = V (o + 6 + i) 8 := by
  intro j
  induction j with
  | zero => intro _; exact ⟨rfl, rfl, fun _ _ => rfl⟩
  | succ j ih =>
    intro hj
    obtain ⟨h1, h2, h3⟩ := ih (by omega)
    have hGj := gX_days (x := x) hG j
    rw [h2] at hGj
    have h6 : ¬ rm70 ((daysD o ρ L x (V, m, k) j).1 o 4 + 1) = 60 := by
      rw [hGj.2.2.2.2.2.2, nI_1, rm70_nI (by omega)]
      intro q
      exact h60 j (by omega) ((nI_eq (a := (dd + j + 1) % 70) (b := 60) (by omega) (by decide)).mp q)
    have hd := day_k0 (x := x) hGj.1 h6
    have h8 := fun i (hi : i < 10) => day_8 (x := x) hi hGj.1 h6
    have hq : daysD o ρ L x (V, m, k) j = ((daysD o ρ L x (V, m, k) j).1, (daysD o ρ L x (V, m, k) j).2.1, k) := trip_eq h2
    refine ⟨?_, ?_, fun i hi => ?_⟩
    · rw [daysD, daysD, h1, hd.1, ← hq]
    · rw [daysD, hq]; exact hd.2
    · rw [daysD, hq, h8 i hi]; exact h3 i hi
theorem map_at {o L : Nat} {ρ : Nat → Nat} {X : (Nat → Int32) → Nat → Int32} {D : mDt} (hinj : ∀ p q, p < q → q < L → ρ p ≠ ρ q) : ∀ k, k ≤ L → ∀ p, p < k → mapD o ρ (fun _ => X) D k (o + 6 + ρ p) = X (D (o + 6 + ρ p)) := by
  intro k
  induction k with
  | zero => intro _ p hp; omega
  | succ k ih =>
    intro hk p hp
    rw [mapD]
    by_cases e : p = k
    · subst e
      rw [setRow_eq, mapD_other (fun q hq => by have := hinj q p hq (by omega); omega)]
    · have := hinj p k (by omega) (by omega)
      rw [setRow_ne (by omega)]; exact ih (by omega) p (by omega)
theorem dayE_row {o m i j : Nat} {D : mDt} (hi : i < 10) : (dayE o m D).1 (o + 6 + i) j = D (o + 6 + i) j := by
  unfold dayE
  split
  · show shortD o m D (o + 6 + i) j = _
    rw [shortD, upd2_na (by omega), setRow_ne (by omega)]
  · rfl
/-- what the harvest brings stands in the one block, and in the other as the dates that are more -/
theorem reap_eq {o L m k dd p : Nat} {ρ : Nat → Nat} {x : Int32} {V : mDt} (hG : gX o L ρ m k V dd) (hdd : dd < 2 ^ 29) (hp : p < L) : (daysD o ρ L x (upd2 V (o + 18) 1 0, m, 0) (harvN dd)).1 (o + 6 + ρ p) 8 - V (o + 6 + ρ p) 8 = (daysD o ρ L x (V, m, k) (harvN dd)).1 (o + 6 + ρ p) 14 := by
  have hinj := hG.2.1
  have hp10 := (hG.1.1.2.2 p hp).1
  obtain ⟨h1, h70⟩ := harvN_le dd
  obtain ⟨t, ht⟩ : ∃ t, harvN dd = t + 1 := ⟨harvN dd - 1, by omega⟩
  have hN : (dd + harvN dd) % 70 = 60 ∧ ∀ i, i < t → (dd + i + 1) % 70 ≠ 60 := by
    unfold harvN at ht ⊢
    split at ht
    · rw [if_pos (by assumption)]; exact ⟨by omega, fun i hi => by omega⟩
    · rw [if_neg (by assumption)]; exact ⟨by omega, fun i hi => by omega⟩
  obtain ⟨a1, a2, a3⟩ := days_k0 (x := x) hG hdd (t := t) (by omega) hN.2 t (Nat.le_refl _)
  have hGt := gX_days (x := x) hG t
  rw [ht, daysD, daysD, a1]
  have hq : daysD o ρ L x (V, m, k) t = ((daysD o ρ L x (V, m, k) t).1, (daysD o ρ L x (V, m, k) t).2.1, k) := trip_eq a2
  have h8 := a3 (ρ p) hp10
  rw [a2] at hGt
  generalize (daysD o ρ L x (V, m, k) t).1 = Z at *
  generalize (daysD o ρ L x (V, m, k) t).2.1 = m2 at *
  rw [hq]
  have hW := hGt.1
  have h60 : rm70 (Z o 4 + 1) = 60 := by
    rw [hGt.2.2.2.2.2.2, nI_1, rm70_nI (by omega), show (dd + t + 1) % 70 = 60 by rw [← hN.1, ht]; rfl]
    rfl
  have hW0 := cW_k0 hW
  have e0 : upd2 Z (o + 18) 1 0 o = Z o := upd2_ra (by omega)
  unfold dayD
  dsimp only
  rw [dayE_row hp10, dayE_row hp10]
  unfold dayC
  rw [dayB_o hW, if_pos h60, z18_B hW, show upd2 (dayB o ρ L x m2 Z) (o + 18) 1 0 o 4 = Z o 4 + 1 by rw [upd2_na (by omega), dayB_o hW], if_pos h60]
  dsimp only
  have eW : ∀ X : mDt, dayH o ρ L 0 X (o + 6 + ρ p) 8 = dayR o ρ L X (o + 6 + ρ p) 8 := fun X => by rw [dayH, upd2_na (by omega)]; rfl
  have eV : ∀ X : mDt, dayH o ρ L k X (o + 6 + ρ p) 14 = dayR o ρ L X (o + 6 + ρ p) 14 := fun X => by rw [dayH, upd2_na (by omega), dsD_0 (by decide) (by decide)]
  rw [eW, eV]
  unfold dayR
  rw [upd2_na (by omega), upd2_na (by omega), map_at hinj L (Nat.le_refl _) p hp, map_at hinj L (Nat.le_refl _) p hp, upd2_ra (by omega)]
  rw [← h8, ← dayB_8 (x := x) (m := m2) (ρ := ρ) (L := L) (o := o) (i := ρ p) (V := Z)]
  generalize dayB o ρ L x m2 Z (o + 6 + ρ p) = g
  show g 8 + palmReap g - g 8 = palmReap g
  rw [Int32.add_comm, Int32.add_sub_cancel]
theorem rSim_k0 {o L e m k : Nat} {ρ : Nat → Nat} {V : mDt} {r : Nat} {lo : Nat → Nat} {t1 t2 t3 : Int32} {D D' : mDt} (h : rSim o L e ρ m k V r lo t1 t2 t3 D) (hm : m ≤ 8) (hlo : ∀ i, i < 8 → lo i < 8) (hD : D' = upd2 D r 8 0) : rSim o L e ρ m 0 (upd2 V (o + 18) 1 0) r lo t1 t2 t3 D' := by
  have d1 : ∀ a, a ≠ r → D' a = D a := fun a ha => by rw [hD, upd2_ra ha]
  have d0 : ∀ j, j ≠ 8 → D' r j = D r j := fun j hj => by rw [hD, upd2_nk hj]
  have v : ∀ a, a ≠ o + 18 → upd2 V (o + 18) 1 0 a = V a := fun a ha => upd2_ra ha
  obtain ⟨h1, h2, h3, h4, ⟨g1, g2, g3, g4, g5, g6, g7, g8, g9⟩, h6⟩ := h
  refine ⟨fun i hi => by rw [d1 _ (by omega), v _ (by omega)]; exact h1 i hi, fun p hp => by rw [d1 _ (by omega)]; exact h2 p hp, fun i hi j hj => by rw [d1 _ (by omega), v _ (by omega)]; exact h3 i hi j hj, fun i hi => absurd hi (Nat.not_lt_zero _), ⟨?_, ?_, ?_, ?_, ?_, ?_, ?_, ?_, ?_⟩, ?_⟩
  · rw [d0 _ (by decide)]; exact g1
  · rw [d0 _ (by decide)]; exact g2
  · rw [d0 _ (by decide)]; exact g3
  · rw [hD, upd2_eq]; rfl
  · rw [d0 _ (by decide), v _ (by omega)]; exact g5
  · rw [d0 _ (by decide), v _ (by omega)]; exact g6
  · rw [d0 _ (by decide), v _ (by omega)]; exact g7
  · rw [d0 _ (by decide), v _ (by omega)]; exact g8
  · rw [d0 _ (by decide), v _ (by omega)]; exact g9
  · unfold rTot; rw [d0 _ (by decide), d0 _ (by decide), d0 _ (by decide), v _ (by omega)]; exact h6
theorem harv_end {dd j : Nat} (hdd : dd < 2 ^ 29) (hj : j ≤ 70) (h1 : 1 ≤ j) (hlt : j ≤ harvN dd) : (rm70 (nI (dd + j)) = 60 ↔ j = harvN dd) := by
  rw [rm70_nI (by omega), show (60 : Int32) = nI 60 from rfl, nI_eq (by omega) (by decide)]
  unfold harvN at *
  split at hlt <;> rename_i q
  · rw [if_pos q]; omega
  · rw [if_neg q]; omega

set_option maxRecDepth 100000 in
set_option maxHeartbeats 4000000 in
theorem q_reapNow {κ : mKp} {n : Nat} {sh : mSh} {P : mPt} {D : mDt} {E : mEt} {q r : Nat} {lo : Nat → Nat} (hmS : sh q = some (.inl 7)) (hmP : P q 1 = some r) (hqr : q < r) (hL : rLay r lo sh P) {o L e m k : Nat} {ρ : Nat → Nat} {V : mDt} {t1 t2 t3 : Int32} (hS : rSim o L e ρ m k V r lo t1 t2 t3 D) (hI : cI o L e ρ m k V) (hrn : r + 32 ≤ n) (hz : ∀ i, e ≤ i → i < 10 → ∀ j, 1 ≤ j → j < 15 → V (o + 6 + i) j = 0) {dd : Nat} (hG : gX o L ρ m k V dd) (hdd : dd < 2 ^ 29) {o3 : Nat} {V3 : mDt} (hl : lkV o o3 L ρ m k V V3) {p : Nat} (hp : p < L) (x : Int32) : mMet κ yX7_reapNow cX7_reapNow 5 (Option.some Jvm.ClassFile.FieldType.int) { frames := 4, cells := 32, slots := 239, locals := 95 } [.ref q, .int (nI (ρ p)), .int x] n sh P D E (gP n sh P D E (fun ans => ans = (daysD o3 ρ L x (V3, m, k) (harvN dd)).1 (o3 + 6 + ρ p) 14)) := by
  refine mMet_of (by decide) (Nat.le_of_ble_eq_true rfl) ?_
  intro Γ Q hQ h hin
  have h : mOk Γ κ RX7 cX7_reapNow 5 (Option.some Jvm.ClassFile.FieldType.int) { frames := 4, cells := 32, slots := 239, locals := 95 } := h
  have hW := hI.1
  have hinj := hI.2.2.2.2.1
  have hρ : ∀ p, p < L → ρ p < 10 := fun p hp => (hW.1.2.2 p hp).1
  have hL10 := hW.1.2.1
  have hm8 := hW.2.2.2.1.1
  have hk8 := hW.2.2.2.2.2.1
  have hp10 := hρ p hp
  have hG30 := lk_gX hG hl
  have hG3 := gX_k0 hG30
  show mV Γ Q 0 0 n sh P D E [(0, .ref q), (1, .int (nI (ρ p))), (2, .int x)] [] 0
  refine V_aload_n h 1 0 rfl dX7_reapNow_0 rfl ?_
  refine g_X7_10 h 4 (b := r) hmS hmP dX7_reapNow_1 rfl ?_
  refine V_callV h 7 (rm := { frames := 2, cells := 32, slots := 239, locals := 48 }) (As := []) (r_copy hL hS hm8 hk8 hI.2.2.2.1 (by omega)) rfl (R_s0 hL) qL_X7_145 qI_X6_copy qS_X6_copy qZ_X6 qC_X6_copy hd_X6_copy ⟨Nat.le_of_ble_eq_true rfl, Nat.le_of_ble_eq_true rfl⟩ (Nat.le_of_ble_eq_true rfl) rfl rfl dX7_reapNow_4 ⟨(Nat.le_of_ble_eq_true rfl), (Nat.le_of_ble_eq_true rfl)⟩ (fun v1 n1 S1 P1 D1 E1 hq1 => ?_)
  obtain ⟨q51, q41, q11, hLn1, hSn1, hPn1, hDn1, hCp1⟩ := hq1
  subst q51
  have q4z1 := q41.symm
  subst q4z1
  subst q11
  have hB1 : agr n sh P D S1 P1 D1 := fun a ha => ⟨hSn1 a ha, hPn1 a ha, hDn1 a ha⟩
  have hC1 : rSim o3 L e ρ m k V3 n (fun i => i) _ _ _ D1 := cp_sim hS hI.2.2.2.1 hL10 hm8 hk8 hz hCp1 hl
  refine V_astore_n h 8 [(3, .ref n), (0, .ref q), (1, .int (nI (ρ p))), (2, .int x)] (by decide) rfl dX7_reapNow_7 rfl ?_
  refine V_aload_n h 9 1 rfl dX7_reapNow_8 rfl ?_
  refine V_iload_n h 10 2 rfl dX7_reapNow_9 rfl ?_
  refine CVR h 13 (As := [.int (nI (ρ p))]) (q_at (agr_s hB1 (show q < n by omega) hmS) (agr_p hB1 (show q < n by omega) hmP) (agr_L hB1 hL hrn) (t := (ρ p)) hp10) rfl (agr_s hB1 (show q < n by omega) hmS) qL_X7_39 qI_X7_at qS_X7_at qZ_X7 qC_X7_at hd_X7_at ⟨Nat.le_of_ble_eq_true rfl, Nat.le_of_ble_eq_true rfl⟩ (Nat.le_of_ble_eq_true rfl) rfl rfl dX7_reapNow_10 (Nat.le_of_ble_eq_true rfl) (Nat.le_of_ble_eq_true rfl) (fun r2 D2 hq2 => ?_)
  rw [hq2.1, hq2.2]
  refine V_bipush h 15 (v := 6) (by decide) dX7_reapNow_13 rfl ?_
  refine V_iald h 16 6 (R_sw (agr_L hB1 hL hrn) hp10) (by decide) (by decide) (by decide) dX7_reapNow_15 rfl ?_
  refine V_top (y := V (o + 6 + (ρ p)) 8) (agr_d hB1 (by have := hρ; omega) (hS.1 (ρ p) hp10 6 (by decide))) ?_
  refine V_istore h 18 [(4, .int (V (o + 6 + (ρ p)) 8)), (3, .ref n), (0, .ref q), (1, .int (nI (ρ p))), (2, .int x)] (by decide) rfl dX7_reapNow_16 rfl ?_
  refine V_aload_n h 19 1 rfl dX7_reapNow_18 rfl ?_
  refine V_iconst h 20 (v := 0) (by decide) dX7_reapNow_19 rfl ?_
  refine p_X7_76 h 23 (R_s0 hLn1) dX7_reapNow_20 rfl ?_
  obtain ⟨D3, eD3⟩ : ∃ zz, zz = upd2 D1 n 8 0 := ⟨_, rfl⟩
  rw [← eD3]
  have hSz4 : rSim o3 L e ρ m 0 (upd2 V3 (o3 + 18) 1 0) n (fun i => i) _ _ _ D3 := rSim_k0 hC1 hm8 (fun _ h => h) eD3
  have hAz4 := agr_D hB1 (D2 := D3) (fun a ha => by rw [eD3, upd2_ra (by omega)])
  refine V_aload_n h 24 1 rfl dX7_reapNow_23 rfl ?_
  refine V_iload_n h 25 4 rfl dX7_reapNow_24 rfl ?_
  refine V_callV h 28 (rm := { frames := 3, cells := 0, slots := 0, locals := 71 }) (As := [.int x]) (r_go hLn1 hSz4 (dd := dd) hG3 (by omega) x) rfl (R_s0 hLn1) qL_X7_162 qI_X6_go qS_X6_go qZ_X6 qC_X6_go hd_X6_go ⟨Nat.le_of_ble_eq_true rfl, Nat.le_of_ble_eq_true rfl⟩ (Nat.le_of_ble_eq_true rfl) rfl rfl dX7_reapNow_25 ⟨(Nat.le_of_ble_eq_true rfl), (Nat.le_of_ble_eq_true rfl)⟩ (fun v5 n5 S5 P5 D5 E5 hq5 => ?_)
  obtain ⟨q15, q25, q45, an5, q55, ea5, lo5, hL5, hP5, hSG5, hFG5⟩ := hq5
  subst q55
  have q4z5 := q45.symm
  subst q4z5
  subst q15
  subst q25
  have hA5 := agr_run hAz4 (by omega) hP5 hFG5
  refine V_pop h 29 rfl dX7_reapNow_28 rfl ?_
  have LP29 : ∀ (kk : Nat) (j : Nat) (lok : Nat → Nat) (Sk : mSh) (Pk : mPt) (Dk : mDt), (1 ≤ j) → (j ≤ harvN dd) → (rLay n lok Sk Pk) → (rSim o3 L e ρ (daysD o3 ρ L x (upd2 V3 (o3 + 18) 1 0, m, 0) j).2.1 (daysD o3 ρ L x (upd2 V3 (o3 + 18) 1 0, m, 0) j).2.2 (daysD o3 ρ L x (upd2 V3 (o3 + 18) 1 0, m, 0) j).1 n lok (-V3 o3 5) (-V3 o3 6) (-V3 o3 7) Dk) → (agr n sh P D Sk Pk Dk) → harvN dd - j < kk → mV Γ Q 32 239 (n + 32) Sk Pk Dk E [(0, .ref q), (1, .int (nI (ρ p))), (2, .int x), (3, .ref n), (4, .int (V (o + 6 + ρ p) 8))] [] 29 := by
    intro kk
    induction kk with
    | zero =>
      intro j lok Sk Pk Dk _ _ _ _ _ hms
      exact absurd hms (Nat.not_lt_zero _)
    | succ kk ih =>
      intro j lok Sk Pk Dk hj1 hj hLk hSk hAk hms
      have hGj := gX_days (x := x) hG3 j
      have hG9 := hGj.2.2.2.2.2.2
      have hN := harvN_le dd
      refine V_aload_n h 30 3 rfl dX7_reapNow_29 rfl ?_
      refine g_X7_99 h 33 (R_s0 hLk) dX7_reapNow_30 rfl ?_
      refine V_top (y := nI (dd + j)) ((hSk.2.2.2.2.1.2.2.2.2.1).trans hG9) ?_
      refine V_bipush h 35 (v := 70) (by decide) dX7_reapNow_33 rfl ?_
      refine V_irem h 36 (by decide) dX7_reapNow_35 rfl ?_
      refine V_bipush h 38 (v := 60) (by decide) dX7_reapNow_36 rfl ?_
      refine V_icmp_eq h 50 41 dX7_reapNow_38 (by decide) rfl (fun c38 => ?_) (fun c38 => ?_)
      · skip
        have hex := (harv_end (j := j) hdd (by omega) hj1 hj).mp c38
        refine V_aload_n h 51 3 rfl dX7_reapNow_50 rfl ?_
        refine g_X7_27 h 54 (b := n + 1) (R_s0 hLk) (R_p0 hLk) dX7_reapNow_51 rfl ?_
        refine V_iload_n h 55 1 rfl dX7_reapNow_54 rfl ?_
        refine V_aald h 56 (b := n + 2 + (ρ p)) (ρ p) (Or.inr rfl) (R_s1 hLk) rfl hp10 (by decide) (R_pw hLk hp10) dX7_reapNow_55 rfl ?_
        refine V_bipush h 58 (v := 6) (by decide) dX7_reapNow_56 rfl ?_
        refine V_iald h 59 6 (R_sw hLk hp10) (by decide) (by decide) (by decide) dX7_reapNow_58 rfl ?_
        refine V_top (y := (daysD o3 ρ L x (upd2 V3 (o3 + 18) 1 0, m, 0) j).1 (o3 + 6 + (ρ p)) 8) (hSk.1 (ρ p) hp10 6 (by decide)) ?_
        refine V_iload h 61 4 rfl dX7_reapNow_59 rfl ?_
        refine V_isub h 62 dX7_reapNow_61 rfl ?_
        exact V_iret h rfl hQ (Nat.le_of_ble_eq_true rfl) (Nat.le_of_ble_eq_true rfl) ⟨by omega, rfl, hAk, _, rfl, by rw [hex, ← reap_eq hG30 hdd hp, (hl.2.2.2.2.1 _ hp10).2 8 (by decide) (by decide)]⟩ dX7_reapNow_62
      · skip
        refine V_aload_n h 42 3 rfl dX7_reapNow_41 rfl ?_
        refine V_iload_n h 43 2 rfl dX7_reapNow_42 rfl ?_
        refine V_callV h 46 (rm := { frames := 3, cells := 0, slots := 0, locals := 71 }) (As := [.int x]) (r_go hLk hSk (dd := (dd + j)) hGj (by omega) x) rfl (R_s0 hLk) qL_X7_162 qI_X6_go qS_X6_go qZ_X6 qC_X6_go hd_X6_go ⟨Nat.le_of_ble_eq_true rfl, Nat.le_of_ble_eq_true rfl⟩ (Nat.le_of_ble_eq_true rfl) rfl rfl dX7_reapNow_43 ⟨(Nat.le_of_ble_eq_true rfl), (Nat.le_of_ble_eq_true rfl)⟩ (fun v6 n6 S6 P6 D6 E6 hq6 => ?_)
        obtain ⟨q16, q26, q46, an6, q56, ea6, lo6, hL6, hP6, hSG6, hFG6⟩ := hq6
        subst q56
        have q4z6 := q46.symm
        subst q4z6
        subst q16
        subst q26
        have hA6 := agr_run hAk (by omega) hP6 hFG6
        refine V_pop h 47 rfl dX7_reapNow_46 rfl ?_
        refine V_goto h 29 dX7_reapNow_47 (by decide) ?_
        refine V_lsub [(0, .ref q), (1, .int (nI (ρ p))), (2, .int x), (3, .ref n), (4, .int (V (o + 6 + ρ p) 8))] [0, 1, 2, 3, 4] rfl ?_
        have hjn := mt (harv_end (j := j) hdd (by omega) hj1 hj).mpr c38
        exact ih (j + 1) lo6 S6 P6 D6 (by omega) (by omega) hL6 hSG6 hA6 (by omega)
  refine V_lsub [(0, .ref q), (1, .int (nI (ρ p))), (2, .int x), (3, .ref n), (4, .int (V (o + 6 + (ρ p)) 8))] [2, 3, 4, 1, 0] rfl ?_
  exact LP29 _ 1 lo5 S5 P5 D5 (Nat.le_refl _) (harvN_le dd).1 hL5 hSG5 hA5 (Nat.lt_succ_self _)
