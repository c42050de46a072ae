/-! a day, and days, of two that are alike -/
section EVD
variable {c : Bool} {o o2 : Nat} {D V : mDt} {ρ : Nat → Nat} {L m k : Nat} {x : Int32}
theorem dayA_ev (hv : ev c o o2 m k D V) : ev c o o2 m k (dayA o x D) (dayA o2 x V) := by
  obtain ⟨hw, hc, hl, hs, he⟩ := hv
  have e4 := hw.2 4 (by decide) (by decide)
  have h1 : ewv c o o2 (upd2 D o 4 (D o 4 + 1)) (upd2 V o2 4 (V o2 4 + 1)) := ewv_h hw 4 (by rw [e4])
  have r : ∀ (o : Nat) (D : mDt) (z : Int32), chDayD (o + 1) x z (upd2 D o 4 (D o 4 + 1)) o = upd2 D o 4 (D o 4 + 1) o := fun o D z => chDayD_ra (by omega)
  refine ⟨?_, ?_, fun z hz => ?_, fun z hz => ?_, ?_⟩
  · unfold dayA
    exact ewv_of h1 (fun i hi => chDayD_ra (by omega)) (chDayD_ra (by omega)) (fun i hi => chDayD_ra (by omega)) (chDayD_ra (by omega))
  · unfold dayA
    rw [e4]
    exact chDay_cg (D := upd2 D o 4 (D o 4 + 1)) (V := upd2 V o2 4 (D o 4 + 1)) (z := tenZ (D o 4 + 1)) (r := x) (x := fun _ => 0) (y := fun _ => 0) (fun j hj => by rw [upd2_ra (by omega), upd2_ra (by omega)]; exact hc j hj)
  · rw [dayA_ra (by omega), dayA_ra (by omega)]; exact hl z hz
  · rw [dayA_ra (by omega), dayA_ra (by omega)]; exact hs z hz
  · rw [dayA_ra (by omega), dayA_ra (by omega)]; exact he
theorem dayB_ev (hW : cW o L ρ m k D) (hW2 : cW o2 L ρ m k V) (hv : ev c o o2 m k D V) : ev c o o2 m k (dayB o ρ L x m D) (dayB o2 ρ L x m V) := by
  have hρ : ∀ p, p < L → ρ p < 10 := fun p hp => (hW.1.2.2 p hp).1
  have hA := dayA_ev (x := x) hv
  have hWA := cW_dayA (x := x) hW
  have hWA2 := cW_dayA (x := x) hW2
  have h1 := tkD_ev hρ (wtrB_ev hρ hWA.2.2.2.1 hA) L (Nat.le_refl _)
  have e4 : V o2 4 = D o 4 := hv.1.2 4 (by decide) (by decide)
  have h2 := mapD_ev (X := growX (tenZ (D o 4 + 1))) (fun _ _ h => grow_rq h) hρ h1 L (Nat.le_refl _)
  have r : ∀ {o : Nat} {D : mDt} {a : Nat}, dOk (dayA o x D (o + 17)) m → (o < a ∧ a < o + 6 ∨ o + 16 ≤ a) → dayB o ρ L x m D a = dayA o x D a := fun hd h => by
    rw [dayB, mapD_row (by omega) hρ, wtrD_row (by omega) hρ hd]
  refine ⟨?_, fun j hj => ?_, fun z hz => ?_, fun z hz => ?_, ?_⟩
  · unfold dayB
    rw [e4]
    exact h2
  · rw [r hWA.2.2.2.1 (by omega), r hWA2.2.2.2.1 (by omega)]; exact hA.2.1 j hj
  · rw [r hWA.2.2.2.1 (by omega), r hWA2.2.2.2.1 (by omega)]; exact hA.2.2.1 z hz
  · rw [r hWA.2.2.2.1 (by omega), r hWA2.2.2.2.1 (by omega)]; exact hA.2.2.2.1 z hz
  · rw [r hWA.2.2.2.1 (by omega), r hWA2.2.2.2.1 (by omega)]; exact hA.2.2.2.2
theorem dayS_ev (hW : cW o L ρ m k D) (hv : ev c o o2 m k D V) : dayS o2 ρ L x (V, m, k) = dayS o ρ L x (D, m, k) := wtrR_ev (fun p hp => (hW.1.2.2 p hp).1) (cW_dayA (x := x) hW).2.2.2.1 (dayA_ev hv)
theorem dayR_ev (hW : cW o L ρ m k D) (hW2 : cW o2 L ρ m k V) (hv : ev c o o2 m k D V) : ev c o o2 m k (dayR o ρ L D) (dayR o2 ρ L V) := by
  have hρ : ∀ p, p < L → ρ p < 10 := fun p hp => (hW.1.2.2 p hp).1
  have h1 := fun i hi => mapD_ev (X := reapX) (fun _ _ h => reap_rq h) hρ hv.1 i hi
  have r : ∀ {o : Nat} {D : mDt} {a : Nat}, (o < a ∧ a < o + 6 ∨ o + 16 ≤ a) → dayR o ρ L D a = D a := fun h => by rw [dayR, upd2_ra (by omega), mapD_row (by omega) hρ]
  refine ⟨?_, fun j hj => ?_, fun z hz => ?_, fun z hz => ?_, ?_⟩
  · unfold dayR
    refine ewv_h (h1 L (Nat.le_refl _)) 7 ?_
    rw [hv.1.2 7 (by decide) (by decide), rsum_c2 (fun p hp => (h1 (p + 1) (by omega)).1 _ (hρ p hp) 14 (by decide) (by decide) (Or.inr (by decide)))]
  · rw [r (by omega), r (by omega)]; exact hv.2.1 j hj
  · rw [r (by omega), r (by omega)]; exact hv.2.2.1 z hz
  · rw [r (by omega), r (by omega)]; exact hv.2.2.2.1 z hz
  · rw [r (by omega), r (by omega)]; exact hv.2.2.2.2
theorem dayH_ev (hc : c = true ∨ k = 0) (hW : cW o L ρ m k D) (hW2 : cW o2 L ρ m k V) (hv : ev c o o2 m k D V) : ev c o o2 m 0 (dayH o ρ L k D) (dayH o2 ρ L k V) := by
  have hR := dayR_ev hW hW2 hv
  have hWR := cW_dayR hW
  have hWR2 := cW_dayR hW2
  have hd := hWR.2.2.2.2.2
  have hd2 := hWR2.2.2.2.2.2
  have r : ∀ {o : Nat} {D : mDt} {a : Nat}, dOk (dayR o ρ L D (o + 19)) k → (a < o + 6 ∨ o + 16 ≤ a) → a ≠ o + 18 → dayH o ρ L k D a = dayR o ρ L D a := fun hd h h2 => by
    rw [dayH, upd2_ra h2, dsD_row (m := k) h hd (Nat.le_refl _)]
  refine ⟨?_, fun j hj => ?_, fun z hz => ?_, fun z hz => absurd hz (by omega), ?_⟩
  · unfold dayH
    exact ewv_of (dsD_ev hd hR.2.2.2.1 hc hR.1) (fun i hi => upd2_ra (by omega)) (upd2_ra (by omega)) (fun i hi => upd2_ra (by omega)) (upd2_ra (by omega))
  · rw [r hd (by omega) (by omega), r hd2 (by omega) (by omega)]; exact hR.2.1 j hj
  · rw [r hd (by omega) (by omega), r hd2 (by omega) (by omega)]; exact hR.2.2.1 z hz
  · rw [r hd (by omega) (by omega), r hd2 (by omega) (by omega)]; exact hR.2.2.2.2
theorem dayC_ev (hc : c = true ∨ k = 0) (hW : cW o L ρ m k D) (hW2 : cW o2 L ρ m k V) (hv : ev c o o2 m k D V) : (dayC o2 ρ L k V).2 = (dayC o ρ L k D).2 ∧ ev c o o2 m (dayC o ρ L k D).2 (dayC o ρ L k D).1 (dayC o2 ρ L k V).1 := by
  unfold dayC
  rw [hv.1.2 4 (by decide) (by decide)]
  split
  · exact ⟨rfl, dayH_ev hc hW hW2 hv⟩
  · exact ⟨rfl, hv⟩
theorem dayE_ev (hv : ev c o o2 m k D V) : (dayE o2 m V).2 = (dayE o m D).2 ∧ ev c o o2 (dayE o m D).2 k (dayE o m D).1 (dayE o2 m V).1 := by
  unfold dayE
  rw [hv.1.2 4 (by decide) (by decide)]
  split
  · obtain ⟨h1, h2⟩ := ageG_cg hv.2.2.1 m (Nat.le_refl _)
    have hle := (ageG_ok (D (o + 17)) m).1
    have r : ∀ {o : Nat} {D : mDt} {a : Nat}, a ≠ o + 16 → a ≠ o + 17 → shortD o m D a = D a := fun h1 h2 => by rw [shortD, upd2_ra h1, setRow_ne h2]
    have r17 : ∀ {o : Nat} {D : mDt}, shortD o m D (o + 17) = (ageG (D (o + 17)) m).1 := fun {o D} => by rw [shortD, upd2_ra (by omega), setRow_eq]
    refine ⟨h1, ewv_of hv.1 (fun i hi => r (by omega) (by omega)) (r (by omega) (by omega)) (fun i hi => r (by omega) (by omega)) (r (by omega) (by omega)), fun j hj => ?_, fun z hz => ?_, fun z hz => ?_, ?_⟩
    · show shortD o2 m V (o2 + 1) j = shortD o m D (o + 1) j
      rw [r (by omega) (by omega), r (by omega) (by omega)]; exact hv.2.1 j hj
    · show shortD o2 m V (o2 + 17) z = shortD o m D (o + 17) z
      have hz : z < (ageG (D (o + 17)) m).2 * 4 := hz
      rw [r17, r17]; exact h2 z (by omega)
    · show shortD o2 m V (o2 + 19) z = shortD o m D (o + 19) z
      rw [r (by omega) (by omega), r (by omega) (by omega)]; exact hv.2.2.2.1 z hz
    · show shortD o2 m V (o2 + 2) 3 = shortD o m D (o + 2) 3
      rw [r (by omega) (by omega), r (by omega) (by omega)]; exact hv.2.2.2.2
  · exact ⟨rfl, hv⟩
theorem day_ev (hc : c = true ∨ k = 0) (hW : cW o L ρ m k D) (hW2 : cW o2 L ρ m k V) (hv : ev c o o2 m k D V) : (dayD o2 ρ L x (V, m, k)).2 = (dayD o ρ L x (D, m, k)).2 ∧ ev c o o2 (dayD o ρ L x (D, m, k)).2.1 (dayD o ρ L x (D, m, k)).2.2 (dayD o ρ L x (D, m, k)).1 (dayD o2 ρ L x (V, m, k)).1 := by
  have hB := dayB_ev (x := x) hW hW2 hv
  obtain ⟨c1, c2⟩ := dayC_ev hc (cW_dayB (x := x) hW) (cW_dayB (x := x) hW2) hB
  obtain ⟨e1, e2⟩ := dayE_ev c2
  refine ⟨?_, e2⟩
  show (_, _) = (_, _)
  rw [e1, c1]
theorem dayD_k0 {q : mDt × Nat × Nat} (h : q.2.2 = 0) : (dayD o ρ L x q).2.2 = 0 := by
  show (dayC o ρ L q.2.2 _).2 = 0
  unfold dayC
  split
  · rfl
  · exact h
theorem days_ev (hc : c = true ∨ k = 0) (hW : cW o L ρ m k D) (hW2 : cW o2 L ρ m k V) (hv : ev c o o2 m k D V) : ∀ n, (daysD o2 ρ L x (V, m, k) n).2 = (daysD o ρ L x (D, m, k) n).2 ∧ ev c o o2 (daysD o ρ L x (D, m, k) n).2.1 (daysD o ρ L x (D, m, k) n).2.2 (daysD o ρ L x (D, m, k) n).1 (daysD o2 ρ L x (V, m, k) n).1 ∧ (k = 0 → (daysD o ρ L x (D, m, k) n).2.2 = 0) := by
  intro n
  induction n with
  | zero => exact ⟨rfl, hv, fun h => h⟩
  | succ n ih =>
    obtain ⟨h1, h2, h3⟩ := ih
    have w1 := cW_days (x := x) (q := (D, m, k)) hW n
    have w2 := cW_days (x := x) (q := (V, m, k)) hW2 n
    rw [h1] at w2
    have hc' : c = true ∨ (daysD o ρ L x (D, m, k) n).2.2 = 0 := hc.imp id h3
    have hh := day_ev (x := x) hc' w1 w2 h2
    have e2 : daysD o2 ρ L x (V, m, k) n = ((daysD o2 ρ L x (V, m, k) n).1, (daysD o ρ L x (D, m, k) n).2.1, (daysD o ρ L x (D, m, k) n).2.2) := by
      rw [← h1]
    rw [daysD, daysD, e2]
    exact ⟨hh.1, hh.2, fun h => dayD_k0 (h3 h)⟩
theorem daysS_ev (hc : c = true ∨ k = 0) (hW : cW o L ρ m k D) (hW2 : cW o2 L ρ m k V) (hv : ev c o o2 m k D V) (n : Nat) : daysS o2 ρ L x (V, m, k) n = daysS o ρ L x (D, m, k) n := by
  unfold daysS
  refine rsum_c2 (fun i _ => ?_)
  obtain ⟨h1, h2, h3⟩ := days_ev (x := x) hc hW hW2 hv i
  have w1 := cW_days (x := x) (q := (D, m, k)) hW i
  have e2 : daysD o2 ρ L x (V, m, k) i = ((daysD o2 ρ L x (V, m, k) i).1, (daysD o ρ L x (D, m, k) i).2.1, (daysD o ρ L x (D, m, k) i).2.2) := by
    rw [← h1]
  rw [e2]
  exact dayS_ev w1 h2
theorem ev_sym (h : ev c o o2 m k D V) : ev c o2 o m k V D := ⟨⟨fun i hi j a b d => (h.1.1 i hi j a b d).symm, fun j a b => (h.1.2 j a b).symm⟩, fun j hj => (h.2.1 j hj).symm, fun z hz => (h.2.2.1 z hz).symm, fun z hz => (h.2.2.2.1 z hz).symm, h.2.2.2.2.symm⟩
theorem ev_trans {o3 : Nat} {U : mDt} (h : ev c o o2 m k D V) (h2 : ev c o2 o3 m k V U) : ev c o o3 m k D U := ⟨⟨fun i hi j a b d => (h2.1.1 i hi j a b d).trans (h.1.1 i hi j a b d), fun j a b => (h2.1.2 j a b).trans (h.1.2 j a b)⟩, fun j hj => (h2.2.1 j hj).trans (h.2.1 j hj), fun z hz => (h2.2.2.1 z hz).trans (h.2.2.1 z hz), fun z hz => (h2.2.2.2.1 z hz).trans (h.2.2.2.1 z hz), h2.2.2.2.2.trans h.2.2.2.2⟩
/-- one block, in a memory that holds the same there -/
theorem ev_blk (h : ∀ a, o ≤ a → a < o + 20 → V a = D a) : ev c o o m k D V := ⟨⟨fun i hi j _ _ _ => by rw [h _ (by omega) (by omega)], fun j _ _ => by rw [h o (by omega) (by omega)]⟩, fun j _ => by rw [h _ (by omega) (by omega)], fun z _ => by rw [h _ (by omega) (by omega)], fun z _ => by rw [h _ (by omega) (by omega)], by rw [h _ (by omega) (by omega)]⟩
theorem ev_lk (h : lkV o o2 L ρ m k D V) : ev true o o2 m k D V := by
  obtain ⟨h1, h2, h3, h4, h5, h6, h7, h8, h9, h10⟩ := h
  exact ⟨⟨fun i hi j a b _ => (h5 i hi).2 j a b, h10⟩, h1, h7, h9, h3⟩
theorem cW_lk (hW : cW o L ρ m k D) (h : lkV o o2 L ρ m k D V) : cW o2 L ρ m k V := by
  obtain ⟨h1, h2, h3, h4, h5, h6, h7, h8, h9, h10⟩ := h
  obtain ⟨w1, w2, w3, w4, w5, w6⟩ := hW
  refine ⟨⟨h2, w1.2.1, fun p hp => ⟨(w1.2.2 p hp).1, h4 p hp⟩⟩, fun i hi => (h5 i hi).1, h6, ⟨w4.1, fun i hi => ?_⟩, h8, w6.1, fun i hi => ?_⟩
  · rw [h7 _ (by omega), h7 _ (by omega)]; exact w4.2 i hi
  · rw [h9 _ (by omega), h9 _ (by omega)]; exact w6.2 i hi
end EVD
