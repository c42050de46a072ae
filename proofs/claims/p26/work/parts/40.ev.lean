/-! two oases that are told alike, at two places: what a day makes of them is alike -/
def ewv (c : Bool) (o o2 : Nat) (D V : mDt) : Prop := (∀ i, i < 10 → ∀ j, 1 ≤ j → j < 15 → (c = true ∨ j ≠ 3) → V (o2 + 6 + i) j = D (o + 6 + i) j) ∧ ∀ j, 4 ≤ j → j < 8 → V o2 j = D o j
def rqv (c : Bool) (x y : Nat → Int32) : Prop := ∀ j, 1 ≤ j → j < 15 → (c = true ∨ j ≠ 3) → y j = x j
def ev (c : Bool) (o o2 m k : Nat) (D V : mDt) : Prop := ewv c o o2 D V ∧ (∀ j, j < 4 → V (o2 + 1) j = D (o + 1) j) ∧ (∀ z, z < m * 4 → V (o2 + 17) z = D (o + 17) z) ∧ (∀ z, z < k * 4 → V (o2 + 19) z = D (o + 19) z) ∧ V (o2 + 2) 3 = D (o + 2) 3
section EV
variable {c : Bool} {o o2 : Nat} {D V D' V' : mDt}
theorem rqv_get {x y : Nat → Int32} (h : rqv c x y) (j : Nat) (h1 : 1 ≤ j) (h2 : j < 15) (h3 : j ≠ 3) : y j = x j := h j h1 h2 (Or.inr h3)
theorem rqv_upd {x y : Nat → Int32} (h : rqv c x y) (j : Nat) {v w : Int32} (e : w = v) : rqv c (upd x j v) (upd y j w) := by
  intro z h1 h2 h3
  by_cases q : z = j
  · subst q; simp [upd, e]
  · simp only [upd, q, if_false]; exact h z h1 h2 h3
theorem ewv_rq (h : ewv c o o2 D V) {t : Nat} (ht : t < 10) : rqv c (D (o + 6 + t)) (V (o2 + 6 + t)) := fun j h1 h2 h3 => h.1 t ht j h1 h2 h3
theorem ewv_row (h : ewv c o o2 D V) {t : Nat} {f g : Nat → Int32} (hx : rqv c f g) : ewv c o o2 (setRow D (o + 6 + t) f) (setRow V (o2 + 6 + t) g) := by
  refine ⟨fun i hi j h1 h2 h3 => ?_, fun j h1 h2 => ?_⟩
  · by_cases q : i = t
    · subst q; rw [setRow_eq, setRow_eq]; exact hx j h1 h2 h3
    · rw [setRow_ne (by omega), setRow_ne (by omega)]; exact h.1 i hi j h1 h2 h3
  · rw [setRow_ne (by omega), setRow_ne (by omega)]; exact h.2 j h1 h2
theorem ewv_u (h : ewv c o o2 D V) {t : Nat} (j0 : Nat) {v w : Int32} (e : w = v) : ewv c o o2 (upd2 D (o + 6 + t) j0 v) (upd2 V (o2 + 6 + t) j0 w) := by
  refine ⟨fun i hi j h1 h2 h3 => ?_, fun j h1 h2 => ?_⟩
  · by_cases q : i = t
    · subst q
      by_cases q2 : j = j0
      · subst q2; rw [upd2_eq, upd2_eq, e]
      · rw [upd2_nk q2, upd2_nk q2]; exact h.1 i hi j h1 h2 h3
    · rw [upd2_na (by omega), upd2_na (by omega)]; exact h.1 i hi j h1 h2 h3
  · rw [upd2_na (by omega), upd2_na (by omega)]; exact h.2 j h1 h2
theorem ewv_h (h : ewv c o o2 D V) (j0 : Nat) {v w : Int32} (e : w = v) : ewv c o o2 (upd2 D o j0 v) (upd2 V o2 j0 w) := by
  refine ⟨fun i hi j h1 h2 h3 => ?_, fun j h1 h2 => ?_⟩
  · rw [upd2_na (by omega), upd2_na (by omega)]; exact h.1 i hi j h1 h2 h3
  · by_cases q2 : j = j0
    · subst q2; rw [upd2_eq, upd2_eq, e]
    · rw [upd2_nk q2, upd2_nk q2]; exact h.2 j h1 h2
/-- what changes neither head nor owners -/
theorem ewv_of (h : ewv c o o2 D V) (h1 : ∀ i, i < 10 → D' (o + 6 + i) = D (o + 6 + i)) (h2 : D' o = D o) (h3 : ∀ i, i < 10 → V' (o2 + 6 + i) = V (o2 + 6 + i)) (h4 : V' o2 = V o2) : ewv c o o2 D' V' := by
  refine ⟨fun i hi j a b d => ?_, fun j a b => ?_⟩
  · rw [h1 i hi, h3 i hi]; exact h.1 i hi j a b d
  · rw [h2, h4]; exact h.2 j a b
theorem chFlow_cg {x y : Nat → Int32} (h : ∀ j, j < 4 → y j = x j) : chFlow y = chFlow x := by
  unfold chFlow; rw [h 0 (by decide), h 1 (by decide), h 2 (by decide)]
theorem chDay_cg {x y : Nat → Int32} {r z : Int32} (h : ∀ j, j < 4 → V (o2 + 1) j = D (o + 1) j) : ∀ j, j < 4 → chDayD (o2 + 1) r z V (o2 + 1) j = chDayD (o + 1) r z D (o + 1) j := by
  intro j hj
  have e1 : chTab (V (o2 + 1)) r = chTab (D (o + 1)) r := by
    unfold chTab; rw [chFlow_cg h, h 0 (by decide), h 3 (by decide)]
  have e2 : chMud (V (o2 + 1)) 1 = chMud (D (o + 1)) 1 := by
    unfold chMud; rw [h 2 (by decide)]
  unfold chDayD
  split
  · by_cases q : j = 0
    · subst q; rw [upd2_eq, upd2_eq, e1]
    · rw [upd2_nk q, upd2_nk q]; exact h j hj
  · by_cases q2 : j = 2
    · subst q2; rw [upd2_eq, upd2_eq, e2]
    · rw [upd2_nk q2, upd2_nk q2]
      by_cases q : j = 0
      · subst q; rw [upd2_eq, upd2_eq, e1]
      · rw [upd2_nk q, upd2_nk q]; exact h j hj
theorem lentE_cg {f g : Nat → Int32} {x en : Int32} {m : Nat} (h : ∀ z, z < m * 4 → g z = f z) : ∀ i, i ≤ m → lentE g x en i = lentE f x en i := by
  intro i
  induction i with
  | zero => intro _; rfl
  | succ i ih =>
    intro hi
    rw [lentE, lentE, ih (by omega), h (i * 4 + 0) (by omega), h (i * 4 + 2) (by omega)]
theorem lentD_ev {f g : Nat → Int32} {x en fb fl : Int32} {m : Nat} (hd : dOk f m) (h : ∀ z, z < m * 4 → g z = f z) (hv : ewv c o o2 D V) : ∀ i, i ≤ m → ewv c o o2 (lentD o f x en fb fl D i) (lentD o2 g x en fb fl V i) := by
  intro i
  induction i with
  | zero => intro _; exact hv
  | succ i ih =>
    intro hi
    have h0 := ih (by omega)
    have ht := (hd.2 i (by omega)).2.1
    rw [lentD, lentD, h (i * 4 + 0) (by omega), h (i * 4 + 1) (by omega), h (i * 4 + 2) (by omega), lentE_cg h i (by omega)]
    split
    · exact ewv_u h0 11 (by rw [h0.1 _ ht 11 (by decide) (by decide) (Or.inr (by decide))])
    · exact h0
theorem gwS_ev {f g : Nat → Int32} {fb fl s b : Int32} {m t : Nat} (hd : dOk f m) (ht : t < 10) (h : ∀ z, z < m * 4 → g z = f z) (hv : ewv c o o2 D V) : ewv c o o2 (gwS o f m fb fl t s b D) (gwS o2 g m fb fl t s b V) := by
  have h0 := lentD_ev (x := nI t) (en := s + b) (fb := fb) (fl := fl) hd h hv m (Nat.le_refl _)
  rw [gwS, gwS, lentE_cg h m (Nat.le_refl _)]
  exact ewv_u h0 11 (by rw [h0.1 _ ht 11 (by decide) (by decide) (Or.inr (by decide))])
theorem rsum_c2 {F G : Nat → Int32} {n : Nat} (h : ∀ p, p < n → G p = F p) : rsum G n = rsum F n := by
  induction n with
  | zero => rfl
  | succ n ih => rw [rsum, rsum, ih (fun p hp => h p (by omega)), h n (by omega)]
theorem gwD_ev {ρ : Nat → Nat} {f g F G : Nat → Int32} {fb fl : Int32} {m L : Nat} (hρ : ∀ p, p < L → ρ p < 10) (hd : dOk f m) (h : ∀ z, z < m * 4 → g z = f z) (hF : ∀ p, p < L → G p = F p) (hv : ewv c o o2 D V) : ∀ i, i ≤ L → ewv c o o2 (gwD o ρ f m fb fl F D i) (gwD o2 ρ g m fb fl G V i) := by
  intro i
  induction i with
  | zero => intro _; exact hv
  | succ i ih =>
    intro hi
    rw [gwD, gwD, rsum_c2 (fun p hp => hF p (by omega)), hF i (by omega)]
    exact gwS_ev hd (hρ i (by omega)) h (ih (by omega))
theorem wtrB_ev {ρ : Nat → Nat} {m k L : Nat} (hρ : ∀ p, p < L → ρ p < 10) (hd : dOk (D (o + 17)) m) (hv : ev c o o2 m k D V) : ewv c o o2 (wtrB o ρ L m D) (wtrB o2 ρ L m V) := by
  obtain ⟨hw, hc, hl, -, -⟩ := hv
  have hF : ∀ p, p < L → (fun p => V (o2 + 6 + ρ p) 2) p = (fun p => D (o + 6 + ρ p) 2) p := fun p hp => hw.1 _ (hρ p hp) 2 (by decide) (by decide) (Or.inr (by decide))
  rw [wtrB, wtrB, rsum_c2 hF, chFlow_cg hc, hw.2 4 (by decide) (by decide), hw.2 5 (by decide) (by decide)]
  exact ewv_h (gwD_ev hρ hd hl hF hw L (Nat.le_refl _)) 5 rfl
theorem take_rq {pl : Int32} {x y : Nat → Int32} (h : rqv c x y) : rqv c (takeX pl x) (takeX pl y) := by
  unfold takeX
  rw [rqv_get h 11 (by decide) (by decide) (by decide), rqv_get h 13 (by decide) (by decide) (by decide)]
  exact rqv_upd (rqv_upd (rqv_upd h 12 rfl) 13 rfl) 11 rfl
theorem tkS_ev {t : Nat} {pl : Int32} (ht : t < 10) (hv : ewv c o o2 D V) : ewv c o o2 (tkS o (o + 6 + t) pl D) (tkS o2 (o2 + 6 + t) pl V) := by
  have e11 := hv.1 t ht 11 (by decide) (by decide) (Or.inr (by decide))
  have h1 : ewv c o o2 (upd2 D o 6 (D o 6 + D (o + 6 + t) 11)) (upd2 V o2 6 (V o2 6 + V (o2 + 6 + t) 11)) := ewv_h hv 6 (by rw [e11, hv.2 6 (by decide) (by decide)])
  have h2 : ewv c o o2 (tkM o (o + 6 + t) pl D) (tkM o2 (o2 + 6 + t) pl V) := ewv_row h1 (take_rq (ewv_rq h1 ht))
  exact ewv_h h2 6 (by rw [h2.2 6 (by decide) (by decide), h2.1 t ht 12 (by decide) (by decide) (Or.inr (by decide))])
theorem tkD_ev {ρ : Nat → Nat} {L : Nat} (hρ : ∀ p, p < L → ρ p < 10) (hv : ewv c o o2 D V) : ∀ i, i ≤ L → ewv c o o2 (tkD o ρ D i) (tkD o2 ρ V i) := by
  intro i
  induction i with
  | zero => intro _; exact hv
  | succ i ih => intro hi; rw [tkD, tkD]; exact tkS_ev (hρ i (by omega)) (ih (by omega))
theorem wtrR_ev {ρ : Nat → Nat} {m k L : Nat} (hρ : ∀ p, p < L → ρ p < 10) (hd : dOk (D (o + 17)) m) (hv : ev c o o2 m k D V) : wtrR o2 ρ L m V = wtrR o ρ L m D := by
  unfold wtrR
  exact rsum_c2 (fun p hp => (tkD_ev hρ (wtrB_ev hρ hd hv) (p + 1) (by omega)).1 _ (hρ p hp) 12 (by decide) (by decide) (Or.inr (by decide)))
theorem mapD_ev {ρ : Nat → Nat} {L : Nat} {X : (Nat → Int32) → Nat → Int32} (hX : ∀ x y, rqv c x y → rqv c (X x) (X y)) (hρ : ∀ p, p < L → ρ p < 10) (hv : ewv c o o2 D V) : ∀ i, i ≤ L → ewv c o o2 (mapD o ρ (fun _ => X) D i) (mapD o2 ρ (fun _ => X) V i) := by
  intro i
  induction i with
  | zero => intro _; exact hv
  | succ i ih =>
    intro hi
    rw [mapD, mapD]
    exact ewv_row (ih (by omega)) (hX _ _ (ewv_rq (ih (by omega)) (hρ i (by omega))))
theorem moist_rq {nd : Int32} {x y : Nat → Int32} (h : rqv c x y) : rqv c (moistX nd x) (moistX nd y) := by
  unfold moistX
  rw [rqv_get h 6 (by decide) (by decide) (by decide), rqv_get h 12 (by decide) (by decide) (by decide)]
  exact rqv_upd h 6 rfl
theorem wither_rq {z : Int32} {x y : Nat → Int32} (h : rqv c x y) : rqv c (witherX z x) (witherX z y) := by
  unfold witherX
  rw [rqv_get h 6 (by decide) (by decide) (by decide), rqv_get h 4 (by decide) (by decide) (by decide), rqv_get h 9 (by decide) (by decide) (by decide)]
  split
  · exact h
  · split
    · exact h
    · exact rqv_upd (rqv_upd h 4 rfl) 9 rfl
theorem grow_rq {z : Int32} {x y : Nat → Int32} (h : rqv c x y) : rqv c (growX z x) (growX z y) := by
  unfold growX
  rw [rqv_get h 4 (by decide) (by decide) (by decide), rqv_get h 12 (by decide) (by decide) (by decide), rqv_get h 7 (by decide) (by decide) (by decide)]
  split
  · split
    · exact wither_rq (moist_rq h)
    · exact wither_rq (rqv_upd (moist_rq h) 7 rfl)
  · exact h
theorem reap_rq {x y : Nat → Int32} (h : rqv c x y) : rqv c (reapX x) (reapX y) := by
  have e : palmReap y = palmReap x := by
    unfold palmReap
    rw [rqv_get h 9 (by decide) (by decide) (by decide), rqv_get h 6 (by decide) (by decide) (by decide), rqv_get h 7 (by decide) (by decide) (by decide)]
  unfold reapX
  rw [e, rqv_get h 8 (by decide) (by decide) (by decide)]
  exact rqv_upd (rqv_upd (rqv_upd (rqv_upd h 14 rfl) 8 rfl) 9 rfl) 10 rfl
theorem dsS_ev {t u : Nat} {k : Int32} (ht : t < 10) (hu : u < 10) (hv : ewv true o o2 D V) : ewv true o o2 (dsS o (o + 6 + t) (o + 6 + u) k D) (dsS o2 (o2 + 6 + t) (o2 + 6 + u) k V) := by
  have g : ∀ {A B : mDt} (h : ewv true o o2 A B) {i : Nat} (_ : i < 10) {j : Nat} (_ : 1 ≤ j) (_ : j < 15), B (o2 + 6 + i) j = A (o + 6 + i) j := by
    intro A B h i hi j h1 h2
    exact h.1 i hi j h1 h2 (Or.inl rfl)
  have e8 := g hv ht (j := 8) (by decide) (by decide)
  have h1 := ewv_u hv (t := t) 8 (v := D (o + 6 + t) 8 - imin k (D (o + 6 + t) 8)) (w := V (o2 + 6 + t) 8 - imin k (V (o2 + 6 + t) 8)) (by rw [e8])
  have h2 := ewv_u h1 (t := u) 8 (v := upd2 D (o + 6 + t) 8 (D (o + 6 + t) 8 - imin k (D (o + 6 + t) 8)) (o + 6 + u) 8 + imin k (D (o + 6 + t) 8)) (w := upd2 V (o2 + 6 + t) 8 (V (o2 + 6 + t) 8 - imin k (V (o2 + 6 + t) 8)) (o2 + 6 + u) 8 + imin k (V (o2 + 6 + t) 8)) (by rw [g h1 hu (j := 8) (by decide) (by decide), e8])
  unfold dsS
  have h3 := ewv_u h2 (t := t) 3 (v := upd2 (upd2 D (o + 6 + t) 8 (D (o + 6 + t) 8 - imin k (D (o + 6 + t) 8))) (o + 6 + u) 8 (upd2 D (o + 6 + t) 8 (D (o + 6 + t) 8 - imin k (D (o + 6 + t) 8)) (o + 6 + u) 8 + imin k (D (o + 6 + t) 8)) (o + 6 + t) 3 - 2 * (k - imin k (D (o + 6 + t) 8))) (w := upd2 (upd2 V (o2 + 6 + t) 8 (V (o2 + 6 + t) 8 - imin k (V (o2 + 6 + t) 8))) (o2 + 6 + u) 8 (upd2 V (o2 + 6 + t) 8 (V (o2 + 6 + t) 8 - imin k (V (o2 + 6 + t) 8)) (o2 + 6 + u) 8 + imin k (V (o2 + 6 + t) 8)) (o2 + 6 + t) 3 - 2 * (k - imin k (V (o2 + 6 + t) 8))) (by rw [g h2 ht (j := 3) (by decide) (by decide), e8])
  exact ewv_u h3 (t := u) 3 (by rw [g h3 hu (j := 3) (by decide) (by decide), e8])
theorem dsD_ev {f g : Nat → Int32} {k : Nat} (hd : dOk f k) (h : ∀ z, z < k * 4 → g z = f z) (hc : c = true ∨ k = 0) (hv : ewv c o o2 D V) : ewv c o o2 (dsD o f D k) (dsD o2 g V k) := by
  rcases hc with rfl | rfl
  · have key : ∀ i, i ≤ k → ewv true o o2 (dsD o f D i) (dsD o2 g V i) := by
      intro i
      induction i with
      | zero => intro _; exact hv
      | succ i ih =>
        intro hi
        have h1 := hd.2 i (by omega)
        rw [dsD, dsD, h (i * 4 + 0) (by omega), h (i * 4 + 1) (by omega), h (i * 4 + 2) (by omega)]
        exact dsS_ev h1.1.1 h1.2.1 (ih (by omega))
    exact key k (Nat.le_refl _)
  · exact hv
theorem mvF_cg {F G : Nat → Int32} {m t i : Nat} (h : ∀ z, z < m * 4 → G z = F z) (hi : i < m) : ∀ z, z < m * 4 → mvF G t i z = mvF F t i z := by
  intro z hz
  unfold mvF
  split
  · exact h _ (by omega)
  · exact h z hz
theorem ageG_cg {f g : Nat → Int32} {m : Nat} (h : ∀ z, z < m * 4 → g z = f z) : ∀ i, i ≤ m → (ageG g i).2 = (ageG f i).2 ∧ ∀ z, z < m * 4 → (ageG g i).1 z = (ageG f i).1 z := by
  intro i
  induction i with
  | zero => intro _; exact ⟨rfl, h⟩
  | succ i ih =>
    intro hi
    obtain ⟨h1, h2⟩ := ih (by omega)
    have hu : ∀ z, z < m * 4 → upd (ageG g i).1 (i * 4 + 3) (f (i * 4 + 3) - 1) z = upd (ageG f i).1 (i * 4 + 3) (f (i * 4 + 3) - 1) z := fun z hz => by
      by_cases q : z = i * 4 + 3
      · subst q; simp [upd]
      · simp only [upd, q, if_false]; exact h2 z hz
    rw [ageG, ageG, h (i * 4 + 3) (by omega)]
    split
    · exact ⟨h1, hu⟩
    · exact ⟨by rw [h1], fun z hz => by show mvF _ _ _ z = mvF _ _ _ z; rw [h1]; exact mvF_cg hu (by omega) z hz⟩
end EV
