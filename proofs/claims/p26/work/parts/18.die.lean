def inhD (o e t : Nat) (x y : Int32) (D : mDt) : Nat → mDt
  | 0 => D
  | k + 1 => setRow (inhD o e t x y D k) (o + 6 + (e + k)) (inhX (inhD o e t x y D k (o + 6 + t)) x y (nI k) (inhD o e t x y D k (o + 6 + (e + k))))
theorem inhD_out {o e t : Nat} {x y : Int32} {D : mDt} {k a : Nat} (h : ∀ i, i < k → a ≠ o + 6 + (e + i)) : inhD o e t x y D k a = D a := by
  induction k with
  | zero => rfl
  | succ k ih =>
    rw [inhD, setRow_ne (h k (Nat.lt_succ_self k))]
    exact ih (fun p hp => h p (Nat.lt_succ_of_lt hp))
theorem inhD_in {o e t : Nat} (hte : t < e) {x y : Int32} {D : mDt} {k i : Nat} (hi : i < k) : inhD o e t x y D k (o + 6 + (e + i)) = inhX (D (o + 6 + t)) x y (nI i) (D (o + 6 + (e + i))) := by
  induction k with
  | zero => omega
  | succ k ih =>
    rw [inhD]
    by_cases h : i = k
    · subst h
      rw [setRow_eq, inhD_out (fun j hj => by omega), inhD_out (fun j hj => by omega)]
    · rw [setRow_ne (by omega)]
      exact ih (by omega)
def dieOk (o q h e : Nat) (x y : Int32) (L : Nat) (ρ : Nat → Nat) (m k : Nat) (D D' : mDt) : Prop := D' (o + 2) 4 = nI (L + h - 1) ∧ D' (o + 2) 3 = nI (e + h) ∧ (∀ p, p < L + h - 1 → D' (o + 4) p = nI (heirRow ρ q h e p)) ∧ (∀ i, i < h → D' (o + 6 + (e + i)) = inhX (upd (D (o + 6 + ρ q)) 1 0) x y (nI i) (upd (D (o + 6 + (e + i))) 1 1)) ∧ D' (o + 6 + ρ q) = upd (D (o + 6 + ρ q)) 1 0 ∧ (∀ i, i < 10 → i ≠ ρ q → (i < e ∨ e + h ≤ i) → D' (o + 6 + i) = D (o + 6 + i)) ∧ (∃ k2, k2 ≤ m ∧ D' (o + 16) 1 = nI k2 ∧ dls (D' (o + 17)) k2 = (dls (D (o + 17)) m).filterMap (endR (nI (ρ q)))) ∧ D' (o + 18) 1 = nI k ∧ dls (D' (o + 19)) k = (dls (D (o + 19)) k).map (passR (nI (ρ q)) (nI e)) ∧ ∀ a, (a < o ∨ o + 20 ≤ a ∨ a = o ∨ a = o + 1 ∨ a = o + 5) → D' a = D a
theorem livD_row {o e : Nat} {D : mDt} {k i : Nat} (hi : i < k) : livD o e D k (o + 6 + (e + i)) = upd (D (o + 6 + (e + i))) 1 1 := by
  funext j
  by_cases h : j = 1
  · subst h
    rw [livD_in hi]; simp [upd]
  · rw [livD_0 h]; simp [upd, h]
theorem die_ok {o q h e : Nat} {x y : Int32} {L : Nat} {ρ : Nat → Nat} {m k k2 : Nat} {D D1 D3 D4 : mDt} {g g2 g3 : Nat → Int32} (hq : ρ q < e) (he : e + h ≤ 10)
    (e1 : D1 = upd2 (upd2 (upd2 (setRow (livD o e D h) (o + 4) g) (o + 6 + ρ q) 1 0) (o + 2) 4 (nI (L + h - 1))) (o + 2) 3 (nI (e + h))) (hg : ∀ p, p < L + h - 1 → g p = nI (heirRow ρ q h e p))
    (hk2 : k2 ≤ m) (e3 : D3 = upd2 (setRow (inhD o e (ρ q) x y D1 h) (o + 17) g2) (o + 16) 1 (nI k2)) (hg2 : dls g2 k2 = (dls (inhD o e (ρ q) x y D1 h (o + 17)) m).filterMap (endR (nI (ρ q))))
    (e4 : D4 = setRow D3 (o + 19) g3) (hg3 : dls g3 k = (dls (D3 (o + 19)) k).map (passR (nI (ρ q)) (nI e))) (h18 : D (o + 18) 1 = nI k) : dieOk o q h e x y L ρ m k D D4 := by
  have hd : D1 (o + 6 + ρ q) = upd (D (o + 6 + ρ q)) 1 0 := by
    rw [e1, upd2_ra (by omega), upd2_ra (by omega), upd2_row, setRow_ne (by omega), livD_out (fun i hi => by omega)]
  have hh : ∀ i, i < h → D1 (o + 6 + (e + i)) = upd (D (o + 6 + (e + i))) 1 1 := fun i hi => by
    rw [e1, upd2_ra (by omega), upd2_ra (by omega), upd2_ra (by omega), setRow_ne (by omega), livD_row hi]
  have a1 : ∀ a, a ≠ o + 2 → a ≠ o + 4 → (a < o + 6 ∨ o + 16 ≤ a) → D1 a = D a := fun a h1 h2 h3 => by
    rw [e1, upd2_ra h1, upd2_ra h1, upd2_ra (by omega), setRow_ne h2, livD_out (fun i hi => by omega)]
  have a2 : ∀ a, (a < o + 6 ∨ o + 16 ≤ a) → inhD o e (ρ q) x y D1 h a = D1 a := fun a h1 => inhD_out (fun i hi => by omega)
  have a3 : ∀ a, a ≠ o + 16 → a ≠ o + 17 → D3 a = inhD o e (ρ q) x y D1 h a := fun a h1 h2 => by rw [e3, upd2_ra h1, setRow_ne h2]
  have a4 : ∀ a, a ≠ o + 19 → D4 a = D3 a := fun a h1 => by rw [e4, setRow_ne h1]
  refine ⟨?_, ?_, fun p hp => ?_, fun i hi => ?_, ?_, fun i h10 hn hi => ?_, ⟨k2, hk2, ?_, ?_⟩, ?_, ?_, fun a ha => ?_⟩
  · rw [a4 _ (by omega), a3 _ (by omega) (by omega), a2 _ (by omega), e1, upd2_nk (by decide), upd2_eq]
  · rw [a4 _ (by omega), a3 _ (by omega) (by omega), a2 _ (by omega), e1, upd2_eq]
  · rw [a4 _ (by omega), a3 _ (by omega) (by omega), a2 _ (by omega), e1, upd2_na (by omega), upd2_na (by omega), upd2_na (by omega), setRow_eq]; exact hg p hp
  · rw [a4 _ (by omega), a3 _ (by omega) (by omega), inhD_in hq hi, hd, hh i hi]
  · rw [a4 _ (by omega), a3 _ (by omega) (by omega), inhD_out (fun i hi => by omega), hd]
  · rw [a4 _ (by omega), a3 _ (by omega) (by omega), inhD_out (fun j hj => by omega), e1, upd2_ra (by omega), upd2_ra (by omega), upd2_ra (by omega), setRow_ne (by omega), livD_out (fun j hj => by omega)]
  · rw [a4 _ (by omega), e3, upd2_eq]
  · rw [a4 _ (by omega), e3, upd2_ra (by omega), setRow_eq, hg2, a2 _ (by omega), a1 _ (by omega) (by omega) (by omega)]
  · rw [a4 _ (by omega), a3 _ (by omega) (by omega), a2 _ (by omega), a1 _ (by omega) (by omega) (by omega), h18]
  · rw [e4, setRow_eq, hg3, a3 _ (by omega) (by omega), a2 _ (by omega), a1 _ (by omega) (by omega) (by omega)]
  · rw [a4 _ (by omega), a3 _ (by omega) (by omega), a2 _ (by omega), a1 _ (by omega) (by omega) (by omega)]
