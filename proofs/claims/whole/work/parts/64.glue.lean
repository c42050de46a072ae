/-! what the law's loop holds -/
def lSt (b n : Nat) (sh : mSh) (P : mPt) : Prop := bLay b (b + 1) (b + 21) (b + 41) sh P ∧ sh (b + 61) = some (.inl 7) ∧ P (b + 61) 1 = some (b + 62) ∧ sh (b + 94) = some (.inr (3, 1)) ∧ b + 95 ≤ n
def lJ (b cn n : Nat) (sh : mSh) (P : mPt) (D : mDt) (L e : Nat) (ρ : Nat → Nat) (m k dd : Nat) (lo : Nat → Nat) : Prop := lSt b n sh P ∧ rLay (b + 62) lo sh P ∧ gI (b + 1) L e ρ m k D dd cn ∧ (∀ i, i < 10 → D (b + 21 + 6 + i) 0 = nI i) ∧ (∀ i, i < 10 → D (b + 41 + 6 + i) 0 = nI i) ∧ rSim (b + 1) L e ρ m k D (b + 62) lo 0 0 0 D
def lI (b cn n : Nat) (sh : mSh) (P : mPt) (D : mDt) : Prop := ∃ L e ρ m k dd lo, lJ b cn n sh P D L e ρ m k dd lo
theorem rSim_V {o L e : Nat} {ρ : Nat → Nat} {m k : Nat} {V V' : mDt} {r : Nat} {lo : Nat → Nat} {t1 t2 t3 : Int32} {D : mDt} (h : rSim o L e ρ m k V r lo t1 t2 t3 D) (hV : ∀ a, o ≤ a → a < o + 20 → V' a = V a) : rSim o L e ρ m k V' r lo t1 t2 t3 D := by
  obtain ⟨h1, h2, h3, h4, h5, h6⟩ := h
  refine ⟨fun i hi => by rw [hV _ (by omega) (by omega)]; exact h1 i hi, h2, fun i hi j hj => by rw [hV _ (by omega) (by omega)]; exact h3 i hi j hj, fun i hi j hj => by rw [hV _ (by omega) (by omega)]; exact h4 i hi j hj, ?_, ?_⟩
  · unfold rHd; rw [hV _ (by omega) (by omega), hV _ (by omega) (by omega)]; exact h5
  · unfold rTot; rw [hV _ (by omega) (by omega)]; exact h6
theorem bLay_of {b : Nat} {sh sh' : mSh} {P P' : mPt} (h : bLay b (b + 1) (b + 21) (b + 41) sh P) (hs : ∀ a, b ≤ a → a < b + 61 → sh' a = sh a) (hP : ∀ a, b ≤ a → a < b + 61 → P' a = P a) : bLay b (b + 1) (b + 21) (b + 41) sh' P' := by
  obtain ⟨h1, h2, h3, h4, h5, h6, h7, h8, h9⟩ := h
  refine ⟨by rw [hs _ (by omega) (by omega)]; exact h1, by rw [hP _ (by omega) (by omega)]; exact h2, by rw [hP _ (by omega) (by omega)]; exact h3, by rw [hP _ (by omega) (by omega)]; exact h4, mLay_of h5 (fun a a1 a2 => hs a (by omega) (by omega)) (fun a a1 a2 => hP a (by omega) (by omega)), mLay_of h6 (fun a a1 a2 => hs a (by omega) (by omega)) (fun a a1 a2 => hP a (by omega) (by omega)), mLay_of h7 (fun a a1 a2 => hs a (by omega) (by omega)) (fun a a1 a2 => hP a (by omega) (by omega)), h8, h9⟩
theorem lI_next {b cn n n2 : Nat} {sh sh2 : mSh} {P P2 : mPt} {D1 D2 : mDt} {L e : Nat} {ρ : Nat → Nat} {m k dd : Nat} {lo2 : Nat → Nat} (hs : lSt b n sh P) (hn : n ≤ n2) (hsh : ∀ a, a < n → sh2 a = sh a) (hP : ∀ a, a < n → a ≠ b + 62 + 13 → P2 a = P a) (hL : rLay (b + 62) lo2 sh2 P2) (hD : ∀ a, a < n → (a < b + 61 ∨ b + 62 + 32 ≤ a) → D2 a = D1 a) (hG : gI (b + 1) L e ρ m k D1 dd cn) (h2 : ∀ i, i < 10 → D1 (b + 21 + 6 + i) 0 = nI i) (h3 : ∀ i, i < 10 → D1 (b + 41 + 6 + i) 0 = nI i) (hR : rSim (b + 1) L e ρ m k D1 (b + 62) lo2 0 0 0 D2) : lI b cn n2 sh2 P2 D2 := by
  obtain ⟨s1, s2, s3, s4, s5⟩ := hs
  have hb : ∀ a, b + 1 ≤ a → a < b + 1 + 20 → D2 a = D1 a := fun a a1 a2 => hD a (by omega) (by omega)
  refine ⟨L, e, ρ, m, k, dd, lo2, ⟨bLay_of s1 (fun a a1 a2 => hsh a (by omega)) (fun a a1 a2 => hP a (by omega) (by omega)), by rw [hsh _ (by omega)]; exact s2, by rw [hP _ (by omega) (by omega)]; exact s3, by rw [hsh _ (by omega)]; exact s4, by omega⟩, hL, gI_blk hG hb, fun i hi => by rw [hD _ (by omega) (by omega)]; exact h2 i hi, fun i hi => by rw [hD _ (by omega) (by omega)]; exact h3 i hi, rSim_V hR hb⟩
theorem l_ok {c2 c3 th : Int32} {g1 g2 g3 OK SAME : Prop} (h : g1 ∧ g2 ∧ g3) (hB : rOut c2 c3 g1 g2 g3 th OK SAME) : th = 0 ∧ OK := by
  obtain ⟨a1, a2, a3⟩ := h
  rcases hB with ⟨b1, -⟩ | ⟨-, b2, -⟩ | ⟨-, -, b3, -⟩ | ⟨-, -, -, b4, b5⟩
  · exact absurd a1 b1
  · exact absurd a2 b2
  · exact absurd a3 b3
  · exact ⟨b4, b5⟩
theorem l_no {kk c2 c3 th : Int32} {cd : String → Int32} {g1 g2 g3 OK SAME : Prop} {X : String} (hcd1 : ¬ g1 → cd xI = 1) (hcd2 : cd xA = c2) (hcd3 : ¬ g3 → cd xS = c3) (h20 : c2 ≠ 0) (h30 : c3 ≠ 0) (hX : Kx g1 g2 g3 X) (kX : kk = cd X) (hB : rOut c2 c3 g1 g2 g3 th OK SAME) : kk = th ∧ kk ≠ 0 ∧ SAME := by
  rcases hX with ⟨rfl, x1⟩ | ⟨rfl, x1, x2⟩ | ⟨rfl, x1, x2, x3⟩
  · rcases hB with ⟨b1, b2, b3⟩ | ⟨b1, -⟩ | ⟨b1, -⟩ | ⟨b1, -⟩
    · rw [hcd1 x1] at kX
      exact ⟨kX.trans b2.symm, by rw [kX]; decide, b3⟩
    · exact absurd b1 x1
    · exact absurd b1 x1
    · exact absurd b1 x1
  · rcases hB with ⟨b1, -⟩ | ⟨-, b1, b2, b3⟩ | ⟨-, b1, -⟩ | ⟨-, b1, -⟩
    · exact absurd x1 b1
    · rw [hcd2] at kX
      exact ⟨kX.trans b2.symm, by rw [kX]; exact h20, b3⟩
    · exact absurd b1 x2
    · exact absurd b1 x2
  · rcases hB with ⟨b1, -⟩ | ⟨-, b1, -⟩ | ⟨-, -, b1, b2, b3⟩ | ⟨-, -, b1, -⟩
    · exact absurd x1 b1
    · exact absurd x2 b1
    · rw [hcd3 x3] at kX
      exact ⟨kX.trans b2.symm, by rw [kX]; exact h30, b3⟩
    · exact absurd b1 x3
theorem Kx_AS {g2 g3 : Prop} : ∀ X, Kx True g2 g3 X → X = xA ∨ X = xS := by
  rintro X (⟨-, h⟩ | ⟨h, -⟩ | ⟨h, -⟩)
  · exact absurd trivial h
  · exact Or.inl h
  · exact Or.inr h
theorem Kx_A {g2 : Prop} : ∀ X, Kx True g2 True X → X = xA := by
  rintro X (⟨-, h⟩ | ⟨h, -⟩ | ⟨-, -, -, h⟩)
  · exact absurd trivial h
  · exact h
  · exact absurd trivial h
theorem Kx_IA {g1 g2 : Prop} : ∀ X, Kx g1 g2 True X → X = xI ∨ X = xA := by
  rintro X (⟨h, -⟩ | ⟨h, -⟩ | ⟨-, -, -, h⟩)
  · exact Or.inl h
  · exact Or.inr h
  · exact absurd trivial h
theorem Kx_IAS {g1 g2 g3 : Prop} : ∀ X, Kx g1 g2 g3 X → X = xI ∨ X = xA ∨ X = xS := by
  rintro X (⟨h, -⟩ | ⟨h, -⟩ | ⟨h, -⟩)
  · exact Or.inl h
  · exact Or.inr (Or.inl h)
  · exact Or.inr (Or.inr h)
theorem updE_at {E : mEt} {a k : Nat} {x : Int64} : updE E a k x a k = x := by simp [updE]
/-- the cells beyond the oasis stay -/
def fR (b : Nat) (D D1 : mDt) : Prop := ∀ a, (a < b + 1 ∨ b + 21 ≤ a) → D1 a = D a
theorem rLay_lo {r : Nat} {lo : Nat → Nat} {sh : mSh} {P : mPt} (h : rLay r lo sh P) : ∀ i, i < 8 → lo i < 8 := h.2.2.2.1
section LJ
variable {b cn n n2 : Nat} {sh sh2 : mSh} {P P2 : mPt} {D D1 D2 : mDt} {L e : Nat} {ρ : Nat → Nat} {m k dd : Nat} {lo lo2 : Nat → Nat} {E E1 : mEt}
theorem lJ_mid (h : lJ b cn n sh P D L e ρ m k dd lo) (fr : ∀ a, b + 61 ≤ a → D1 a = D a) : rSim (b + 1) L e ρ m k D (b + 62) lo 0 0 0 D1 := rSim_fr h.2.2.2.2.2 h.2.2.1.1.1.2.2.2.1.1 h.2.2.1.1.1.2.2.2.2.2.1 (rLay_lo h.2.1) (fun a a1 a2 => fr a (by omega))
theorem lJ_cI (h : lJ b cn n sh P D L e ρ m k dd lo) : cI (b + 1) L e ρ m k D := h.2.2.1.1
theorem lJ_bL (h : lJ b cn n sh P D L e ρ m k dd lo) : bLay b (b + 1) (b + 21) (b + 41) sh P := h.1.1
end LJ
