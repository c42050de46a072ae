/-! the place of an Oasis of the class: twenty cells from o on -/
def mLay (o : Nat) (sh : mSh) (P : mPt) : Prop := sh o = some (.inl 2) ∧ sh (o + 1) = some (.inl 0) ∧ sh (o + 2) = some (.inl 4) ∧ sh (o + 3) = some (.inr (1, 10)) ∧ sh (o + 4) = some (.inr (0, 10)) ∧ sh (o + 5) = some (.inl 3) ∧ (∀ i, i < 10 → sh (o + 6 + i) = some (.inl 3)) ∧ sh (o + 16) = some (.inl 1) ∧ sh (o + 17) = some (.inr (0, 32)) ∧ sh (o + 18) = some (.inl 1) ∧ sh (o + 19) = some (.inr (0, 32)) ∧ P o 0 = some (o + 1) ∧ P o 1 = some (o + 2) ∧ P o 2 = some (o + 16) ∧ P o 3 = some (o + 18) ∧ P (o + 2) 0 = some (o + 3) ∧ P (o + 2) 1 = some (o + 4) ∧ P (o + 2) 2 = some (o + 5) ∧ (∀ i, i < 10 → P (o + 3) i = some (o + 6 + i)) ∧ P (o + 16) 0 = some (o + 17) ∧ P (o + 18) 0 = some (o + 19)
section LAY
variable {o : Nat} {sh : mSh} {P : mPt}
theorem L_s0 (h : mLay o sh P) : sh o = some (.inl 2) := h.1
theorem L_s1 (h : mLay o sh P) : sh (o + 1) = some (.inl 0) := h.2.1
theorem L_s2 (h : mLay o sh P) : sh (o + 2) = some (.inl 4) := h.2.2.1
theorem L_s3 (h : mLay o sh P) : sh (o + 3) = some (.inr (1, 10)) := h.2.2.2.1
theorem L_s4 (h : mLay o sh P) : sh (o + 4) = some (.inr (0, 10)) := h.2.2.2.2.1
theorem L_s5 (h : mLay o sh P) : sh (o + 5) = some (.inl 3) := h.2.2.2.2.2.1
theorem L_sw (h : mLay o sh P) {i : Nat} (hi : i < 10) : sh (o + 6 + i) = some (.inl 3) := h.2.2.2.2.2.2.1 i hi
theorem L_s16 (h : mLay o sh P) : sh (o + 16) = some (.inl 1) := h.2.2.2.2.2.2.2.1
theorem L_s17 (h : mLay o sh P) : sh (o + 17) = some (.inr (0, 32)) := h.2.2.2.2.2.2.2.2.1
theorem L_s18 (h : mLay o sh P) : sh (o + 18) = some (.inl 1) := h.2.2.2.2.2.2.2.2.2.1
theorem L_s19 (h : mLay o sh P) : sh (o + 19) = some (.inr (0, 32)) := h.2.2.2.2.2.2.2.2.2.2.1
theorem L_p0 (h : mLay o sh P) : P o 0 = some (o + 1) := h.2.2.2.2.2.2.2.2.2.2.2.1
theorem L_p1 (h : mLay o sh P) : P o 1 = some (o + 2) := h.2.2.2.2.2.2.2.2.2.2.2.2.1
theorem L_p2 (h : mLay o sh P) : P o 2 = some (o + 16) := h.2.2.2.2.2.2.2.2.2.2.2.2.2.1
theorem L_p3 (h : mLay o sh P) : P o 3 = some (o + 18) := h.2.2.2.2.2.2.2.2.2.2.2.2.2.2.1
theorem L_q0 (h : mLay o sh P) : P (o + 2) 0 = some (o + 3) := h.2.2.2.2.2.2.2.2.2.2.2.2.2.2.2.1
theorem L_q1 (h : mLay o sh P) : P (o + 2) 1 = some (o + 4) := h.2.2.2.2.2.2.2.2.2.2.2.2.2.2.2.2.1
theorem L_q2 (h : mLay o sh P) : P (o + 2) 2 = some (o + 5) := h.2.2.2.2.2.2.2.2.2.2.2.2.2.2.2.2.2.1
theorem L_qw (h : mLay o sh P) {i : Nat} (hi : i < 10) : P (o + 3) i = some (o + 6 + i) := h.2.2.2.2.2.2.2.2.2.2.2.2.2.2.2.2.2.2.1 i hi
theorem L_p16 (h : mLay o sh P) : P (o + 16) 0 = some (o + 17) := h.2.2.2.2.2.2.2.2.2.2.2.2.2.2.2.2.2.2.2.1
theorem L_p18 (h : mLay o sh P) : P (o + 18) 0 = some (o + 19) := h.2.2.2.2.2.2.2.2.2.2.2.2.2.2.2.2.2.2.2.2
end LAY
def rsum (f : Nat → Int32) : Nat → Int32
  | 0 => 0
  | k + 1 => rsum f k + f k
/-- the row of the living: L of them, at the place p the owner of number ρ p -/
def pOk (o L : Nat) (ρ : Nat → Nat) (D : mDt) : Prop := D (o + 2) 4 = nI L ∧ L ≤ 10 ∧ ∀ p, p < L → ρ p < 10 ∧ D (o + 4) p = nI (ρ p)
def numb (o : Nat) (x : Int32) : Nat := if 0 ≤ x ∧ x < 10 then o + 6 + x.toNatClampNeg else o + 5
theorem numb_nI {o i : Nat} (h : i < 10) : numb o (nI i) = o + 6 + i := by
  unfold numb
  rw [if_pos ⟨nI_pos' (by omega), nI_lt (a := i) (b := 10) h (by decide)⟩, nI_clamp (by omega)]
