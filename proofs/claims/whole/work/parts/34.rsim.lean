/-! the reference holds what the class's block holds: its column j is the class's column clm j -/
def clm (j : Nat) : Nat := [2, 3, 4, 5, 6, 7, 8, 9, 10, 12, 13, 1].getD j 0
theorem clm_inj : ∀ i, i < 12 → ∀ j, j < 12 → clm i = clm j → i = j := by decide
theorem clm_ne : ∀ j, j < 12 → clm j ≠ 0 ∧ clm j ≠ 11 ∧ clm j ≠ 14 := by decide
/-- a row of the reference and a row of the class -/
def rwq (x g : Nat → Int32) : Prop := ∀ j, j < 12 → x j = g (clm j)
theorem rwq_upd {x g : Nat → Int32} (h : rwq x g) (j0 : Nat) (h0 : j0 < 12) {v v' : Int32} (hv : v = v') : rwq (upd x j0 v) (upd g (clm j0) v') := by
  subst hv
  intro j hj
  by_cases e : j = j0
  · subst e; simp [upd]
  · have : clm j ≠ clm j0 := fun q => e (clm_inj j hj j0 h0 q)
    simp [upd, e, this]; exact h j hj
theorem rwq_out {x g : Nat → Int32} (h : rwq x g) {c : Nat} (hc : c = 0 ∨ c = 11 ∨ c = 14) {v : Int32} : rwq x (upd g c v) := by
  intro j hj
  have := clm_ne j hj
  have : clm j ≠ c := by rcases hc with rfl | rfl | rfl <;> omega
  simp [upd, this]; exact h j hj
def rRows (o : Nat) (V : mDt) (r : Nat) (D : mDt) : Prop := ∀ i, i < 10 → rwq (D (r + 2 + i)) (V (o + 6 + i))
def rRow (L : Nat) (ρ : Nat → Nat) (r : Nat) (D : mDt) : Prop := ∀ p, p < L → D (r + 12) p = nI (ρ p)
def rLoans (o m : Nat) (V : mDt) (r : Nat) (lo : Nat → Nat) (D : mDt) : Prop := ∀ i, i < m → ∀ j, j < 4 → D (r + 14 + lo i) j = V (o + 17) (i * 4 + j)
def rSales (o k : Nat) (V : mDt) (r : Nat) (D : mDt) : Prop := ∀ i, i < k → ∀ j, j < 3 → D (r + 23 + i) j = V (o + 19) (i * 4 + j)
def rHd (o L e m k : Nat) (V : mDt) (r : Nat) (D : mDt) : Prop := D r 5 = nI e ∧ D r 6 = nI L ∧ D r 7 = nI m ∧ D r 8 = nI k ∧ D r 9 = V o 4 ∧ D r 10 = V (o + 1) 0 ∧ D r 11 = V (o + 1) 1 ∧ D r 12 = V (o + 1) 2 ∧ D r 13 = V (o + 1) 3
def rTot (o : Nat) (V : mDt) (r : Nat) (x y z : Int32) (D : mDt) : Prop := D r 14 = V o 5 + x ∧ D r 15 = V o 6 + y ∧ D r 16 = V o 7 + z
/-- the reference's oasis at r holds what V holds at o; x, y, z: what its three sums are ahead -/
def rSim (o L e : Nat) (ρ : Nat → Nat) (m k : Nat) (V : mDt) (r : Nat) (lo : Nat → Nat) (x y z : Int32) (D : mDt) : Prop := rRows o V r D ∧ rRow L ρ r D ∧ rLoans o m V r lo D ∧ rSales o k V r D ∧ rHd o L e m k V r D ∧ rTot o V r x y z D
section RL
variable {r : Nat} {lo : Nat → Nat} {sh : mSh} {P : mPt}
theorem R_s0 (h : rLay r lo sh P) : sh r = some (.inl 6) := h.1.1
theorem R_s1 (h : rLay r lo sh P) : sh (r + 1) = some (.inr (2, 10)) := h.1.2.1
theorem R_sw (h : rLay r lo sh P) {i : Nat} (hi : i < 10) : sh (r + 2 + i) = some (.inr (0, 12)) := h.1.2.2.1 i hi
theorem R_s12 (h : rLay r lo sh P) : sh (r + 12) = some (.inr (0, 10)) := h.1.2.2.2.1
theorem R_s13 (h : rLay r lo sh P) : sh (r + 13) = some (.inr (2, 8)) := h.1.2.2.2.2.1
theorem R_sl (h : rLay r lo sh P) {i : Nat} (hi : i < 8) : sh (r + 14 + i) = some (.inr (0, 4)) := h.1.2.2.2.2.2.1 i hi
theorem R_sL (h : rLay r lo sh P) {i : Nat} (hi : i < 8) : sh (r + 14 + lo i) = some (.inr (0, 4)) := h.1.2.2.2.2.2.1 _ (h.2.2.2.1 i hi)
theorem R_s22 (h : rLay r lo sh P) : sh (r + 22) = some (.inr (2, 8)) := h.1.2.2.2.2.2.2.1
theorem R_ss (h : rLay r lo sh P) {i : Nat} (hi : i < 8) : sh (r + 23 + i) = some (.inr (0, 3)) := h.1.2.2.2.2.2.2.2.1 i hi
theorem R_s31 (h : rLay r lo sh P) : sh (r + 31) = some (.inr (0, 10)) := h.1.2.2.2.2.2.2.2.2
theorem R_p0 (h : rLay r lo sh P) : P r 0 = some (r + 1) := h.2.1.1
theorem R_p1 (h : rLay r lo sh P) : P r 1 = some (r + 12) := h.2.1.2.1
theorem R_p2 (h : rLay r lo sh P) : P r 2 = some (r + 13) := h.2.1.2.2.1
theorem R_p3 (h : rLay r lo sh P) : P r 3 = some (r + 22) := h.2.1.2.2.2.1
theorem R_p4 (h : rLay r lo sh P) : P r 4 = some (r + 31) := h.2.1.2.2.2.2.1
theorem R_pw (h : rLay r lo sh P) {i : Nat} (hi : i < 10) : P (r + 1) i = some (r + 2 + i) := h.2.1.2.2.2.2.2.1 i hi
theorem R_ps (h : rLay r lo sh P) {i : Nat} (hi : i < 8) : P (r + 22) i = some (r + 23 + i) := h.2.1.2.2.2.2.2.2 i hi
theorem R_pl (h : rLay r lo sh P) {i : Nat} (hi : i < 8) : P (r + 13) i = some (r + 14 + lo i) := h.2.2.1 i hi
end RL
theorem rHd_of {o L e m k : Nat} {V : mDt} {r : Nat} {D D' : mDt} (h : rHd o L e m k V r D) (hD : D' r = D r) : rHd o L e m k V r D' := by
  unfold rHd; rw [hD]; exact h

