theorem rsum_le {F : Nat → Int32} {b : Nat} {n : Nat} (h : ∀ p, p < n → ∃ v, v ≤ b ∧ F p = nI v) : ∃ a, a ≤ b * n ∧ rsum F n = nI a := by
  induction n with
  | zero => exact ⟨0, by omega, rfl⟩
  | succ n ih =>
    obtain ⟨a, h1, h2⟩ := ih (fun p hp => h p (Nat.lt_succ_of_lt hp))
    obtain ⟨v, h3, h4⟩ := h n (Nat.lt_succ_self n)
    exact ⟨a + v, by rw [Nat.mul_succ]; omega, by rw [rsum, h2, h4, nI_add]⟩
theorem mean_ok {F : Nat → Int32} {n : Nat} (h : ∀ p, p < n → ∃ v, v ≤ 99 ∧ F p = nI v) (hn : n ≤ 10) (h0 : 0 < n) : vf_n64 (FP.ddiv (FP.i2d (rsum F n)) (FP.i2d (nI n))) := by
  obtain ⟨a, h1, h2⟩ := rsum_le h
  obtain ⟨b, rfl⟩ : ∃ b, n = b + 1 := ⟨n - 1, by omega⟩
  rw [h2]
  exact fp_ok a (by omega) b (by omega)
