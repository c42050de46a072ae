section GI6
variable {o L e m k dd cn : Nat} {ρ : Nat → Nat} {V V' : mDt}
theorem liv_nb {x : Int32} (h : livP L ρ x) (hρ : ∀ p, p < L → ρ p < 10) : ∃ p, p < L ∧ x = nI (ρ p) ∧ numb o x = o + 6 + ρ p := by
  obtain ⟨q, hq, rfl⟩ := h
  exact ⟨q, hq, rfl, numb_nI (hρ q hq)⟩
theorem gI_rho (h : gI o L e ρ m k V dd cn) : ∀ p, p < L → ρ p < 10 := fun p hp => (h.1.1.1.2.2 p hp).1
theorem gI_sellN {x y w cc : Int32} (h : gI o L e ρ m k V dd cn) (hc : cn ≤ 600) (hl : livP L ρ x ∧ livP L ρ y) (hg : ¬ x = y ∧ wP w 1 5040 ∧ wP cc 0 9999) : gI o L e ρ m k (if w ≤ V (numb o x) 2 - amtF (V (o + 17)) 0 x m then if cc ≤ V (numb o y) 3 then moveD 2 (numb o x) (numb o y) w cc V else V else V) dd (cn + 1) := by
  obtain ⟨p, hp, ex, nx⟩ := liv_nb (o := o) hl.1 (gI_rho h)
  obtain ⟨p2, hp2, ey, ny⟩ := liv_nb (o := o) hl.2 (gI_rho h)
  have hne : ρ p ≠ ρ p2 := fun z => hg.1 (by rw [ex, ey, z])
  split
  · rename_i h1
    split
    · rw [nx] at h1
      rw [nx, ny]
      exact gI_sell h hc hp hp2 hne hg.2.1 hg.2.2 h1
    · exact gI_c h (Nat.le_succ _)
  · exact gI_c h (Nat.le_succ _)
theorem gI_pollenN {x y w : Int32} (h : gI o L e ρ m k V dd cn) (hc : cn ≤ 600) (hl : livP L ρ x ∧ livP L ρ y) (hg : ¬ x = y ∧ wP w 1 200) : gI o L e ρ m k (if w ≤ V (numb o y) 3 then if w ≤ V (numb o x) 5 * 20 + V (numb o x) 10 - V (numb o x) 9 then moveD 10 (numb o x) (numb o y) w w V else V else V) dd (cn + 1) := by
  obtain ⟨p, hp, ex, nx⟩ := liv_nb (o := o) hl.1 (gI_rho h)
  obtain ⟨p2, hp2, ey, ny⟩ := liv_nb (o := o) hl.2 (gI_rho h)
  have hne : ρ p ≠ ρ p2 := fun z => hg.1 (by rw [ex, ey, z])
  split
  · split
    · rw [nx, ny]
      exact gI_pollen h hc hp hp2 hne hg.2
    · exact gI_c h (Nat.le_succ _)
  · exact gI_c h (Nat.le_succ _)
theorem gI_pollinateN {x w : Int32} (h : gI o L e ρ m k V dd cn) (hl : livP L ρ x) (hg : wP w 1 200) : gI o L e ρ m k (if rm70 (V o 4) ≤ 13 then if V (numb o x) 9 + w ≤ V (numb o x) 4 then if V (numb o x) 9 + w ≤ V (numb o x) 5 * 20 + V (numb o x) 10 then upd2 V (numb o x) 9 (V (numb o x) 9 + w) else V else V else V) dd (cn + 1) := by
  obtain ⟨p, hp, ex, nx⟩ := liv_nb (o := o) hl (gI_rho h)
  split
  · split
    · rename_i h1
      split
      · rw [nx] at h1
        rw [nx]
        exact gI_pollinate h hp hg h1
      · exact gI_c h (Nat.le_succ _)
    · exact gI_c h (Nat.le_succ _)
  · exact gI_c h (Nat.le_succ _)
theorem pay19 {x y cc : Int32} (hl : livP L ρ x ∧ livP L ρ y) (hρ : ∀ p, p < L → ρ p < 10) : payB (numb o x) (numb o y) cc V (o + 19) = V (o + 19) := by
  obtain ⟨p, hp, ex, nx⟩ := liv_nb (o := o) hl.1 hρ
  obtain ⟨p2, hp2, ey, ny⟩ := liv_nb (o := o) hl.2 hρ
  have h1 := hρ p hp
  have h2 := hρ p2 hp2
  rw [nx, ny]
  exact payB_o (by omega) (by omega)
theorem gI_aheadN {x y w cc : Int32} (h : gI o L e ρ m k V dd cn) (hc : cn ≤ 600) (hl : livP L ρ x ∧ livP L ρ y) (hg : ¬ x = y ∧ wP w 1 999 ∧ wP cc 0 9999) (hk : k < 8) : gI o L e ρ m (k + 1) (upd2 (setRow (payB (numb o x) (numb o y) cc V) (o + 19) (addF (V (o + 19)) k x y w 0)) (o + 18) 1 (nI (k + 1))) dd (cn + 1) := by
  obtain ⟨p, hp, ex, nx⟩ := liv_nb (o := o) hl.1 (gI_rho h)
  obtain ⟨p2, hp2, ey, ny⟩ := liv_nb (o := o) hl.2 (gI_rho h)
  have hne : ρ p ≠ ρ p2 := fun z => hg.1 (by rw [ex, ey, z])
  have h1 := gI_payB (w := cc) h hc hp hp2 hne hg.2.2
  rw [← nx, ← ny] at h1
  have h2 := gI_ahead (z := 0) h1 hl hg.2.1 hk
  rw [pay19 hl (gI_rho h)] at h2
  exact h2
theorem fR_addD {w cc p mm : Int32} {b : Nat} (he : e < 10) : fR b V (addD (b + 1) e L w cc p mm V) := fun a ha => addD_ra (by omega) (by omega) (by omega)
theorem fR_moveD {b j a0 b0 : Nat} {w cc : Int32} (h1 : b + 1 ≤ a0 ∧ a0 < b + 21) (h2 : b + 1 ≤ b0 ∧ b0 < b + 21) : fR b V (moveD j a0 b0 w cc V) := fun a ha => by rw [moveD, setRow_ne (by omega), setRow_ne (by omega)]
theorem fR_payB {b a0 b0 : Nat} {cc : Int32} (h1 : b + 1 ≤ a0 ∧ a0 < b + 21) (h2 : b + 1 ≤ b0 ∧ b0 < b + 21) : fR b V (payB a0 b0 cc V) := fun a ha => payB_o (by omega) (by omega)
theorem fR_upd2 {b a0 j : Nat} {v : Int32} (h : fR b V V') (h1 : b + 1 ≤ a0 ∧ a0 < b + 21) : fR b V (upd2 V' a0 j v) := fun a ha => by rw [upd2_ra (by omega)]; exact h a ha
theorem fR_setRow {b a0 : Nat} {f : Nat → Int32} (h : fR b V V') (h1 : b + 1 ≤ a0 ∧ a0 < b + 21) : fR b V (setRow V' a0 f) := fun a ha => by rw [setRow_ne (by omega)]; exact h a ha
theorem fR_rfl {b : Nat} : fR b V V := fun _ _ => rfl
theorem fR_numb {b : Nat} (x : Int32) : b + 1 ≤ numb (b + 1) x ∧ numb (b + 1) x < b + 21 := by
  have := numb_rng (b + 1) x; omega
theorem fR_payD {b : Nat} {x : Int32} (hρ : ∀ p, p < L → ρ p < 10) (h0 : 0 < rsum (fun p => V (b + 1 + 6 + ρ p) 2) L) : fR b V (payD (b + 1) ρ L x V) := fun a ha => by
  have hL : 0 < L := by
    rcases Nat.eq_zero_or_pos L with z | z
    · subst z; exact absurd (show (0 : Int32) < 0 from h0) (by decide)
    · exact z
  have := hρ 0 hL
  rw [payD, upd2_ra (by omega), mapD_row (by omega) hρ]
theorem lSt_up {b n n1 : Nat} {sh : mSh} {P : mPt} (h : lSt b n sh P) (hn : n ≤ n1) : lSt b n1 sh P := ⟨h.1, h.2.1, h.2.2.1, h.2.2.2.1, Nat.le_trans h.2.2.2.2 hn⟩
end GI6
