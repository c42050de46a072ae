/-! the two that the law holds against each other -/
def prI (t u bs dr dru m dd c n : Nat) (sh : mSh) (P : mPt) (D : mDt) : Prop := t + 78 ≤ u ∧ tdI t bs dr m dd c n sh P D ∧ tdI u bs dru m dd c n sh P D ∧ ev true (t + 2) (u + 2) m 0 D D
section PR2
variable {t u bs dr dru m dd c n : Nat} {sh : mSh} {P : mPt} {D D1 D2 D' : mDt}
theorem tdI_fr (h : tdI t bs dr m dd c n sh P D) (hD : ∀ a, t ≤ a → a < t + 62 → D' a = D a) : tdI t bs dr m dd c n sh P D' := ⟨h.1, h.2.1, h.2.2.1, h.2.2.2.1, by rw [hD t (by omega) (by omega)]; exact h.2.2.2.2.1, oI_fr h.2.2.2.2.2 (fun a a1 a2 => hD a (by omega) a2)⟩
theorem pr_askt (h : prI t u bs dr dru m dd c n sh P D) (hD : askFr t D D') : prI t u bs dr dru m dd c n sh P D' := by
  obtain ⟨h1, h2, h3, h4⟩ := h
  exact ⟨h1, tdI_ask h2 hD, tdI_fr h3 (fun a a1 a2 => hD.1 a (by omega)), ev_trans (ev_trans (ev_blk (fun a a1 a2 => (hD.1 a (by omega)).symm)) h4) (ev_blk (fun a a1 a2 => hD.1 a (by omega)))⟩
theorem pr_asku (h : prI t u bs dr dru m dd c n sh P D) (hD : askFr u D D') : prI t u bs dr dru m dd c n sh P D' := by
  obtain ⟨h1, h2, h3, h4⟩ := h
  exact ⟨h1, tdI_fr h2 (fun a a1 a2 => hD.1 a (by omega)), tdI_ask h3 hD, ev_trans (ev_trans (ev_blk (fun a a1 a2 => (hD.1 a (by omega)).symm)) h4) (ev_blk (fun a a1 a2 => hD.1 a (by omega)))⟩
theorem pr_draw (h : prI t u bs dr dru m dd c n sh P D) (x : Nat) : prI t u bs x dru m dd c n sh P (upd2 D t 2 (nI x)) := by
  obtain ⟨h1, h2, h3, h4⟩ := h
  exact ⟨h1, tdI_draw h2 x, tdI_fr h3 (fun a a1 a2 => upd2_ra (by omega)), ev_trans (ev_trans (ev_blk (fun a a1 a2 => (upd2_ra (by omega)).symm)) h4) (ev_blk (fun a a1 a2 => upd2_ra (by omega)))⟩
theorem tdI_tell {m' dd' c' : Nat} (h : tdI t bs dr m dd c n sh P D) (hD : ∀ a, (a < t + 2 ∨ t + 22 ≤ a) → D' a = D a) (g : gI (t + 2) 4 4 (rhoN 4) m' 0 D' dd' c') : tdI t bs dr m' dd' c' n sh P D' := ⟨h.1, h.2.1, h.2.2.1, h.2.2.2.1, by rw [hD t (by omega)]; exact h.2.2.2.2.1, oI_tell h.2.2.2.2.2 g (fun a a1 a2 => hD a (by omega))⟩
theorem pr_tell {m' dd' c' : Nat} (h : prI t u bs dr dru m dd c n sh P D) (h1 : ∀ a, (a < t + 2 ∨ t + 22 ≤ a) → D1 a = D a) (h2 : ∀ a, (a < u + 2 ∨ u + 22 ≤ a) → D2 a = D1 a) (g1 : gI (t + 2) 4 4 (rhoN 4) m' 0 D1 dd' c') (g2 : gI (u + 2) 4 4 (rhoN 4) m' 0 D2 dd' c') (e : ev true (t + 2) (u + 2) m' 0 D1 D2) : prI t u bs dr dru m' dd' c' n sh P D2 := by
  obtain ⟨q1, q2, q3, q4⟩ := h
  have a1 : tdI t bs dr m' dd' c' n sh P D1 := tdI_tell q2 h1 g1
  have b1 : tdI u bs dru m dd c n sh P D1 := tdI_fr q3 (fun a a1 a2 => h1 a (by omega))
  exact ⟨q1, tdI_fr a1 (fun a a1 a2 => h2 a (by omega)), tdI_tell b1 h2 g2, ev_trans (ev_blk (fun a a1 a2 => (h2 a (by omega)).symm)) e⟩
/-- the one oasis against the other, where only the first has changed yet -/
theorem pr_ev1 (h : prI t u bs dr dru m dd c n sh P D) (h1 : ∀ a, (a < t + 2 ∨ t + 22 ≤ a) → D1 a = D a) : ev true (t + 2) (u + 2) m 0 D D1 := ev_trans h.2.2.2 (ev_blk (fun a a1 a2 => h1 a (by have := h.1; omega)))
theorem pr_poll {a w : Nat} (h : prI t u bs dr dru m dd c n sh P D) (ha : a < 4) (h1 : 1 ≤ w) (h2 : w ≤ 200) : pollR (u + 2) a (nI w) (pollM (t + 2) a (nI w) D) = pollR (t + 2) a (nI w) D ∧ prI t u bs dr dru m dd (c + 1) n sh P (pollM (u + 2) a (nI w) (pollM (t + 2) a (nI w) D)) := by
  have hw : wP (nI w) 1 200 := wP_n (a := 1) (b := 200) h1 h2 (by decide)
  have o1 : ∀ b, (b < t + 2 ∨ t + 22 ≤ b) → pollM (t + 2) a (nI w) D b = D b := fun b hb => poll_out (by omega) (by omega)
  obtain ⟨e1, e2⟩ := poll_ev (pr_ev1 h o1) (show a < 10 by omega) (nI w)
  refine ⟨e1, pr_tell h o1 (fun b hb => poll_out (by omega) (by omega)) ?_ ?_ e2⟩
  · have := poll_gI h.2.1.2.2.2.2.2.2.2.1 (p := a) ha hw
    rw [rho4 ha] at this
    exact this
  · have g : gI (u + 2) 4 4 (rhoN 4) m 0 (pollM (t + 2) a (nI w) D) dd c := gI_blk h.2.2.1.2.2.2.2.2.2.2.1 (fun b b1 b2 => o1 b (by have := h.1; omega))
    have := poll_gI g (p := a) ha hw
    rw [rho4 ha] at this
    exact this
theorem pr_sell {a b w : Nat} (h : prI t u bs dr dru m dd c n sh P D) (hc : c ≤ 600) (ha : a < 4) (hb : b < 4) (hab : a ≠ b) (h1 : 1 ≤ w) (h2 : w ≤ 5040) : sellR (u + 2) a b m (nI w) (sellM (t + 2) a b m (nI w) D) = sellR (t + 2) a b m (nI w) D ∧ prI t u bs dr dru m dd (c + 1) n sh P (sellM (u + 2) a b m (nI w) (sellM (t + 2) a b m (nI w) D)) := by
  have hw : wP (nI w) 1 5040 := wP_n (a := 1) (b := 5040) h1 h2 (by decide)
  have o1 : ∀ x, (x < t + 2 ∨ t + 22 ≤ x) → sellM (t + 2) a b m (nI w) D x = D x := fun x hx => sell_out (by omega) (by omega) (by omega)
  obtain ⟨e1, e2⟩ := sell_ev (pr_ev1 h o1) (show a < 10 by omega) (show b < 10 by omega) (nI w)
  have hne : rhoN 4 a ≠ rhoN 4 b := by rw [rho4 ha, rho4 hb]; exact hab
  refine ⟨e1, pr_tell h o1 (fun x hx => sell_out (by omega) (by omega) (by omega)) ?_ ?_ e2⟩
  · have := sell_gI h.2.1.2.2.2.2.2.2.2.1 hc (p := a) (q := b) ha hb hne hw
    rw [rho4 ha, rho4 hb] at this
    exact this
  · have g : gI (u + 2) 4 4 (rhoN 4) m 0 (sellM (t + 2) a b m (nI w) D) dd c := gI_blk h.2.2.1.2.2.2.2.2.2.2.1 (fun x x1 x2 => o1 x (by have := h.1; omega))
    have := sell_gI g hc (p := a) (q := b) ha hb hne hw
    rw [rho4 ha, rho4 hb] at this
    exact this
theorem pr_lend {a b w : Nat} (h : prI t u bs dr dru m dd c n sh P D) (ha : a < 4) (hb : b < 4) (h1 : 1 ≤ w) (h2 : w ≤ 5040) (hm : m < 8) : prI t u bs dr dru (m + 1) dd (c + 1) n sh P (lendG (u + 2) a b m (nI w) 2 (lendG (t + 2) a b m (nI w) 2 D)) := by
  have hw : wP (nI w) 1 5040 := wP_n (a := 1) (b := 5040) h1 h2 (by decide)
  have hz : wP (2 : Int32) 1 20 := wP_n (d := 2) (a := 1) (b := 20) (by omega) (by omega) (by decide)
  have o1 : ∀ x, (x < t + 2 ∨ t + 22 ≤ x) → lendG (t + 2) a b m (nI w) 2 D x = D x := fun x hx => lendG_out (by omega)
  have g : gI (u + 2) 4 4 (rhoN 4) m 0 (lendG (t + 2) a b m (nI w) 2 D) dd c := gI_blk h.2.2.1.2.2.2.2.2.2.2.1 (fun x x1 x2 => o1 x (by have := h.1; omega))
  exact pr_tell h o1 (fun x hx => lendG_out (by omega)) (gI_lend h.2.1.2.2.2.2.2.2.2.1 ⟨liv4 ha, liv4 hb⟩ hw hz hm) (gI_lend g ⟨liv4 ha, liv4 hb⟩ hw hz hm) (lendG_ev (pr_ev1 h o1) a b (nI w) 2)
theorem pr_c {c' : Nat} (h : prI t u bs dr dru m dd c n sh P D) (hc : c ≤ c') : prI t u bs dr dru m dd c' n sh P D := by
  obtain ⟨h1, h2, h3, h4⟩ := h
  obtain ⟨a1, a2, a3, a4, a5, a6, a7, a8, a9⟩ := h2
  obtain ⟨b1, b2, b3, b4, b5, b6, b7, b8, b9⟩ := h3
  exact ⟨h1, ⟨a1, a2, a3, a4, a5, a6, a7, gI_c a8 hc, a9⟩, ⟨b1, b2, b3, b4, b5, b6, b7, gI_c b8 hc, b9⟩, h4⟩
/-- days go by: at once here, one by one there -/
theorem pr_pass {d : Nat} {x : Int32} (h : prI t u bs dr dru m dd c n sh P D) (hc : c ≤ 600) (hd : dd + d ≤ 2000) (hD1 : D1 = (daysD (t + 2) (rhoN 4) 4 x (D, m, 0) d).1) (hD2 : D2 = (daysD (u + 2) (rhoN 4) 4 x (D1, m, 0) d).1) : daysS (u + 2) (rhoN 4) 4 x (D1, m, 0) d = daysS (t + 2) (rhoN 4) 4 x (D, m, 0) d ∧ prI t u bs dr dru (daysD (t + 2) (rhoN 4) 4 x (D, m, 0) d).2.1 (dd + d) c n sh P D2 ∧ (daysD (u + 2) (rhoN 4) 4 x (D1, m, 0) d).2.1 = (daysD (t + 2) (rhoN 4) 4 x (D, m, 0) d).2.1 := by
  have gt := h.2.1.2.2.2.2.2.2.2.1
  have gu := h.2.2.1.2.2.2.2.2.2.2.1
  have o1 : ∀ a, (a < t + 2 ∨ t + 22 ≤ a) → D1 a = D a := fun a ha => by rw [hD1]; exact days_outD gt.1.1 (by omega) d
  have hu := h.1
  have gu1 : gI (u + 2) 4 4 (rhoN 4) m 0 D1 dd c := gI_blk gu (fun a a1 a2 => o1 a (by omega))
  have o2 : ∀ a, (a < u + 2 ∨ u + 22 ≤ a) → D2 a = D1 a := fun a ha => by rw [hD2]; exact days_outD gu1.1.1 (by omega) d
  have e1 := pr_ev1 h o1
  obtain ⟨f1, f2, f3⟩ := days_ev (x := x) (Or.inl rfl) gt.1.1 gu1.1.1 e1 d
  have k0 := f3 rfl
  have kt := gI_days (x := x) gt hc d hd
  have ku := gI_days (x := x) gu1 hc d hd
  rw [k0, ← hD1] at kt
  rw [f1, k0, ← hD2] at ku
  rw [k0, ← hD1, ← hD2] at f2
  exact ⟨daysS_ev (Or.inl rfl) gt.1.1 gu1.1.1 e1 d, pr_tell h o1 o2 kt ku f2, by rw [f1]⟩
end PR2
theorem i_as (a b : Int32) : a + (b - a) = b := by rw [Int32.add_comm, Int32.sub_add_cancel]
theorem i_sa (a b : Int32) : a + b - a = b := by rw [Int32.add_comm, Int32.add_sub_cancel]
