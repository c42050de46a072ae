/-! two that are told alike stay alike; what would be, said of the oasis itself -/
theorem fresh_ev {o u : Nat} {D V : mDt} (h1 : freshD o D) (h2 : freshD u V) : ev true o u 0 0 D V := by
  obtain ⟨a0, a1, a2, a4, a5, a6, -⟩ := h1
  obtain ⟨b0, b1, b2, b4, b5, b6, -⟩ := h2
  exact ⟨⟨fun i hi j _ _ _ => by rw [a6 i hi, b6 i hi], fun j _ _ => by rw [a0, b0]⟩, fun j _ => by rw [a1, b1], fun z hz => absurd hz (by omega), fun z hz => absurd hz (by omega), by rw [a2, b2]⟩
section PRS
variable {o u m k : Nat} {D V : mDt}
theorem settle_rq {w c p mm : Int32} {x y : Nat → Int32} (h : rqv true x y) : rqv true (settleX w c p mm x) (settleX w c p mm y) := by
  unfold settleX
  exact rqv_upd (rqv_upd (rqv_upd (rqv_upd (rqv_upd h 2 rfl) 3 rfl) 4 rfl) 5 rfl) 6 rfl
theorem add_ev {e : Nat} {w c p mm : Int32} (h : ev true o u 0 0 D V) (he : e < 10) : ev true o u 0 0 (addD o e e w c p mm D) (addD u e e w c p mm V) := by
  refine ⟨?_, fun j hj => ?_, fun z hz => absurd hz (by omega), fun z hz => absurd hz (by omega), ?_⟩
  · have h1 := ewv_row h.1 (t := e) (rqv_upd (settle_rq (w := w) (c := c) (p := p) (mm := mm) (ewv_rq h.1 he)) 1 (v := 1) (w := 1) rfl)
    unfold addD
    exact ewv_of h1 (fun i hi => by rw [upd2_ra (by omega), upd2_ra (by omega), upd2_ra (by omega)]) (by rw [upd2_ra (by omega), upd2_ra (by omega), upd2_ra (by omega)]) (fun i hi => by rw [upd2_ra (by omega), upd2_ra (by omega), upd2_ra (by omega)]) (by rw [upd2_ra (by omega), upd2_ra (by omega), upd2_ra (by omega)])
  · rw [addD_ra (by omega) (by omega) (by omega), addD_ra (by omega) (by omega) (by omega)]; exact h.2.1 j hj
  · rw [addD_23, addD_23]
theorem tell_ev {Ls dr : Nat} {xs : Nat → Int32} (h : ev true o u 0 0 D V) : ∀ i, i ≤ 10 → ev true o u 0 0 (tellD o Ls xs dr D i) (tellD u Ls xs dr V i) := by
  intro i
  induction i with
  | zero => intro _; exact h
  | succ i ih => intro hi; rw [tellD, tellD]; exact add_ev (ih (by omega)) (by omega)
/-- one owner's number is written -/
theorem ev_ow (hv : ev true o u m k D V) {t : Nat} (ht : t < 10) (j0 : Nat) {v w : Int32} (e : w = v) : ev true o u m k (upd2 D (o + 6 + t) j0 v) (upd2 V (u + 6 + t) j0 w) := by
  refine ⟨ewv_u hv.1 j0 e, fun j hj => ?_, fun z hz => ?_, fun z hz => ?_, ?_⟩
  · rw [upd2_na (by omega), upd2_na (by omega)]; exact hv.2.1 j hj
  · rw [upd2_na (by omega), upd2_na (by omega)]; exact hv.2.2.1 z hz
  · rw [upd2_na (by omega), upd2_na (by omega)]; exact hv.2.2.2.1 z hz
  · rw [upd2_na (by omega), upd2_na (by omega)]; exact hv.2.2.2.2
theorem ev_orow (hv : ev true o u m k D V) {t : Nat} (ht : t < 10) {f g : Nat → Int32} (hx : rqv true f g) : ev true o u m k (setRow D (o + 6 + t) f) (setRow V (u + 6 + t) g) := by
  refine ⟨ewv_row hv.1 hx, fun j hj => ?_, fun z hz => ?_, fun z hz => ?_, ?_⟩
  · rw [setRow_ne (by omega), setRow_ne (by omega)]; exact hv.2.1 j hj
  · rw [setRow_ne (by omega), setRow_ne (by omega)]; exact hv.2.2.1 z hz
  · rw [setRow_ne (by omega), setRow_ne (by omega)]; exact hv.2.2.2.1 z hz
  · rw [setRow_ne (by omega), setRow_ne (by omega)]; exact hv.2.2.2.2
def pollR (o a : Nat) (w : Int32) (D : mDt) : Int32 := if rm70 (D o 4) ≤ 13 then if D (o + 6 + a) 9 + w ≤ D (o + 6 + a) 4 then if D (o + 6 + a) 9 + w ≤ D (o + 6 + a) 5 * 20 + D (o + 6 + a) 10 then D (o + 6 + a) 9 + w else -4 else -3 else -2
def pollM (o a : Nat) (w : Int32) (D : mDt) : mDt := if rm70 (D o 4) ≤ 13 then if D (o + 6 + a) 9 + w ≤ D (o + 6 + a) 4 then if D (o + 6 + a) 9 + w ≤ D (o + 6 + a) 5 * 20 + D (o + 6 + a) 10 then upd2 D (o + 6 + a) 9 (D (o + 6 + a) 9 + w) else D else D else D
theorem poll_ev (hv : ev true o u m k D V) {a : Nat} (ha : a < 10) (w : Int32) : pollR u a w V = pollR o a w D ∧ ev true o u m k (pollM o a w D) (pollM u a w V) := by
  unfold pollR pollM
  rw [hv.1.2 4 (by decide) (by decide), ev_w hv ha (j := 9) (by decide) (by decide), ev_w hv ha (j := 4) (by decide) (by decide), ev_w hv ha (j := 5) (by decide) (by decide), ev_w hv ha (j := 10) (by decide) (by decide)]
  refine ⟨rfl, ?_⟩
  split
  · split
    · split
      · exact ev_ow hv ha 9 rfl
      · exact hv
    · exact hv
  · exact hv
theorem poll_out {a b : Nat} {w : Int32} (ha : a < 10) (h : b < o + 6 ∨ o + 16 ≤ b) : pollM o a w D b = D b := by
  unfold pollM
  split
  · split
    · split
      · exact upd2_ra (by omega)
      · rfl
    · rfl
  · rfl
theorem poll_gI {L e dd c p : Nat} {ρ : Nat → Nat} {w : Int32} (h : gI o L e ρ m k D dd c) (hp : p < L) (hw : wP w 1 200) : gI o L e ρ m k (pollM o (ρ p) w D) dd (c + 1) := by
  have h1 := gI_c (c' := c + 1) h (by omega)
  unfold pollM
  split
  · split
    · split
      · rename_i c1 c2 c3
        exact gI_pollinate h hp hw c2
      · exact h1
    · exact h1
  · exact h1
def sellR (o a b m : Nat) (w : Int32) (D : mDt) : Int32 := if w ≤ D (o + 6 + a) 2 - amtF (D (o + 17)) 0 (nI a) m then if 0 ≤ D (o + 6 + b) 3 then D (o + 6 + b) 2 + w else -3 else -2
def sellM (o a b m : Nat) (w : Int32) (D : mDt) : mDt := if w ≤ D (o + 6 + a) 2 - amtF (D (o + 17)) 0 (nI a) m then if 0 ≤ D (o + 6 + b) 3 then moveD 2 (o + 6 + a) (o + 6 + b) w 0 D else D else D
theorem sell_ev (hv : ev true o u m k D V) {a b : Nat} (ha : a < 10) (hb : b < 10) (w : Int32) : sellR u a b m w V = sellR o a b m w D ∧ ev true o u m k (sellM o a b m w D) (sellM u a b m w V) := by
  unfold sellR sellM
  rw [amtF_c2 (by decide) hv.2.2.1, ev_w hv ha (j := 2) (by decide) (by decide), ev_w hv hb (j := 3) (by decide) (by decide), ev_w hv hb (j := 2) (by decide) (by decide)]
  refine ⟨rfl, ?_⟩
  split
  · split
    · unfold moveD
      exact ev_orow (ev_orow hv ha (rqv_upd (rqv_upd (ewv_rq hv.1 ha) 3 (by rw [ev_w hv ha (by decide) (by decide)])) 2 (by rw [ev_w hv ha (by decide) (by decide)]))) hb (rqv_upd (rqv_upd (ewv_rq hv.1 hb) 3 (by rw [ev_w hv hb (by decide) (by decide)])) 2 (by rw [ev_w hv hb (by decide) (by decide)]))
    · exact hv
  · exact hv
theorem sell_out {a b x : Nat} {w : Int32} (ha : a < 10) (hb : b < 10) (h : x < o + 6 ∨ o + 16 ≤ x) : sellM o a b m w D x = D x := by
  unfold sellM
  split
  · split
    · unfold moveD
      rw [setRow_ne (by omega), setRow_ne (by omega)]
    · rfl
  · rfl
theorem sell_gI {L e dd c p q : Nat} {ρ : Nat → Nat} {w : Int32} (h : gI o L e ρ m k D dd c) (hc : c ≤ 600) (hp : p < L) (hq : q < L) (hne : ρ p ≠ ρ q) (hw : wP w 1 5040) : gI o L e ρ m k (sellM o (ρ p) (ρ q) m w D) dd (c + 1) := by
  have h1 := gI_c (c' := c + 1) h (by omega)
  unfold sellM
  split
  · split
    · rename_i c1 c2
      exact gI_sell h hc hp hq hne hw (wP_n (d := 0) (a := 0) (b := 9999) (by omega) (by omega) (by decide)) c1
    · exact h1
  · exact h1
def lendC (o x m : Nat) (w : Int32) (D : mDt) : Prop := w ≤ D (o + 6 + x) 2 - amtF (D (o + 17)) 0 (nI x) m
def lendG (o x y m : Nat) (w c : Int32) (D : mDt) : mDt := upd2 (setRow D (o + 17) (addF (D (o + 17)) m (nI x) (nI y) w c)) (o + 16) 1 (nI (m + 1))
theorem lendC_ev (hv : ev true o u m k D V) {x : Nat} (hx : x < 10) (w : Int32) : lendC u x m w V ↔ lendC o x m w D := by
  unfold lendC
  rw [amtF_c2 (by decide) hv.2.2.1, ev_w hv hx (j := 2) (by decide) (by decide)]
theorem lendG_ev (hv : ev true o u m k D V) (x y : Nat) (w c : Int32) : ev true o u (m + 1) k (lendG o x y m w c D) (lendG u x y m w c V) := by
  unfold lendG
  refine ⟨ewv_of hv.1 (fun i hi => by rw [upd2_ra (by omega), setRow_ne (by omega)]) (by rw [upd2_ra (by omega), setRow_ne (by omega)]) (fun i hi => by rw [upd2_ra (by omega), setRow_ne (by omega)]) (by rw [upd2_ra (by omega), setRow_ne (by omega)]), fun j hj => ?_, fun z hz => ?_, fun z hz => ?_, ?_⟩
  · rw [upd2_ra (by omega), setRow_ne (by omega), upd2_ra (by omega), setRow_ne (by omega)]; exact hv.2.1 j hj
  · rw [upd2_ra (by omega), setRow_eq, upd2_ra (by omega), setRow_eq]
    by_cases q : z < m * 4
    · rw [addF_lt q, addF_lt q]; exact hv.2.2.1 z q
    · obtain ⟨a0, a1, a2, a3⟩ := addF_at (f := D (o + 17)) (m := m) (a := nI x) (b := nI y) (c := w) (e := c)
      obtain ⟨b0, b1, b2, b3⟩ := addF_at (f := V (u + 17)) (m := m) (a := nI x) (b := nI y) (c := w) (e := c)
      obtain rfl | rfl | rfl | rfl : z = m * 4 + 0 ∨ z = m * 4 + 1 ∨ z = m * 4 + 2 ∨ z = m * 4 + 3 := by omega
      · rw [a0, b0]
      · rw [a1, b1]
      · rw [a2, b2]
      · rw [a3, b3]
  · rw [upd2_ra (by omega), setRow_ne (by omega), upd2_ra (by omega), setRow_ne (by omega)]; exact hv.2.2.2.1 z hz
  · rw [upd2_ra (by omega), setRow_ne (by omega), upd2_ra (by omega), setRow_ne (by omega)]; exact hv.2.2.2.2
theorem lendG_out {x y a : Nat} {w c : Int32} (h : a < o + 16 ∨ o + 18 ≤ a) : lendG o x y m w c D a = D a := by
  unfold lendG
  rw [upd2_ra (by omega), setRow_ne (by omega)]
/-- the block that goes ahead is what the oasis itself will be -/
theorem would_val {o2 L d : Nat} {ρ : Nat → Nat} {x : Int32} {D' : mDt} (h : wouldD o o2 L ρ m k x d D D') (hW : cW o L ρ m k D) (hn : ∀ i, i < 10 → D (o2 + 6 + i) 0 = nI i) : ∀ i, i < 10 → ∀ j, 1 ≤ j → j < 15 → D' (o2 + 6 + i) j = (daysD o ρ L x (D, m, k) d).1 (o + 6 + i) j := by
  obtain ⟨D1, h1, rfl⟩ := h
  have lk := like_lkV h1 (fun a _ _ => rfl) hn
  intro i hi j h2 h3
  exact ev_w (days_ev (x := x) (Or.inl rfl) hW (cW_lk hW lk) (ev_lk lk) d).2.1 hi h2 h3
theorem best_val {o2 L d : Nat} {ρ : Nat → Nat} {x : Int32} {F : Nat → Int32} (hW : cW o L ρ m k D) (h : digOk o o2 L ρ m k x d D F 21) : digB F (D (o + 1) 1) 21 = digB (fun i => daysS o ρ L x (upd2 D (o + 1) 1 (D (o + 1) 1 + nI i), m, k) d) (D (o + 1) 1) 21 := by
  refine (digB_c2 (fun i hi hc => ?_)).symm
  obtain ⟨A, a1, a2⟩ := h i hi hc
  rw [a2]
  exact (daysS_ev (Or.inl rfl) (lk_days hW) (lk_days (cW_lk hW a1)) (ev_u1 (ev_lk a1) 1 (by rw [(ev_lk a1).2.1 1 (by decide)])) d).symm
theorem takes_val {o2 L d : Nat} {ρ : Nat → Nat} {x z : Int32} {A1 A2 : mDt} (hW : cW o L ρ m k D) (a1 : lkV o o2 L ρ m k D A1) (a2 : lkV o o2 L ρ m k D A2) : daysS o2 ρ L x (A1, m, k) d - daysS o2 ρ L x (upd2 A2 (o2 + 1) 3 z, m, k) d = daysS o ρ L x (D, m, k) d - daysS o ρ L x (upd2 D (o + 1) 3 z, m, k) d := by
  rw [daysS_ev (x := x) (Or.inl rfl) hW (cW_lk hW a1) (ev_lk a1) d, daysS_ev (x := x) (Or.inl rfl) (lk_days (j := 3) (v := z) hW) (lk_days (j := 3) (v := z) (cW_lk hW a2)) (ev_u1 (ev_lk a2) 3 rfl) d]
/-- r is the digest of the oasis at o -/
def isDig (o L : Nat) (ρ : Nat → Nat) (m k dd : Nat) (D : mDt) (r : Int64) : Prop := ∃ (o2 o3 : Nat) (B : mDt) (F : Nat → Int32) (W1 W2 : mDt), (∀ a, o ≤ a → a < o + 20 → B a = D a) ∧ (∃ A, lkV o o2 L ρ m k B A ∧ ∀ a, o2 ≤ a → a < o2 + 20 → B a = (daysD o2 ρ L 0 (A, m, k) 7).1 a) ∧ (∃ A, lkV o o3 L ρ m k B A ∧ ∀ a, o3 ≤ a → a < o3 + 20 → B a = (daysD o3 ρ L 3 (A, m, k) (harvN dd)).1 a) ∧ digOk o o2 L ρ m k 0 3 B F 21 ∧ lkV o o2 L ρ m k B W1 ∧ lkV o o2 L ρ m k B W2 ∧ r = digR o o2 o3 L ρ m k (askA o L ρ D) B F W1 W2
theorem isDig_eq {L e e' dd : Nat} {ρ : Nat → Nat} {r r' : Int64} (hI : cI o L e ρ m k D) (hI2 : cI u L e' ρ m k V) (hv : ev true o u m k D V) (h : isDig o L ρ m k dd D r) (h2 : isDig u L ρ m k dd V r') : r' = r := by
  obtain ⟨o2, o3, B, F, W1, W2, b1, b2, b3, b4, b5, b6, rfl⟩ := h
  obtain ⟨u2, u3, B', F', W1', W2', c1, c2, c3, c4, c5, c6, rfl⟩ := h2
  exact dig_ev hI hI2 hv b1 b2 b3 b4 b5 b6 c1 c2 c3 c4 c5 c6
/-- the best digging is a number from 0 to 20 -/
theorem digB_rng {F : Nat → Int32} {len : Int32} : ∀ n, ∃ j, (j = 0 ∨ j < n) ∧ (digB F len n).1 = nI j := by
  intro n
  induction n with
  | zero => exact ⟨0, Or.inl rfl, rfl⟩
  | succ n ih =>
    obtain ⟨j, hj, e⟩ := ih
    rw [digB]
    split
    · exact ⟨j, by omega, e⟩
    · split
      · exact ⟨j, by omega, e⟩
      · exact ⟨n, by omega, rfl⟩
/-- and it brings the most, of several the smallest -/
theorem digB_max {F : Nat → Int32} {len : Int32} : ∀ n, (∀ i, i < n → ¬ 90 < len + nI i ∧ 0 ≤ F i) → 1 ≤ n → ∃ j, j < n ∧ digB F len n = (nI j, F j) ∧ (∀ i, i < n → F i ≤ F j) ∧ ∀ i, i < j → F i < F j := by
  intro n
  induction n with
  | zero => intro _ h; omega
  | succ n ih =>
    intro hF _
    obtain ⟨c1, c2⟩ := hF n (by omega)
    rw [digB, if_neg c1]
    rcases Nat.eq_zero_or_pos n with rfl | hn
    · refine ⟨0, by omega, ?_, fun i hi => ?_, fun i hi => by omega⟩
      · rw [if_neg]
        intro q
        have h1 : F 0 ≤ -1 := q
        exact absurd (Int32.le_trans c2 h1) (by decide)
      · have : i = 0 := by omega
        subst this; exact Int32.le_refl _
    · obtain ⟨j, hj, e, h1, h2⟩ := ih (fun i hi => hF i (by omega)) hn
      rw [e]
      split
      · rename_i q
        refine ⟨j, by omega, rfl, fun i hi => ?_, h2⟩
        by_cases c : i = n
        · subst c; exact q
        · exact h1 i (by omega)
      · rename_i q
        have q2 : F j < F n := Int32.not_le.mp q
        refine ⟨n, by omega, rfl, fun i hi => ?_, fun i hi => ?_⟩
        · by_cases c : i = n
          · subst c; exact Int32.le_refl _
          · exact Int32.le_trans (h1 i (by omega)) (Int32.le_of_lt q2)
        · exact Int32.lt_of_le_of_lt (h1 i hi) q2
end PRS
