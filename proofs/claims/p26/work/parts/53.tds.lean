/-! a Told whose four owners are told -/
theorem gI_0 {o : Nat} {D : mDt} (h : freshD o D) : gI o 0 0 (fun _ => 0) 0 0 D 0 0 := by
  obtain ⟨h0, h1, h2, h4, h5, h6, h16, h17, h18, h19⟩ := h
  have hW : cW o 0 (fun _ => 0) 0 0 D := ⟨⟨by rw [h2]; rfl, by omega, fun p hp => absurd hp (by omega)⟩, fun i hi => by rw [h6 i hi]; simp [upd], by rw [h16]; rfl, dOk_0 _, by rw [h18]; rfl, dOk_0 _⟩
  have hr : ∀ i, i < 10 → ∀ j, j ≠ 0 → D (o + 6 + i) j = 0 := fun i hi j hj => by rw [h6 i hi]; simp [upd, hj]
  refine ⟨⟨hW, by rw [h2]; rfl, by omega, by omega, fun p q _ hq => absurd hq (by omega), fun p hp => absurd hp (by omega), fun i hi => Or.inr ⟨hr i hi 1 (by decide), fun p hp => absurd hp (by omega)⟩, by rw [h5]; rfl⟩, ⟨hW, fun p q _ hq => absurd hq (by omega), fun i hi => hr i hi 11 (by decide), fun i hi => absurd hi (by omega), fun i hi => absurd hi (by omega), fun i hi => ⟨0, by omega, hr i hi 4 (by decide)⟩, by rw [h0]; rfl⟩, by omega, fun i _ hi j j1 _ => hr i hi j (by omega), fun i hi => ?_, ⟨fun _ => 0, fun i hi => hr i hi 2 (by decide), fun _ => Nat.zero_le _, by decide⟩, fun i hi => absurd hi (by omega), fun i hi => absurd hi (by omega), 40, by omega, by rw [h1]; rfl⟩
  refine ⟨?_, ⟨0, by omega, hr i hi 4 (by decide), 0, by omega, hr i hi 9 (by decide)⟩, ⟨0, by omega, hr i hi 5 (by decide)⟩, ⟨0, by omega, hr i hi 6 (by decide)⟩, ⟨0, by omega, hr i hi 7 (by decide)⟩, 0, by omega, hr i hi 8 (by decide)⟩
  rw [hr i hi 3 (by decide)]
  decide
def tdI (t bs dr m dd c n : Nat) (sh : mSh) (P : mPt) (D : mDt) : Prop := t + 78 ≤ n ∧ sh t = some (.inl 6) ∧ P t 0 = some (t + 1) ∧ P t 1 = some bs ∧ D t 2 = nI dr ∧ oI t m dd c n sh P D
def isTell (t Ls : Nat) (xs : Nat → Int32) (dr : Nat) (D : mDt) : Prop := gI (t + 2) 4 4 (rhoN 4) 0 0 D 0 4 ∧ ∃ Df, freshD (t + 2) Df ∧ ∀ a, t + 2 ≤ a → a < t + 22 → D a = tellD (t + 2) Ls xs dr Df 4 a
section TDS
variable {t u bs dr Ls m dd c n n' : Nat} {xs : Nat → Int32} {sh sh' : mSh} {P P' : mPt} {D D' V : mDt}
theorem told_tI (h : toldOk t bs dr sh P D n' sh' P' D') : tI t bs dr 0 (t + 73) n' sh' P' D' ∧ gI (t + 2) 0 0 (fun _ => 0) 0 0 D' 0 0 := by
  obtain ⟨h1, h2, ⟨h3, -, -⟩, ⟨h4, h5, h6, h7, h8, h9, h10⟩, ⟨h11, h12⟩, -⟩ := h
  exact ⟨⟨by omega, by omega, by omega, h2, h4, h5, h6, h7, h8, h9, h10, h11, h12⟩, gI_0 h3⟩
theorem tI_mv {e rw : Nat} (h : tI t bs dr e rw n sh P D) (hn : n ≤ n') (h1 : ∀ a, t ≤ a → a < n → sh' a = sh a) (h2 : ∀ a, t ≤ a → a < n → P' a = P a) (h3 : D' t = D t) : tI t bs dr e rw n' sh' P' D' := by
  obtain ⟨a1, a2, a3, a4, a5, a6, a7, a8, a9, a10, a11, a12, a13⟩ := h
  exact ⟨by omega, a2, by omega, bLay_mv a4 (by omega) (fun a _ _ => h1 a (by omega) (by omega)) (fun a _ _ => h2 a (by omega) (by omega)), by rw [h1 t (by omega) (by omega)]; exact a5, by rw [h2 t (by omega) (by omega)]; exact a6, by rw [h2 t (by omega) (by omega)]; exact a7, by rw [h2 t (by omega) (by omega)]; exact a8, by rw [h2 t (by omega) (by omega)]; exact a9, by rw [h1 _ (by omega) (by omega)]; exact a10, by rw [h1 rw (by omega) (by omega)]; exact a11, by rw [h3]; exact a12, by rw [h3]; exact a13⟩
/-- behind found(4) -/
theorem found_td {rw' : Nat} (htn : t + 78 ≤ n) (h : fI t bs dr Ls xs n sh P D 4 rw' n' sh' P' D') (hf : freshD (t + 2) D) (h2 : freshD (t + 22) D) (h3 : freshD (t + 42) D) : tdI t bs (dr + 16) 0 0 4 n' sh' P' D' ∧ isTell t Ls xs dr D' := by
  obtain ⟨⟨a1, a2, a3, a4, a5, a6, a7, a8, a9, a10, a11, a12, a13⟩, hG, -, hb, hn, f1, f2, f3, f4⟩ := h
  refine ⟨⟨a1, a5, a6, a7, a12, by omega, a4, hG, fun i hi => ?_, fun i hi => ?_⟩, hG, D, hf, hb⟩
  · rw [f4 _ (by omega) (by omega) (by omega), h2.2.2.2.2.2.1 i hi]; simp [upd]
  · rw [f4 _ (by omega) (by omega) (by omega), h3.2.2.2.2.2.1 i hi]; simp [upd]
theorem tell_pair (h : isTell t Ls xs dr D) (h2 : isTell u Ls xs dr V) : ev true (t + 2) (u + 2) 0 0 D V := by
  obtain ⟨-, F, f1, f2⟩ := h
  obtain ⟨-, G, g1, g2⟩ := h2
  exact ev_trans (ev_trans (ev_blk (fun a a1 a2 => (f2 a a1 (by omega)).symm)) (tell_ev (Ls := Ls) (dr := dr) (xs := xs) (fresh_ev f1 g1) 4 (by omega))) (ev_blk (fun a a1 a2 => g2 a a1 (by omega)))
theorem tell_ch {o : Nat} : ∀ i, i ≤ 10 → tellD o Ls xs dr D i (o + 1) = D (o + 1) := by
  intro i
  induction i with
  | zero => intro _; rfl
  | succ i ih => intro hi; rw [tellD, addD_ra (by omega) (by omega) (by omega)]; exact ih (by omega)
theorem tell_sum {o : Nat} : ∀ i, i ≤ 4 → ∃ s, 100 * i ≤ s ∧ s ≤ 1099 * i ∧ rsum (fun p => tellD o Ls xs dr D i (o + 6 + rhoN i p) 2) i = nI s := by
  intro i
  induction i with
  | zero => intro _; exact ⟨0, by omega, by omega, rfl⟩
  | succ i ih =>
    intro hi
    obtain ⟨s, s1, s2, s3⟩ := ih (by omega)
    obtain ⟨a, a1, a2⟩ := drwI_lt (Ls := Ls) (xs := xs) (dr := dr + 4 * i) (N := 1000) (by decide) (by decide)
    refine ⟨s + (100 + a), by omega, by omega, ?_⟩
    have := add_sum (o := o) (e := i) (ρ := rhoN i) (w := 100 + drwI Ls xs (dr + 4 * i) (nI 1000)) (c := drwI Ls xs (dr + 4 * i + 1) (nI 200)) (p := drwI Ls xs (dr + 4 * i + 2) (nI 40)) (m := drwI Ls xs (dr + 4 * i + 3) (nI 4)) (D := tellD o Ls xs dr D i) (by omega) (fun p hp => by rw [rhoN_at i p hp]; exact hp)
    show rsum (fun q => addD o i i _ _ _ _ (tellD o Ls xs dr D i) (o + 6 + rhoA (rhoN i) i i q) 2) (i + 1) = _
    rw [this, s3, a2, show (100 : Int32) = nI 100 from rfl, nI_add, nI_add]
theorem tell_len (h : isTell t Ls xs dr D) : D (t + 2 + 1) 1 = 40 ∧ D (t + 2 + 1) 2 = 0 := by
  obtain ⟨-, F, f1, f2⟩ := h
  have e : D (t + 2 + 1) = F (t + 2 + 1) := by rw [f2 _ (by omega) (by omega), tell_ch 4 (by omega)]
  rw [e, f1.2.1]
  exact ⟨rfl, rfl⟩
theorem tell_pos (h : isTell t Ls xs dr D) : 0 < rsum (fun p => D (t + 2 + 6 + rhoN 4 p) 2) 4 := by
  obtain ⟨-, F, f1, f2⟩ := h
  obtain ⟨s, s1, s2, s3⟩ := tell_sum (Ls := Ls) (xs := xs) (dr := dr) (D := F) (o := t + 2) 4 (by omega)
  have e : rsum (fun p => D (t + 2 + 6 + rhoN 4 p) 2) 4 = nI s := by
    rw [← s3]
    refine rsum_c2 (fun p hp => ?_)
    show D (t + 2 + 6 + rhoN 4 p) 2 = tellD (t + 2) Ls xs dr F 4 (t + 2 + 6 + rhoN 4 p) 2
    have := rho4 hp
    rw [f2 _ (by omega) (by omega)]
  rw [e, show (0 : Int32) = nI 0 from rfl]
  exact nI_lt (by omega) (by omega)
/-- what would come in d days, with j of LENGTH more -/
def gF (t d : Nat) (x : Int32) (D : mDt) (j : Nat) : Int32 := daysS (t + 2) (rhoN 4) 4 x (upd2 D (t + 2 + 1) 1 (D (t + 2 + 1) 1 + nI j), 0, 0) d
theorem gF_nn {d j : Nat} {x : Int32} (h : isTell t Ls xs dr D) (hd : d ≤ 2000) (hj : j ≤ 20) : 0 ≤ gF t d x D j := by
  obtain ⟨e1, e2⟩ := tell_len h
  have el : D (t + 2 + 1) 1 + nI j = nI (40 + j) := by rw [e1, show (40 : Int32) = nI 40 from rfl, nI_add]
  have hG : gI (t + 2) 4 4 (rhoN 4) 0 0 (upd2 D (t + 2 + 1) 1 (D (t + 2 + 1) 1 + nI j)) 0 4 := gI_ch0 h.1 (fun _ => ⟨40 + j, by omega, el⟩)
  have hch : chI (t + 2) (upd2 D (t + 2 + 1) 1 (D (t + 2 + 1) 1 + nI j)) := ⟨⟨40 + j, by omega, by rw [upd2_eq, el]⟩, 0, by omega, by rw [upd2_nk (by decide), e2]; rfl⟩
  obtain ⟨w, w1, w2⟩ := daysS_rng (x := x) hG (by omega) hch d (by omega)
  unfold gF
  rw [w2]
  exact nI_pos' (by omega)
theorem gF_eq {d j : Nat} {x : Int32} (h : isTell t Ls xs dr D) (h2 : isTell u Ls xs dr V) : gF u d x V j = gF t d x D j := by
  have hv := tell_pair h h2
  unfold gF
  exact daysS_ev (Or.inl rfl) (lk_days h.1.1.1) (lk_days h2.1.1.1) (ev_u1 hv 1 (by rw [hv.2.1 1 (by decide)])) d
/-- the best of them -/
theorem gF_best {d : Nat} {x : Int32} (h : isTell t Ls xs dr D) (hd : d ≤ 2000) : ∃ j, j < 21 ∧ (digB (fun i => gF t d x D i) (D (t + 2 + 1) 1) 21).1 = nI j ∧ (∀ i, i < 21 → gF t d x D i ≤ gF t d x D j) ∧ ∀ i, i < j → gF t d x D i < gF t d x D j := by
  obtain ⟨e1, -⟩ := tell_len h
  obtain ⟨j, j1, j2, j3, j4⟩ := digB_max (F := fun i => gF t d x D i) (len := D (t + 2 + 1) 1) 21 (fun i hi => ⟨by
    rw [e1, show (40 : Int32) = nI 40 from rfl, nI_add, show (90 : Int32) = nI 90 from rfl]
    exact nI_nlt (by omega) (by omega), gF_nn h hd (by omega)⟩) (by omega)
  exact ⟨j, j1, by rw [j2], j3, j4⟩
theorem gF_0 {d : Nat} {x : Int32} (h : isTell t Ls xs dr D) : daysS (t + 2) (rhoN 4) 4 x (D, 0, 0) d = gF t d x D 0 := by
  have e : upd2 D (t + 2 + 1) 1 (D (t + 2 + 1) 1 + nI 0) = D := by
    rw [show nI 0 = 0 from rfl, Int32.add_zero]
    funext a j
    unfold upd2
    split
    · rename_i q; rw [q.1, q.2]
    · rfl
  unfold gF
  rw [e]
theorem gF_dug {d j : Nat} {x cst : Int32} (h : isTell t Ls xs dr D) (hD : D' = upd2 (payD (t + 2) (rhoN 4) 4 cst D) (t + 2 + 1) 1 (D (t + 2 + 1) 1 + nI j)) (hG : gI (t + 2) 4 4 (rhoN 4) 0 0 D' 0 5) : daysS (t + 2) (rhoN 4) 4 x (D', 0, 0) d = gF t d x D j := by
  unfold gF
  have hv := pay_ev (cst := cst) (v := D (t + 2 + 1) 1 + nI j) h.1.1.1 (show 0 < 4 by omega)
  rw [← hD] at hv
  exact daysS_ev (Or.inr rfl) (lk_days h.1.1.1) hG.1.1 hv d
end TDS
