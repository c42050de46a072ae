/-! what comes is not below nothing, where no bowl is lent; digging's costs don't change the water -/
theorem im_rng {b : Nat} (hb : b < 2 ^ 31) (y : Int32) : ∃ w, w ≤ b ∧ imax 0 (imin (nI b) y) = nI w := by
  refine ex_nI ?_ ?_
  · rw [imax_ti, imin_ti, show (0 : Int32).toInt = 0 from rfl]; omega
  · rw [imax_ti, imin_ti, show (0 : Int32).toInt = 0 from rfl, ti_nI hb]; omega
theorem chTab_rng (x : Nat → Int32) (r : Int32) : ∃ w, w ≤ 400 ∧ chTab x r = nI w := im_rng (b := 400) (by decide) _
theorem div10 {x : Int32} (h1 : -1000 ≤ x.toInt) (h2 : x.toInt ≤ 499) : (x / 10).toInt ≤ 49 := by
  rw [show (10 : Int32) = nI 10 from rfl, Int32.toInt_div_of_ne_right, nI_toInt (by omega)]
  · by_cases h : 0 ≤ x.toInt
    · rw [Int.tdiv_eq_ediv_of_nonneg h]; omega
    · have h3 : x.toInt.tdiv ((10 : Nat) : Int) = -((-x.toInt).tdiv ((10 : Nat) : Int)) := by rw [Int.neg_tdiv, Int.neg_neg]
      have h4 : (-x.toInt).tdiv ((10 : Nat) : Int) = (-x.toInt) / ((10 : Nat) : Int) := Int.tdiv_eq_ediv_of_nonneg (by omega)
      omega
  · intro q
    have := congrArg Int32.toInt q
    rw [nI_toInt (by omega)] at this
    have h2 : (-1 : Int32).toInt = -1 := rfl
    omega
theorem chFlow_rng {x : Nat → Int32} {T l μ : Nat} (h0 : x 0 = nI T) (hT : T ≤ 400) (h1 : x 1 = nI l) (hl : l ≤ 90) (h2 : x 2 = nI μ) (hμ : μ ≤ 30) : ∃ f, f ≤ 49 ∧ chFlow x = nI f := by
  have e2 : (2 * x 2).toInt = 2 * μ := by
    rw [h2, ti_2, ti_nI (by omega)] <;> rw [ti_nI (by omega)] <;> omega
  have e3 : (x 0 + x 1).toInt = T + l := by
    rw [h0, h1, nI_add, ti_nI (by omega)]; omega
  have e4 : (x 0 + x 1 - 120).toInt = T + l - 120 := by
    rw [ti_sub, e3] <;> rw [show (120 : Int32).toInt = 120 from rfl] <;> omega
  have e5 : (x 0 + x 1 - 120 - 2 * x 2).toInt = T + l - 120 - 2 * μ := by
    rw [ti_sub, e4, e2] <;> rw [e4, e2] <;> omega
  have h := div10 (x := x 0 + x 1 - 120 - 2 * x 2) (by omega) (by omega)
  unfold chFlow
  refine ex_nI ?_ ?_
  · rw [imax_ti, show (0 : Int32).toInt = 0 from rfl]; omega
  · rw [imax_ti, show (0 : Int32).toInt = 0 from rfl]; omega
theorem bodF_rng {s e f : Nat} (hs : s ≤ 100000) (he : e ≤ 100000) (hf : f ≤ 100000) : ∃ w, w ≤ 720 ∧ bodF (nI s) (nI e) (nI f) = nI w := by
  have h1 : (imin (nI e) (nI f + 720)).toInt = min (e : Int) (f + 720) := by
    rw [imin_ti, show (720 : Int32) = nI 720 from rfl, nI_add, ti_nI (by omega), ti_nI (by omega)]; omega
  have h2 : (imax (nI s) (nI f)).toInt = max (s : Int) f := by
    rw [imax_ti, ti_nI (by omega), ti_nI (by omega)]
  have h3 : (imin (nI e) (nI f + 720) - imax (nI s) (nI f)).toInt = min (e : Int) (f + 720) - max (s : Int) f := by
    rw [ti_sub, h1, h2] <;> rw [h1, h2] <;> omega
  unfold bodF
  refine ex_nI ?_ ?_
  · rw [imax_ti, show (0 : Int32).toInt = 0 from rfl]; omega
  · rw [imax_ti, h3, show (0 : Int32).toInt = 0 from rfl]; omega
section FLW
variable {o L e dd c : Nat} {ρ : Nat → Nat} {D : mDt} {x : Int32}
/-- the channel, where what is in it is known -/
def chI (o : Nat) (D : mDt) : Prop := (∃ l, l ≤ 90 ∧ D (o + 1) 1 = nI l) ∧ ∃ μ, μ ≤ 30 ∧ D (o + 1) 2 = nI μ
theorem mud_rng {x : Nat → Int32} {μ : Nat} (h : x 2 = nI μ) (hμ : μ ≤ 30) : ∃ w, w ≤ 30 ∧ chMud x 1 = nI w := by
  unfold chMud
  rw [h, nI_1]
  refine ex_nI ?_ ?_
  · rw [imin_ti, ti_nI (by omega), show (30 : Int32).toInt = 30 from rfl]; omega
  · rw [imin_ti, ti_nI (by omega), show (30 : Int32).toInt = 30 from rfl]; omega
theorem chI_dayA (h : chI o D) : chI o (dayA o x D) ∧ ∃ T, T ≤ 400 ∧ dayA o x D (o + 1) 0 = nI T := by
  obtain ⟨⟨l, hl, el⟩, μ, hμ, eμ⟩ := h
  have b : ∀ j, upd2 D o 4 (D o 4 + 1) (o + 1) j = D (o + 1) j := fun j => upd2_na (by omega)
  obtain ⟨T, hT, eT⟩ := chTab_rng (upd2 D o 4 (D o 4 + 1) (o + 1)) x
  obtain ⟨w, hw, ew⟩ := mud_rng (x := upd2 D o 4 (D o 4 + 1) (o + 1)) (μ := μ) (by rw [b]; exact eμ) hμ
  unfold dayA chDayD
  split
  · exact ⟨⟨⟨l, hl, by rw [upd2_nk (by decide), b]; exact el⟩, μ, hμ, by rw [upd2_nk (by decide), b]; exact eμ⟩, T, hT, by rw [upd2_eq]; exact eT⟩
  · exact ⟨⟨⟨l, hl, by rw [upd2_nk (by decide), upd2_nk (by decide), b]; exact el⟩, w, hw, by rw [upd2_eq]; exact ew⟩, T, hT, by rw [upd2_nk (by decide), upd2_eq]; exact eT⟩
theorem gwD_0 {fb fl : Int32} {f F : Nat → Int32} {A : mDt} (hinj : ∀ p q, p < q → q < L → ρ p ≠ ρ q) : ∀ i, i ≤ L → ∀ p, p < i → gwD o ρ f 0 fb fl F A i (o + 6 + ρ p) 11 = A (o + 6 + ρ p) 11 + bodF (rsum F p) (rsum F p + F p) fb * fl := by
  intro i
  induction i with
  | zero => intro _ p hp; omega
  | succ i ih =>
    intro hi p hp
    have key : ∀ q, q ≤ i → ∀ p, (∀ z, z < q → ρ z ≠ ρ p) → gwD o ρ f 0 fb fl F A q (o + 6 + ρ p) 11 = A (o + 6 + ρ p) 11 := by
      intro q
      induction q with
      | zero => intro _ p _; rfl
      | succ q ihq =>
        intro hq p hz
        have := hz q (by omega)
        rw [gwD, gwS, upd2_na (by omega)]
        exact ihq (by omega) p (fun z hz2 => hz z (by omega))
    rw [gwD, gwS]
    by_cases q : p = i
    · subst q
      rw [upd2_eq]
      show gwD o ρ f 0 fb fl F A p (o + 6 + ρ p) 11 + _ = _
      rw [key p (Nat.le_refl _) p (fun z hz => hinj z p hz (by omega))]
      rfl
    · have := hinj p i (by omega) (by omega)
      rw [upd2_na (by omega)]
      exact ih (by omega) p (by omega)
theorem take_rng {g pl : Nat} (hg : g ≤ 40000) (hp : pl ≤ 10) : ∃ w, w ≤ 40000 ∧ nI g * (100 - 2 * nI pl) / 100 = nI w := by
  have h1 : (100 : Int32) - 2 * nI pl = nI (100 - 2 * pl) := by
    rw [show (2 : Int32) = nI 2 from rfl, nI_mul, show (100 : Int32) = nI 100 from rfl, nI_sub (by omega)]
  have hb : g * (100 - 2 * pl) ≤ 40000 * 100 := Nat.mul_le_mul hg (by omega)
  refine ⟨g * (100 - 2 * pl) / 100, ?_, ?_⟩
  · have := Nat.div_le_div_right (c := 100) hb; omega
  · rw [h1, nI_mul, show (100 : Int32) = nI 100 from rfl, nI_div (by omega) (by omega)]
theorem rsum_bd {F : Nat → Int32} {B : Nat} : ∀ n, (∀ p, p < n → ∃ w, w ≤ B ∧ F p = nI w) → ∃ w, w ≤ B * n ∧ rsum F n = nI w := by
  intro n
  induction n with
  | zero => intro _; exact ⟨0, by omega, rfl⟩
  | succ n ih =>
    intro h
    obtain ⟨a, a1, a2⟩ := ih (fun p hp => h p (by omega))
    obtain ⟨b, b1, b2⟩ := h n (by omega)
    exact ⟨a + b, by rw [Nat.mul_succ]; omega, by rw [rsum, a2, b2, nI_add]⟩
theorem dayS_rng (h : gI o L e ρ 0 0 D dd c) (hch : chI o D) : ∃ w, w ≤ 400000 ∧ dayS o ρ L x (D, 0, 0) = nI w := by
  have hW := h.1.1
  have hρ : ∀ p, p < L → ρ p < 10 := fun p hp => (hW.1.2.2 p hp).1
  have hinj := h.2.1.2.1
  have hL := hW.1.2.1
  have hdd := h.2.2.1
  obtain ⟨⟨⟨l, hl, el⟩, μ, hμ, eμ⟩, T, hT, eT⟩ := chI_dayA (x := x) hch
  obtain ⟨fl, hfl, efl⟩ := chFlow_rng eT hT el hl eμ hμ
  have e4 : D o 4 = nI dd := h.2.1.2.2.2.2.2.2
  have hA4 : dayA o x D o 4 = nI (dd + 1) := by
    rw [dayA, chDayD_ra (by omega), upd2_eq, e4, nI_1]
  have efb : rm7 (dayA o x D o 4) * 720 = nI ((dd + 1) % 7 * 720) := by
    rw [hA4, rm7_nI (by omega), show (720 : Int32) = nI 720 from rfl, nI_mul]
  have h7 : (dd + 1) % 7 < 7 := Nat.mod_lt _ (by decide)
  obtain ⟨FF, hFF⟩ : ∃ FF : Nat → Int32, FF = fun p => dayA o x D (o + 6 + ρ p) 2 := ⟨_, rfl⟩
  have hF : ∀ p, p ≤ L → ∃ s, s ≤ 5040 ∧ rsum FF p = nI s := fun p hp => by
    obtain ⟨s, hs, es⟩ := gI_bw h p hp
    exact ⟨s, hs, by rw [← es, hFF]; exact rsum_c2 (fun q hq => by show dayA o x D _ 2 = D _ 2; rw [dayA_ra (by omega)])⟩
  obtain ⟨w, hw, ew⟩ := rsum_bd (F := fun p => tkD o ρ (wtrB o ρ L 0 (dayA o x D)) (p + 1) (o + 6 + ρ p) 12) (B := 40000) L (fun p hp => by
    obtain ⟨s, hs, es⟩ := hF p (by omega)
    obtain ⟨s2, hs2, es2⟩ := hF (p + 1) (by omega)
    obtain ⟨bd, hbd, ebd⟩ := bodF_rng (s := s) (e := s2) (f := (dd + 1) % 7 * 720) (by omega) (by omega) (by omega)
    have hg : bd * fl ≤ 720 * 49 := Nat.mul_le_mul hbd hfl
    obtain ⟨t, ht, et⟩ := take_rng (g := bd * fl) (pl := p) (by omega) (by omega)
    refine ⟨t, ht, ?_⟩
    show tkD o ρ (wtrB o ρ L 0 (dayA o x D)) (p + 1) (o + 6 + ρ p) 12 = _
    rw [tkD, tkS_row (by omega)]
    have r11 : tkD o ρ (wtrB o ρ L 0 (dayA o x D)) p (o + 6 + ρ p) 11 = nI (bd * fl) := by
      rw [tkD_out (fun q hq => by have := hinj q p hq hp; omega) (by omega), wtrB, upd2_ra (by omega), ← hFF, gwD_0 hinj L (Nat.le_refl _) p hp, dayA_ra (by omega), h.2.1.2.2.1 _ (hρ p hp), efb, efl, show rsum FF p + FF p = rsum FF (p + 1) from rfl, es, es2, ebd, nI_mul, Int32.zero_add]
    show takeX (nI p) _ 12 = _
    have e12 : ∀ y : Nat → Int32, takeX (nI p) y 12 = y 11 * (100 - 2 * nI p) / 100 := fun y => by simp [takeX, upd]
    rw [e12, r11, et])
  exact ⟨w, by have := Nat.mul_le_mul_left 40000 hL; omega, ew⟩
/-- the channel behind a day -/
theorem chI_day {m k : Nat} (hW : cW o L ρ m k D) (h : chI o D) : chI o (dayD o ρ L x (D, m, k)).1 := by
  have hρ : ∀ p, p < L → ρ p < 10 := fun p hp => (hW.1.2.2 p hp).1
  have hA := (chI_dayA (x := x) h).1
  have e1 : (dayD o ρ L x (D, m, k)).1 (o + 1) = dayA o x D (o + 1) := by
    have hB : dayB o ρ L x m D (o + 1) = dayA o x D (o + 1) := by
      rw [dayB, mapD_row (by omega) hρ, wtrD_row (by omega) hρ (cW_dayA (x := x) hW).2.2.2.1]
    have hC : (dayC o ρ L k (dayB o ρ L x m D)).1 (o + 1) = dayB o ρ L x m D (o + 1) := by
      unfold dayC
      split
      · show dayH o ρ L k (dayB o ρ L x m D) (o + 1) = _
        rw [dayH, upd2_ra (by omega), dsD_row (m := k) (by omega) (cW_dayR (cW_dayB (x := x) hW)).2.2.2.2.2 (Nat.le_refl _), dayR, upd2_ra (by omega), mapD_row (by omega) hρ]
      · rfl
    have hE : ∀ (m : Nat) (X : mDt), (dayE o m X).1 (o + 1) = X (o + 1) := fun m X => by
      unfold dayE
      split
      · show shortD o m X (o + 1) = _
        rw [shortD, upd2_ra (by omega), setRow_ne (by omega)]
      · rfl
    show (dayE o m (dayC o ρ L k (dayB o ρ L x m D)).1).1 (o + 1) = _
    rw [hE, hC, hB]
  unfold chI
  rw [e1]
  exact hA
theorem dayD_m0 {q : mDt × Nat × Nat} (h : q.2.1 = 0) : (dayD o ρ L x q).2.1 = 0 := by
  show (dayE o q.2.1 _).2 = 0
  rw [h]
  unfold dayE
  split
  · rfl
  · rfl
theorem daysS_rng (h : gI o L e ρ 0 0 D dd c) (hc : c ≤ 600) (hch : chI o D) : ∀ n, dd + n ≤ 2000 → ∃ w, w ≤ 400000 * n ∧ daysS o ρ L x (D, 0, 0) n = nI w := by
  have hst : ∀ n, dd + n ≤ 2000 → gI o L e ρ 0 0 (daysD o ρ L x (D, 0, 0) n).1 (dd + n) c ∧ chI o (daysD o ρ L x (D, 0, 0) n).1 ∧ daysD o ρ L x (D, 0, 0) n = ((daysD o ρ L x (D, 0, 0) n).1, 0, 0) := by
    intro n
    induction n with
    | zero => intro _; exact ⟨h, hch, rfl⟩
    | succ n ih =>
      intro hn
      obtain ⟨i1, i2, i3⟩ := ih (by omega)
      have k0 : (daysD o ρ L x (D, 0, 0) (n + 1)).2.2 = 0 := dayD_k0 (by rw [i3])
      have m0 : (daysD o ρ L x (D, 0, 0) (n + 1)).2.1 = 0 := dayD_m0 (by rw [i3])
      have g := gI_days (x := x) h hc (n + 1) hn
      rw [k0, m0] at g
      refine ⟨g, ?_, Prod.ext rfl (Prod.ext m0 k0)⟩
      rw [daysD, i3]
      exact chI_day i1.1.1 i2
  intro n
  induction n with
  | zero => intro _; exact ⟨0, by omega, rfl⟩
  | succ n ih =>
    intro hn
    obtain ⟨a, a1, a2⟩ := ih (by omega)
    obtain ⟨i1, i2, i3⟩ := hst n (by omega)
    obtain ⟨b, b1, b2⟩ := dayS_rng (x := x) i1 i2
    refine ⟨a + b, by rw [Nat.mul_succ]; omega, ?_⟩
    have hs : daysS o ρ L x (D, 0, 0) (n + 1) = daysS o ρ L x (D, 0, 0) n + dayS o ρ L x (daysD o ρ L x (D, 0, 0) n) := rfl
    rw [hs, a2, i3, b2, nI_add]
/-- what digging costs is paid in coins alone -/
theorem pay_ev {m k : Nat} {cst v : Int32} (hW : cW o L ρ m k D) (hL : 0 < L) : ev false o o m k (upd2 D (o + 1) 1 v) (upd2 (payD o ρ L cst D) (o + 1) 1 v) := by
  have hρ : ∀ p, p < L → ρ p < 10 := fun p hp => (hW.1.2.2 p hp).1
  have hr : ∀ a, (a < o + 6 ∨ o + 16 ≤ a) → payD o ρ L cst D a = D a := fun a ha => by
    have := hρ 0 hL
    rw [payD, upd2_ra (by omega), mapD_row ha hρ]
  have hj : ∀ a j, j ≠ 3 → payD o ρ L cst D a j = D a j := fun a j h3 => by
    rw [payD, upd2_nk h3, mapD_j (fun _ y => by simp [shareX, upd, h3])]
  refine ⟨⟨fun i hi j h1 h2 h3 => ?_, fun j h1 h2 => ?_⟩, fun j hj2 => ?_, fun z hz => ?_, fun z hz => ?_, ?_⟩
  · have h3' : j ≠ 3 := h3.elim (fun q => absurd q (by decide)) id
    rw [upd2_na (by omega), upd2_na (by omega)]; exact hj _ j h3'
  · rw [upd2_na (by omega), upd2_na (by omega), hr o (by omega)]
  · by_cases q : j = 1
    · subst q; rw [upd2_eq, upd2_eq]
    · rw [upd2_nk q, upd2_nk q, hr _ (by omega)]
  · rw [upd2_na (by omega), upd2_na (by omega), hr _ (by omega)]
  · rw [upd2_na (by omega), upd2_na (by omega), hr _ (by omega)]
  · rw [upd2_na (by omega), upd2_na (by omega), hr _ (by omega)]
end FLW
