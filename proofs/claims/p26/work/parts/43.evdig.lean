/-! what one asks of two that are alike is alike; the digest too -/
theorem digM_c2 {f g : Nat → Int32} {d : Int64} {n : Nat} (h : ∀ i, i < n → g i = f i) : digM g d n = digM f d n := by
  induction n with
  | zero => rfl
  | succ n ih => rw [digM, digM, ih (fun i hi => h i (by omega)), h n (by omega)]
theorem lstDig_c2 {f g : Nat → Int32} {c : Nat} {d : Int64} {n : Nat} (hc : c ≤ 4) (h : ∀ z, z < n * 4 → g z = f z) : lstDig g c d n = lstDig f c d n := by
  induction n with
  | zero => rfl
  | succ n ih => rw [lstDig, lstDig, ih (fun z hz => h z (by omega))]; exact digM_c2 (fun j hj => h _ (by omega))
theorem bwlDig_c2 {f g f2 g2 : Int32 → Int32} {d : Int64} {n : Nat} (h : ∀ x, f2 x = f x) (h2 : ∀ x, g2 x = g x) : bwlDig f2 g2 d n = bwlDig f g d n := by
  have e1 : f2 = f := funext h
  have e2 : g2 = g := funext h2
  rw [e1, e2]
theorem amtF_c2 {f g : Nat → Int32} {cl : Nat} {x : Int32} {m : Nat} (hc : cl < 4) (h : ∀ z, z < m * 4 → g z = f z) : amtF g cl x m = amtF f cl x m := by
  induction m with
  | zero => rfl
  | succ m ih => rw [amtF, amtF, ih (fun z hz => h z (by omega)), h (m * 4 + cl) (by omega), h (m * 4 + 2) (by omega)]
theorem holdF_c2 {F G : Nat → Int32} {x : Int32} {L : Nat} (h : ∀ p, p < L → G p = F p) : ∀ k i, i + k ≤ L → holdF G x i k = holdF F x i k := by
  intro k
  induction k with
  | zero => intro i _; rfl
  | succ k ih =>
    intro i hi
    rw [holdF, holdF, ih (i + 1) (by omega), rsum_c2 (n := i + 1) (fun p hp => h p (by omega))]
theorem holdF_l2 {F : Nat → Int32} {x : Int32} : ∀ k i p, holdF F x i k = some p → p < i + k := by
  intro k
  induction k with
  | zero => intro i p h; simp [holdF] at h
  | succ k ih =>
    intro i p h
    rw [holdF] at h
    split at h
    · have := Option.some.inj h; omega
    · have := ih (i + 1) p h; omega
theorem usr_c2 {f g : Nat → Int32} {hd : Int32} {m : Nat} (h : ∀ z, z < m * 4 → g z = f z) : ∀ k i bh, i + k ≤ m → usr g hd bh i k = usr f hd bh i k := by
  intro k
  induction k with
  | zero => intro i bh _; rfl
  | succ k ih =>
    intro i bh hi
    rw [usr, usr, h (i * 4 + 0) (by omega), h (i * 4 + 2) (by omega), h (i * 4 + 1) (by omega), ih (i + 1) _ (by omega), ih (i + 1) _ (by omega)]
theorem holdI_c2 {F G : Nat → Int32} {ρ : Nat → Nat} {x : Int32} {L : Nat} (h : ∀ p, p < L → G p = F p) : holdI G ρ x L = holdI F ρ x L := by
  unfold holdI
  rw [holdF_c2 h L 0 (by omega)]
theorem userI_c2 {F G : Nat → Int32} {ρ : Nat → Nat} {f g : Nat → Int32} {m : Nat} {x : Int32} {L : Nat} (h : ∀ p, p < L → G p = F p) (hf : ∀ z, z < m * 4 → g z = f z) : userI G ρ g m x L = userI F ρ f m x L := by
  unfold userI
  rw [holdF_c2 h L 0 (by omega)]
  split
  · rename_i p hp
    have := holdF_l2 L 0 p hp
    rw [rsum_c2 (n := p) (fun q hq => h q (by omega)), h p (by omega), usr_c2 hf m 0 _ (by omega)]
  · rfl
section EVA
variable {o u L m k : Nat} {ρ : Nat → Nat} {D V : mDt}
theorem ev_w (hv : ev true o u m k D V) {i j : Nat} (hi : i < 10) (h1 : 1 ≤ j) (h2 : j < 15) : V (u + 6 + i) j = D (o + 6 + i) j := hv.1.1 i hi j h1 h2 (Or.inl rfl)
theorem askO_ev (hv : ev true o u m k D V) (hρ : ∀ p, p < L → ρ p < 10) {q w : Nat} (hq : q < L) (hw : w < 14) : askO u ρ q m V w = askO o ρ q m D w := by
  have g : ∀ {j : Nat}, 1 ≤ j → j < 15 → V (u + 6 + ρ q) j = D (o + 6 + ρ q) j := fun h1 h2 => ev_w hv (hρ q hq) h1 h2
  have hs : rsum (fun p => V (u + 6 + ρ p) 2) q = rsum (fun p => D (o + 6 + ρ p) 2) q := rsum_c2 (fun p hp => ev_w hv (hρ p (by omega)) (by decide) (by decide))
  rcases sw14 hw with rfl | rfl | rfl | rfl | rfl | rfl | rfl | rfl | rfl | rfl | rfl | rfl | rfl | rfl
  · exact g (by decide) (by decide)
  · exact g (by decide) (by decide)
  · exact g (by decide) (by decide)
  · exact g (by decide) (by decide)
  · exact g (by decide) (by decide)
  · exact g (by decide) (by decide)
  · exact g (by decide) (by decide)
  · rfl
  · show (if V (u + 6 + ρ q) 2 ≤ 0 then -1 else rsum (fun p => V (u + 6 + ρ p) 2) q) = _
    rw [g (by decide) (by decide), hs]; rfl
  · show V (u + 6 + ρ q) 2 - amtF (V (u + 17)) 0 (nI (ρ q)) m + amtF (V (u + 17)) 1 (nI (ρ q)) m = _
    rw [g (by decide) (by decide), amtF_c2 (by decide) hv.2.2.1, amtF_c2 (by decide) hv.2.2.1]; rfl
  · exact g (by decide) (by decide)
  · show V (u + 6 + ρ q) 5 * 20 + V (u + 6 + ρ q) 10 = _
    rw [g (by decide) (by decide), g (by decide) (by decide)]; rfl
  · exact g (by decide) (by decide)
  · exact g (by decide) (by decide)
theorem askA_ev (hv : ev true o u m k D V) (hW : cW o L ρ m k D) (hW2 : cW u L ρ m k V) {w : Nat} (hw : w < 16) : askA u L ρ V w = askA o L ρ D w := by
  have hρ : ∀ p, p < L → ρ p < 10 := fun p hp => (hW.1.2.2 p hp).1
  have hs : ∀ j, 1 ≤ j → j < 15 → rsum (fun p => V (u + 6 + ρ p) j) L = rsum (fun p => D (o + 6 + ρ p) j) L := fun j h1 h2 => rsum_c2 (fun p hp => ev_w hv (hρ p hp) h1 h2)
  have h4 := hv.1.2 4 (by decide) (by decide)
  rcases sw16 hw with rfl | rfl | rfl | rfl | rfl | rfl | rfl | rfl | rfl | rfl | rfl | rfl | rfl | rfl | rfl | rfl
  · exact h4
  · show rm70 (V u 4) = _
    rw [h4]; rfl
  · exact hv.2.1 0 (by decide)
  · exact chFlow_cg hv.2.1
  · exact hv.2.1 1 (by decide)
  · exact hv.2.1 2 (by decide)
  · exact hv.2.1 3 (by decide)
  · show V (u + 2) 4 = D (o + 2) 4
    rw [hW.1.1, hW2.1.1]
  · exact hv.2.2.2.2
  · show 5040 - rsum (fun p => V (u + 6 + ρ p) 2) L = _
    rw [hs 2 (by decide) (by decide)]; rfl
  · show V (u + 16) 1 = D (o + 16) 1
    rw [hW.2.2.1, hW2.2.2.1]
  · show V (u + 18) 1 = D (o + 18) 1
    rw [hW.2.2.2.2.1, hW2.2.2.2.2.1]
  · exact hv.1.2 5 (by decide) (by decide)
  · exact hv.1.2 6 (by decide) (by decide)
  · exact hv.1.2 7 (by decide) (by decide)
  · exact hs 3 (by decide) (by decide)
theorem digB_c2 {F G : Nat → Int32} {len : Int32} {n : Nat} (h : ∀ i, i < n → ¬ 90 < len + nI i → G i = F i) : digB G len n = digB F len n := by
  induction n with
  | zero => rfl
  | succ n ih =>
    rw [digB, digB, ih (fun i hi => h i (by omega))]
    split
    · rfl
    · rename_i hc
      rw [h n (by omega) hc]
theorem ev_u1 {c : Bool} {o u m k : Nat} {D V : mDt} (hv : ev c o u m k D V) (j0 : Nat) {v w : Int32} (e : w = v) : ev c o u m k (upd2 D (o + 1) j0 v) (upd2 V (u + 1) j0 w) := by
  refine ⟨ewv_of hv.1 (fun i hi => upd2_ra (by omega)) (upd2_ra (by omega)) (fun i hi => upd2_ra (by omega)) (upd2_ra (by omega)), fun j hj => ?_, fun z hz => ?_, fun z hz => ?_, ?_⟩
  · by_cases q : j = j0
    · subst q; rw [upd2_eq, upd2_eq, e]
    · rw [upd2_nk q, upd2_nk q]; exact hv.2.1 j hj
  · rw [upd2_na (by omega), upd2_na (by omega)]; exact hv.2.2.1 z hz
  · rw [upd2_na (by omega), upd2_na (by omega)]; exact hv.2.2.2.1 z hz
  · rw [upd2_na (by omega), upd2_na (by omega)]; exact hv.2.2.2.2
theorem digF_ev {o2 u2 d : Nat} {x : Int32} {F G : Nat → Int32} (hW : cW o L ρ m k D) (hW2 : cW u L ρ m k V) (hv : ev true o u m k D V) (h1 : digOk o o2 L ρ m k x d D F 21) (h2 : digOk u u2 L ρ m k x d V G 21) : (digB G (V (u + 1) 1) 21).1 = (digB F (D (o + 1) 1) 21).1 := by
  have e1 : V (u + 1) 1 = D (o + 1) 1 := hv.2.1 1 (by decide)
  rw [e1]
  refine congrArg Prod.fst (digB_c2 (fun i hi hc => ?_))
  obtain ⟨A, a1, a2⟩ := h1 i hi hc
  obtain ⟨B, b1, b2⟩ := h2 i hi (by rw [e1]; exact hc)
  have hAB : ev true o2 u2 m k A B := ev_trans (ev_trans (ev_sym (ev_lk a1)) hv) (ev_lk b1)
  rw [a2, b2]
  exact daysS_ev (Or.inl rfl) (lk_days (cW_lk hW a1)) (lk_days (cW_lk hW2 b1)) (ev_u1 hAB 1 (by rw [hAB.2.1 1 (by decide)])) d
theorem pump_ev {o2 u2 d : Nat} {x z : Int32} {A1 A2 B1 B2 : mDt} (hW : cW o L ρ m k D) (hW2 : cW u L ρ m k V) (hv : ev true o u m k D V) (a1 : lkV o o2 L ρ m k D A1) (a2 : lkV o o2 L ρ m k D A2) (b1 : lkV u u2 L ρ m k V B1) (b2 : lkV u u2 L ρ m k V B2) : daysS u2 ρ L x (B1, m, k) d - daysS u2 ρ L x (upd2 B2 (u2 + 1) 3 z, m, k) d = daysS o2 ρ L x (A1, m, k) d - daysS o2 ρ L x (upd2 A2 (o2 + 1) 3 z, m, k) d := by
  have h1 : ev true o2 u2 m k A1 B1 := ev_trans (ev_trans (ev_sym (ev_lk a1)) hv) (ev_lk b1)
  have h2 : ev true o2 u2 m k A2 B2 := ev_trans (ev_trans (ev_sym (ev_lk a2)) hv) (ev_lk b2)
  rw [daysS_ev (x := x) (Or.inl rfl) (cW_lk hW a1) (cW_lk hW2 b1) h1 d, daysS_ev (x := x) (Or.inl rfl) (lk_days (j := 3) (v := z) (cW_lk hW a2)) (lk_days (j := 3) (v := z) (cW_lk hW2 b2)) (ev_u1 h2 3 rfl) d]
theorem ownDig_ev {o2 o3 u2 u3 e : Nat} {d : Int64} (hI : cI o L e ρ m k D) (hv : ev true o u m k D V) (h2 : ∀ i, i < 10 → V (u2 + 6 + i) 13 = D (o2 + 6 + i) 13) (h3 : ∀ i, i < 10 → V (u3 + 6 + i) 14 = D (o3 + 6 + i) 14) : ∀ n, n ≤ 10 → ownDig u u2 u3 L ρ m V d n = ownDig o o2 o3 L ρ m D d n := by
  have hρ : ∀ p, p < L → ρ p < 10 := fun p hp => (hI.1.1.2.2 p hp).1
  intro n
  induction n with
  | zero => intro _; rfl
  | succ n ih =>
    intro hn
    rw [ownDig, ownDig, ih (by omega), ev_w hv (show n < 10 by omega) (by decide) (by decide), ev_w hv (show n < 10 by omega) (by decide) (by decide), h2 n (by omega), h3 n (by omega)]
    split
    · rfl
    · rename_i hz
      obtain ⟨q, hq, rfl⟩ := liv_at hI (show n < 10 by omega) hz
      rw [plc_at hI.2.2.2.2.1 hq, digM_c2 (fun w hw => askO_ev hv hρ hq hw)]
/-- two digests -/
theorem dig_ev {o2 o3 u2 u3 e e' dd : Nat} {B B' W1 W2 W1' W2' : mDt} {F F' : Nat → Int32} (hI : cI o L e ρ m k D) (hI2 : cI u L e' ρ m k V) (hv : ev true o u m k D V)
    (hB : ∀ a, o ≤ a → a < o + 20 → B a = D a) (hA : ∃ A, lkV o o2 L ρ m k B A ∧ ∀ a, o2 ≤ a → a < o2 + 20 → B a = (daysD o2 ρ L 0 (A, m, k) 7).1 a) (hC : ∃ A, lkV o o3 L ρ m k B A ∧ ∀ a, o3 ≤ a → a < o3 + 20 → B a = (daysD o3 ρ L 3 (A, m, k) (harvN dd)).1 a) (hF : digOk o o2 L ρ m k 0 3 B F 21) (hW1 : lkV o o2 L ρ m k B W1) (hW2 : lkV o o2 L ρ m k B W2)
    (hB' : ∀ a, u ≤ a → a < u + 20 → B' a = V a) (hA' : ∃ A, lkV u u2 L ρ m k B' A ∧ ∀ a, u2 ≤ a → a < u2 + 20 → B' a = (daysD u2 ρ L 0 (A, m, k) 7).1 a) (hC' : ∃ A, lkV u u3 L ρ m k B' A ∧ ∀ a, u3 ≤ a → a < u3 + 20 → B' a = (daysD u3 ρ L 3 (A, m, k) (harvN dd)).1 a) (hF' : digOk u u2 L ρ m k 0 3 B' F' 21) (hW1' : lkV u u2 L ρ m k B' W1') (hW2' : lkV u u2 L ρ m k B' W2') :
    digR u u2 u3 L ρ m k (askA u L ρ V) B' F' W1' W2' = digR o o2 o3 L ρ m k (askA o L ρ D) B F W1 W2 := by
  have hρ : ∀ p, p < L → ρ p < 10 := fun p hp => (hI.1.1.2.2 p hp).1
  have hIB := cI_blk hI hB
  have hIB' := cI_blk hI2 hB'
  have hvB : ev true o u m k B B' := ev_trans (ev_trans (ev_blk (fun a h1 h2 => (hB a h1 h2).symm)) hv) (ev_blk hB')
  obtain ⟨A, a1, a2⟩ := hA
  obtain ⟨A', a1', a2'⟩ := hA'
  obtain ⟨C, c1, c2⟩ := hC
  obtain ⟨C', c1', c2'⟩ := hC'
  have hAA : ev true o2 u2 m k A A' := ev_trans (ev_trans (ev_sym (ev_lk a1)) hvB) (ev_lk a1')
  have hCC : ev true o3 u3 m k C C' := ev_trans (ev_trans (ev_sym (ev_lk c1)) hvB) (ev_lk c1')
  have h2 : ∀ i, i < 10 → B' (u2 + 6 + i) 13 = B (o2 + 6 + i) 13 := fun i hi => by
    rw [a2 _ (by omega) (by omega), a2' _ (by omega) (by omega)]
    exact ev_w (days_ev (x := 0) (Or.inl rfl) (cW_lk hIB.1 a1) (cW_lk hIB'.1 a1') hAA 7).2.1 hi (by decide) (by decide)
  have h3 : ∀ i, i < 10 → B' (u3 + 6 + i) 14 = B (o3 + 6 + i) 14 := fun i hi => by
    rw [c2 _ (by omega) (by omega), c2' _ (by omega) (by omega)]
    exact ev_w (days_ev (x := 3) (Or.inl rfl) (cW_lk hIB.1 c1) (cW_lk hIB'.1 c1') hCC (harvN dd)).2.1 hi (by decide) (by decide)
  have hb : ∀ p, p < L → (fun p => B' (u + 6 + ρ p) 2) p = (fun p => B (o + 6 + ρ p) 2) p := fun p hp => ev_w hvB (hρ p hp) (by decide) (by decide)
  unfold digR
  rw [pump_ev hIB.1 hIB'.1 hvB hW1 hW2 hW1' hW2', digF_ev hIB.1 hIB'.1 hvB hF hF', lstDig_c2 (by decide) hvB.2.2.2.1, lstDig_c2 (by decide) hvB.2.2.1, digM_c2 (fun w hw => askA_ev hv hI.1 hI2.1 hw), ownDig_ev hIB hvB h2 h3 10 (Nat.le_refl _), bwlDig_c2 (f := fun x => holdI (fun p => B (o + 6 + ρ p) 2) ρ x L) (g := fun x => userI (fun p => B (o + 6 + ρ p) 2) ρ (B (o + 17)) m x L) (fun x => holdI_c2 hb) (fun x => userI_c2 hb hvB.2.2.1)]
end EVA
