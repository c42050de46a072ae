theorem rSim_fr {o L e : Nat} {ρ : Nat → Nat} {m k : Nat} {V : mDt} {r : Nat} {lo : Nat → Nat} {t1 t2 t3 : Int32} {D D' : mDt} (h : rSim o L e ρ m k V r lo t1 t2 t3 D) (hm : m ≤ 8) (hk : k ≤ 8) (hlo : ∀ i, i < 8 → lo i < 8) (hD : ∀ a, r ≤ a → a < r + 31 → D' a = D a) : rSim o L e ρ m k V r lo t1 t2 t3 D' := by
  obtain ⟨h1, h2, h3, h4, h5, h6⟩ := h
  refine ⟨fun i hi => by rw [hD _ (by omega) (by omega)]; exact h1 i hi, fun p hp => by rw [hD _ (by omega) (by omega)]; exact h2 p hp, fun i hi j hj => ?_, fun i hi j hj => by rw [hD _ (by omega) (by omega)]; exact h4 i hi j hj, rHd_of h5 (hD _ (by omega) (by omega)), ?_⟩
  · have := hlo i (by omega)
    rw [hD _ (by omega) (by omega)]; exact h3 i hi j hj
  · unfold rTot; rw [hD _ (by omega) (by omega)]; exact h6
/-- t stands in the row -/
def livR (L : Nat) (ρ : Nat → Nat) (t : Nat) : Prop := ∃ p, p < L ∧ ρ p = t
theorem lit_1 {o L : Nat} {ρ : Nat → Nat} {f : Nat → Int32} {y en fb fl : Int32} {D : mDt} {l : Nat} {d : Nat → Int32} (hc : f (l * 4 + 0) = y) (h : ∀ t, livR L ρ t → d t = lentD o f y en fb fl D l (o + 6 + t) 11) (ht : livR L ρ (toN (f (l * 4 + 1)))) : ∀ t, livR L ρ t → upd d (toN (f (l * 4 + 1))) (d (toN (f (l * 4 + 1))) + fl * bodF (lentE f y en l - f (l * 4 + 2)) (lentE f y en l) fb) t = lentD o f y en fb fl D (l + 1) (o + 6 + t) 11 := by
  intro t hl
  rw [lentD, if_pos hc]
  by_cases e : t = toN (f (l * 4 + 1))
  · subst e
    rw [upd2_eq, h _ ht, Int32.mul_comm]
    simp [upd]
  · rw [upd2_na (by omega), ← h t hl]
    simp [upd, e]
theorem lit_2 {o L : Nat} {ρ : Nat → Nat} {f : Nat → Int32} {fb fl : Int32} {D : mDt} {m : Nat} {F : Nat → Int32} {i : Nat} {d : Nat → Int32} (h : ∀ t, livR L ρ t → d t = lentD o f (nI (ρ i)) (rsum F (i + 1)) fb fl (gwD o ρ f m fb fl F D i) m (o + 6 + t) 11) (hi : i < L) : ∀ t, livR L ρ t → upd d (ρ i) (d (ρ i) + fl * bodF (rsum F i) (lentE f (nI (ρ i)) (rsum F (i + 1)) m) fb) t = gwD o ρ f m fb fl F D (i + 1) (o + 6 + t) 11 := by
  intro t hl
  rw [gwD, gwS]
  show _ = upd2 (lentD o f (nI (ρ i)) (rsum F (i + 1)) fb fl (gwD o ρ f m fb fl F D i) m) (o + 6 + ρ i) 11 (lentD o f (nI (ρ i)) (rsum F (i + 1)) fb fl (gwD o ρ f m fb fl F D i) m (o + 6 + ρ i) 11 + bodF (rsum F i) (lentE f (nI (ρ i)) (rsum F (i + 1)) m) fb * fl) (o + 6 + t) 11
  by_cases e : t = ρ i
  · subst e
    rw [upd2_eq, h _ ⟨i, hi, rfl⟩, Int32.mul_comm]
    simp [upd]
  · rw [upd2_na (by omega), ← h t hl]
    simp [upd, e]
theorem rSim_wtrB {o L e : Nat} {ρ : Nat → Nat} {m k : Nat} {V : mDt} {r : Nat} {lo : Nat → Nat} {t1 t2 t3 : Int32} {D D' : mDt} (h : rSim o L e ρ m k V r lo t1 t2 t3 D) (hW : cW o L ρ m k V) (hlo : ∀ i, i < 8 → lo i < 8) (hD : D' = upd2 D r 14 (V o 5 + t1 + chFlow (V (o + 1)) * bodF (rsum (fun p => V (o + 6 + ρ p) 2) L) 5040 (rm7 (V o 4) * 720))) : rSim o L e ρ m k (wtrB o ρ L m V) r lo t1 t2 t3 D' := by
  have hρ : ∀ p, p < L → ρ p < 10 := fun p hp => (hW.1.2.2 p hp).1
  have hm := hW.2.2.2.1.1
  have hk := hW.2.2.2.2.2.1
  have v1 : ∀ a, a ≠ o → (a < o + 6 ∨ o + 16 ≤ a) → wtrB o ρ L m V a = V a := fun a h1 h2 => wtrB_row ⟨by omega, h2⟩ hρ hW.2.2.2.1
  have v0 : ∀ j, j ≠ 5 → j ≠ 11 → wtrB o ρ L m V o j = V o j := fun j h1 h2 => by rw [wtrB, upd2_nk h1, gwD_11 h2]
  have d1 : ∀ a, a ≠ r → D' a = D a := fun a h1 => by rw [hD, upd2_ra h1]
  have d0 : ∀ j, j ≠ 14 → D' r j = D r j := fun j h1 => by rw [hD, upd2_nk h1]
  obtain ⟨h1, h2, h3, h4, ⟨g1, g2, g3, g4, g5, g6, g7, g8, g9⟩, h6⟩ := h
  refine ⟨fun i hi j hj => ?_, fun p hp => by rw [d1 _ (by omega)]; exact h2 p hp, fun i hi j hj => ?_, fun i hi j hj => ?_, ⟨?_, ?_, ?_, ?_, ?_, ?_, ?_, ?_, ?_⟩, ?_, ?_, ?_⟩
  · rw [d1 _ (by omega), wtrB_11 (by omega) (clm_ne j hj).2.1]; exact h1 i hi j hj
  · rw [d1 _ (by omega), v1 _ (by omega) (by omega)]; exact h3 i hi j hj
  · rw [d1 _ (by omega), v1 _ (by omega) (by omega)]; exact h4 i hi j hj
  · rw [d0 _ (by decide)]; exact g1
  · rw [d0 _ (by decide)]; exact g2
  · rw [d0 _ (by decide)]; exact g3
  · rw [d0 _ (by decide)]; exact g4
  · rw [d0 _ (by decide), v0 _ (by decide) (by decide)]; exact g5
  · rw [d0 _ (by decide), v1 _ (by omega) (by omega)]; exact g6
  · rw [d0 _ (by decide), v1 _ (by omega) (by omega)]; exact g7
  · rw [d0 _ (by decide), v1 _ (by omega) (by omega)]; exact g8
  · rw [d0 _ (by decide), v1 _ (by omega) (by omega)]; exact g9
  · rw [hD, upd2_eq, wtrB, upd2_eq, Int32.mul_comm, Int32.add_assoc, Int32.add_comm t1, ← Int32.add_assoc]
  · rw [d0 _ (by decide), v0 _ (by decide) (by decide)]; exact h6.2.1
  · rw [d0 _ (by decide), v0 _ (by decide) (by decide)]; exact h6.2.2
theorem tkS_row {o a : Nat} (ha : o < a) {pl : Int32} {D : mDt} : tkS o a pl D a = takeX pl (D a) := by
  rw [tkS, upd2_ra (by omega), tkM, setRow_eq, upd2_ra (by omega)]
theorem tkS_out {o a b : Nat} {pl : Int32} {D : mDt} (h : b ≠ o) (h2 : b ≠ a) : tkS o a pl D b = D b := by
  rw [tkS, upd2_ra h, tkM, setRow_ne h2, upd2_ra h]
theorem tkS_o {o a j : Nat} (ha : o < a) {pl : Int32} {D : mDt} (h : j ≠ 6) : tkS o a pl D o j = D o j := by
  rw [tkS, upd2_nk h, tkM, setRow_ne (by omega), upd2_nk h]
theorem tkS_6 {o a : Nat} (ha : o < a) {pl : Int32} {D : mDt} : tkS o a pl D o 6 = D o 6 + (D a 11 - D a 11 * (100 - 2 * pl) / 100) := by
  have e1 : tkM o a pl D o 6 = D o 6 + D a 11 := by rw [tkM, setRow_ne (by omega), upd2_eq]
  have e2 : tkM o a pl D a 12 = D a 11 * (100 - 2 * pl) / 100 := by
    rw [tkM, setRow_eq, upd2_ra (by omega)]
    rfl
  rw [tkS, upd2_eq, e1, e2]
  generalize D a 11 * (100 - 2 * pl) / 100 = z
  rw [Int32.sub_eq_add_neg, Int32.sub_eq_add_neg, Int32.add_assoc]
theorem tkD_out {o : Nat} {ρ : Nat → Nat} {D : mDt} {k a : Nat} (h : ∀ p, p < k → a ≠ o + 6 + ρ p) (h0 : a ≠ o) : tkD o ρ D k a = D a := by
  induction k with
  | zero => rfl
  | succ k ih =>
    rw [tkD, tkS_out h0 (h k (Nat.lt_succ_self k))]
    exact ih (fun p hp => h p (Nat.lt_succ_of_lt hp))
/-- one of the row takes his water -/
theorem rSim_tk {o L e : Nat} {ρ : Nat → Nat} {m k : Nat} {V : mDt} {r : Nat} {lo : Nat → Nat} {t1 t2 t3 : Int32} {D D' : mDt} (h : rSim o L e ρ m k V r lo t1 t2 t3 D) (hm : m ≤ 8) (hk : k ≤ 8) {t : Nat} (ht : t < 10) {pl c : Int32} (hlo : ∀ i, i < 8 → lo i < 8) (hc : c = V (o + 6 + t) 11 * (100 - 2 * pl) / 100) (hD : D' = upd2 (upd2 (upd2 D (r + 2 + t) 9 c) (r + 2 + t) 10 (V (o + 6 + t) 13 + c)) r 15 (V o 6 + t2 + (V (o + 6 + t) 11 - c))) : rSim o L e ρ m k (tkS o (o + 6 + t) pl V) r lo t1 t2 t3 D' := by
  have d1 : ∀ a, a ≠ r → a ≠ r + 2 + t → D' a = D a := fun a h1 h2 => by rw [hD, upd2_ra h1, upd2_ra h2, upd2_ra h2]
  have d0 : ∀ j, j ≠ 15 → D' r j = D r j := fun j h1 => by rw [hD, upd2_nk h1, upd2_ra (by omega), upd2_ra (by omega)]
  have v1 : ∀ a, a ≠ o → a ≠ o + 6 + t → tkS o (o + 6 + t) pl V a = V a := fun a h1 h2 => tkS_out h1 h2
  have v0 : ∀ j, j ≠ 6 → tkS o (o + 6 + t) pl V o j = V o j := fun j h1 => tkS_o (by omega) h1
  obtain ⟨h1, h2, h3, h4, ⟨g1, g2, g3, g4, g5, g6, g7, g8, g9⟩, h6⟩ := h
  refine ⟨fun i hi => ?_, fun p hp => by rw [d1 _ (by omega) (by omega)]; exact h2 p hp, fun i hi j hj => ?_, fun i hi j hj => ?_, ⟨?_, ?_, ?_, ?_, ?_, ?_, ?_, ?_, ?_⟩, ?_, ?_, ?_⟩
  · by_cases e : i = t
    · subst e
      rw [tkS_row (by omega), hD, upd2_ra (by omega), upd2_row, upd2_row]
      subst hc
      exact rwq_out (rwq_upd (rwq_upd (h1 i hi) 9 (by decide) rfl) 10 (by decide) rfl) (Or.inr (Or.inl rfl))
    · rw [d1 _ (by omega) (by omega), v1 _ (by omega) (by omega)]; exact h1 i hi
  · have := hlo i (by omega)
    rw [d1 _ (by omega) (by omega), v1 _ (by omega) (by omega)]; exact h3 i hi j hj
  · rw [d1 _ (by omega) (by omega), v1 _ (by omega) (by omega)]; exact h4 i hi j hj
  · rw [d0 _ (by decide)]; exact g1
  · rw [d0 _ (by decide)]; exact g2
  · rw [d0 _ (by decide)]; exact g3
  · rw [d0 _ (by decide)]; exact g4
  · rw [d0 _ (by decide), v0 _ (by decide)]; exact g5
  · rw [d0 _ (by decide), v1 _ (by omega) (by omega)]; exact g6
  · rw [d0 _ (by decide), v1 _ (by omega) (by omega)]; exact g7
  · rw [d0 _ (by decide), v1 _ (by omega) (by omega)]; exact g8
  · rw [d0 _ (by decide), v1 _ (by omega) (by omega)]; exact g9
  · rw [d0 _ (by decide), v0 _ (by decide)]; exact h6.1
  · rw [hD, upd2_eq, tkS_6 (by omega), ← hc, Int32.add_assoc, Int32.add_comm t2, ← Int32.add_assoc]
  · rw [d0 _ (by decide), v0 _ (by decide)]; exact h6.2.2

set_option maxRecDepth 100000 in
set_option maxHeartbeats 4000000 in
theorem r_water {κ : mKp} {n : Nat} {sh : mSh} {P : mPt} {D : mDt} {E : mEt} {r : Nat} {lo : Nat → Nat} (hL : rLay r lo sh P) {o L e m k : Nat} {ρ : Nat → Nat} {V : mDt} {t1 t2 t3 : Int32} (hS : rSim o L e ρ m k V r lo t1 t2 t3 D) (hW : cW o L ρ m k V) (hinj : ∀ p q, p < q → q < L → ρ p ≠ ρ q) (hfl : ∀ i, i < 10 → V (o + 6 + i) 11 = 0) (hto : ∀ i, i < m → livR L ρ (toN (V (o + 17) (i * 4 + 1)))) : mFnI κ yX6_water cX6_water 8 (Option.some Jvm.ClassFile.FieldType.int) 2 44 [.ref r, .int (chFlow (V (o + 1)))] n sh P D E (fun ans D' => rSim o L e ρ m k (wtrD o ρ L m V) r lo t1 t2 t3 D' ∧ ans = wtrR o ρ L m V ∧ ∀ a, (a < r ∨ r + 32 ≤ a) → D' a = D a) := by
  refine mMet_of (by decide) (Nat.le_of_ble_eq_true rfl) ?_
  intro Γ Q hQ h hin
  have h : mOk Γ κ RX6 cX6_water 8 (Option.some Jvm.ClassFile.FieldType.int) { frames := 2, cells := 0, slots := 0, locals := 44 } := h
  have hρ : ∀ p, p < L → ρ p < 10 := fun p hp => (hW.1.2.2 p hp).1
  have hL10 := hW.1.2.1
  have hm8 := hW.2.2.2.1.1
  have hk8 := hW.2.2.2.2.2.1
  show mV Γ Q 0 0 n sh P D E [(0, .ref r), (1, .int (chFlow (V (o + 1))))] [] 0
  refine V_iconst h 1 (v := 0) (by decide) dX6_water_0 rfl ?_
  refine V_istore_n h 2 [(2, .int 0), (0, .ref r), (1, .int (chFlow (V (o + 1))))] (by decide) rfl dX6_water_1 rfl ?_
  refine V_iconst h 3 (v := 0) (by decide) dX6_water_2 rfl ?_
  refine V_istore_n h 4 [(3, .int 0), (2, .int 0), (0, .ref r), (1, .int (chFlow (V (o + 1))))] (by decide) rfl dX6_water_3 rfl ?_
  have LP4 : ∀ (kk : Nat) (i : Nat) (x3 : Int32) (Dk : mDt), (i ≤ L) → (x3 = nI i) → (∀ a, a ≠ r + 31 → Dk a = D a) → (∀ p, p < i → Dk (r + 31) (ρ p) = 0) → L - i < kk → mV Γ Q 0 0 n sh P Dk E [(0, .ref r), (1, .int (chFlow (V (o + 1)))), (2, .int 0), (3, .int x3)] [] 4 := by
    intro kk
    induction kk with
    | zero =>
      intro i x3 Dk _ _ _ _ hms
      exact absurd hms (Nat.not_lt_zero _)
    | succ kk ih =>
      intro i x3 Dk hi e3 hF hz hms
      subst e3
      have hSk := rSim_fr hS hm8 hk8 hL.2.2.2.1 (fun a h1 h2 => hF a (by omega))
      refine V_iload_n h 5 3 rfl dX6_water_4 rfl ?_
      refine V_aload_n h 6 0 rfl dX6_water_5 rfl ?_
      refine g_X6_52 h 9 (R_s0 hL) dX6_water_6 rfl ?_
      refine V_top (y := nI L) hSk.2.2.2.2.1.2.1 ?_
      refine V_icmp_ge h 30 12 dX6_water_9 (by decide) rfl (fun c9 => ?_) (fun c9 => ?_)
      · skip
        have hex : i = L := by have := mGe c9 (by omega) (by omega); omega
        refine V_iconst h 31 (v := 0) (by decide) dX6_water_30 rfl ?_
        refine V_istore_n h 32 [(3, .int 0), (0, .ref r), (1, .int (chFlow (V (o + 1)))), (2, .int 0)] (by decide) rfl dX6_water_31 rfl ?_
        have LP32 : ∀ (kk : Nat) (i : Nat) (x2 x3 : Int32) (Dk : mDt), (i ≤ L) → (x2 = rsum (fun p => V (o + 6 + ρ p) 2) i) → (x3 = nI i) → (∀ a, a ≠ r + 31 → Dk a = D a) → (∀ t, livR L ρ t → Dk (r + 31) t = (gwD o ρ (V (o + 17)) m (rm7 (V o 4) * 720) (chFlow (V (o + 1))) (fun p => V (o + 6 + ρ p) 2) V i) (o + 6 + t) 11) → L - i < kk → mV Γ Q 0 0 n sh P Dk E [(0, .ref r), (1, .int (chFlow (V (o + 1)))), (2, .int x2), (3, .int x3)] [] 32 := by
          intro kk
          induction kk with
          | zero =>
            intro i x2 x3 Dk _ _ _ _ _ hms
            exact absurd hms (Nat.not_lt_zero _)
          | succ kk ih =>
            intro i x2 x3 Dk hi e2 e3 hF hlit hms
            subst e3
            have hSk := rSim_fr hS hm8 hk8 hL.2.2.2.1 (fun a h1 h2 => hF a (by omega))
            refine V_iload_n h 33 3 rfl dX6_water_32 rfl ?_
            refine V_aload_n h 34 0 rfl dX6_water_33 rfl ?_
            refine g_X6_52 h 37 (R_s0 hL) dX6_water_34 rfl ?_
            refine V_top (y := nI L) hSk.2.2.2.2.1.2.1 ?_
            refine V_icmp_ge h 178 40 dX6_water_37 (by decide) rfl (fun c37 => ?_) (fun c37 => ?_)
            · skip
              have hex : i = L := by have := mGe c37 (by omega) (by omega); omega
              refine V_aload_n h 179 0 rfl dX6_water_178 rfl ?_
              refine V_dup h 180 rfl dX6_water_179 rfl ?_
              refine g_X6_103 h 183 (R_s0 hL) dX6_water_180 rfl ?_
              refine V_top (y := V o 5 + t1) hSk.2.2.2.2.2.1 ?_
              refine V_iload_n h 184 1 rfl dX6_water_183 rfl ?_
              refine V_aload_n h 185 0 rfl dX6_water_184 rfl ?_
              refine V_iload_n h 186 2 rfl dX6_water_185 rfl ?_
              refine V_sipush h 189 (v := 5040) (by decide) dX6_water_186 rfl ?_
              refine CVI h 192 (As := [.int x2, .int 5040]) (r_today hL hSk hW (x2) (5040)) rfl (R_s0 hL) qL_X6_100 qI_X6_today qS_X6_today qZ_X6 qC_X6_today hd_X6_today ⟨Nat.le_of_ble_eq_true rfl, Nat.le_of_ble_eq_true rfl⟩ (Nat.le_of_ble_eq_true rfl) rfl rfl dX6_water_189 (Nat.zero_le _) (Nat.zero_le _) (fun r1 D1 hq1 => ?_)
              rw [hq1.1, hq1.2]
              refine V_imul h 193 dX6_water_192 rfl ?_
              refine V_iadd h 194 dX6_water_193 rfl ?_
              refine p_X6_103 h 197 (R_s0 hL) dX6_water_194 rfl ?_
              obtain ⟨D2, eD2⟩ : ∃ zz, zz = upd2 Dk r 14 ((V o 5 + t1) + ((chFlow (V (o + 1))) * (bodF x2 5040 (rm7 (V o 4) * 720)))) := ⟨_, rfl⟩
              rw [← eD2]
              refine V_iconst h 198 (v := 0) (by decide) dX6_water_197 rfl ?_
              refine V_istore_n h 199 [(3, .int 0), (0, .ref r), (1, .int (chFlow (V (o + 1)))), (2, .int x2)] (by decide) rfl dX6_water_198 rfl ?_
              refine V_iconst h 200 (v := 0) (by decide) dX6_water_199 rfl ?_
              refine V_istore h 202 [(4, .int 0), (3, .int 0), (0, .ref r), (1, .int (chFlow (V (o + 1)))), (2, .int x2)] (by decide) rfl dX6_water_200 rfl ?_
              have hSB := rSim_wtrB hSk hW hL.2.2.2.1 (D' := D2) (by rw [eD2, e2, hex])
              have hlitL : ∀ t, livR L ρ t → Dk (r + 31) t = (gwD o ρ (V (o + 17)) m (rm7 (V o 4) * 720) (chFlow (V (o + 1))) (fun p => V (o + 6 + ρ p) 2) V L) (o + 6 + t) 11 := by have q := hlit; rw [hex] at q; exact q
              have LP202 : ∀ (kk : Nat) (i : Nat) (x3 x4 : Int32) (Dm : mDt), (i ≤ L) → (x3 = rsum (fun p => tkD o ρ (wtrB o ρ L m V) (p + 1) (o + 6 + ρ p) 12) i) → (x4 = nI i) → (rSim o L e ρ m k (tkD o ρ (wtrB o ρ L m V) i) r lo t1 t2 t3 Dm) → (∀ p, p < L → Dm (r + 31) (ρ p) = (wtrB o ρ L m V) (o + 6 + ρ p) 11) → (∀ a, (a < r ∨ r + 32 ≤ a) → Dm a = D a) → L - i < kk → mV Γ Q 0 0 n sh P Dm E [(0, .ref r), (3, .int x3), (4, .int x4)] [] 202 := by
                intro kk
                induction kk with
                | zero =>
                  intro i x3 x4 Dm _ _ _ _ _ _ hms
                  exact absurd hms (Nat.not_lt_zero _)
                | succ kk ih =>
                  intro i x3 x4 Dm hi e3 e4 hSm hl3 hFm hms
                  subst e4
                  refine V_iload h 204 2 rfl dX6_water_202 rfl ?_
                  refine V_aload_n h 205 0 rfl dX6_water_204 rfl ?_
                  refine g_X6_52 h 208 (R_s0 hL) dX6_water_205 rfl ?_
                  refine V_top (y := nI L) hSm.2.2.2.2.1.2.1 ?_
                  refine V_icmp_ge h 307 211 dX6_water_208 (by decide) rfl (fun c208 => ?_) (fun c208 => ?_)
                  · skip
                    have hex : i = L := by have := mGe c208 (by omega) (by omega); omega
                    refine V_iload_n h 308 1 rfl dX6_water_307 rfl ?_
                    exact V_iret h rfl hQ (Nat.zero_le _) (Nat.zero_le _) ⟨rfl, rfl, rfl, rfl, _, rfl, ⟨by rw [hex] at hSm; exact hSm, by rw [e3, hex]; rfl, hFm⟩⟩ dX6_water_308
                  · skip
                    have hlt := mLt c208 (by omega)
                    refine V_aload_n h 212 0 rfl dX6_water_211 rfl ?_
                    refine g_X6_11 h 215 (b := r + 1) (R_s0 hL) (R_p0 hL) dX6_water_212 rfl ?_
                    refine V_aload_n h 216 0 rfl dX6_water_215 rfl ?_
                    refine g_X6_16 h 219 (b := r + 12) (R_s0 hL) (R_p1 hL) dX6_water_216 rfl ?_
                    refine V_iload h 221 2 rfl dX6_water_219 rfl ?_
                    refine V_iald h 222 i (R_s12 hL) rfl (by omega) (by decide) dX6_water_221 rfl ?_
                    refine V_top (y := nI (ρ i)) (hSm.2.1 i hlt) ?_
                    refine V_aald h 223 (b := r + 2 + (ρ i)) (ρ i) (Or.inr rfl) (R_s1 hL) rfl (hρ i hlt) (by decide) (R_pw hL (hρ i hlt)) dX6_water_222 rfl ?_
                    refine V_astore h 225 [(5, .ref (r + 2 + (ρ i))), (0, .ref r), (3, .int x3), (4, .int (nI i))] (by decide) rfl dX6_water_223 rfl ?_
                    refine V_aload h 227 0 rfl dX6_water_225 rfl ?_
                    refine V_bipush h 229 (v := 9) (by decide) dX6_water_227 rfl ?_
                    refine V_aload_n h 230 1 rfl dX6_water_229 rfl ?_
                    refine g_X6_26 h 233 (b := r + 31) (R_s0 hL) (R_p4 hL) dX6_water_230 rfl ?_
                    refine V_aload_n h 234 1 rfl dX6_water_233 rfl ?_
                    refine g_X6_16 h 237 (b := r + 12) (R_s0 hL) (R_p1 hL) dX6_water_234 rfl ?_
                    refine V_iload h 239 3 rfl dX6_water_237 rfl ?_
                    refine V_iald h 240 i (R_s12 hL) rfl (by omega) (by decide) dX6_water_239 rfl ?_
                    refine V_top (y := nI (ρ i)) (hSm.2.1 i hlt) ?_
                    refine V_iald h 241 (ρ i) (R_s31 hL) rfl (hρ i hlt) (by decide) dX6_water_240 rfl ?_
                    refine V_top (y := (wtrB o ρ L m V) (o + 6 + ρ i) 11) (hl3 i hlt) ?_
                    refine V_bipush h 243 (v := 100) (by decide) dX6_water_241 rfl ?_
                    refine V_iconst h 244 (v := 2) (by decide) dX6_water_243 rfl ?_
                    refine V_iload h 246 3 rfl dX6_water_244 rfl ?_
                    refine V_imul h 247 dX6_water_246 rfl ?_
                    refine V_isub h 248 dX6_water_247 rfl ?_
                    refine V_imul h 249 dX6_water_248 rfl ?_
                    refine V_bipush h 251 (v := 100) (by decide) dX6_water_249 rfl ?_
                    refine V_idiv h 252 (by decide) dX6_water_251 rfl ?_
                    refine V_iast h 253 9 (R_sw hL (hρ i hlt)) (by decide) (by decide) (by decide) dX6_water_252 rfl ?_
                    obtain ⟨D3, eD3⟩ : ∃ zz, zz = upd2 Dm (r + 2 + (ρ i)) 9 ((((wtrB o ρ L m V) (o + 6 + ρ i) 11) * (100 - (2 * (nI i)))) / 100) := ⟨_, rfl⟩
                    rw [← eD3]
                    refine V_aload h 255 0 rfl dX6_water_253 rfl ?_
                    refine V_bipush h 257 (v := 10) (by decide) dX6_water_255 rfl ?_
                    refine V_dup2 h 258 rfl rfl dX6_water_257 rfl ?_
                    refine V_iald h 259 10 (R_sw hL (hρ i hlt)) (by decide) (by decide) (by decide) dX6_water_258 rfl ?_
                    refine V_top (y := (tkD o ρ (wtrB o ρ L m V) i) (o + 6 + (ρ i)) 13) (by rw [eD3, upd2_nk (by decide)]; exact (hSm.1 (ρ i) (hρ i hlt) 10 (by decide))) ?_
                    refine V_aload h 261 0 rfl dX6_water_259 rfl ?_
                    refine V_bipush h 263 (v := 9) (by decide) dX6_water_261 rfl ?_
                    refine V_iald h 264 9 (R_sw hL (hρ i hlt)) (by decide) (by decide) (by decide) dX6_water_263 rfl ?_
                    refine V_top (y := (((wtrB o ρ L m V) (o + 6 + ρ i) 11) * (100 - (2 * (nI i)))) / 100) (by rw [eD3, upd2_eq]) ?_
                    refine V_iadd h 265 dX6_water_264 rfl ?_
                    refine V_iast h 266 10 (R_sw hL (hρ i hlt)) (by decide) (by decide) (by decide) dX6_water_265 rfl ?_
                    obtain ⟨D4, eD4⟩ : ∃ zz, zz = upd2 D3 (r + 2 + (ρ i)) 10 (((tkD o ρ (wtrB o ρ L m V) i) (o + 6 + (ρ i)) 13) + ((((wtrB o ρ L m V) (o + 6 + ρ i) 11) * (100 - (2 * (nI i)))) / 100)) := ⟨_, rfl⟩
                    rw [← eD4]
                    refine V_aload_n h 267 1 rfl dX6_water_266 rfl ?_
                    refine V_dup h 268 rfl dX6_water_267 rfl ?_
                    refine g_X6_106 h 271 (R_s0 hL) dX6_water_268 rfl ?_
                    refine V_top (y := (tkD o ρ (wtrB o ρ L m V) i) o 6 + t2) (by rw [eD4, upd2_nk (by decide), eD3, upd2_nk (by decide)]; exact hSm.2.2.2.2.2.2.1) ?_
                    refine V_aload_n h 272 1 rfl dX6_water_271 rfl ?_
                    refine g_X6_26 h 275 (b := r + 31) (R_s0 hL) (R_p4 hL) dX6_water_272 rfl ?_
                    refine V_aload_n h 276 1 rfl dX6_water_275 rfl ?_
                    refine g_X6_16 h 279 (b := r + 12) (R_s0 hL) (R_p1 hL) dX6_water_276 rfl ?_
                    refine V_iload h 281 3 rfl dX6_water_279 rfl ?_
                    refine V_iald h 282 i (R_s12 hL) rfl (by omega) (by decide) dX6_water_281 rfl ?_
                    refine V_top (y := nI (ρ i)) (by rw [eD4, upd2_na (by have := hρ i hlt; omega), eD3, upd2_na (by have := hρ i hlt; omega)]; exact (hSm.2.1 i hlt)) ?_
                    refine V_iald h 283 (ρ i) (R_s31 hL) rfl (hρ i hlt) (by decide) dX6_water_282 rfl ?_
                    refine V_top (y := (wtrB o ρ L m V) (o + 6 + ρ i) 11) (by rw [eD4, upd2_na (by have := hρ i hlt; omega), eD3, upd2_na (by have := hρ i hlt; omega)]; exact (hl3 i hlt)) ?_
                    refine V_aload h 285 0 rfl dX6_water_283 rfl ?_
                    refine V_bipush h 287 (v := 9) (by decide) dX6_water_285 rfl ?_
                    refine V_iald h 288 9 (R_sw hL (hρ i hlt)) (by decide) (by decide) (by decide) dX6_water_287 rfl ?_
                    refine V_top (y := (((wtrB o ρ L m V) (o + 6 + ρ i) 11) * (100 - (2 * (nI i)))) / 100) (by rw [eD4, upd2_nk (by decide), eD3, upd2_eq]) ?_
                    refine V_isub h 289 dX6_water_288 rfl ?_
                    refine V_iadd h 290 dX6_water_289 rfl ?_
                    refine p_X6_106 h 293 (R_s0 hL) dX6_water_290 rfl ?_
                    obtain ⟨D5, eD5⟩ : ∃ zz, zz = upd2 D4 r 15 (((tkD o ρ (wtrB o ρ L m V) i) o 6 + t2) + (((wtrB o ρ L m V) (o + 6 + ρ i) 11) - ((((wtrB o ρ L m V) (o + 6 + ρ i) 11) * (100 - (2 * (nI i)))) / 100))) := ⟨_, rfl⟩
                    rw [← eD5]
                    refine V_iload_n h 294 2 rfl dX6_water_293 rfl ?_
                    refine V_aload h 296 0 rfl dX6_water_294 rfl ?_
                    refine V_bipush h 298 (v := 9) (by decide) dX6_water_296 rfl ?_
                    refine V_iald h 299 9 (R_sw hL (hρ i hlt)) (by decide) (by decide) (by decide) dX6_water_298 rfl ?_
                    refine V_top (y := (((wtrB o ρ L m V) (o + 6 + ρ i) 11) * (100 - (2 * (nI i)))) / 100) (by rw [eD5, upd2_nk (by decide), eD4, upd2_nk (by decide), eD3, upd2_eq]) ?_
                    refine V_iadd h 300 dX6_water_299 rfl ?_
                    refine V_istore_n h 301 [(3, .int (x3 + ((((wtrB o ρ L m V) (o + 6 + ρ i) 11) * (100 - (2 * (nI i)))) / 100))), (5, .ref (r + 2 + (ρ i))), (0, .ref r), (4, .int (nI i))] (by decide) rfl dX6_water_300 rfl ?_
                    refine V_iinc h 304 [(4, .int ((nI i) + 1)), (3, .int (x3 + ((((wtrB o ρ L m V) (o + 6 + ρ i) 11) * (100 - (2 * (nI i)))) / 100))), (5, .ref (r + 2 + (ρ i))), (0, .ref r)] 3 rfl (by rfl) (by decide) rfl dX6_water_301 rfl ?_
                    refine V_goto h 202 dX6_water_304 (by decide) ?_
                    refine V_lsub [(0, .ref r), (3, .int (x3 + ((((wtrB o ρ L m V) (o + 6 + ρ i) 11) * (100 - (2 * (nI i)))) / 100))), (4, .int ((nI i) + 1))] [3, 1, 0] rfl ?_
                    have htk := rSim_tk hSm hm8 hk8 (hρ i hlt) hL.2.2.2.1 (pl := nI i) (c := (((wtrB o ρ L m V) (o + 6 + ρ i) 11) * (100 - (2 * (nI i)))) / 100) (D' := D5) (by rw [tkD_out (fun p hp => by have := hinj p i hp hlt; omega) (by omega)]) (by rw [eD5, eD4, eD3, tkD_out (a := o + 6 + ρ i) (fun p hp => by have := hinj p i hp hlt; omega) (by omega)])
                    exact ih (i + 1) _ _ D5 (by omega) (by rw [rsum, ← e3]; show _ = _ + tkS o (o + 6 + ρ i) (nI i) (tkD o ρ (wtrB o ρ L m V) i) (o + 6 + ρ i) 12; rw [tkS_row (by omega), tkD_out (fun p hp => by have := hinj p i hp hlt; omega) (by omega)]; rfl) (nI_1 i) htk (fun p hp => by rw [eD5, eD4, eD3, upd2_ra (by have := hρ i hlt; omega), upd2_ra (by have := hρ i hlt; omega), upd2_ra (by have := hρ i hlt; omega)]; exact hl3 p hp) (fun a ha => by rw [eD5, eD4, eD3, upd2_ra (by have := hρ i hlt; omega), upd2_ra (by have := hρ i hlt; omega), upd2_ra (by have := hρ i hlt; omega)]; exact hFm a ha) (by omega)
              refine V_lsub [(0, .ref r), (3, .int 0), (4, .int 0)] [2, 1, 0] rfl ?_
              exact LP202 _ 0 _ _ D2 (Nat.zero_le _) rfl rfl hSB (fun p hp => by rw [eD2, upd2_ra (by omega), hlitL _ ⟨p, hp, rfl⟩, wtrB, upd2_na (by omega)]) (fun a ha => by rw [eD2, upd2_ra (by omega)]; exact hF a (by omega)) (Nat.lt_succ_self _)
            · skip
              have hlt := mLt c37 (by omega)
              refine V_aload_n h 41 0 rfl dX6_water_40 rfl ?_
              refine g_X6_16 h 44 (b := r + 12) (R_s0 hL) (R_p1 hL) dX6_water_41 rfl ?_
              refine V_iload_n h 45 3 rfl dX6_water_44 rfl ?_
              refine V_iald h 46 i (R_s12 hL) rfl (by omega) (by decide) dX6_water_45 rfl ?_
              refine V_top (y := nI (ρ i)) (hSk.2.1 i hlt) ?_
              refine V_istore h 48 [(4, .int (nI (ρ i))), (0, .ref r), (1, .int (chFlow (V (o + 1)))), (2, .int x2), (3, .int (nI i))] (by decide) rfl dX6_water_46 rfl ?_
              refine V_iload_n h 49 3 rfl dX6_water_48 rfl ?_
              refine V_istore h 51 [(5, .int x2), (4, .int (nI (ρ i))), (0, .ref r), (1, .int (chFlow (V (o + 1)))), (2, .int x2), (3, .int (nI i))] (by decide) rfl dX6_water_49 rfl ?_
              refine V_iload_n h 52 4 rfl dX6_water_51 rfl ?_
              refine V_aload_n h 53 2 rfl dX6_water_52 rfl ?_
              refine g_X6_11 h 56 (b := r + 1) (R_s0 hL) (R_p0 hL) dX6_water_53 rfl ?_
              refine V_iload h 58 1 rfl dX6_water_56 rfl ?_
              refine V_aald h 59 (b := r + 2 + (ρ i)) (ρ i) (Or.inr rfl) (R_s1 hL) rfl (hρ i hlt) (by decide) (R_pw hL (hρ i hlt)) dX6_water_58 rfl ?_
              refine V_iconst h 60 (v := 0) (by decide) dX6_water_59 rfl ?_
              refine V_iald h 61 0 (R_sw hL (hρ i hlt)) (by decide) (by decide) (by decide) dX6_water_60 rfl ?_
              refine V_top (y := V (o + 6 + (ρ i)) 2) (hSk.1 (ρ i) (hρ i hlt) 0 (by decide)) ?_
              refine V_iadd h 62 dX6_water_61 rfl ?_
              refine V_top (y := rsum (fun p => V (o + 6 + ρ p) 2) (i + 1)) (by rw [e2]; rfl) ?_
              refine V_istore_n h 63 [(2, .int (rsum (fun p => V (o + 6 + ρ p) 2) (i + 1))), (5, .int x2), (4, .int (nI (ρ i))), (0, .ref r), (1, .int (chFlow (V (o + 1)))), (3, .int (nI i))] (by decide) rfl dX6_water_62 rfl ?_
              refine V_iload_n h 64 0 rfl dX6_water_63 rfl ?_
              refine V_istore h 66 [(6, .int (rsum (fun p => V (o + 6 + ρ p) 2) (i + 1))), (2, .int (rsum (fun p => V (o + 6 + ρ p) 2) (i + 1))), (5, .int x2), (4, .int (nI (ρ i))), (0, .ref r), (1, .int (chFlow (V (o + 1)))), (3, .int (nI i))] (by decide) rfl dX6_water_64 rfl ?_
              refine V_iconst h 67 (v := 0) (by decide) dX6_water_66 rfl ?_
              refine V_istore h 69 [(7, .int 0), (6, .int (rsum (fun p => V (o + 6 + ρ p) 2) (i + 1))), (2, .int (rsum (fun p => V (o + 6 + ρ p) 2) (i + 1))), (5, .int x2), (4, .int (nI (ρ i))), (0, .ref r), (1, .int (chFlow (V (o + 1)))), (3, .int (nI i))] (by decide) rfl dX6_water_67 rfl ?_
              have LP69 : ∀ (kk : Nat) (l : Nat) (x6 x7 : Int32) (Dl : mDt), (l ≤ m) → (x6 = lentE (V (o + 17)) (nI (ρ i)) (rsum (fun p => V (o + 6 + ρ p) 2) (i + 1)) l) → (x7 = nI l) → (∀ a, a ≠ r + 31 → Dl a = D a) → (∀ t, livR L ρ t → Dl (r + 31) t = lentD o (V (o + 17)) (nI (ρ i)) (rsum (fun p => V (o + 6 + ρ p) 2) (i + 1)) (rm7 (V o 4) * 720) (chFlow (V (o + 1))) (gwD o ρ (V (o + 17)) m (rm7 (V o 4) * 720) (chFlow (V (o + 1))) (fun p => V (o + 6 + ρ p) 2) V i) l (o + 6 + t) 11) → m - l < kk → mV Γ Q 0 0 n sh P Dl E [(0, .ref r), (1, .int (chFlow (V (o + 1)))), (2, .int (rsum (fun p => V (o + 6 + ρ p) 2) (i + 1))), (3, .int (nI i)), (4, .int (nI (ρ i))), (5, .int x2), (6, .int x6), (7, .int x7)] [] 69 := by
                intro jk
                induction jk with
                | zero =>
                  intro l x6 x7 Dl _ _ _ _ _ hms
                  exact absurd hms (Nat.not_lt_zero _)
                | succ jk jh =>
                  intro l x6 x7 Dl hl e6 e7 hFl hlit2 hms
                  subst e7
                  have hSl := rSim_fr hS hm8 hk8 hL.2.2.2.1 (fun a h1 h2 => hFl a (by omega))
                  refine V_iload h 71 7 rfl dX6_water_69 rfl ?_
                  refine V_aload_n h 72 0 rfl dX6_water_71 rfl ?_
                  refine g_X6_46 h 75 (R_s0 hL) dX6_water_72 rfl ?_
                  refine V_top (y := nI m) hSl.2.2.2.2.1.2.2.1 ?_
                  refine V_icmp_ge h 152 78 dX6_water_75 (by decide) rfl (fun c75 => ?_) (fun c75 => ?_)
                  · skip
                    have hexm : l = m := by have := mGe c75 (by omega) (by omega); omega
                    refine V_aload_n h 153 0 rfl dX6_water_152 rfl ?_
                    refine g_X6_26 h 156 (b := r + 31) (R_s0 hL) (R_p4 hL) dX6_water_153 rfl ?_
                    refine V_iload h 158 4 rfl dX6_water_156 rfl ?_
                    refine V_dup2 h 159 rfl rfl dX6_water_158 rfl ?_
                    refine V_iald h 160 (ρ i) (R_s31 hL) rfl (hρ i hlt) (by decide) dX6_water_159 rfl ?_
                    refine V_iload_n h 161 1 rfl dX6_water_160 rfl ?_
                    refine V_aload_n h 162 0 rfl dX6_water_161 rfl ?_
                    refine V_iload h 164 5 rfl dX6_water_162 rfl ?_
                    refine V_iload h 166 6 rfl dX6_water_164 rfl ?_
                    refine CVI h 169 (As := [.int x2, .int x6]) (r_today hL hSl hW (x2) (x6)) rfl (R_s0 hL) qL_X6_100 qI_X6_today qS_X6_today qZ_X6 qC_X6_today hd_X6_today ⟨Nat.le_of_ble_eq_true rfl, Nat.le_of_ble_eq_true rfl⟩ (Nat.le_of_ble_eq_true rfl) rfl rfl dX6_water_166 (Nat.zero_le _) (Nat.zero_le _) (fun r6 D6 hq6 => ?_)
                    rw [hq6.1, hq6.2]
                    refine V_imul h 170 dX6_water_169 rfl ?_
                    refine V_iadd h 171 dX6_water_170 rfl ?_
                    refine V_iast h 172 (ρ i) (R_s31 hL) rfl (hρ i hlt) (by decide) dX6_water_171 rfl ?_
                    obtain ⟨D7, eD7⟩ : ∃ zz, zz = upd2 Dl (r + 31) (ρ i) ((Dl (r + 31) (ρ i)) + ((chFlow (V (o + 1))) * (bodF x2 x6 (rm7 (V o 4) * 720)))) := ⟨_, rfl⟩
                    rw [← eD7]
                    refine V_iinc h 175 [(3, .int ((nI i) + 1)), (0, .ref r), (1, .int (chFlow (V (o + 1)))), (2, .int (rsum (fun p => V (o + 6 + ρ p) 2) (i + 1))), (4, .int (nI (ρ i))), (5, .int x2), (6, .int x6), (7, .int (nI l))] 3 rfl (by rfl) (by decide) rfl dX6_water_172 rfl ?_
                    refine V_goto h 32 dX6_water_175 (by decide) ?_
                    refine V_lsub [(0, .ref r), (1, .int (chFlow (V (o + 1)))), (2, .int (rsum (fun p => V (o + 6 + ρ p) 2) (i + 1))), (3, .int ((nI i) + 1))] [1, 2, 3, 0] rfl ?_
                    exact ih (i + 1) _ _ D7 (by omega) rfl (nI_1 i) (fun a ha => by rw [eD7, upd2_ra ha]; exact hFl a ha) (by rw [hexm] at hlit2; rw [eD7, upd2_row, e2, e6, hexm]; exact lit_2 hlit2 hlt) (by omega)
                  · skip
                    have hltm := mLt c75 (by omega)
                    have htl := hto l hltm
                    refine V_aload_n h 79 0 rfl dX6_water_78 rfl ?_
                    refine g_X6_20 h 82 (b := r + 13) (R_s0 hL) (R_p2 hL) dX6_water_79 rfl ?_
                    refine V_iload h 84 7 rfl dX6_water_82 rfl ?_
                    refine V_aald h 85 (b := r + 14 + lo l) l (Or.inr rfl) (R_s13 hL) rfl (by omega) (by decide) (R_pl hL (by omega)) dX6_water_84 rfl ?_
                    refine V_iconst h 86 (v := 0) (by decide) dX6_water_85 rfl ?_
                    refine V_iald h 87 0 (R_sL hL (by omega)) (by decide) (by decide) (by decide) dX6_water_86 rfl ?_
                    refine V_top (y := V (o + 17) (l * 4 + 0)) (hSl.2.2.1 l hltm 0 (by decide)) ?_
                    refine V_iload h 89 4 rfl dX6_water_87 rfl ?_
                    refine V_icmp_eq h 95 92 dX6_water_89 (by decide) rfl (fun c89 => ?_) (fun c89 => ?_)
                    · skip
                      refine V_aload_n h 96 0 rfl dX6_water_95 rfl ?_
                      refine g_X6_26 h 99 (b := r + 31) (R_s0 hL) (R_p4 hL) dX6_water_96 rfl ?_
                      refine V_aload_n h 100 0 rfl dX6_water_99 rfl ?_
                      refine g_X6_20 h 103 (b := r + 13) (R_s0 hL) (R_p2 hL) dX6_water_100 rfl ?_
                      refine V_iload h 105 7 rfl dX6_water_103 rfl ?_
                      refine V_aald h 106 (b := r + 14 + lo l) l (Or.inr rfl) (R_s13 hL) rfl (by omega) (by decide) (R_pl hL (by omega)) dX6_water_105 rfl ?_
                      refine V_iconst h 107 (v := 1) (by decide) dX6_water_106 rfl ?_
                      refine V_iald h 108 1 (R_sL hL (by omega)) (by decide) (by decide) (by decide) dX6_water_107 rfl ?_
                      refine V_top (y := V (o + 17) (l * 4 + 1)) (hSl.2.2.1 l hltm 1 (by decide)) ?_
                      refine V_top (y := nI (toN (V (o + 17) (l * 4 + 1)))) (hW.2.2.2.1.2 l hltm).2.2 ?_
                      refine V_dup2 h 109 rfl rfl dX6_water_108 rfl ?_
                      refine V_iald h 110 (toN (V (o + 17) (l * 4 + 1))) (R_s31 hL) rfl ((hW.2.2.2.1.2 l hltm).2.1) (by decide) dX6_water_109 rfl ?_
                      refine V_iload_n h 111 1 rfl dX6_water_110 rfl ?_
                      refine V_aload_n h 112 0 rfl dX6_water_111 rfl ?_
                      refine V_iload h 114 6 rfl dX6_water_112 rfl ?_
                      refine V_aload_n h 115 0 rfl dX6_water_114 rfl ?_
                      refine g_X6_20 h 118 (b := r + 13) (R_s0 hL) (R_p2 hL) dX6_water_115 rfl ?_
                      refine V_iload h 120 7 rfl dX6_water_118 rfl ?_
                      refine V_aald h 121 (b := r + 14 + lo l) l (Or.inr rfl) (R_s13 hL) rfl (by omega) (by decide) (R_pl hL (by omega)) dX6_water_120 rfl ?_
                      refine V_iconst h 122 (v := 2) (by decide) dX6_water_121 rfl ?_
                      refine V_iald h 123 2 (R_sL hL (by omega)) (by decide) (by decide) (by decide) dX6_water_122 rfl ?_
                      refine V_top (y := V (o + 17) (l * 4 + 2)) (hSl.2.2.1 l hltm 2 (by decide)) ?_
                      refine V_isub h 124 dX6_water_123 rfl ?_
                      refine V_iload h 126 6 rfl dX6_water_124 rfl ?_
                      refine CVI h 129 (As := [.int (x6 - (V (o + 17) (l * 4 + 2))), .int x6]) (r_today hL hSl hW (x6 - (V (o + 17) (l * 4 + 2))) (x6)) rfl (R_s0 hL) qL_X6_100 qI_X6_today qS_X6_today qZ_X6 qC_X6_today hd_X6_today ⟨Nat.le_of_ble_eq_true rfl, Nat.le_of_ble_eq_true rfl⟩ (Nat.le_of_ble_eq_true rfl) rfl rfl dX6_water_126 (Nat.zero_le _) (Nat.zero_le _) (fun r8 D8 hq8 => ?_)
                      rw [hq8.1, hq8.2]
                      refine V_imul h 130 dX6_water_129 rfl ?_
                      refine V_iadd h 131 dX6_water_130 rfl ?_
                      refine V_iast h 132 (toN (V (o + 17) (l * 4 + 1))) (R_s31 hL) rfl ((hW.2.2.2.1.2 l hltm).2.1) (by decide) dX6_water_131 rfl ?_
                      obtain ⟨D9, eD9⟩ : ∃ zz, zz = upd2 Dl (r + 31) (toN (V (o + 17) (l * 4 + 1))) ((Dl (r + 31) (toN (V (o + 17) (l * 4 + 1)))) + ((chFlow (V (o + 1))) * (bodF (x6 - (V (o + 17) (l * 4 + 2))) x6 (rm7 (V o 4) * 720)))) := ⟨_, rfl⟩
                      rw [← eD9]
                      refine V_iload h 134 6 rfl dX6_water_132 rfl ?_
                      refine V_aload_n h 135 0 rfl dX6_water_134 rfl ?_
                      refine g_X6_20 h 138 (b := r + 13) (R_s0 hL) (R_p2 hL) dX6_water_135 rfl ?_
                      refine V_iload h 140 7 rfl dX6_water_138 rfl ?_
                      refine V_aald h 141 (b := r + 14 + lo l) l (Or.inr rfl) (R_s13 hL) rfl (by omega) (by decide) (R_pl hL (by omega)) dX6_water_140 rfl ?_
                      refine V_iconst h 142 (v := 2) (by decide) dX6_water_141 rfl ?_
                      refine V_iald h 143 2 (R_sL hL (by omega)) (by decide) (by decide) (by decide) dX6_water_142 rfl ?_
                      refine V_top (y := V (o + 17) (l * 4 + 2)) (by rw [eD9, upd2_na (by have := hL.2.2.2.1 l (by omega); have := hρ i hlt; omega)]; exact (hSl.2.2.1 l hltm 2 (by decide))) ?_
                      refine V_isub h 144 dX6_water_143 rfl ?_
                      refine V_istore h 146 [(6, .int (x6 - (V (o + 17) (l * 4 + 2)))), (0, .ref r), (1, .int (chFlow (V (o + 1)))), (2, .int (rsum (fun p => V (o + 6 + ρ p) 2) (i + 1))), (3, .int (nI i)), (4, .int (nI (ρ i))), (5, .int x2), (7, .int (nI l))] (by decide) rfl dX6_water_144 rfl ?_
                      refine V_iinc h 149 [(7, .int ((nI l) + 1)), (6, .int (x6 - (V (o + 17) (l * 4 + 2)))), (0, .ref r), (1, .int (chFlow (V (o + 1)))), (2, .int (rsum (fun p => V (o + 6 + ρ p) 2) (i + 1))), (3, .int (nI i)), (4, .int (nI (ρ i))), (5, .int x2)] 7 rfl (by rfl) (by decide) rfl dX6_water_146 rfl ?_
                      refine V_goto h 69 dX6_water_149 (by decide) ?_
                      refine V_lsub [(0, .ref r), (1, .int (chFlow (V (o + 1)))), (2, .int (rsum (fun p => V (o + 6 + ρ p) 2) (i + 1))), (3, .int (nI i)), (4, .int (nI (ρ i))), (5, .int x2), (6, .int (x6 - (V (o + 17) (l * 4 + 2)))), (7, .int ((nI l) + 1))] [2, 3, 4, 5, 6, 7, 1, 0] rfl ?_
                      exact jh (l + 1) _ _ D9 (by omega) (by rw [lentE, if_pos c89, ← e6]) (nI_1 l) (fun a ha => by rw [eD9, upd2_ra ha]; exact hFl a ha) (by rw [eD9, upd2_row, e6]; exact lit_1 c89 hlit2 htl) (by omega)
                    · skip
                      refine V_goto h 146 dX6_water_92 (by decide) ?_
                      refine V_iinc h 149 [(7, .int ((nI l) + 1)), (0, .ref r), (1, .int (chFlow (V (o + 1)))), (2, .int (rsum (fun p => V (o + 6 + ρ p) 2) (i + 1))), (3, .int (nI i)), (4, .int (nI (ρ i))), (5, .int x2), (6, .int x6)] 7 rfl (by rfl) (by decide) rfl dX6_water_146 rfl ?_
                      refine V_goto h 69 dX6_water_149 (by decide) ?_
                      refine V_lsub [(0, .ref r), (1, .int (chFlow (V (o + 1)))), (2, .int (rsum (fun p => V (o + 6 + ρ p) 2) (i + 1))), (3, .int (nI i)), (4, .int (nI (ρ i))), (5, .int x2), (6, .int x6), (7, .int ((nI l) + 1))] [1, 2, 3, 4, 5, 6, 7, 0] rfl ?_
                      exact jh (l + 1) _ _ Dl (by omega) (by rw [lentE, if_neg c89]; exact e6) (nI_1 l) hFl (fun t ht => by rw [lentD, if_neg c89]; exact hlit2 t ht) (by omega)
              refine V_lsub [(0, .ref r), (1, .int (chFlow (V (o + 1)))), (2, .int (rsum (fun p => V (o + 6 + ρ p) 2) (i + 1))), (3, .int (nI i)), (4, .int (nI (ρ i))), (5, .int x2), (6, .int (rsum (fun p => V (o + 6 + ρ p) 2) (i + 1))), (7, .int 0)] [5, 6, 2, 7, 4, 3, 1, 0] rfl ?_
              exact LP69 _ 0 _ _ Dk (Nat.zero_le _) rfl rfl hF hlit (Nat.lt_succ_self _)
        refine V_lsub [(0, .ref r), (1, .int (chFlow (V (o + 1)))), (2, .int 0), (3, .int 0)] [1, 2, 3, 0] rfl ?_
        exact LP32 _ 0 _ _ Dk (Nat.zero_le _) rfl rfl hF (fun t ⟨p, hp, e⟩ => by rw [← e, hz p (by omega)]; exact (hfl _ (hρ p hp)).symm) (Nat.lt_succ_self _)
      · skip
        have hlt := mLt c9 (by omega)
        refine V_aload_n h 13 0 rfl dX6_water_12 rfl ?_
        refine g_X6_26 h 16 (b := r + 31) (R_s0 hL) (R_p4 hL) dX6_water_13 rfl ?_
        refine V_aload_n h 17 0 rfl dX6_water_16 rfl ?_
        refine g_X6_16 h 20 (b := r + 12) (R_s0 hL) (R_p1 hL) dX6_water_17 rfl ?_
        refine V_iload_n h 21 3 rfl dX6_water_20 rfl ?_
        refine V_iald h 22 i (R_s12 hL) rfl (by omega) (by decide) dX6_water_21 rfl ?_
        refine V_top (y := nI (ρ i)) (hSk.2.1 i hlt) ?_
        refine V_iconst h 23 (v := 0) (by decide) dX6_water_22 rfl ?_
        refine V_iast h 24 (ρ i) (R_s31 hL) rfl (hρ i hlt) (by decide) dX6_water_23 rfl ?_
        obtain ⟨D10, eD10⟩ : ∃ zz, zz = upd2 Dk (r + 31) (ρ i) 0 := ⟨_, rfl⟩
        rw [← eD10]
        refine V_iinc h 27 [(3, .int ((nI i) + 1)), (0, .ref r), (1, .int (chFlow (V (o + 1)))), (2, .int 0)] 3 rfl (by rfl) (by decide) rfl dX6_water_24 rfl ?_
        refine V_goto h 4 dX6_water_27 (by decide) ?_
        refine V_lsub [(0, .ref r), (1, .int (chFlow (V (o + 1)))), (2, .int 0), (3, .int ((nI i) + 1))] [1, 2, 3, 0] rfl ?_
        refine ih (i + 1) _ D10 (by omega) (nI_1 i) (fun a ha => by rw [eD10, upd2_ra ha]; exact hF a ha) (fun p hp => ?_) (by omega)
        by_cases e : p = i
        · subst e; rw [eD10, upd2_eq]
        · rw [eD10, upd2_nk (fun q => (hinj p i (by omega) hlt) q)]; exact hz p (by omega)
  refine V_lsub [(0, .ref r), (1, .int (chFlow (V (o + 1)))), (2, .int 0), (3, .int 0)] [2, 3, 1, 0] rfl ?_
  exact LP4 _ 0 _ D (Nat.zero_le _) rfl (fun a _ => rfl) (fun p hp => absurd hp (Nat.not_lt_zero _)) (Nat.lt_succ_self _)
