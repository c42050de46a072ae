def swp (lo : Nat → Nat) (i l : Nat) : Nat → Nat := fun p => if p = l then lo i else if p = i then lo l else lo p
theorem swp_lay {r : Nat} {lo : Nat → Nat} {sh : mSh} {P P' : mPt} {i l : Nat} (h : rLay r lo sh P) (hi : i < 8) (hl : l < 8) (hP : P' = updP (updP P (r + 13) i (some (r + 14 + lo l))) (r + 13) l (some (r + 14 + lo i))) : rLay r (swp lo i l) sh P' := by
  have hne : ∀ a, a ≠ r + 13 → P' a = P a := fun a ha => by rw [hP, updP_ra ha, updP_ra ha]
  obtain ⟨hs, ⟨p0, p1, p2, p3, p4, p5, p6⟩, l1, l2, l3⟩ := h
  refine ⟨hs, ⟨?_, ?_, ?_, ?_, ?_, fun j hj => ?_, fun j hj => ?_⟩, fun j hj => ?_, fun j hj => ?_, fun a b ha hb hab => ?_⟩
  · rw [hne _ (by omega)]; exact p0
  · rw [hne _ (by omega)]; exact p1
  · rw [hne _ (by omega)]; exact p2
  · rw [hne _ (by omega)]; exact p3
  · rw [hne _ (by omega)]; exact p4
  · rw [hne _ (by omega)]; exact p5 j hj
  · rw [hne _ (by omega)]; exact p6 j hj
  · unfold swp
    by_cases e : j = l
    · subst e; rw [if_pos rfl, hP, updP_eq]
    · rw [if_neg e, hP, updP_nk e]
      by_cases e2 : j = i
      · subst e2; rw [if_pos rfl, updP_eq]
      · rw [if_neg e2, updP_nk e2]; exact l1 j hj
  · unfold swp
    split
    · exact l2 i hi
    · split
      · exact l2 l hl
      · exact l2 j hj
  · unfold swp at hab
    by_cases a1 : a = l
    · by_cases b1 : b = l
      · omega
      · rw [if_pos a1, if_neg b1] at hab
        by_cases b2 : b = i
        · rw [if_pos b2] at hab; have := l3 i l hi hl hab; omega
        · rw [if_neg b2] at hab; have := l3 i b hi hb hab; omega
    · rw [if_neg a1] at hab
      by_cases b1 : b = l
      · rw [if_pos b1] at hab
        by_cases a2 : a = i
        · rw [if_pos a2] at hab; have := l3 l i hl hi hab; omega
        · rw [if_neg a2] at hab; have := l3 a i ha hi hab; omega
      · rw [if_neg b1] at hab
        by_cases a2 : a = i
        · rw [if_pos a2] at hab
          by_cases b2 : b = i
          · omega
          · rw [if_neg b2] at hab; have := l3 l b hl hb hab; omega
        · rw [if_neg a2] at hab
          by_cases b2 : b = i
          · rw [if_pos b2] at hab; have := l3 a l ha hl hab; omega
          · rw [if_neg b2] at hab; exact l3 a b ha hb hab
theorem ageG_le (f : Nat → Int32) (i : Nat) : (ageG f i).2 ≤ i := (ageG_ok f i).1
theorem cyc_0 {c : Nat} (h1 : 1 ≤ c) (hc : c < 2 ^ 31) : nI c - 1 ≤ 0 ↔ nI c - 1 = 0 := by
  obtain ⟨d, rfl⟩ : ∃ d, c = d + 1 := ⟨c - 1, by omega⟩
  rw [nI_pred]
  constructor
  · intro h
    rcases Nat.eq_zero_or_pos d with q | q
    · subst q; rfl
    · exact absurd h (nI_nle q (by omega))
  · intro h; rw [h]; decide
/-- the loans of the reference while they grow old -/
def ageI (f : Nat → Int32) (r m : Nat) (lo lok : Nat → Nat) (i : Nat) (D : mDt) : Prop := (∀ p, i ≤ p → p < 8 → lok p = lo p) ∧ (∀ q, q < (ageG f i).2 → ∀ j, j < 4 → D (r + 14 + lok q) j = (ageG f i).1 (q * 4 + j)) ∧ ∀ p, i ≤ p → p < m → ∀ j, j < 4 → D (r + 14 + lo p) j = f (p * 4 + j)
theorem ageI_drop {f : Nat → Int32} {r m i : Nat} {lo lok : Nat → Nat} {D D' : mDt} {v : Int32} (h : ageI f r m lo lok i D) (hi : i < m) (hm : m ≤ 8) (linj : ∀ a b, a < 8 → b < 8 → lok a = lok b → a = b) (linj0 : ∀ a b, a < 8 → b < 8 → lo a = lo b → a = b) (hv : v = f (i * 4 + 3) - 1) (hc : f (i * 4 + 3) - 1 ≤ 0) (hD : D' = upd2 D (r + 14 + lok i) 3 v) : ageI f r m lo lok (i + 1) D' := by
  obtain ⟨h1, h2, h3⟩ := h
  have hle := ageG_le f i
  refine ⟨fun p hp hp8 => h1 p (by omega) hp8, fun q hq j hj => ?_, fun p hp hpm j hj => ?_⟩
  · rw [ageG, if_pos hc] at hq ⊢
    have hq' : q < (ageG f i).2 := hq
    have hne : lok q ≠ lok i := fun e => by have := linj q i (by omega) (by omega) e; omega
    rw [hD, upd2_na (by omega), h2 q hq' j hj]
    show _ = upd (ageG f i).1 (i * 4 + 3) _ (q * 4 + j)
    simp only [upd]; rw [if_neg (by omega)]
  · have hne : lo p ≠ lok i := fun e => by rw [h1 i (Nat.le_refl _) (by omega)] at e; have := linj0 p i (by omega) (by omega) e; omega
    rw [hD, upd2_na (by omega)]; exact h3 p (by omega) hpm j hj
theorem ageI_keep {f : Nat → Int32} {r m i : Nat} {lo lok : Nat → Nat} {D D' : mDt} {v : Int32} (h : ageI f r m lo lok i D) (hi : i < m) (hm : m ≤ 8) (linj : ∀ a b, a < 8 → b < 8 → lok a = lok b → a = b) (linj0 : ∀ a b, a < 8 → b < 8 → lo a = lo b → a = b) (hv : v = f (i * 4 + 3) - 1) (hc : ¬ f (i * 4 + 3) - 1 ≤ 0) (hD : D' = upd2 D (r + 14 + lok i) 3 v) : ageI f r m lo (swp lok i (ageG f i).2) (i + 1) D' := by
  obtain ⟨h1, h2, h3⟩ := h
  have hle := ageG_le f i
  refine ⟨fun p hp hp8 => ?_, fun q hq j hj => ?_, fun p hp hpm j hj => ?_⟩
  · unfold swp; rw [if_neg (by omega), if_neg (by omega)]; exact h1 p (by omega) hp8
  · rw [ageG, if_neg hc] at hq ⊢
    have hq' : q < (ageG f i).2 + 1 := hq
    show D' _ j = mvF (upd (ageG f i).1 (i * 4 + 3) (f (i * 4 + 3) - 1)) (ageG f i).2 i (q * 4 + j)
    by_cases e : q = (ageG f i).2
    · have e1 : swp lok i (ageG f i).2 q = lok i := by unfold swp; rw [if_pos e]
      rw [e1]
      unfold mvF
      rw [if_pos (by omega), show i * 4 + (q * 4 + j - (ageG f i).2 * 4) = i * 4 + j by omega]
      by_cases e3 : j = 3
      · subst e3; rw [hD, upd2_eq, hv]; simp [upd]
      · rw [hD, upd2_nk e3, h1 i (Nat.le_refl _) (by omega), h3 i (Nat.le_refl _) hi j hj]
        simp only [upd]; rw [if_neg (by omega), (ageG_ok f i).2.2 _ (by omega)]
    · have e1 : swp lok i (ageG f i).2 q = lok q := by unfold swp; rw [if_neg e, if_neg (by omega)]
      have hne : lok q ≠ lok i := fun e => by have := linj q i (by omega) (by omega) e; omega
      rw [e1, hD, upd2_na (by omega), h2 q (by omega) j hj]
      unfold mvF
      rw [if_neg (by omega)]
      simp only [upd]; rw [if_neg (by omega)]
  · have hne : lo p ≠ lok i := fun e => by rw [h1 i (Nat.le_refl _) (by omega)] at e; have := linj0 p i (by omega) (by omega) e; omega
    rw [hD, upd2_na (by omega)]; exact h3 p (by omega) hpm j hj
theorem rSim_short {o L e : Nat} {ρ : Nat → Nat} {m k : Nat} {V : mDt} {r : Nat} {lo lok : Nat → Nat} {t1 t2 t3 : Int32} {D Dk D' : mDt} (h : rSim o L e ρ m k V r lo t1 t2 t3 D) (hm : m ≤ 8) (hk : k ≤ 8) (hF : ∀ a, (a < r + 14 ∨ r + 22 ≤ a) → Dk a = D a) (hI : ageI (V (o + 17)) r m lo lok m Dk) (hlo : ∀ i, i < 8 → lok i < 8) (hD : D' = upd2 Dk r 7 (nI (ageG (V (o + 17)) m).2)) : rSim o L e ρ (ageG (V (o + 17)) m).2 k (shortD o m V) r lok t1 t2 t3 D' := by
  have d1 : ∀ a, a ≠ r → (a < r + 14 ∨ r + 22 ≤ a) → D' a = D a := fun a h1 h2 => by rw [hD, upd2_ra h1]; exact hF a h2
  have d0 : ∀ j, j ≠ 7 → D' r j = D r j := fun j h1 => by rw [hD, upd2_nk h1, hF _ (by omega)]
  have v1 : ∀ a, a ≠ o + 16 → a ≠ o + 17 → shortD o m V a = V a := fun a h1 h2 => by rw [shortD, upd2_ra h1, setRow_ne h2]
  have v17 : shortD o m V (o + 17) = (ageG (V (o + 17)) m).1 := by rw [shortD, upd2_ra (by omega), setRow_eq]
  have hle := ageG_le (V (o + 17)) m
  obtain ⟨h1, h2, h3, h4, ⟨g1, g2, g3, g4, g5, g6, g7, g8, g9⟩, h6⟩ := h
  refine ⟨fun i hi j hj => ?_, fun p hp => by rw [d1 _ (by omega) (by omega)]; exact h2 p hp, fun i hi j hj => ?_, fun i hi j hj => ?_, ⟨?_, ?_, ?_, ?_, ?_, ?_, ?_, ?_, ?_⟩, ?_, ?_, ?_⟩
  · rw [d1 _ (by omega) (by omega), v1 _ (by omega) (by omega)]; exact h1 i hi j hj
  · have := hlo i (by omega)
    rw [hD, upd2_ra (by omega), v17]; exact hI.2.1 i hi j hj
  · rw [d1 _ (by omega) (by omega), v1 _ (by omega) (by omega)]; exact h4 i hi j hj
  · rw [d0 _ (by decide)]; exact g1
  · rw [d0 _ (by decide)]; exact g2
  · rw [hD, upd2_eq]
  · rw [d0 _ (by decide)]; exact g4
  · rw [d0 _ (by decide), v1 _ (by omega) (by omega)]; exact g5
  · rw [d0 _ (by decide), v1 _ (by omega) (by omega)]; exact g6
  · rw [d0 _ (by decide), v1 _ (by omega) (by omega)]; exact g7
  · rw [d0 _ (by decide), v1 _ (by omega) (by omega)]; exact g8
  · rw [d0 _ (by decide), v1 _ (by omega) (by omega)]; exact g9
  · rw [d0 _ (by decide), v1 _ (by omega) (by omega)]; exact h6.1
  · rw [d0 _ (by decide), v1 _ (by omega) (by omega)]; exact h6.2.1
  · rw [d0 _ (by decide), v1 _ (by omega) (by omega)]; exact h6.2.2

set_option maxRecDepth 100000 in
set_option maxHeartbeats 4000000 in
theorem r_age {κ : mKp} {n : Nat} {sh : mSh} {P : mPt} {D : mDt} {E : mEt} {r : Nat} {lo : Nat → Nat} (hL : rLay r lo sh P) {o L e m k : Nat} {ρ : Nat → Nat} {V : mDt} {t1 t2 t3 : Int32} (hS : rSim o L e ρ m k V r lo t1 t2 t3 D) (hW : cW o L ρ m k V) (hcy : ∀ i, i < m → ∃ c, 1 ≤ c ∧ c < 2 ^ 31 ∧ V (o + 17) (i * 4 + 3) = nI c) : mMet κ yX6_age cX6_age 4 (Option.none : Option Jvm.ClassFile.FieldType) { frames := 0, cells := 0, slots := 0, locals := 0 } [.ref r] n sh P D E (fun v n' sh' P' D' E' => v = none ∧ n' = n ∧ sh' = sh ∧ E' = E ∧ ∃ lo', rLay r lo' sh P' ∧ (∀ a, a ≠ r + 13 → P' a = P a) ∧ rSim o L e ρ (ageG (V (o + 17)) m).2 k (shortD o m V) r lo' t1 t2 t3 D' ∧ ∀ a, (a < r ∨ r + 32 ≤ a) → D' a = D a) := by
  refine mMet_of (by decide) (Nat.le_of_ble_eq_true rfl) ?_
  intro Γ Q hQ h hin
  have h : mOk Γ κ RX6 cX6_age 4 (Option.none : Option Jvm.ClassFile.FieldType) { frames := 0, cells := 0, slots := 0, locals := 0 } := h
  have hρ : ∀ p, p < L → ρ p < 10 := fun p hp => (hW.1.2.2 p hp).1
  have hL10 := hW.1.2.1
  have hm8 := hW.2.2.2.1.1
  have hk8 := hW.2.2.2.2.2.1
  show mV Γ Q 0 0 n sh P D E [(0, .ref r)] [] 0
  refine V_iconst h 1 (v := 0) (by decide) dX6_age_0 rfl ?_
  refine V_istore_n h 2 [(1, .int 0), (0, .ref r)] (by decide) rfl dX6_age_1 rfl ?_
  refine V_iconst h 3 (v := 0) (by decide) dX6_age_2 rfl ?_
  refine V_istore_n h 4 [(2, .int 0), (1, .int 0), (0, .ref r)] (by decide) rfl dX6_age_3 rfl ?_
  have LP4 : ∀ (kk : Nat) (i : Nat) (x1 x2 : Int32) (lok : Nat → Nat) (Pk : mPt) (Dk : mDt), (i ≤ m) → (x1 = nI (ageG (V (o + 17)) i).2) → (x2 = nI i) → (rLay r lok sh Pk) → (∀ a, a ≠ r + 13 → Pk a = P a) → (∀ a, (a < r + 14 ∨ r + 22 ≤ a) → Dk a = D a) → (ageI (V (o + 17)) r m lo lok i Dk) → m - i < kk → mV Γ Q 0 0 n sh Pk Dk E [(0, .ref r), (1, .int x1), (2, .int x2)] [] 4 := by
    intro kk
    induction kk with
    | zero =>
      intro i x1 x2 lok Pk Dk _ _ _ _ _ _ _ hms
      exact absurd hms (Nat.not_lt_zero _)
    | succ kk ih =>
      intro i x1 x2 lok Pk Dk hi e1 e2 hLk hPk hFk hI hms
      have hle := ageG_le (V (o + 17)) i
      obtain ⟨lf, elf⟩ : ∃ z, z = (ageG (V (o + 17)) i).2 := ⟨_, rfl⟩
      rw [← elf] at e1 hle
      subst e1 e2
      refine V_iload_n h 5 2 rfl dX6_age_4 rfl ?_
      refine V_aload_n h 6 0 rfl dX6_age_5 rfl ?_
      refine g_X6_46 h 9 (R_s0 hLk) dX6_age_6 rfl ?_
      refine V_top (y := nI m) (by rw [hFk _ (by omega)]; exact hS.2.2.2.2.1.2.2.1) ?_
      refine V_icmp_ge h 61 12 dX6_age_9 (by decide) rfl (fun c9 => ?_) (fun c9 => ?_)
      · skip
        have hex : i = m := by have := mGe c9 (by omega) (by omega); omega
        refine V_aload_n h 62 0 rfl dX6_age_61 rfl ?_
        refine V_iload_n h 63 1 rfl dX6_age_62 rfl ?_
        refine p_X6_46 h 66 (R_s0 hLk) dX6_age_63 rfl ?_
        obtain ⟨D1, eD1⟩ : ∃ zz, zz = upd2 Dk r 7 (nI lf) := ⟨_, rfl⟩
        rw [← eD1]
        exact V_ret h  hQ (Nat.le_of_ble_eq_true rfl) (Nat.le_of_ble_eq_true rfl) ⟨rfl, rfl, rfl, rfl, lok, hLk, hPk, rSim_short hS hm8 hk8 hFk (by rw [hex] at hI; exact hI) hLk.2.2.2.1 (by rw [eD1, elf, hex]), fun a ha => by rw [eD1, upd2_ra (by omega)]; exact hFk a (by omega)⟩ dX6_age_66
      · skip
        have hlt := mLt c9 (by omega)
        obtain ⟨c1, hc1, hc2, ec⟩ := hcy i hlt
        have hcz : V (o + 17) (i * 4 + 3) - 1 ≤ 0 ↔ V (o + 17) (i * 4 + 3) - 1 = 0 := by rw [ec]; exact cyc_0 hc1 hc2
        refine V_aload_n h 13 0 rfl dX6_age_12 rfl ?_
        refine g_X6_20 h 16 (b := r + 13) (R_s0 hLk) (R_p2 hLk) dX6_age_13 rfl ?_
        refine V_iload_n h 17 2 rfl dX6_age_16 rfl ?_
        refine V_aald h 18 (b := r + 14 + lok i) i (Or.inr rfl) (R_s13 hLk) rfl (by omega) (by decide) (R_pl hLk (by omega)) dX6_age_17 rfl ?_
        refine V_astore_n h 19 [(3, .ref (r + 14 + lok i)), (0, .ref r), (1, .int (nI lf)), (2, .int (nI i))] (by decide) rfl dX6_age_18 rfl ?_
        refine V_aload_n h 20 0 rfl dX6_age_19 rfl ?_
        refine V_iconst h 21 (v := 3) (by decide) dX6_age_20 rfl ?_
        refine V_dup2 h 22 rfl rfl dX6_age_21 rfl ?_
        refine V_iald h 23 3 (R_sL hLk (by omega)) (by decide) (by decide) (by decide) dX6_age_22 rfl ?_
        refine V_top (y := V (o + 17) (i * 4 + 3)) (by rw [hI.1 i (Nat.le_refl _) (by omega)]; exact hI.2.2 i (Nat.le_refl _) hlt 3 (by decide)) ?_
        refine V_iconst h 24 (v := 1) (by decide) dX6_age_23 rfl ?_
        refine V_isub h 25 dX6_age_24 rfl ?_
        refine V_dup_x2 h 26 rfl rfl rfl dX6_age_25 rfl ?_
        refine V_iast h 27 3 (R_sL hLk (by omega)) (by decide) (by decide) (by decide) dX6_age_26 rfl ?_
        obtain ⟨D2, eD2⟩ : ∃ zz, zz = upd2 Dk (r + 14 + lok i) 3 ((V (o + 17) (i * 4 + 3)) - 1) := ⟨_, rfl⟩
        rw [← eD2]
        refine V_if_ne h 33 30 dX6_age_27 (by decide) rfl (fun c27 => ?_) (fun c27 => ?_)
        · skip
          refine V_aload_n h 34 1 rfl dX6_age_33 rfl ?_
          refine g_X6_20 h 37 (b := r + 13) (R_s0 hLk) (R_p2 hLk) dX6_age_34 rfl ?_
          refine V_iload_n h 38 3 rfl dX6_age_37 rfl ?_
          refine V_aload_n h 39 1 rfl dX6_age_38 rfl ?_
          refine g_X6_20 h 42 (b := r + 13) (R_s0 hLk) (R_p2 hLk) dX6_age_39 rfl ?_
          refine V_iload_n h 43 2 rfl dX6_age_42 rfl ?_
          refine V_aald h 44 (b := r + 14 + lok lf) lf (Or.inr rfl) (R_s13 hLk) rfl (by omega) (by decide) (R_pl hLk (by omega)) dX6_age_43 rfl ?_
          refine V_aast2 h 45 i (R_s13 hLk) (R_sL hLk (by omega)) rfl (by omega) (by decide) dX6_age_44 rfl ?_
          obtain ⟨P3, eP3⟩ : ∃ zz, zz = updP Pk (r + 13) i (some (r + 14 + lok lf)) := ⟨_, rfl⟩
          rw [← eP3]
          refine V_aload_n h 46 1 rfl dX6_age_45 rfl ?_
          refine g_X6_20 h 49 (b := r + 13) (R_s0 hLk) (by rw [eP3, updP_ra (by omega)]; exact (R_p2 hLk)) dX6_age_46 rfl ?_
          refine V_iload_n h 50 2 rfl dX6_age_49 rfl ?_
          refine V_iinc h 53 [(1, .int ((nI lf) + 1)), (3, .ref (r + 14 + lok i)), (0, .ref r), (2, .int (nI i))] 2 rfl (by rfl) (by decide) rfl dX6_age_50 rfl ?_
          refine V_aload_n h 54 1 rfl dX6_age_53 rfl ?_
          refine V_aast2 h 55 lf (R_s13 hLk) (R_sL hLk (by omega)) rfl (by omega) (by decide) dX6_age_54 rfl ?_
          obtain ⟨P4, eP4⟩ : ∃ zz, zz = updP P3 (r + 13) lf (some (r + 14 + lok i)) := ⟨_, rfl⟩
          rw [← eP4]
          refine V_iinc h 58 [(2, .int ((nI i) + 1)), (1, .int ((nI lf) + 1)), (3, .ref (r + 14 + lok i)), (0, .ref r)] 3 rfl (by rfl) (by decide) rfl dX6_age_55 rfl ?_
          refine V_goto h 4 dX6_age_58 (by decide) ?_
          refine V_lsub [(0, .ref r), (1, .int ((nI lf) + 1)), (2, .int ((nI i) + 1))] [3, 1, 0] rfl ?_
          have hsw := swp_lay (P' := P4) hLk (i := i) (l := lf) (by omega) (by omega) (by rw [eP4, eP3])
          exact ih (i + 1) _ _ _ P4 D2 (by omega) (by rw [ageG, if_neg (fun z => c27 (hcz.mp z)), elf]; exact nI_1 _) (nI_1 i) hsw (fun a ha => by rw [eP4, eP3, updP_ra ha, updP_ra ha]; exact hPk a ha) (fun a ha => by rw [eD2, upd2_ra (by have := hLk.2.2.2.1 i (by omega); omega)]; exact hFk a ha) (by rw [elf]; exact ageI_keep hI hlt hm8 hLk.2.2.2.2 hL.2.2.2.2 rfl (fun z => c27 (hcz.mp z)) (by rw [eD2])) (by omega)
        · skip
          refine V_goto h 55 dX6_age_30 (by decide) ?_
          refine V_iinc h 58 [(2, .int ((nI i) + 1)), (3, .ref (r + 14 + lok i)), (0, .ref r), (1, .int (nI lf))] 3 rfl (by rfl) (by decide) rfl dX6_age_55 rfl ?_
          refine V_goto h 4 dX6_age_58 (by decide) ?_
          refine V_lsub [(0, .ref r), (1, .int (nI lf)), (2, .int ((nI i) + 1))] [2, 3, 0] rfl ?_
          exact ih (i + 1) _ _ lok Pk D2 (by omega) (by rw [ageG, if_pos (hcz.mpr c27), elf]) (nI_1 i) hLk hPk (fun a ha => by rw [eD2, upd2_ra (by have := hLk.2.2.2.1 i (by omega); omega)]; exact hFk a ha) (ageI_drop hI hlt hm8 hLk.2.2.2.2 hL.2.2.2.2 rfl (hcz.mpr c27) (by rw [eD2])) (by omega)
  refine V_lsub [(0, .ref r), (1, .int 0), (2, .int 0)] [2, 1, 0] rfl ?_
  exact LP4 _ 0 _ _ lo P D (Nat.zero_le _) rfl rfl hL (fun a _ => rfl) (fun a _ => rfl) ⟨fun p _ _ => rfl, fun q hq => absurd hq (Nat.not_lt_zero _), fun p _ hp j hj => hS.2.2.1 p hp j hj⟩ (Nat.lt_succ_self _)
