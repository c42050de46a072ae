theorem mapD_c {o : Nat} {ρ : Nat → Nat} {X Z : Nat → (Nat → Int32) → Nat → Int32} {D D2 : mDt} {c : Nat} (h0 : ∀ a, D a c = D2 a c) (h : ∀ p x y, x c = y c → X p x c = Z p y c) : ∀ (k a : Nat), mapD o ρ X D k a c = mapD o ρ Z D2 k a c := by
  intro k
  induction k with
  | zero => exact h0
  | succ k ih =>
    intro a
    rw [mapD, mapD]
    by_cases e : a = o + 6 + ρ k
    · subst e
      rw [setRow_eq, setRow_eq]
      exact h _ _ _ (ih _)
    · rw [setRow_ne e, setRow_ne e]; exact ih a
theorem reap_sum {o L : Nat} {ρ : Nat → Nat} {V : mDt} (hinj : ∀ p q, p < q → q < L → ρ p ≠ ρ q) {i : Nat} (hi : i ≤ L) : rsum (fun p => mapD o ρ (fun _ => reapX) V (p + 1) (o + 6 + ρ p) 14) i = rsum (fun p => palmReap (V (o + 6 + ρ p))) i := rsum_cg (fun p hp => by
  show mapD o ρ (fun _ => reapX) V (p + 1) (o + 6 + ρ p) 14 = palmReap (V (o + 6 + ρ p))
  rw [mapD, setRow_eq, mapD_other (fun q hq => by have := hinj q p hq (by omega); omega)]
  rfl)
def rel38 (r o : Nat) (D Y : mDt) : Prop := ∀ t, t < 10 → D (r + 2 + t) 1 = Y (o + 6 + t) 3 ∧ D (r + 2 + t) 6 = Y (o + 6 + t) 8
theorem rel38_6 {r o : Nat} {D Y : mDt} (h : rel38 r o D Y) {t : Nat} {v w : Int32} (hv : v = w) : rel38 r o (upd2 D (r + 2 + t) 6 v) (upd2 Y (o + 6 + t) 8 w) := by
  subst hv
  intro s hs
  by_cases e : s = t
  · subst e; exact ⟨by rw [upd2_nk (by decide), upd2_nk (by decide)]; exact (h s hs).1, by rw [upd2_eq, upd2_eq]⟩
  · rw [upd2_na (by omega), upd2_na (by omega), upd2_na (by omega), upd2_na (by omega)]; exact h s hs
theorem rel38_1 {r o : Nat} {D Y : mDt} (h : rel38 r o D Y) {t : Nat} {v w : Int32} (hv : v = w) : rel38 r o (upd2 D (r + 2 + t) 1 v) (upd2 Y (o + 6 + t) 3 w) := by
  subst hv
  intro s hs
  by_cases e : s = t
  · subst e; exact ⟨by rw [upd2_eq, upd2_eq], by rw [upd2_nk (by decide), upd2_nk (by decide)]; exact (h s hs).2⟩
  · rw [upd2_na (by omega), upd2_na (by omega), upd2_na (by omega), upd2_na (by omega)]; exact h s hs
theorem rel38_ds {r o ta tb : Nat} {D D1 D2 D3 D4 Y : mDt} {kk : Int32} (h : rel38 r o D Y) (ha : ta < 10) (hb : tb < 10) (e1 : D1 = upd2 D (r + 2 + ta) 6 (D (r + 2 + ta) 6 - imin kk (D (r + 2 + ta) 6))) (e2 : D2 = upd2 D1 (r + 2 + tb) 6 (D1 (r + 2 + tb) 6 + imin kk (D (r + 2 + ta) 6))) (e3 : D3 = upd2 D2 (r + 2 + ta) 1 (D (r + 2 + ta) 1 - 2 * (kk - imin kk (D (r + 2 + ta) 6)))) (e4 : D4 = upd2 D3 (r + 2 + tb) 1 (D3 (r + 2 + tb) 1 + 2 * (kk - imin kk (D (r + 2 + ta) 6)))) : rel38 r o D4 (dsS o (o + 6 + ta) (o + 6 + tb) kk Y) := by
  rw [(h ta ha).2] at e1 e2 e3 e4
  rw [(h ta ha).1] at e3
  have h1 := rel38_6 (t := ta) (v := Y (o + 6 + ta) 8 - imin kk (Y (o + 6 + ta) 8)) h rfl
  rw [← e1] at h1
  have h2 := rel38_6 (t := tb) (v := D1 (r + 2 + tb) 6 + imin kk (Y (o + 6 + ta) 8)) h1 (congrArg (fun z => z + imin kk (Y (o + 6 + ta) 8)) (h1 tb hb).2)
  rw [← e2] at h2
  have h3 := rel38_1 (t := ta) (v := Y (o + 6 + ta) 3 - 2 * (kk - imin kk (Y (o + 6 + ta) 8))) h2 rfl
  rw [← e3] at h3
  have h4 := rel38_1 (t := tb) (v := D3 (r + 2 + tb) 1 + 2 * (kk - imin kk (Y (o + 6 + ta) 8))) h3 (congrArg (fun z => z + 2 * (kk - imin kk (Y (o + 6 + ta) 8))) (h3 tb hb).1)
  rw [← e4] at h4
  have q : upd2 (upd2 Y (o + 6 + ta) 8 (Y (o + 6 + ta) 8 - imin kk (Y (o + 6 + ta) 8))) (o + 6 + tb) 8 (upd2 Y (o + 6 + ta) 8 (Y (o + 6 + ta) 8 - imin kk (Y (o + 6 + ta) 8)) (o + 6 + tb) 8 + imin kk (Y (o + 6 + ta) 8)) (o + 6 + ta) 3 = Y (o + 6 + ta) 3 := by rw [upd2_nk (by decide), upd2_nk (by decide)]
  rw [dsS, q]
  exact h4

theorem rSim_harv {o L e : Nat} {ρ : Nat → Nat} {m k : Nat} {V : mDt} {r : Nat} {lo : Nat → Nat} {t1 t2 t3 : Int32} {D Dc : mDt} (hS : rSim o L e ρ m k V r lo t1 t2 t3 D) (hW : cW o L ρ m k V) (hlo : ∀ i, i < 8 → lo i < 8) (hFc : ∀ a, (a < r ∨ r + 12 ≤ a) → Dc a = D a) (h16c : Dc r 16 = (dayR o ρ L V) o 7 + t3) (h8c : Dc r 8 = 0) (h0c : ∀ j, j ≠ 16 → j ≠ 8 → Dc r j = D r j) (hrowc : ∀ t, t < 10 → ∀ j, j ≠ 6 → j ≠ 1 → j ≠ 7 → j ≠ 8 → Dc (r + 2 + t) j = D (r + 2 + t) j) (h38c : rel38 r o Dc (dsD o (V (o + 19)) (dayR o ρ L V) k))
    (h78 : ∀ t, t < 10 → Dc (r + 2 + t) 7 = mapD o ρ (fun _ x => upd (upd x 9 0) 10 0) V L (o + 6 + t) 9 ∧ Dc (r + 2 + t) 8 = mapD o ρ (fun _ x => upd (upd x 9 0) 10 0) V L (o + 6 + t) 10) : rSim o L e ρ m 0 (dayH o ρ L k V) r lo t1 t2 t3 Dc := by
  have hρ : ∀ p, p < L → ρ p < 10 := fun p hp => (hW.1.2.2 p hp).1
  have hm := hW.2.2.2.1.1
  have hR := cW_dayR hW
  have e19 : dayR o ρ L V (o + 19) = V (o + 19) := by rw [dayR, upd2_ra (by omega), mapD_row (by omega) hρ]
  have vr : ∀ a, a ≠ o → a ≠ o + 18 → (a < o + 6 ∨ o + 16 ≤ a) → dayH o ρ L k V a = V a := fun a h1 h2 h3 => by
    rw [dayH, upd2_ra h2, dsD_row (m := k) h3 hR.2.2.2.2.2 (Nat.le_refl _), dayR, upd2_ra h1, mapD_row h3 hρ]
  have vo : ∀ j, j ≠ 7 → dayH o ρ L k V o j = V o j := fun j h1 => by
    rw [dayH, upd2_ra (by omega), dsD_row (m := k) (by omega) hR.2.2.2.2.2 (Nat.le_refl _), dayR, upd2_nk h1, mapD_row (by omega) hρ]
  have vo7 : dayH o ρ L k V o 7 = dayR o ρ L V o 7 := by rw [dayH, upd2_ra (by omega), dsD_row (m := k) (by omega) hR.2.2.2.2.2 (Nat.le_refl _)]
  have vw : ∀ t j, t < 10 → j ≠ 8 → j ≠ 3 → dayH o ρ L k V (o + 6 + t) j = mapD o ρ (fun _ => reapX) V L (o + 6 + t) j := fun t j ht h1 h2 => by
    rw [dayH, upd2_ra (by omega), dsD_0 h1 h2, dayR, upd2_ra (by omega)]
  have v38 : ∀ t j, t < 10 → dayH o ρ L k V (o + 6 + t) j = dsD o (V (o + 19)) (dayR o ρ L V) k (o + 6 + t) j := fun t j ht => by rw [dayH, upd2_ra (by omega), e19]
  obtain ⟨h1, h2, h3, h4, ⟨g1, g2, g3, g4, g5, g6, g7, g8, g9⟩, h6⟩ := hS
  refine ⟨fun i hi j hj => ?_, fun p hp => by rw [hFc _ (by omega)]; exact h2 p hp, fun i hi j hj => ?_, fun i hi j hj => absurd hi (by omega), ⟨?_, ?_, ?_, ?_, ?_, ?_, ?_, ?_, ?_⟩, ?_, ?_, ?_⟩
  · by_cases c1 : j = 1
    · subst c1; rw [(h38c i hi).1]; exact (v38 i 3 hi).symm
    by_cases c6 : j = 6
    · subst c6; rw [(h38c i hi).2]; exact (v38 i 8 hi).symm
    by_cases c7 : j = 7
    · subst c7; rw [(h78 i hi).1]; show _ = dayH o ρ L k V (o + 6 + i) 9; rw [vw i 9 hi (by decide) (by decide)]; exact mapD_c (X := fun _ x => upd (upd x 9 0) 10 0) (Z := fun _ => reapX) (c := 9) (fun _ => rfl) (fun _ _ _ _ => rfl) L _
    by_cases c8 : j = 8
    · subst c8; rw [(h78 i hi).2]; show _ = dayH o ρ L k V (o + 6 + i) 10; rw [vw i 10 hi (by decide) (by decide)]; exact mapD_c (X := fun _ x => upd (upd x 9 0) 10 0) (Z := fun _ => reapX) (c := 10) (fun _ => rfl) (fun _ _ _ _ => rfl) L _
    rw [hrowc i hi j c6 c1 c7 c8, h1 i hi j hj]
    obtain rfl | rfl | rfl | rfl | rfl | rfl | rfl | rfl : j = 0 ∨ j = 2 ∨ j = 3 ∨ j = 4 ∨ j = 5 ∨ j = 9 ∨ j = 10 ∨ j = 11 := by omega
    all_goals (rw [vw i _ hi (by decide) (by decide)]; exact (mapD_j (X := fun _ => reapX) (fun p x => rfl)).symm)
  · rw [hFc _ (by omega), vr _ (by omega) (by omega) (by omega)]; exact h3 i hi j hj
  · rw [h0c _ (by decide) (by decide)]; exact g1
  · rw [h0c _ (by decide) (by decide)]; exact g2
  · rw [h0c _ (by decide) (by decide)]; exact g3
  · exact h8c
  · rw [h0c _ (by decide) (by decide), vo _ (by decide)]; exact g5
  · rw [h0c _ (by decide) (by decide), vr _ (by omega) (by omega) (by omega)]; exact g6
  · rw [h0c _ (by decide) (by decide), vr _ (by omega) (by omega) (by omega)]; exact g7
  · rw [h0c _ (by decide) (by decide), vr _ (by omega) (by omega) (by omega)]; exact g8
  · rw [h0c _ (by decide) (by decide), vr _ (by omega) (by omega) (by omega)]; exact g9
  · rw [h0c _ (by decide) (by decide), vo _ (by decide)]; exact h6.1
  · rw [h0c _ (by decide) (by decide), vo _ (by decide)]; exact h6.2.1
  · rw [h16c, vo7]

set_option maxRecDepth 100000 in
set_option maxHeartbeats 4000000 in
theorem r_harvest {κ : mKp} {n : Nat} {sh : mSh} {P : mPt} {D : mDt} {E : mEt} {r : Nat} {lo : Nat → Nat} (hL : rLay r lo sh P) {o L e m k : Nat} {ρ : Nat → Nat} {V : mDt} {t1 t2 t3 : Int32} (hS : rSim o L e ρ m k V r lo t1 t2 t3 D) (hW : cW o L ρ m k V) (hinj : ∀ p q, p < q → q < L → ρ p ≠ ρ q) : mFnV κ yX6_harvest cX6_harvest 5 1 21 [.ref r] n sh P D E (fun D' => rSim o L e ρ m 0 (dayH o ρ L k V) r lo t1 t2 t3 D' ∧ ∀ a, (a < r ∨ r + 12 ≤ a) → D' a = D a) := by
  refine mMet_of (by decide) (Nat.le_of_ble_eq_true rfl) ?_
  intro Γ Q hQ h hin
  have h : mOk Γ κ RX6 cX6_harvest 5 (Option.none : Option Jvm.ClassFile.FieldType) { frames := 1, cells := 0, slots := 0, locals := 21 } := h
  have hρ : ∀ p, p < L → ρ p < 10 := fun p hp => (hW.1.2.2 p hp).1
  have hL10 := hW.1.2.1
  have hm8 := hW.2.2.2.1.1
  have hk8 := hW.2.2.2.2.2.1
  show mV Γ Q 0 0 n sh P D E [(0, .ref r)] [] 0
  refine V_iconst h 1 (v := 0) (by decide) dX6_harvest_0 rfl ?_
  refine V_istore_n h 2 [(1, .int 0), (0, .ref r)] (by decide) rfl dX6_harvest_1 rfl ?_
  have LP2 : ∀ (kk : Nat) (i : Nat) (x1 : Int32) (Da : mDt), (i ≤ L) → (x1 = nI i) → (∀ a, (a < r ∨ r + 12 ≤ a) → Da a = D a) → (Da r 16 = V o 7 + t3 + rsum (fun p => palmReap (V (o + 6 + ρ p))) i) → (∀ j, j ≠ 16 → Da r j = D r j) → (∀ t, t < 10 → ∀ j, j ≠ 6 → Da (r + 2 + t) j = D (r + 2 + t) j) → (∀ t, t < 10 → Da (r + 2 + t) 6 = (mapD o ρ (fun _ => reapX) V i) (o + 6 + t) 8) → L - i < kk → mV Γ Q 0 0 n sh P Da E [(0, .ref r), (1, .int x1)] [] 2 := by
    intro kk
    induction kk with
    | zero =>
      intro i x1 Da _ _ _ _ _ _ _ hms
      exact absurd hms (Nat.not_lt_zero _)
    | succ kk ih =>
      intro i x1 Da hi e1 hFa h16 h0 hrow h6 hms
      subst e1
      have hRa : rRow L ρ r Da := fun p hp => by rw [hFa _ (by omega)]; exact hS.2.1 p hp
      refine V_iload_n h 3 1 rfl dX6_harvest_2 rfl ?_
      refine V_aload_n h 4 0 rfl dX6_harvest_3 rfl ?_
      refine g_X6_52 h 7 (R_s0 hL) dX6_harvest_4 rfl ?_
      refine V_top (y := nI L) (by rw [h0 6 (by decide)]; exact hS.2.2.2.2.1.2.1) ?_
      refine V_icmp_ge h 54 10 dX6_harvest_7 (by decide) rfl (fun c7 => ?_) (fun c7 => ?_)
      · skip
        have hex : i = L := by have := mGe c7 (by omega) (by omega); omega
        have hX7 : Da r 16 = (dayR o ρ L V) o 7 + t3 := by rw [h16, hex, dayR, upd2_eq, reap_sum hinj (Nat.le_refl _), Int32.add_assoc, Int32.add_comm t3, ← Int32.add_assoc]
        have hX38 : rel38 r o Da (dsD o (V (o + 19)) (dayR o ρ L V) 0) := fun t ht => ⟨by rw [hrow t ht 1 (by decide), hS.1 t ht 1 (by decide)]; show V (o + 6 + t) 3 = dayR o ρ L V (o + 6 + t) 3; rw [dayR, upd2_na (by omega)]; exact (mapD_j (X := fun _ => reapX) (fun p x => rfl)).symm, by rw [h6 t ht, hex]; show _ = dayR o ρ L V (o + 6 + t) 8; rw [dayR, upd2_na (by omega)]⟩
        refine V_iconst h 55 (v := 0) (by decide) dX6_harvest_54 rfl ?_
        refine V_istore_n h 56 [(1, .int 0), (0, .ref r)] (by decide) rfl dX6_harvest_55 rfl ?_
        have LP56 : ∀ (kk : Nat) (i : Nat) (x1 : Int32) (Db : mDt), (i ≤ k) → (x1 = nI i) → (∀ a, (a < r ∨ r + 12 ≤ a) → Db a = D a) → (Db r 16 = (dayR o ρ L V) o 7 + t3) → (∀ j, j ≠ 16 → Db r j = D r j) → (∀ t, t < 10 → ∀ j, j ≠ 6 → j ≠ 1 → Db (r + 2 + t) j = D (r + 2 + t) j) → (rel38 r o Db (dsD o (V (o + 19)) (dayR o ρ L V) i)) → k - i < kk → mV Γ Q 0 0 n sh P Db E [(0, .ref r), (1, .int x1)] [] 56 := by
          intro kk
          induction kk with
          | zero =>
            intro i x1 Db _ _ _ _ _ _ _ hms
            exact absurd hms (Nat.not_lt_zero _)
          | succ kk ih =>
            intro i x1 Db hi e1 hFb h16b h0b hrowb h38 hms
            subst e1
            have hRb : rRow L ρ r Db := fun p hp => by rw [hFb _ (by omega)]; exact hS.2.1 p hp
            have hSb : rSales o k V r Db := fun i hi j hj => by rw [hFb _ (by omega)]; exact hS.2.2.2.1 i hi j hj
            refine V_iload_n h 57 1 rfl dX6_harvest_56 rfl ?_
            refine V_aload_n h 58 0 rfl dX6_harvest_57 rfl ?_
            refine g_X6_49 h 61 (R_s0 hL) dX6_harvest_58 rfl ?_
            refine V_top (y := nI k) (by rw [h0b 8 (by decide)]; exact hS.2.2.2.2.1.2.2.2.1) ?_
            refine V_icmp_ge h 171 64 dX6_harvest_61 (by decide) rfl (fun c61 => ?_) (fun c61 => ?_)
            · skip
              have hexk : i = k := by have := mGe c61 (by omega) (by omega); omega
              refine V_aload_n h 172 0 rfl dX6_harvest_171 rfl ?_
              refine V_iconst h 173 (v := 0) (by decide) dX6_harvest_172 rfl ?_
              refine p_X6_49 h 176 (R_s0 hL) dX6_harvest_173 rfl ?_
              obtain ⟨D1, eD1⟩ : ∃ zz, zz = upd2 Db r 8 0 := ⟨_, rfl⟩
              rw [← eD1]
              refine V_iconst h 177 (v := 0) (by decide) dX6_harvest_176 rfl ?_
              refine V_istore_n h 178 [(1, .int 0), (0, .ref r)] (by decide) rfl dX6_harvest_177 rfl ?_
              have LP178 : ∀ (kk : Nat) (i : Nat) (x1 : Int32) (Dc : mDt), (i ≤ L) → (x1 = nI i) → (∀ a, (a < r ∨ r + 12 ≤ a) → Dc a = D a) → (Dc r 16 = (dayR o ρ L V) o 7 + t3) → (Dc r 8 = 0) → (∀ j, j ≠ 16 → j ≠ 8 → Dc r j = D r j) → (∀ t, t < 10 → ∀ j, j ≠ 6 → j ≠ 1 → j ≠ 7 → j ≠ 8 → Dc (r + 2 + t) j = D (r + 2 + t) j) → (rel38 r o Dc (dsD o (V (o + 19)) (dayR o ρ L V) k)) → (∀ t, t < 10 → Dc (r + 2 + t) 7 = mapD o ρ (fun _ x => upd (upd x 9 0) 10 0) V i (o + 6 + t) 9 ∧ Dc (r + 2 + t) 8 = mapD o ρ (fun _ x => upd (upd x 9 0) 10 0) V i (o + 6 + t) 10) → L - i < kk → mV Γ Q 0 0 n sh P Dc E [(0, .ref r), (1, .int x1)] [] 178 := by
                intro kk
                induction kk with
                | zero =>
                  intro i x1 Dc _ _ _ _ _ _ _ _ _ hms
                  exact absurd hms (Nat.not_lt_zero _)
                | succ kk ih =>
                  intro i x1 Dc hi e1 hFc h16c h8c h0c hrowc h38c h78 hms
                  subst e1
                  have hRc : rRow L ρ r Dc := fun p hp => by rw [hFc _ (by omega)]; exact hS.2.1 p hp
                  refine V_iload_n h 179 1 rfl dX6_harvest_178 rfl ?_
                  refine V_aload_n h 180 0 rfl dX6_harvest_179 rfl ?_
                  refine g_X6_52 h 183 (R_s0 hL) dX6_harvest_180 rfl ?_
                  refine V_top (y := nI L) (by rw [h0c 6 (by decide) (by decide)]; exact hS.2.2.2.2.1.2.1) ?_
                  refine V_icmp_ge h 222 186 dX6_harvest_183 (by decide) rfl (fun c183 => ?_) (fun c183 => ?_)
                  · skip
                    have hex : i = L := by have := mGe c183 (by omega) (by omega); omega
                    exact V_ret h  hQ (Nat.zero_le _) (Nat.zero_le _) ⟨rfl, rfl, rfl, rfl, rfl, ⟨rSim_harv hS hW hL.2.2.2.1 hFc h16c h8c h0c hrowc h38c (by rw [← hex]; exact h78), hFc⟩⟩ dX6_harvest_222
                  · skip
                    have hlt := mLt c183 (by omega)
                    refine V_aload_n h 187 0 rfl dX6_harvest_186 rfl ?_
                    refine g_X6_11 h 190 (b := r + 1) (R_s0 hL) (R_p0 hL) dX6_harvest_187 rfl ?_
                    refine V_aload_n h 191 0 rfl dX6_harvest_190 rfl ?_
                    refine g_X6_16 h 194 (b := r + 12) (R_s0 hL) (R_p1 hL) dX6_harvest_191 rfl ?_
                    refine V_iload_n h 195 1 rfl dX6_harvest_194 rfl ?_
                    refine V_iald h 196 i (R_s12 hL) rfl (by omega) (by decide) dX6_harvest_195 rfl ?_
                    refine V_top (y := nI (ρ i)) (hRc i hlt) ?_
                    refine V_aald h 197 (b := r + 2 + (ρ i)) (ρ i) (Or.inr rfl) (R_s1 hL) rfl (hρ i hlt) (by decide) (R_pw hL (hρ i hlt)) dX6_harvest_196 rfl ?_
                    refine V_bipush h 199 (v := 7) (by decide) dX6_harvest_197 rfl ?_
                    refine V_iconst h 200 (v := 0) (by decide) dX6_harvest_199 rfl ?_
                    refine V_iast h 201 7 (R_sw hL (hρ i hlt)) (by decide) (by decide) (by decide) dX6_harvest_200 rfl ?_
                    obtain ⟨D2, eD2⟩ : ∃ zz, zz = upd2 Dc (r + 2 + (ρ i)) 7 0 := ⟨_, rfl⟩
                    rw [← eD2]
                    refine V_aload_n h 202 0 rfl dX6_harvest_201 rfl ?_
                    refine g_X6_11 h 205 (b := r + 1) (R_s0 hL) (R_p0 hL) dX6_harvest_202 rfl ?_
                    refine V_aload_n h 206 0 rfl dX6_harvest_205 rfl ?_
                    refine g_X6_16 h 209 (b := r + 12) (R_s0 hL) (R_p1 hL) dX6_harvest_206 rfl ?_
                    refine V_iload_n h 210 1 rfl dX6_harvest_209 rfl ?_
                    refine V_iald h 211 i (R_s12 hL) rfl (by omega) (by decide) dX6_harvest_210 rfl ?_
                    refine V_top (y := nI (ρ i)) (by rw [eD2, upd2_na (by have := hρ i hlt; omega)]; exact (hRc i hlt)) ?_
                    refine V_aald h 212 (b := r + 2 + (ρ i)) (ρ i) (Or.inr rfl) (R_s1 hL) rfl (hρ i hlt) (by decide) (R_pw hL (hρ i hlt)) dX6_harvest_211 rfl ?_
                    refine V_bipush h 214 (v := 8) (by decide) dX6_harvest_212 rfl ?_
                    refine V_iconst h 215 (v := 0) (by decide) dX6_harvest_214 rfl ?_
                    refine V_iast h 216 8 (R_sw hL (hρ i hlt)) (by decide) (by decide) (by decide) dX6_harvest_215 rfl ?_
                    obtain ⟨D3, eD3⟩ : ∃ zz, zz = upd2 D2 (r + 2 + (ρ i)) 8 0 := ⟨_, rfl⟩
                    rw [← eD3]
                    refine V_iinc h 219 [(1, .int ((nI i) + 1)), (0, .ref r)] 1 rfl (by rfl) (by decide) rfl dX6_harvest_216 rfl ?_
                    refine V_goto h 178 dX6_harvest_219 (by decide) ?_
                    refine V_lsub [(0, .ref r), (1, .int ((nI i) + 1))] [1, 0] rfl ?_
                    have hρi := hρ i hlt
                    refine ih (i + 1) _ D3 (by omega) (nI_1 i) (fun a ha => ?_) ?_ ?_ (fun j h1 h2 => ?_) (fun t ht j h1 h2 h3 h4 => ?_) (fun t ht => ?_) (fun t ht => ?_) (by omega)
                    · rw [eD3, eD2, upd2_ra (by omega), upd2_ra (by omega)]; exact hFc a ha
                    · rw [eD3, eD2, upd2_na (by omega), upd2_na (by omega)]; exact h16c
                    · rw [eD3, eD2, upd2_na (by omega), upd2_na (by omega)]; exact h8c
                    · rw [eD3, eD2, upd2_na (by omega), upd2_na (by omega)]; exact h0c j h1 h2
                    · rw [eD3, eD2, upd2_nk h4, upd2_nk h3]; exact hrowc t ht j h1 h2 h3 h4
                    · rw [eD3, eD2, upd2_nk (by decide), upd2_nk (by decide), upd2_nk (by decide), upd2_nk (by decide)]; exact h38c t ht
                    · rw [mapD]
                      by_cases e : t = ρ i
                      · subst e; rw [setRow_eq, eD3, eD2]; exact ⟨by rw [upd2_nk (by decide), upd2_eq]; rfl, by rw [upd2_eq]; rfl⟩
                      · rw [setRow_ne (by omega), eD3, eD2, upd2_ra (by omega), upd2_ra (by omega)]; exact h78 t ht
              refine V_lsub [(0, .ref r), (1, .int 0)] [1, 0] rfl ?_
              exact LP178 _ 0 _ D1 (Nat.zero_le _) rfl (fun a ha => by rw [eD1, upd2_ra (by omega)]; exact hFb a ha) (by rw [eD1, upd2_nk (by decide)]; exact h16b) (by rw [eD1, upd2_eq]) (fun j h1 h2 => by rw [eD1, upd2_nk h2]; exact h0b j h1) (fun t ht j h1 h2 _ _ => by rw [eD1, upd2_na (by omega)]; exact hrowb t ht j h1 h2) (fun t ht => by rw [eD1, upd2_ra (by omega)]; rw [hexk] at h38; exact h38 t ht) (fun t ht => by rw [eD1, upd2_ra (by omega)]; exact ⟨(hrowb t ht 7 (by decide) (by decide)).trans (hS.1 t ht 7 (by decide)), (hrowb t ht 8 (by decide) (by decide)).trans (hS.1 t ht 8 (by decide))⟩) (Nat.lt_succ_self _)
            · skip
              have hlt := mLt c61 (by omega)
              have ha10 := (hW.2.2.2.2.2.2 i hlt).1.1
              have hb10 := (hW.2.2.2.2.2.2 i hlt).2.1
              refine V_aload_n h 65 0 rfl dX6_harvest_64 rfl ?_
              refine g_X6_11 h 68 (b := r + 1) (R_s0 hL) (R_p0 hL) dX6_harvest_65 rfl ?_
              refine V_aload_n h 69 0 rfl dX6_harvest_68 rfl ?_
              refine g_X6_23 h 72 (b := r + 22) (R_s0 hL) (R_p3 hL) dX6_harvest_69 rfl ?_
              refine V_iload_n h 73 1 rfl dX6_harvest_72 rfl ?_
              refine V_aald h 74 (b := r + 23 + i) i (Or.inr rfl) (R_s22 hL) rfl (by omega) (by decide) (R_ps hL (by omega)) dX6_harvest_73 rfl ?_
              refine V_iconst h 75 (v := 0) (by decide) dX6_harvest_74 rfl ?_
              refine V_iald h 76 0 (R_ss hL (by omega)) (by decide) (by decide) (by decide) dX6_harvest_75 rfl ?_
              refine V_top (y := V (o + 19) (i * 4 + 0)) (hSb i hlt 0 (by decide)) ?_
              refine V_top (y := nI (toN (V (o + 19) (i * 4 + 0)))) (hW.2.2.2.2.2.2 i hlt).1.2 ?_
              refine V_aald h 77 (b := r + 2 + (toN (V (o + 19) (i * 4 + 0)))) (toN (V (o + 19) (i * 4 + 0))) (Or.inr rfl) (R_s1 hL) rfl ha10 (by decide) (R_pw hL ha10) dX6_harvest_76 rfl ?_
              refine V_astore_n h 78 [(2, .ref (r + 2 + (toN (V (o + 19) (i * 4 + 0))))), (0, .ref r), (1, .int (nI i))] (by decide) rfl dX6_harvest_77 rfl ?_
              refine V_aload_n h 79 1 rfl dX6_harvest_78 rfl ?_
              refine g_X6_11 h 82 (b := r + 1) (R_s0 hL) (R_p0 hL) dX6_harvest_79 rfl ?_
              refine V_aload_n h 83 1 rfl dX6_harvest_82 rfl ?_
              refine g_X6_23 h 86 (b := r + 22) (R_s0 hL) (R_p3 hL) dX6_harvest_83 rfl ?_
              refine V_iload_n h 87 2 rfl dX6_harvest_86 rfl ?_
              refine V_aald h 88 (b := r + 23 + i) i (Or.inr rfl) (R_s22 hL) rfl (by omega) (by decide) (R_ps hL (by omega)) dX6_harvest_87 rfl ?_
              refine V_iconst h 89 (v := 1) (by decide) dX6_harvest_88 rfl ?_
              refine V_iald h 90 1 (R_ss hL (by omega)) (by decide) (by decide) (by decide) dX6_harvest_89 rfl ?_
              refine V_top (y := V (o + 19) (i * 4 + 1)) (hSb i hlt 1 (by decide)) ?_
              refine V_top (y := nI (toN (V (o + 19) (i * 4 + 1)))) (hW.2.2.2.2.2.2 i hlt).2.2 ?_
              refine V_aald h 91 (b := r + 2 + (toN (V (o + 19) (i * 4 + 1)))) (toN (V (o + 19) (i * 4 + 1))) (Or.inr rfl) (R_s1 hL) rfl hb10 (by decide) (R_pw hL hb10) dX6_harvest_90 rfl ?_
              refine V_astore_n h 92 [(3, .ref (r + 2 + (toN (V (o + 19) (i * 4 + 1))))), (2, .ref (r + 2 + (toN (V (o + 19) (i * 4 + 0))))), (0, .ref r), (1, .int (nI i))] (by decide) rfl dX6_harvest_91 rfl ?_
              refine V_aload_n h 93 2 rfl dX6_harvest_92 rfl ?_
              refine g_X6_23 h 96 (b := r + 22) (R_s0 hL) (R_p3 hL) dX6_harvest_93 rfl ?_
              refine V_iload_n h 97 3 rfl dX6_harvest_96 rfl ?_
              refine V_aald h 98 (b := r + 23 + i) i (Or.inr rfl) (R_s22 hL) rfl (by omega) (by decide) (R_ps hL (by omega)) dX6_harvest_97 rfl ?_
              refine V_iconst h 99 (v := 2) (by decide) dX6_harvest_98 rfl ?_
              refine V_iald h 100 2 (R_ss hL (by omega)) (by decide) (by decide) (by decide) dX6_harvest_99 rfl ?_
              refine V_top (y := V (o + 19) (i * 4 + 2)) (hSb i hlt 2 (by decide)) ?_
              refine V_aload_n h 101 1 rfl dX6_harvest_100 rfl ?_
              refine V_bipush h 103 (v := 6) (by decide) dX6_harvest_101 rfl ?_
              refine V_iald h 104 6 (R_sw hL ha10) (by decide) (by decide) (by decide) dX6_harvest_103 rfl ?_
              refine V_mmin h 107 qL_X6_80 (Nat.le_of_ble_eq_true rfl) (Nat.le_of_ble_eq_true rfl) (Nat.zero_le _) (Nat.zero_le _) dX6_harvest_104 rfl ?_
              refine V_istore h 109 [(4, .int (imin (V (o + 19) (i * 4 + 2)) (Db (r + 2 + (toN (V (o + 19) (i * 4 + 0)))) 6))), (3, .ref (r + 2 + (toN (V (o + 19) (i * 4 + 1))))), (2, .ref (r + 2 + (toN (V (o + 19) (i * 4 + 0))))), (0, .ref r), (1, .int (nI i))] (by decide) rfl dX6_harvest_107 rfl ?_
              refine V_aload_n h 110 2 rfl dX6_harvest_109 rfl ?_
              refine V_bipush h 112 (v := 6) (by decide) dX6_harvest_110 rfl ?_
              refine V_dup2 h 113 rfl rfl dX6_harvest_112 rfl ?_
              refine V_iald h 114 6 (R_sw hL ha10) (by decide) (by decide) (by decide) dX6_harvest_113 rfl ?_
              refine V_iload h 116 0 rfl dX6_harvest_114 rfl ?_
              refine V_isub h 117 dX6_harvest_116 rfl ?_
              refine V_iast h 118 6 (R_sw hL ha10) (by decide) (by decide) (by decide) dX6_harvest_117 rfl ?_
              obtain ⟨D4, eD4⟩ : ∃ zz, zz = upd2 Db (r + 2 + (toN (V (o + 19) (i * 4 + 0)))) 6 ((Db (r + 2 + (toN (V (o + 19) (i * 4 + 0)))) 6) - (imin (V (o + 19) (i * 4 + 2)) (Db (r + 2 + (toN (V (o + 19) (i * 4 + 0)))) 6))) := ⟨_, rfl⟩
              rw [← eD4]
              refine V_aload_n h 119 1 rfl dX6_harvest_118 rfl ?_
              refine V_bipush h 121 (v := 6) (by decide) dX6_harvest_119 rfl ?_
              refine V_dup2 h 122 rfl rfl dX6_harvest_121 rfl ?_
              refine V_iald h 123 6 (R_sw hL hb10) (by decide) (by decide) (by decide) dX6_harvest_122 rfl ?_
              refine V_iload h 125 0 rfl dX6_harvest_123 rfl ?_
              refine V_iadd h 126 dX6_harvest_125 rfl ?_
              refine V_iast h 127 6 (R_sw hL hb10) (by decide) (by decide) (by decide) dX6_harvest_126 rfl ?_
              obtain ⟨D5, eD5⟩ : ∃ zz, zz = upd2 D4 (r + 2 + (toN (V (o + 19) (i * 4 + 1)))) 6 ((D4 (r + 2 + (toN (V (o + 19) (i * 4 + 1)))) 6) + (imin (V (o + 19) (i * 4 + 2)) (Db (r + 2 + (toN (V (o + 19) (i * 4 + 0)))) 6))) := ⟨_, rfl⟩
              rw [← eD5]
              refine V_aload_n h 128 2 rfl dX6_harvest_127 rfl ?_
              refine V_iconst h 129 (v := 1) (by decide) dX6_harvest_128 rfl ?_
              refine V_dup2 h 130 rfl rfl dX6_harvest_129 rfl ?_
              refine V_iald h 131 1 (R_sw hL ha10) (by decide) (by decide) (by decide) dX6_harvest_130 rfl ?_
              refine V_top (y := Db (r + 2 + (toN (V (o + 19) (i * 4 + 0)))) 1) (by rw [eD5, upd2_nk (by decide), eD4, upd2_nk (by decide)]) ?_
              refine V_iconst h 132 (v := 2) (by decide) dX6_harvest_131 rfl ?_
              refine V_aload_n h 133 3 rfl dX6_harvest_132 rfl ?_
              refine g_X6_23 h 136 (b := r + 22) (R_s0 hL) (R_p3 hL) dX6_harvest_133 rfl ?_
              refine V_iload_n h 137 4 rfl dX6_harvest_136 rfl ?_
              refine V_aald h 138 (b := r + 23 + i) i (Or.inr rfl) (R_s22 hL) rfl (by omega) (by decide) (R_ps hL (by omega)) dX6_harvest_137 rfl ?_
              refine V_iconst h 139 (v := 2) (by decide) dX6_harvest_138 rfl ?_
              refine V_iald h 140 2 (R_ss hL (by omega)) (by decide) (by decide) (by decide) dX6_harvest_139 rfl ?_
              refine V_top (y := V (o + 19) (i * 4 + 2)) (by rw [eD5, upd2_nk (by decide), eD4, upd2_nk (by decide)]; exact (hSb i hlt 2 (by decide))) ?_
              refine V_iload h 142 0 rfl dX6_harvest_140 rfl ?_
              refine V_isub h 143 dX6_harvest_142 rfl ?_
              refine V_imul h 144 dX6_harvest_143 rfl ?_
              refine V_isub h 145 dX6_harvest_144 rfl ?_
              refine V_iast h 146 1 (R_sw hL ha10) (by decide) (by decide) (by decide) dX6_harvest_145 rfl ?_
              obtain ⟨D6, eD6⟩ : ∃ zz, zz = upd2 D5 (r + 2 + (toN (V (o + 19) (i * 4 + 0)))) 1 ((Db (r + 2 + (toN (V (o + 19) (i * 4 + 0)))) 1) - (2 * ((V (o + 19) (i * 4 + 2)) - (imin (V (o + 19) (i * 4 + 2)) (Db (r + 2 + (toN (V (o + 19) (i * 4 + 0)))) 6))))) := ⟨_, rfl⟩
              rw [← eD6]
              refine V_aload_n h 147 1 rfl dX6_harvest_146 rfl ?_
              refine V_iconst h 148 (v := 1) (by decide) dX6_harvest_147 rfl ?_
              refine V_dup2 h 149 rfl rfl dX6_harvest_148 rfl ?_
              refine V_iald h 150 1 (R_sw hL hb10) (by decide) (by decide) (by decide) dX6_harvest_149 rfl ?_
              refine V_iconst h 151 (v := 2) (by decide) dX6_harvest_150 rfl ?_
              refine V_aload_n h 152 3 rfl dX6_harvest_151 rfl ?_
              refine g_X6_23 h 155 (b := r + 22) (R_s0 hL) (R_p3 hL) dX6_harvest_152 rfl ?_
              refine V_iload_n h 156 4 rfl dX6_harvest_155 rfl ?_
              refine V_aald h 157 (b := r + 23 + i) i (Or.inr rfl) (R_s22 hL) rfl (by omega) (by decide) (R_ps hL (by omega)) dX6_harvest_156 rfl ?_
              refine V_iconst h 158 (v := 2) (by decide) dX6_harvest_157 rfl ?_
              refine V_iald h 159 2 (R_ss hL (by omega)) (by decide) (by decide) (by decide) dX6_harvest_158 rfl ?_
              refine V_top (y := V (o + 19) (i * 4 + 2)) (by rw [eD6, upd2_nk (by decide), eD5, upd2_nk (by decide), eD4, upd2_nk (by decide)]; exact (hSb i hlt 2 (by decide))) ?_
              refine V_iload h 161 0 rfl dX6_harvest_159 rfl ?_
              refine V_isub h 162 dX6_harvest_161 rfl ?_
              refine V_imul h 163 dX6_harvest_162 rfl ?_
              refine V_iadd h 164 dX6_harvest_163 rfl ?_
              refine V_iast h 165 1 (R_sw hL hb10) (by decide) (by decide) (by decide) dX6_harvest_164 rfl ?_
              obtain ⟨D7, eD7⟩ : ∃ zz, zz = upd2 D6 (r + 2 + (toN (V (o + 19) (i * 4 + 1)))) 1 ((D6 (r + 2 + (toN (V (o + 19) (i * 4 + 1)))) 1) + (2 * ((V (o + 19) (i * 4 + 2)) - (imin (V (o + 19) (i * 4 + 2)) (Db (r + 2 + (toN (V (o + 19) (i * 4 + 0)))) 6))))) := ⟨_, rfl⟩
              rw [← eD7]
              refine V_iinc h 168 [(1, .int ((nI i) + 1)), (4, .int (imin (V (o + 19) (i * 4 + 2)) (Db (r + 2 + (toN (V (o + 19) (i * 4 + 0)))) 6))), (3, .ref (r + 2 + (toN (V (o + 19) (i * 4 + 1))))), (2, .ref (r + 2 + (toN (V (o + 19) (i * 4 + 0))))), (0, .ref r)] 4 rfl (by rfl) (by decide) rfl dX6_harvest_165 rfl ?_
              refine V_goto h 56 dX6_harvest_168 (by decide) ?_
              refine V_lsub [(0, .ref r), (1, .int ((nI i) + 1))] [4, 0] rfl ?_
              exact ih (i + 1) _ D7 (by omega) (nI_1 i) (fun a ha => by rw [eD7, eD6, eD5, eD4, upd2_ra (by omega), upd2_ra (by omega), upd2_ra (by omega), upd2_ra (by omega)]; exact hFb a ha) (by rw [eD7, eD6, eD5, eD4, upd2_na (by omega), upd2_na (by omega), upd2_na (by omega), upd2_na (by omega)]; exact h16b) (fun j hj => by rw [eD7, eD6, eD5, eD4, upd2_na (by omega), upd2_na (by omega), upd2_na (by omega), upd2_na (by omega)]; exact h0b j hj) (fun t ht j h1 h2 => by rw [eD7, eD6, eD5, eD4, upd2_nk h2, upd2_nk h2, upd2_nk h1, upd2_nk h1]; exact hrowb t ht j h1 h2) (rel38_ds h38 ha10 hb10 eD4 eD5 eD6 eD7) (by omega)
        refine V_lsub [(0, .ref r), (1, .int 0)] [1, 0] rfl ?_
        exact LP56 _ 0 _ Da (Nat.zero_le _) rfl hFa hX7 h0 (fun t ht j h1 _ => hrow t ht j h1) hX38 (Nat.lt_succ_self _)
      · skip
        have hlt := mLt c7 (by omega)
        have hρi := hρ i hlt
        have h6i : Da (r + 2 + ρ i) 6 = V (o + 6 + ρ i) 8 := by rw [h6 _ hρi, mapD_other (fun q hq => by have := hinj q i hq hlt; omega)]
        have hrw : rwq (Da (r + 2 + ρ i)) (V (o + 6 + ρ i)) := fun j hj => by by_cases e : j = 6; exact (by subst e; exact h6i); exact (hrow _ hρi j e).trans (hS.1 _ hρi j hj)
        refine V_aload_n h 11 0 rfl dX6_harvest_10 rfl ?_
        refine g_X6_11 h 14 (b := r + 1) (R_s0 hL) (R_p0 hL) dX6_harvest_11 rfl ?_
        refine V_aload_n h 15 0 rfl dX6_harvest_14 rfl ?_
        refine g_X6_16 h 18 (b := r + 12) (R_s0 hL) (R_p1 hL) dX6_harvest_15 rfl ?_
        refine V_iload_n h 19 1 rfl dX6_harvest_18 rfl ?_
        refine V_iald h 20 i (R_s12 hL) rfl (by omega) (by decide) dX6_harvest_19 rfl ?_
        refine V_top (y := nI (ρ i)) (hRa i hlt) ?_
        refine V_aald h 21 (b := r + 2 + (ρ i)) (ρ i) (Or.inr rfl) (R_s1 hL) rfl (hρ i hlt) (by decide) (R_pw hL (hρ i hlt)) dX6_harvest_20 rfl ?_
        refine V_astore_n h 22 [(2, .ref (r + 2 + (ρ i))), (0, .ref r), (1, .int (nI i))] (by decide) rfl dX6_harvest_21 rfl ?_
        refine V_aload_n h 23 1 rfl dX6_harvest_22 rfl ?_
        refine V_dup h 24 rfl dX6_harvest_23 rfl ?_
        refine g_X6_109 h 27 (R_s0 hL) dX6_harvest_24 rfl ?_
        refine V_top (y := V o 7 + t3 + rsum (fun p => palmReap (V (o + 6 + ρ p))) i) h16 ?_
        refine V_aload_n h 28 1 rfl dX6_harvest_27 rfl ?_
        refine V_aload_n h 29 0 rfl dX6_harvest_28 rfl ?_
        refine CVI h 32 (As := [.ref (r + 2 + (ρ i))]) (r_reaped (R_sw hL hρi) (g := V (o + 6 + ρ i)) hrw) rfl (R_s0 hL) qL_X6_112 qI_X6_reaped qS_X6_reaped qZ_X6 qC_X6_reaped hd_X6_reaped ⟨Nat.le_of_ble_eq_true rfl, Nat.le_of_ble_eq_true rfl⟩ (Nat.le_of_ble_eq_true rfl) rfl rfl dX6_harvest_29 (Nat.zero_le _) (Nat.zero_le _) (fun r8 D8 hq8 => ?_)
        rw [hq8.1, hq8.2]
        refine V_iadd h 33 dX6_harvest_32 rfl ?_
        refine p_X6_109 h 36 (R_s0 hL) dX6_harvest_33 rfl ?_
        obtain ⟨D9, eD9⟩ : ∃ zz, zz = upd2 Da r 16 ((V o 7 + t3 + rsum (fun p => palmReap (V (o + 6 + ρ p))) i) + (palmReap (V (o + 6 + ρ i)))) := ⟨_, rfl⟩
        rw [← eD9]
        refine V_aload_n h 37 0 rfl dX6_harvest_36 rfl ?_
        refine V_bipush h 39 (v := 6) (by decide) dX6_harvest_37 rfl ?_
        refine V_dup2 h 40 rfl rfl dX6_harvest_39 rfl ?_
        refine V_iald h 41 6 (R_sw hL (hρ i hlt)) (by decide) (by decide) (by decide) dX6_harvest_40 rfl ?_
        refine V_top (y := Da (r + 2 + (ρ i)) 6) (by rw [eD9, upd2_nk (by decide)]) ?_
        refine V_aload_n h 42 1 rfl dX6_harvest_41 rfl ?_
        refine V_aload_n h 43 0 rfl dX6_harvest_42 rfl ?_
        refine CVI h 46 (As := [.ref (r + 2 + (ρ i))]) (r_reaped (R_sw hL hρi) (g := V (o + 6 + ρ i)) (by rw [eD9, upd2_ra (by omega)]; exact hrw)) rfl (R_s0 hL) qL_X6_112 qI_X6_reaped qS_X6_reaped qZ_X6 qC_X6_reaped hd_X6_reaped ⟨Nat.le_of_ble_eq_true rfl, Nat.le_of_ble_eq_true rfl⟩ (Nat.le_of_ble_eq_true rfl) rfl rfl dX6_harvest_43 (Nat.zero_le _) (Nat.zero_le _) (fun r10 D10 hq10 => ?_)
        rw [hq10.1, hq10.2]
        refine V_iadd h 47 dX6_harvest_46 rfl ?_
        refine V_iast h 48 6 (R_sw hL (hρ i hlt)) (by decide) (by decide) (by decide) dX6_harvest_47 rfl ?_
        obtain ⟨D11, eD11⟩ : ∃ zz, zz = upd2 D9 (r + 2 + (ρ i)) 6 ((Da (r + 2 + (ρ i)) 6) + (palmReap (V (o + 6 + ρ i)))) := ⟨_, rfl⟩
        rw [← eD11]
        refine V_iinc h 51 [(1, .int ((nI i) + 1)), (2, .ref (r + 2 + (ρ i))), (0, .ref r)] 2 rfl (by rfl) (by decide) rfl dX6_harvest_48 rfl ?_
        refine V_goto h 2 dX6_harvest_51 (by decide) ?_
        refine V_lsub [(0, .ref r), (1, .int ((nI i) + 1))] [2, 0] rfl ?_
        refine ih (i + 1) _ D11 (by omega) (nI_1 i) (fun a ha => ?_) ?_ (fun j hj => ?_) (fun t ht j hj => ?_) (fun t ht => ?_) (by omega)
        · rw [eD11, eD9, upd2_ra (by omega), upd2_ra (by omega)]; exact hFa a ha
        · rw [eD11, eD9, upd2_na (by omega), upd2_eq, rsum, ← Int32.add_assoc]
        · rw [eD11, eD9, upd2_na (by omega), upd2_nk hj]; exact h0 j hj
        · rw [eD11, eD9, upd2_nk hj, upd2_na (by omega)]; exact hrow t ht j hj
        · by_cases e : t = ρ i
          · subst e; rw [eD11, eD9, upd2_eq, h6i, mapD, setRow_eq, mapD_other (fun q hq => by have := hinj q i hq hlt; omega)]; rfl
          · rw [eD11, eD9, upd2_na (by omega), upd2_na (by omega), mapD, setRow_ne (by omega)]; exact h6 t ht
  refine V_lsub [(0, .ref r), (1, .int 0)] [1, 0] rfl ?_
  exact LP2 _ 0 _ D (Nat.zero_le _) rfl (fun a _ => rfl) (by show D r 16 = _ + 0; rw [Int32.add_zero]; exact hS.2.2.2.2.2.2.2) (fun j _ => rfl) (fun t _ j _ => rfl) (fun t ht => hS.1 t ht 6 (by decide)) (Nat.lt_succ_self _)
