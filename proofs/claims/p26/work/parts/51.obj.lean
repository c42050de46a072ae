/-! an OasisBooks with four owners: its calls, none of which throws -/
theorem mXnI_mono {κ : mKp} {y : MethodName} {cc : ByteArray} {nL : Nat} {ret : Option FieldType} {fr lo ce sl : Nat} {As : List Value} {n : Nat} {sh : mSh} {P : mPt} {D : mDt} {E : mEt} {post post' : Int32 → mDt → Prop} {K : String → Prop} (h : mXnI κ y cc nL ret fr lo ce sl As n sh P D E post K) (hp : ∀ r D', post r D' → post' r D') (hK : ∀ X, ¬ K X) : mXnI κ y cc nL ret fr lo ce sl As n sh P D E post' (fun _ => False) := by
  obtain ⟨l, G, Y, base⟩ := κ
  intro p e ha hc hk s m args below hf happ hP hK0
  obtain ⟨n0, o, h1, h2, h3, h4⟩ := h p e ha hc hk s m args below hf happ hP hK0
  refine ⟨n0, o, h1, h2, h3, ?_⟩
  rcases h4 with ⟨⟨⟨v, n', sh', P', D', E', e1, ⟨e2, e3, e4, e5, r, e6, hq⟩, hR⟩, hF⟩, h6⟩ | ⟨q, h5, E9, ce, L, ⟨⟨n', sh', P', D', E', ⟨k1, k2⟩, hR⟩, hF⟩, rest⟩
  · exact Or.inl ⟨⟨⟨v, n', sh', P', D', E', e1, ⟨e2, e3, e4, e5, r, e6, hp r D' hq⟩, hR⟩, hF⟩, h6⟩
  · exact absurd k1 (hK _)
theorem mFnL_mono {κ : mKp} {y : MethodName} {cc : ByteArray} {nL : Nat} {ret : Option FieldType} {fr lo : Nat} {As : List Value} {n : Nat} {sh : mSh} {P : mPt} {D : mDt} {E : mEt} {post post' : Int64 → mDt → Prop} (h : mFnL κ y cc nL ret fr lo As n sh P D E post) (hp : ∀ r D', post r D' → post' r D') : mFnL κ y cc nL ret fr lo As n sh P D E post' := by
  obtain ⟨l, G, Y, base⟩ := κ
  intro p e ha hc hk s m args below hf happ hP hK0
  obtain ⟨n0, o, h1, h2, h3, h4⟩ := h p e ha hc hk s m args below hf happ hP hK0
  refine ⟨n0, o, h1, h2, h3, ?_⟩
  obtain ⟨⟨⟨v, n', sh', P', D', E', e1, ⟨e2, e3, e4, e5, r, e6, hq⟩, hR⟩, hF⟩, h6⟩ := h4
  exact ⟨⟨⟨v, n', sh', P', D', E', e1, ⟨e2, e3, e4, e5, r, e6, hp r D' hq⟩, hR⟩, hF⟩, h6⟩
def oI (t m dd c n : Nat) (sh : mSh) (P : mPt) (D : mDt) : Prop := t + 62 ≤ n ∧ bLay (t + 1) (t + 2) (t + 22) (t + 42) sh P ∧ gI (t + 2) 4 4 (rhoN 4) m 0 D dd c ∧ (∀ i, i < 10 → D (t + 22 + 6 + i) 0 = nI i) ∧ ∀ i, i < 10 → D (t + 42 + 6 + i) 0 = nI i
def askFr (t : Nat) (D D' : mDt) : Prop := (∀ a, (a < t + 22 ∨ t + 62 ≤ a) → D' a = D a) ∧ (∀ i, i < 10 → D' (t + 22 + 6 + i) 0 = nI i) ∧ ∀ i, i < 10 → D' (t + 42 + 6 + i) 0 = nI i
section OBJ
variable {t m dd c n : Nat} {sh : mSh} {P : mPt} {D D' : mDt} {E : mEt} {κ : mKp}
theorem oI_fr (h : oI t m dd c n sh P D) (hD : ∀ a, t + 2 ≤ a → a < t + 62 → D' a = D a) : oI t m dd c n sh P D' := by
  obtain ⟨h1, h2, h3, h4, h5⟩ := h
  exact ⟨h1, h2, gI_blk h3 (fun a a1 a2 => hD a a1 (by omega)), fun i hi => by rw [hD _ (by omega) (by omega)]; exact h4 i hi, fun i hi => by rw [hD _ (by omega) (by omega)]; exact h5 i hi⟩
theorem oI_ask (h : oI t m dd c n sh P D) (hD : askFr t D D') : oI t m dd c n sh P D' := by
  obtain ⟨h1, h2, h3, h4, h5⟩ := h
  exact ⟨h1, h2, gI_blk h3 (fun a a1 a2 => hD.1 a (by omega)), hD.2.1, hD.2.2⟩
/-- what a call that tells leaves alone -/
theorem oI_tell {m' dd' c' : Nat} (h : oI t m dd c n sh P D) (hG : gI (t + 2) 4 4 (rhoN 4) m' 0 D' dd' c') (hD : ∀ a, t + 22 ≤ a → a < t + 62 → D' a = D a) : oI t m' dd' c' n sh P D' := by
  obtain ⟨h1, h2, h3, h4, h5⟩ := h
  exact ⟨h1, h2, hG, fun i hi => by rw [hD _ (by omega) (by omega)]; exact h4 i hi, fun i hi => by rw [hD _ (by omega) (by omega)]; exact h5 i hi⟩
theorem rho4 {a : Nat} (ha : a < 4) : rhoN 4 a = a := rhoN_at 4 a ha
theorem liv4 {a : Nat} (ha : a < 4) : livP 4 (rhoN 4) (nI a) := ⟨a, ha, by rw [rho4 ha]⟩
theorem num4 {o a : Nat} (ha : a < 4) : numb o (nI a) = o + 6 + a := numb_nI (by omega)
theorem gI4 (h : gI (t + 2) 4 4 (rhoN 4) m 0 D dd c) : D (t + 2) 4 = nI dd := h.2.1.2.2.2.2.2.2
theorem nI_inj {a b : Nat} (h : nI a = nI b) (ha : a < 2 ^ 31) (hb : b < 2 ^ 31) : a = b := (nI_eq ha hb).mp h
theorem o_poll (hst : κ.1.stackTraces = false) (hO : oI t m dd c n sh P D) {a w : Nat} (ha : a < 4) (h1 : 1 ≤ w) (h2 : w ≤ 200) : mXnI κ yX5_pollinate cX5_pollinate 5 (Option.some Jvm.ClassFile.FieldType.int) 8 130 2 12 [.ref (t + 1), .int (nI a), .int (nI w)] n sh P D E (fun r D' => r = pollR (t + 2) a (nI w) D ∧ D' = pollM (t + 2) a (nI w) D) (fun _ => False) := by
  have hw : wP (nI w) 1 200 := wP_n (a := 1) (b := 200) h1 h2 (by decide)
  refine mXnI_mono (c_pollinate hst hO.2.1 hO.2.2.1.1 (nI a) (nI w)) ?_ ?_
  · rintro r D' ⟨-, -, hr, hD⟩
    rw [num4 ha] at hr hD
    exact ⟨hr, hD⟩
  · rintro X (⟨-, k⟩ | ⟨-, -, k⟩ | ⟨-, -, -, k⟩)
    · exact k (liv4 ha)
    · exact k hw
    · exact k trivial
theorem o_sell (hst : κ.1.stackTraces = false) (hO : oI t m dd c n sh P D) {a b w : Nat} (ha : a < 4) (hb : b < 4) (hab : a ≠ b) (h1 : 1 ≤ w) (h2 : w ≤ 5040) : mXnI κ yX5_sell cX5_sell 7 (Option.some Jvm.ClassFile.FieldType.int) 8 130 3 18 [.ref (t + 1), .int (nI a), .int (nI b), .int (nI w), .int 0] n sh P D E (fun r D' => r = sellR (t + 2) a b m (nI w) D ∧ D' = sellM (t + 2) a b m (nI w) D) (fun _ => False) := by
  have hw : wP (nI w) 1 5040 := wP_n (a := 1) (b := 5040) h1 h2 (by decide)
  have hc : wP (0 : Int32) 0 9999 := wP_n (d := 0) (a := 0) (b := 9999) (by omega) (by omega) (by decide)
  have hne : ¬ nI a = nI b := fun q => hab (nI_inj q (by omega) (by omega))
  refine mXnI_mono (c_sell hst hO.2.1 hO.2.2.1.1 (nI a) (nI b) (nI w) 0) ?_ ?_
  · rintro r D' ⟨-, -, hr, hD⟩
    rw [num4 ha, num4 hb] at hr hD
    exact ⟨hr, hD⟩
  · rintro X (⟨-, k⟩ | ⟨-, -, k⟩ | ⟨-, -, -, k⟩)
    · exact k ⟨liv4 ha, liv4 hb⟩
    · exact k ⟨hne, hw, hc⟩
    · exact k trivial
theorem o_lend (hst : κ.1.stackTraces = false) (hO : oI t m dd c n sh P D) {a b w : Nat} (ha : a < 4) (hb : b < 4) (hab : a ≠ b) (h1 : 1 ≤ w) (h2 : w ≤ 5040) (hm : m < 8) : mXnI κ yX5_lend cX5_lend 5 (Option.some Jvm.ClassFile.FieldType.int) 8 130 4 24 [.ref (t + 1), .int (nI a), .int (nI b), .int (nI w), .int 2] n sh P D E (fun r D' => (lendC (t + 2) a m (nI w) D ∧ r = nI (m + 1) ∧ D' = lendG (t + 2) a b m (nI w) 2 D) ∨ (¬ lendC (t + 2) a m (nI w) D ∧ r = -2 ∧ D' = D)) (fun _ => False) := by
  have hw : wP (nI w) 1 5040 := wP_n (a := 1) (b := 5040) h1 h2 (by decide)
  have hc : wP (2 : Int32) 1 20 := wP_n (d := 2) (a := 1) (b := 20) (by omega) (by omega) (by decide)
  have hne : ¬ nI a = nI b := fun q => hab (nI_inj q (by omega) (by omega))
  refine mXnI_mono (c_lend hst hO.2.1 hO.2.2.1.1 (nI a) (nI b) (nI w) 2) ?_ ?_
  · rintro r D' ⟨-, -, hr, hD⟩
    rw [num4 ha] at hr hD
    by_cases q : nI w ≤ D (t + 2 + 6 + a) 2 - amtF (D (t + 2 + 17)) 0 (nI a) m
    · rw [if_pos q] at hr hD
      exact Or.inl ⟨q, hr, hD⟩
    · rw [if_neg q] at hr hD
      exact Or.inr ⟨q, hr, hD⟩
  · rintro X (⟨-, k⟩ | ⟨-, -, k⟩ | ⟨-, -, -, k⟩)
    · exact k ⟨liv4 ha, liv4 hb⟩
    · exact k ⟨hne, hw, hc⟩
    · exact k hm
theorem o_pump (hst : κ.1.stackTraces = false) (hO : oI t m dd c n sh P D) {x : Int32} (hx : wP x 0 20) : mXnI κ yX5_pump cX5_pump 3 (Option.some Jvm.ClassFile.FieldType.int) 7 109 1 6 [.ref (t + 1), .int x] n sh P D E (fun r D' => r = D (t + 2 + 1) 3 ∧ D' = upd2 D (t + 2 + 1) 3 x) (fun _ => False) := by
  refine mXnI_mono (c_pump hst hO.2.1 hO.2.2.1.1 x) ?_ ?_
  · rintro r D' ⟨-, hr, hD⟩
    exact ⟨hr, hD⟩
  · rintro X (⟨-, k⟩ | ⟨-, -, k⟩ | ⟨-, -, -, k⟩)
    · exact k trivial
    · exact k hx
    · exact k trivial
theorem o_pass (hst : κ.1.stackTraces = false) (hO : oI t m dd c n sh P D) {d : Nat} (h1 : 1 ≤ d) (h2 : d ≤ 70) (hd : dd + d ≤ 2000) {x : Int32} (hx : wP x 0 99) : mXnI κ yX5_pass cX5_pass 3 (Option.some Jvm.ClassFile.FieldType.int) 7 147 2 12 [.ref (t + 1), .int x, .int (nI d)] n sh P D E (fun r D' => r = daysS (t + 2) (rhoN 4) 4 x (D, m, 0) d ∧ D' = (daysD (t + 2) (rhoN 4) 4 x (D, m, 0) d).1) (fun _ => False) := by
  have hw : wP (nI d) 1 70 := wP_n (a := 1) (b := 70) h1 h2 (by decide)
  refine mXnI_mono (c_pass hst hO.2.1 hO.2.2.1.1 x (nI d)) ?_ ?_
  · rintro r D' ⟨-, -, d', d1, d2, e, hr, hD⟩
    have := nI_inj e (by omega) (by omega)
    subst this
    exact ⟨hr, hD⟩
  · rintro X (⟨-, k⟩ | ⟨-, -, k⟩ | ⟨-, -, -, k⟩)
    · exact k trivial
    · exact k ⟨hx, hw⟩
    · exact k (by rw [gI4 hO.2.2.1, nI_add]; exact nI_le (b := 2000) hd (by decide))
theorem o_come (hst : κ.1.stackTraces = false) (hO : oI t m dd c n sh P D) {a d : Nat} (ha : a < 4) (h1 : 1 ≤ d) (h2 : d ≤ 70) {x : Int32} (hx : wP x 0 99) : mXnI κ yX5_wouldCome cX5_wouldCome 4 (Option.some Jvm.ClassFile.FieldType.int) 8 169 2 12 [.ref (t + 1), .int (nI a), .int x, .int (nI d)] n sh P D E (fun r D' => r = (daysD (t + 2) (rhoN 4) 4 x (D, m, 0) d).1 (t + 2 + 6 + a) 13 - D (t + 2 + 6 + a) 13 ∧ askFr t D D') (fun _ => False) := by
  have hw : wP (nI d) 1 70 := wP_n (a := 1) (b := 70) h1 h2 (by decide)
  have hW := hO.2.2.1.1.1
  refine mXnI_mono (c_wouldCome hst hO.2.1 hO.2.2.1.1 hO.2.2.2.1 hO.2.2.2.2 (nI a) x (nI d)) ?_ ?_
  · rintro r D' ⟨-, -, d', d1, d2, e, hw, hr⟩
    have := nI_inj e (by omega) (by omega)
    subst this
    have hout := fun a ha => would_out hw hW hO.2.2.2.1 (a := a) ha
    refine ⟨?_, fun b hb => hout b (by omega), would_cW hw hW hO.2.2.2.1, fun i hi => by rw [hout _ (by omega)]; exact hO.2.2.2.2 i hi⟩
    rw [hr, num4 ha, num4 ha, would_val hw hW hO.2.2.2.1 a (by omega) 13 (by decide) (by decide), hout _ (by omega)]
  · rintro X (⟨-, k⟩ | ⟨-, -, k⟩ | ⟨-, -, -, k⟩)
    · exact k (liv4 ha)
    · exact k ⟨hx, hw⟩
    · exact k trivial
theorem o_reap (hst : κ.1.stackTraces = false) (hO : oI t m dd c n sh P D) {a : Nat} (ha : a < 4) {x : Int32} (hx : wP x 0 99) : mXnI κ yX5_wouldReap cX5_wouldReap 3 (Option.some Jvm.ClassFile.FieldType.int) 8 168 2 12 [.ref (t + 1), .int (nI a), .int x] n sh P D E (fun r D' => r = (daysD (t + 2) (rhoN 4) 4 x (D, m, 0) (harvN dd)).1 (t + 2 + 6 + a) 14 ∧ askFr t D D') (fun _ => False) := by
  have hW := hO.2.2.1.1.1
  have hdd := hO.2.2.1.2.2.1
  refine mXnI_mono (c_wouldReap hst hO.2.1 hO.2.2.1.1 hO.2.2.2.1 hO.2.2.2.2 (gI4 hO.2.2.1) (by omega) (nI a) x) ?_ ?_
  · rintro r D' ⟨-, -, hw, hr⟩
    have hout := fun a ha => would_out hw hW hO.2.2.2.2 (a := a) ha
    refine ⟨?_, fun b hb => hout b (by omega), fun i hi => by rw [hout _ (by omega)]; exact hO.2.2.2.1 i hi, would_cW hw hW hO.2.2.2.2⟩
    rw [hr, num4 ha, would_val hw hW hO.2.2.2.2 a (by omega) 14 (by decide) (by decide)]
  · rintro X (⟨-, k⟩ | ⟨-, -, k⟩ | ⟨-, -, -, k⟩)
    · exact k (liv4 ha)
    · exact k hx
    · exact k trivial
theorem o_best (hst : κ.1.stackTraces = false) (hO : oI t m dd c n sh P D) {d : Nat} (h1 : 1 ≤ d) (h2 : d ≤ 35) {x : Int32} (hx : wP x 0 99) : mXnI κ yX5_bestDig cX5_bestDig 7 (Option.some Jvm.ClassFile.FieldType.int) 7 147 1 6 [.ref (t + 1), .int x, .int (nI d)] n sh P D E (fun r D' => r = (digB (fun i => daysS (t + 2) (rhoN 4) 4 x (upd2 D (t + 2 + 1) 1 (D (t + 2 + 1) 1 + nI i), m, 0) d) (D (t + 2 + 1) 1) 21).1 ∧ askFr t D D') (fun _ => False) := by
  have hw : wP (nI d) 1 35 := wP_n (a := 1) (b := 35) h1 h2 (by decide)
  refine mXnI_mono (c_bestDig hst hO.2.1 hO.2.2.1.1 hO.2.2.2.1 hO.2.2.2.2 x (nI d)) ?_ ?_
  · rintro r D' ⟨-, d', F, d1, d2, e, hF, hr, hout, hn⟩
    have := nI_inj e (by omega) (by omega)
    subst this
    refine ⟨?_, fun b hb => hout b (by omega), hn, fun i hi => by rw [hout _ (by omega)]; exact hO.2.2.2.2 i hi⟩
    rw [hr, best_val hO.2.2.1.1.1 hF]
  · rintro X (⟨-, k⟩ | ⟨-, -, k⟩ | ⟨-, -, -, k⟩)
    · exact k trivial
    · exact k ⟨hx, hw⟩
    · exact k trivial
theorem o_takes (hst : κ.1.stackTraces = false) (hO : oI t m dd c n sh P D) {d : Nat} (h1 : 1 ≤ d) (h2 : d ≤ 70) {x z : Int32} (hz : wP z 0 20) (hx : wP x 0 99) : mXnI κ yX5_pumpTakes cX5_pumpTakes 5 (Option.some Jvm.ClassFile.FieldType.int) 7 147 1 6 [.ref (t + 1), .int z, .int x, .int (nI d)] n sh P D E (fun r D' => r = daysS (t + 2) (rhoN 4) 4 x (D, m, 0) d - daysS (t + 2) (rhoN 4) 4 x (upd2 D (t + 2 + 1) 3 z, m, 0) d ∧ askFr t D D') (fun _ => False) := by
  have hw : wP (nI d) 1 70 := wP_n (a := 1) (b := 70) h1 h2 (by decide)
  refine mXnI_mono (c_pumpTakes hst hO.2.1 hO.2.2.1.1 hO.2.2.2.1 hO.2.2.2.2 z x (nI d)) ?_ ?_
  · rintro r D' ⟨-, d', V1, V2, d1, d2, e, l1, l2, hr, hout, hn⟩
    have := nI_inj e (by omega) (by omega)
    subst this
    refine ⟨?_, fun b hb => hout b (by omega), hn, fun i hi => by rw [hout _ (by omega)]; exact hO.2.2.2.2 i hi⟩
    rw [hr, takes_val hO.2.2.1.1.1 l1 l2]
  · rintro X (⟨-, k⟩ | ⟨-, -, k⟩ | ⟨-, -, -, k⟩)
    · exact k trivial
    · exact k ⟨hz, hx, hw⟩
    · exact k trivial
theorem o_dig (hst : κ.1.stackTraces = false) (hO : oI t m dd c n sh P D) {x : Int32} (hx : wP x 1 80) (hl : D (t + 2 + 1) 1 + x ≤ 90) (hpos : 0 < rsum (fun p => D (t + 2 + 6 + rhoN 4 p) 2) 4) : mXnI κ yX5_dig cX5_dig 3 (Option.some Jvm.ClassFile.FieldType.int) 7 109 2 12 [.ref (t + 1), .int x] n sh P D E (fun _ D' => D' = upd2 (payD (t + 2) (rhoN 4) 4 ((5 + D (t + 2 + 1) 1 / 10) * x) D) (t + 2 + 1) 1 (D (t + 2 + 1) 1 + x)) (fun _ => False) := by
  refine mXnI_mono (c_dig hst hO.2.1 hO.2.2.1.1 x) ?_ ?_
  · rintro r D' ⟨-, -, -, hD⟩
    exact hD
  · rintro X (⟨-, k⟩ | ⟨-, -, k⟩ | ⟨-, -, -, k⟩)
    · exact k trivial
    · exact k hx
    · exact k ⟨hl, hpos⟩
theorem o_digest (hO : oI t m dd c n sh P D) : mFnL κ yX5_digest cX5_digest 5 (Option.some Jvm.ClassFile.FieldType.long) 7 173 [.ref (t + 1)] n sh P D E (fun r D' => isDig (t + 2) 4 (rhoN 4) m 0 dd D r ∧ askFr t D D') := by
  have hdd := hO.2.2.1.2.2.1
  refine mFnL_mono (c_digest hO.2.1 hO.2.2.1.1 hO.2.2.2.1 hO.2.2.2.2 (gI4 hO.2.2.1) (by omega)) ?_
  rintro r D' ⟨B, F, W1, W2, b1, b2, b3, b4, b5, b6, hr, hout, n2, n3⟩
  exact ⟨⟨t + 22, t + 42, B, F, W1, W2, b1, b2, b3, b4, b5, b6, hr⟩, fun a ha => hout a (by omega), n2, n3⟩
end OBJ
