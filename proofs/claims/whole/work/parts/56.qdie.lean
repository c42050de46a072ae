set_option maxRecDepth 100000 in
set_option maxHeartbeats 4000000 in
theorem q_lower {κ : mKp} {n : Nat} {sh : mSh} {P : mPt} {D : mDt} {E : mEt} (x y : Int32) (hy : ¬ y = 0) : mFnI κ yX7_lower cX7_lower 2 (Option.some Jvm.ClassFile.FieldType.int) 0 0 [.int x, .int y] n sh P D E (fun ans D' => D' = D ∧ ans = lowI x y) := by
  refine mMet_of (by decide) (Nat.le_of_ble_eq_true rfl) ?_
  intro Γ Q hQ h hin
  have h : mOk Γ κ RX7 cX7_lower 2 (Option.some Jvm.ClassFile.FieldType.int) { frames := 0, cells := 0, slots := 0, locals := 0 } := h
  show mV Γ Q 0 0 n sh P D E [(0, .int x), (1, .int y)] [] 0
  refine V_iload_n h 1 0 rfl dX7_lower_0 rfl ?_
  refine V_if_lt h 10 4 dX7_lower_1 (by decide) rfl (fun c1 => ?_) (fun c1 => ?_)
  · skip
    refine V_iload_n h 11 1 rfl dX7_lower_10 rfl ?_
    refine V_iconst h 12 (v := 1) (by decide) dX7_lower_11 rfl ?_
    refine V_isub h 13 dX7_lower_12 rfl ?_
    refine V_iload_n h 14 0 rfl dX7_lower_13 rfl ?_
    refine V_isub h 15 dX7_lower_14 rfl ?_
    refine V_iload_n h 16 1 rfl dX7_lower_15 rfl ?_
    refine V_idiv h 17 hy dX7_lower_16 rfl ?_
    refine V_ineg h 18 dX7_lower_17 rfl ?_
    exact V_iret h rfl hQ (Nat.zero_le _) (Nat.zero_le _) ⟨rfl, rfl, rfl, rfl, _, rfl, ⟨rfl, by rw [lowI, if_pos c1]⟩⟩ dX7_lower_18
  · skip
    refine V_iload_n h 5 0 rfl dX7_lower_4 rfl ?_
    refine V_iload_n h 6 1 rfl dX7_lower_5 rfl ?_
    refine V_idiv h 7 hy dX7_lower_6 rfl ?_
    refine V_goto h 18 dX7_lower_7 (by decide) ?_
    exact V_iret h rfl hQ (Nat.zero_le _) (Nat.zero_le _) ⟨rfl, rfl, rfl, rfl, _, rfl, ⟨rfl, by rw [lowI, if_neg c1]⟩⟩ dX7_lower_18

theorem nIρ2 {L : Nat} {ρ : Nat → Nat} (hρ : ∀ p, p < L → ρ p < 10) (hinj : ∀ p q, p < q → q < L → ρ p ≠ ρ q) {p q : Nat} (hp : p < L) (hq : q < L) : nI (ρ p) = nI (ρ q) ↔ p = q := by
  have h1 := hρ p hp
  have h2 := hρ q hq
  rw [nI_eq (by omega) (by omega)]
  constructor
  · intro h
    rcases Nat.lt_trichotomy p q with z | z | z
    · exact absurd h (hinj p q z hq)
    · exact z
    · exact absurd h.symm (hinj q p z hp)
  · rintro rfl; rfl

set_option maxRecDepth 100000 in
set_option maxHeartbeats 4000000 in
theorem r_placeW {κ : mKp} {n : Nat} {sh : mSh} {P : mPt} {D : mDt} {E : mEt} {r : Nat} {lo : Nat → Nat} (hL : rLay r lo sh P) {L : Nat} {ρ : Nat → Nat} (h6 : D r 6 = nI L) (hrow : ∀ z, z < L → D (r + 12) z = nI (ρ z)) (hL10 : L ≤ 10) (hρ : ∀ z, z < L → ρ z < 10) (hinj : ∀ p q, p < q → q < L → ρ p ≠ ρ q) {p : Nat} (hp : p < L) : mFnI κ yX6_place cX6_place 3 (Option.some Jvm.ClassFile.FieldType.int) 0 0 [.ref r, .int (nI (ρ p))] n sh P D E (fun ans D' => D' = D ∧ ans = nI p) := by
  refine mMet_of (by decide) (Nat.le_of_ble_eq_true rfl) ?_
  intro Γ Q hQ h hin
  have h : mOk Γ κ RX6 cX6_place 3 (Option.some Jvm.ClassFile.FieldType.int) { frames := 0, cells := 0, slots := 0, locals := 0 } := h
  show mV Γ Q 0 0 n sh P D E [(0, .ref r), (1, .int (nI (ρ p)))] [] 0
  refine V_iconst h 1 (v := 0) (by decide) dX6_place_0 rfl ?_
  refine V_istore_n h 2 [(2, .int 0), (0, .ref r), (1, .int (nI (ρ p)))] (by decide) rfl dX6_place_1 rfl ?_
  have LP2 : ∀ (kk : Nat) (i : Nat) (x2 : Int32), (i ≤ p) → (x2 = nI i) → p + 1 - i < kk → mV Γ Q 0 0 n sh P D E [(0, .ref r), (1, .int (nI (ρ p))), (2, .int x2)] [] 2 := by
    intro kk
    induction kk with
    | zero =>
      intro i x2 _ _ hms
      exact absurd hms (Nat.not_lt_zero _)
    | succ kk ih =>
      intro i x2 hi e2 hms
      subst e2
      have hlt : i < L := by omega
      refine V_iload_n h 3 2 rfl dX6_place_2 rfl ?_
      refine V_aload_n h 4 0 rfl dX6_place_3 rfl ?_
      refine g_X6_52 h 7 (R_s0 hL) dX6_place_4 rfl ?_
      refine V_top (y := nI L) h6 ?_
      refine V_icmp_ge h 28 10 dX6_place_7 (by decide) rfl (fun c7 => absurd c7 (nI_ge hlt (by omega))) (fun c7 => ?_)
      refine V_aload_n h 11 0 rfl dX6_place_10 rfl ?_
      refine g_X6_16 h 14 (b := r + 12) (R_s0 hL) (R_p1 hL) dX6_place_11 rfl ?_
      refine V_iload_n h 15 2 rfl dX6_place_14 rfl ?_
      refine V_iald h 16 i (R_s12 hL) rfl (by omega) (by decide) dX6_place_15 rfl ?_
      refine V_top (y := nI (ρ i)) (hrow i hlt) ?_
      refine V_iload_n h 17 1 rfl dX6_place_16 rfl ?_
      refine V_icmp_ne h 22 20 dX6_place_17 (by decide) rfl (fun c17 => ?_) (fun c17 => ?_)
      · skip
        refine V_iinc h 25 [(2, .int ((nI i) + 1)), (0, .ref r), (1, .int (nI (ρ p)))] 2 rfl (by rfl) (by decide) rfl dX6_place_22 rfl ?_
        refine V_goto h 2 dX6_place_25 (by decide) ?_
        refine V_lsub [(0, .ref r), (1, .int (nI (ρ p))), (2, .int ((nI i) + 1))] [1, 2, 0] rfl ?_
        exact ih (i + 1) _ (by have : i ≠ p := fun z => c17 ((nIρ2 hρ hinj hlt hp).mpr z); omega) (nI_1 i) (by omega)
      · skip
        refine V_iload_n h 21 2 rfl dX6_place_20 rfl ?_
        exact V_iret h rfl hQ (Nat.zero_le _) (Nat.zero_le _) ⟨rfl, rfl, rfl, rfl, _, rfl, ⟨rfl, by rw [(nIρ2 hρ hinj hlt hp).mp c17]⟩⟩ dX6_place_21
  refine V_lsub [(0, .ref r), (1, .int (nI (ρ p))), (2, .int 0)] [1, 2, 0] rfl ?_
  exact LP2 _ 0 _ (Nat.zero_le _) rfl (Nat.lt_succ_self _)

/-- what a death leaves of the reference's rows -/
def dieR (o p hc e s d L : Nat) (ρ : Nat → Nat) (m k : Nat) (V : mDt) (r : Nat) (lo lo' : Nat → Nat) (m' : Nat) (D D' : mDt) : Prop := D' r 5 = nI (e + hc) ∧ D' r 6 = nI (L + hc - 1) ∧ D' r 7 = nI m' ∧ (∀ j, j ≠ 5 → j ≠ 6 → j ≠ 7 → D' r j = D r j) ∧ (∀ z, z < L + hc - 1 → D' (r + 12) z = nI (heirRow ρ p hc e z)) ∧ (∀ i, i < hc → rwq (D' (r + 2 + (e + i))) (inhX (upd (V (o + 6 + ρ p)) 1 0) (nI s) (nI d) (nI i) (upd (V (o + 6 + (e + i))) 1 1))) ∧ rwq (D' (r + 2 + ρ p)) (upd (V (o + 6 + ρ p)) 1 0) ∧ (∀ t, t < 10 → t ≠ ρ p → (t < e ∨ e + hc ≤ t) → D' (r + 2 + t) = D (r + 2 + t)) ∧ (∃ idx : Nat → Nat, m' ≤ m ∧ (∀ q, q < m' → lo' q = lo (idx q) ∧ idx q < m) ∧ (List.range m').map (fun q => drow (V (o + 17)) (idx q)) = (dls (V (o + 17)) m).filterMap (endR (nI (ρ p)))) ∧ (∀ a, r + 14 ≤ a → a < r + 23 → D' a = D a) ∧ (∀ q, q < k → D' (r + 23 + q) 0 = (passR (nI (ρ p)) (nI e) (drow (V (o + 19)) q)).1 ∧ D' (r + 23 + q) 1 = (passR (nI (ρ p)) (nI e) (drow (V (o + 19)) q)).2.1 ∧ D' (r + 23 + q) 2 = V (o + 19) (q * 4 + 2))
theorem dls_at {f : Nat → Int32} {k : Nat} {g : Nat → dRow} (h : dls f k = (List.range k).map g) {q : Nat} (hq : q < k) : drow f q = g q := by
  have h1 := congrArg (fun l => l[q]?) h
  simp only [dls, List.getElem?_map, List.getElem?_range hq, Option.map_some] at h1
  exact Option.some.inj h1
theorem drow_j {f g : Nat → Int32} {a b : Nat} (h : drow f a = drow g b) {j : Nat} (hj : j < 4) : f (a * 4 + j) = g (b * 4 + j) := by
  have h0 := congrArg (fun z => z.1) h
  have h1 := congrArg (fun z => z.2.1) h
  have h2 := congrArg (fun z => z.2.2.1) h
  have h3 := congrArg (fun z => z.2.2.2) h
  obtain rfl | rfl | rfl | rfl : j = 0 ∨ j = 1 ∨ j = 2 ∨ j = 3 := by omega
  · exact h0
  · exact h1
  · exact h2
  · exact h3
theorem rSim_die {o p hc e s d L : Nat} {ρ : Nat → Nat} {m k : Nat} {V V' : mDt} {r : Nat} {lo lo' : Nat → Nat} {t1 t2 t3 : Int32} {m' : Nat} {D D' : mDt} (h : rSim o L e ρ m k V r lo t1 t2 t3 D) (hm : m ≤ 8) (hk : k ≤ 8) (hlo : ∀ i, i < 8 → lo i < 8) (hpe : ρ p < e) (heh : e + hc ≤ 10) (hD : dieR o p hc e s d L ρ m k V r lo lo' m' D D') (hV : dieOk o p hc e (nI s) (nI d) L ρ m k V V') : V' (o + 16) 1 = nI m' ∧ m' ≤ m ∧ rSim o (L + hc - 1) (e + hc) (heirRow ρ p hc e) m' k V' r lo' t1 t2 t3 D' := by
  obtain ⟨d5, d6, d7, d0, d12, dh, dd, dr, ⟨idx, hmm, hidx, hlist⟩, d17, ds⟩ := hD
  obtain ⟨v1, v2, v3, v4, v5, v6, ⟨k2, hk2, v7, v8⟩, v9, v10, v11⟩ := hV
  have hk : k2 = m' := by
    have := congrArg List.length (v8.trans hlist.symm)
    simpa [dls] using this
  subst hk
  rw [← hlist] at v8
  obtain ⟨h1, h2, h3, h4, ⟨g1, g2, g3, g4, g5, g6, g7, g8, g9⟩, h6⟩ := h
  have ho : V' o = V o := v11 o (by omega)
  have ho1 : V' (o + 1) = V (o + 1) := v11 (o + 1) (by omega)
  refine ⟨v7, hmm, fun i hi => ?_, d12, fun i hi j hj => ?_, fun i hi j hj => ?_, ⟨d5, d6, d7, ?_, ?_, ?_, ?_, ?_, ?_⟩, ?_⟩
  · by_cases q1 : i = ρ p
    · subst q1; rw [v5]; exact dd
    · by_cases q2 : i < e ∨ e + hc ≤ i
      · rw [v6 i hi q1 q2, dr i hi q1 q2]; exact h1 i hi
      · obtain ⟨z, rfl⟩ : ∃ z, i = e + z := ⟨i - e, by omega⟩
        rw [v4 z (by omega)]; exact dh z (by omega)
  · obtain ⟨e1, e2⟩ := hidx i hi
    have hl := hlo (idx i) (by omega)
    rw [d17 _ (by omega) (by omega), e1, h3 (idx i) e2 j hj]
    exact (drow_j (dls_at v8 hi) hj).symm
  · obtain ⟨s0, s1, s2⟩ := ds i hi
    have e1 := dls_at (g := fun q => passR (nI (ρ p)) (nI e) (drow (V (o + 19)) q)) (by rw [v10]; simp [dls]) hi
    have e10 := congrArg (fun z => z.1) e1
    have e11 := congrArg (fun z => z.2.1) e1
    have e12 := congrArg (fun z => z.2.2.1) e1
    obtain rfl | rfl | rfl : j = 0 ∨ j = 1 ∨ j = 2 := by omega
    · rw [s0]; exact e10.symm
    · rw [s1]; exact e11.symm
    · rw [s2]; exact e12.symm
  · rw [d0 _ (by decide) (by decide) (by decide)]; exact g4
  · rw [d0 _ (by decide) (by decide) (by decide), ho]; exact g5
  · rw [d0 _ (by decide) (by decide) (by decide), ho1]; exact g6
  · rw [d0 _ (by decide) (by decide) (by decide), ho1]; exact g7
  · rw [d0 _ (by decide) (by decide) (by decide), ho1]; exact g8
  · rw [d0 _ (by decide) (by decide) (by decide), ho1]; exact g9
  · unfold rTot; rw [d0 _ (by decide) (by decide) (by decide), d0 _ (by decide) (by decide) (by decide), d0 _ (by decide) (by decide) (by decide), ho]; exact h6
theorem inh_row {x : Nat → Int32} {g w : Nat → Int32} {s d i : Int32} (h : ∀ j, j < 7 → j ≠ 4 → j ≠ 5 → x j = partF (g (clm j)) s d i) (h4 : x 4 = g 6) (h5 : x 5 = g 7) (h11 : x 11 = 1) (ho : ∀ j, 7 ≤ j → j < 11 → x j = w (clm j)) : rwq x (inhX (upd g 1 0) s d i (upd w 1 1)) := by
  intro j hj
  obtain rfl | rfl | rfl | rfl | rfl | rfl | rfl | rfl | rfl | rfl | rfl | rfl : j = 0 ∨ j = 1 ∨ j = 2 ∨ j = 3 ∨ j = 4 ∨ j = 5 ∨ j = 6 ∨ j = 7 ∨ j = 8 ∨ j = 9 ∨ j = 10 ∨ j = 11 := by omega
  · exact h 0 (by decide) (by decide) (by decide)
  · exact h 1 (by decide) (by decide) (by decide)
  · exact h 2 (by decide) (by decide) (by decide)
  · exact h 3 (by decide) (by decide) (by decide)
  · exact h4
  · exact h5
  · exact h 6 (by decide) (by decide) (by decide)
  · exact ho 7 (by decide) (by decide)
  · exact ho 8 (by decide) (by decide)
  · exact ho 9 (by decide) (by decide)
  · exact ho 10 (by decide) (by decide)
  · exact h11
theorem endS {f : Nat → Int32} {x : Int32} {i kept : Nat} {idx : Nat → Nat} (h : (List.range kept).map (fun q => drow f (idx q)) = (dls f i).filterMap (endR x)) : (f (i * 4 + 0) = x → (List.range kept).map (fun q => drow f (idx q)) = (dls f (i + 1)).filterMap (endR x)) ∧ (f (i * 4 + 1) = x → (List.range kept).map (fun q => drow f (idx q)) = (dls f (i + 1)).filterMap (endR x)) ∧ (¬ f (i * 4 + 0) = x → ¬ f (i * 4 + 1) = x → (List.range (kept + 1)).map (fun q => drow f (if q = kept then i else idx q)) = (dls f (i + 1)).filterMap (endR x)) := by
  have hs : (dls f (i + 1)).filterMap (endR x) = (dls f i).filterMap (endR x) ++ (endR x (drow f i)).toList := by
    rw [dls_succ, List.filterMap_append]
    congr 1
  rw [hs, ← h]
  have e0 : (drow f i).1 = f (i * 4 + 0) := rfl
  have e1 : (drow f i).2.1 = f (i * 4 + 1) := rfl
  refine ⟨fun q => ?_, fun q => ?_, fun q0 q1 => ?_⟩
  · rw [endR, e0, if_pos q]; simp
  · rw [endR, e0, e1]
    by_cases q0 : f (i * 4 + 0) = x
    · rw [if_pos q0]; simp
    · rw [if_neg q0, if_pos q]; simp
  · rw [endR, e0, e1, if_neg q0, if_neg q1, List.range_succ, List.map_append]
    congr 1
    · apply List.map_congr_left
      intro z hz
      have := List.mem_range.mp hz
      rw [if_neg (by omega)]
    · simp

set_option maxRecDepth 100000 in
set_option maxHeartbeats 4000000 in
theorem q_die {κ : mKp} {n : Nat} {sh : mSh} {P : mPt} {D : mDt} {E : mEt} {q r : Nat} {lo : Nat → Nat} (hmS : sh q = some (.inl 7)) (hmP : P q 1 = some r) (hqr : q < r) (hL : rLay r lo sh P) {o L e m k : Nat} {ρ : Nat → Nat} {V : mDt} {t1 t2 t3 : Int32} (hS : rSim o L e ρ m k V r lo t1 t2 t3 D) (hI : cI o L e ρ m k V) (hbd : ∀ i, i < 10 → ∀ j, j < 7 → j ≠ 4 → j ≠ 5 → -536870912 ≤ (V (o + 6 + i) (clm j)).toInt ∧ (V (o + 6 + i) (clm j)).toInt ≤ 536870912) (x y z : Int32) : mMet κ yX7_die cX7_die 12 (Option.some Jvm.ClassFile.FieldType.int) { frames := 2, cells := 0, slots := 0, locals := 48 } [.ref q, .int x, .int y, .int z] n sh P D E (qP n sh P D E q r (fun ans lo' D' => rOut 2 3 (livP L ρ x) (wP y 0 4 ∧ wP z 0 4 ∧ wP (y + z) 1 4) (∃ hc, y + z = nI hc ∧ hc ≤ 4 ∧ e + hc ≤ 10) (D' q 0) (∃ p s d hc, p < L ∧ x = nI (ρ p) ∧ y = nI s ∧ z = nI d ∧ s + d = hc ∧ 1 ≤ hc ∧ hc ≤ 4 ∧ e + hc ≤ 10 ∧ ans = nI e ∧ ∃ m', ∀ V', dieOk o p hc e y z L ρ m k V V' → V' (o + 16) 1 = nI m' ∧ m' ≤ m ∧ rSim o (L + hc - 1) (e + hc) (heirRow ρ p hc e) m' k V' r lo' t1 t2 t3 D') (rSim o L e ρ m k V r lo' t1 t2 t3 D'))) := by
  refine mMet_of (by decide) (Nat.le_of_ble_eq_true rfl) ?_
  intro Γ Q hQ h hin
  have h : mOk Γ κ RX7 cX7_die 12 (Option.some Jvm.ClassFile.FieldType.int) { frames := 2, cells := 0, slots := 0, locals := 48 } := h
  have hW := hI.1
  have hinj := hI.2.2.2.2.1
  have hρ : ∀ p, p < L → ρ p < 10 := fun p hp => (hW.1.2.2 p hp).1
  have hL10 := hW.1.2.1
  have hm8 := hW.2.2.2.1.1
  have hk8 := hW.2.2.2.2.2.1
  show mV Γ Q 0 0 n sh P D E [(0, .ref q), (1, .int x), (2, .int y), (3, .int z)] [] 0
  refine V_aload_n h 1 0 rfl dX7_die_0 rfl ?_
  refine V_iconst h 2 (v := 0) (by decide) dX7_die_1 rfl ?_
  refine p_X7_16 h 5 hmS dX7_die_2 rfl ?_
  obtain ⟨D1, eD1⟩ : ∃ zz, zz = upd2 D q 0 0 := ⟨_, rfl⟩
  rw [← eD1]
  have hS1 := rSim_q (D' := D1) hS hm8 hk8 hL.2.2.2.1 hqr (fun a ha => by rw [eD1, upd2_ra ha])
  refine V_aload_n h 6 0 rfl dX7_die_5 rfl ?_
  refine V_iload_n h 7 1 rfl dX7_die_6 rfl ?_
  refine CVI h 10 (As := [.int x]) (q_lives hmS hmP hqr hL hS1 hI x) rfl hmS qL_X7_56 qI_X7_lives qS_X7_lives qZ_X7 qC_X7_lives hd_X7_lives ⟨Nat.le_of_ble_eq_true rfl, Nat.le_of_ble_eq_true rfl⟩ (Nat.le_of_ble_eq_true rfl) rfl rfl dX7_die_7 (Nat.le_of_ble_eq_true rfl) (Nat.le_of_ble_eq_true rfl) (fun r2 D2 hq2 => ?_)
  rw [hq2.1]
  have hv_x := hq2.2
  refine V_if_ne h 19 13 dX7_die_10 (by decide) rfl (fun c10 => ?_) (fun c10 => ?_)
  · skip
    have hl_x := lv_y hv_x c10
    refine V_iload_n h 20 2 rfl dX7_die_19 rfl ?_
    refine V_if_lt h 48 23 dX7_die_20 (by decide) rfl (fun c20 => ?_) (fun c20 => ?_)
    · skip
      refine V_aload_n h 49 0 rfl dX7_die_48 rfl ?_
      refine V_iconst h 50 (v := 2) (by decide) dX7_die_49 rfl ?_
      refine CVI h 53 (As := [.int 2]) (q_no hmS 2) rfl hmS qL_X7_31 qI_X7_no qS_X7_no qZ_X7 qC_X7_no hd_X7_no ⟨Nat.le_of_ble_eq_true rfl, Nat.le_of_ble_eq_true rfl⟩ (Nat.le_of_ble_eq_true rfl) rfl rfl dX7_die_50 (Nat.le_of_ble_eq_true rfl) (Nat.le_of_ble_eq_true rfl) (fun r3 D3 hq3 => ?_)
      obtain ⟨eD3, erD3⟩ := hq3
      rw [erD3]
      exact V_iret h rfl hQ (Nat.le_of_ble_eq_true rfl) (Nat.le_of_ble_eq_true rfl) ⟨Nat.le_refl _, rfl, fun _ _ => rfl, fun _ _ _ => rfl, _, rfl, lo, hL, fun a _ ha => by rw [eD3, eD1, upd2_ra (by omega), upd2_ra (by omega)], rO2 hl_x (fun q9 => absurd q9.1.1 (Int32.not_le.mpr c20)) (by rw [eD3, upd2_eq]) (rSim_q hS hm8 hk8 hL.2.2.2.1 hqr (fun a ha => by rw [eD3, eD1, upd2_ra ha, upd2_ra ha]))⟩ dX7_die_53
    · skip
      refine V_iload_n h 24 3 rfl dX7_die_23 rfl ?_
      refine V_if_lt h 48 27 dX7_die_24 (by decide) rfl (fun c24 => ?_) (fun c24 => ?_)
      · skip
        refine V_aload_n h 49 0 rfl dX7_die_48 rfl ?_
        refine V_iconst h 50 (v := 2) (by decide) dX7_die_49 rfl ?_
        refine CVI h 53 (As := [.int 2]) (q_no hmS 2) rfl hmS qL_X7_31 qI_X7_no qS_X7_no qZ_X7 qC_X7_no hd_X7_no ⟨Nat.le_of_ble_eq_true rfl, Nat.le_of_ble_eq_true rfl⟩ (Nat.le_of_ble_eq_true rfl) rfl rfl dX7_die_50 (Nat.le_of_ble_eq_true rfl) (Nat.le_of_ble_eq_true rfl) (fun r4 D4 hq4 => ?_)
        obtain ⟨eD4, erD4⟩ := hq4
        rw [erD4]
        exact V_iret h rfl hQ (Nat.le_of_ble_eq_true rfl) (Nat.le_of_ble_eq_true rfl) ⟨Nat.le_refl _, rfl, fun _ _ => rfl, fun _ _ _ => rfl, _, rfl, lo, hL, fun a _ ha => by rw [eD4, eD1, upd2_ra (by omega), upd2_ra (by omega)], rO2 hl_x (fun q9 => absurd q9.2.1.1 (Int32.not_le.mpr c24)) (by rw [eD4, upd2_eq]) (rSim_q hS hm8 hk8 hL.2.2.2.1 hqr (fun a ha => by rw [eD4, eD1, upd2_ra ha, upd2_ra ha]))⟩ dX7_die_53
      · skip
        refine V_iload_n h 28 2 rfl dX7_die_27 rfl ?_
        refine V_iconst h 29 (v := 4) (by decide) dX7_die_28 rfl ?_
        refine V_icmp_gt h 48 32 dX7_die_29 (by decide) rfl (fun c29 => ?_) (fun c29 => ?_)
        · skip
          refine V_aload_n h 49 0 rfl dX7_die_48 rfl ?_
          refine V_iconst h 50 (v := 2) (by decide) dX7_die_49 rfl ?_
          refine CVI h 53 (As := [.int 2]) (q_no hmS 2) rfl hmS qL_X7_31 qI_X7_no qS_X7_no qZ_X7 qC_X7_no hd_X7_no ⟨Nat.le_of_ble_eq_true rfl, Nat.le_of_ble_eq_true rfl⟩ (Nat.le_of_ble_eq_true rfl) rfl rfl dX7_die_50 (Nat.le_of_ble_eq_true rfl) (Nat.le_of_ble_eq_true rfl) (fun r5 D5 hq5 => ?_)
          obtain ⟨eD5, erD5⟩ := hq5
          rw [erD5]
          exact V_iret h rfl hQ (Nat.le_of_ble_eq_true rfl) (Nat.le_of_ble_eq_true rfl) ⟨Nat.le_refl _, rfl, fun _ _ => rfl, fun _ _ _ => rfl, _, rfl, lo, hL, fun a _ ha => by rw [eD5, eD1, upd2_ra (by omega), upd2_ra (by omega)], rO2 hl_x (fun q9 => absurd q9.1.2 (Int32.not_le.mpr c29)) (by rw [eD5, upd2_eq]) (rSim_q hS hm8 hk8 hL.2.2.2.1 hqr (fun a ha => by rw [eD5, eD1, upd2_ra ha, upd2_ra ha]))⟩ dX7_die_53
        · skip
          refine V_iload_n h 33 3 rfl dX7_die_32 rfl ?_
          refine V_iconst h 34 (v := 4) (by decide) dX7_die_33 rfl ?_
          refine V_icmp_gt h 48 37 dX7_die_34 (by decide) rfl (fun c34 => ?_) (fun c34 => ?_)
          · skip
            refine V_aload_n h 49 0 rfl dX7_die_48 rfl ?_
            refine V_iconst h 50 (v := 2) (by decide) dX7_die_49 rfl ?_
            refine CVI h 53 (As := [.int 2]) (q_no hmS 2) rfl hmS qL_X7_31 qI_X7_no qS_X7_no qZ_X7 qC_X7_no hd_X7_no ⟨Nat.le_of_ble_eq_true rfl, Nat.le_of_ble_eq_true rfl⟩ (Nat.le_of_ble_eq_true rfl) rfl rfl dX7_die_50 (Nat.le_of_ble_eq_true rfl) (Nat.le_of_ble_eq_true rfl) (fun r6 D6 hq6 => ?_)
            obtain ⟨eD6, erD6⟩ := hq6
            rw [erD6]
            exact V_iret h rfl hQ (Nat.le_of_ble_eq_true rfl) (Nat.le_of_ble_eq_true rfl) ⟨Nat.le_refl _, rfl, fun _ _ => rfl, fun _ _ _ => rfl, _, rfl, lo, hL, fun a _ ha => by rw [eD6, eD1, upd2_ra (by omega), upd2_ra (by omega)], rO2 hl_x (fun q9 => absurd q9.2.1.2 (Int32.not_le.mpr c34)) (by rw [eD6, upd2_eq]) (rSim_q hS hm8 hk8 hL.2.2.2.1 hqr (fun a ha => by rw [eD6, eD1, upd2_ra ha, upd2_ra ha]))⟩ dX7_die_53
          · skip
            refine V_iload_n h 38 2 rfl dX7_die_37 rfl ?_
            refine V_iload_n h 39 3 rfl dX7_die_38 rfl ?_
            refine V_iadd h 40 dX7_die_39 rfl ?_
            refine V_iconst h 41 (v := 1) (by decide) dX7_die_40 rfl ?_
            refine V_iconst h 42 (v := 4) (by decide) dX7_die_41 rfl ?_
            refine CSI h 45 (As := [.int (y + z), .int 1, .int 4]) (q_in (y + z) 1 4) qL_X7_23 qT_X7_in qZ_X7 qC_X7_in hd_X7_in ⟨Nat.le_of_ble_eq_true rfl, Nat.le_of_ble_eq_true rfl⟩ (Nat.le_of_ble_eq_true rfl) rfl rfl dX7_die_42 (Nat.le_of_ble_eq_true rfl) (Nat.le_of_ble_eq_true rfl) (fun r7 D7 hq7 => ?_)
            rw [hq7.1, hq7.2]
            refine V_if_ne h 54 48 dX7_die_45 (by decide) rfl (fun c45 => ?_) (fun c45 => ?_)
            · skip
              have hl_x2 := hl_x
              obtain ⟨p, hp, ex⟩ := hl_x2
              have hp10 := hρ p hp
              have hpe := hI.2.2.2.2.2.1 p hp
              have he10 := hI.2.2.2.1
              have hLe := hI.2.2.1
              have G2 : wP y 0 4 ∧ wP z 0 4 ∧ wP (y + z) 1 4 := ⟨⟨Int32.not_lt.mp c20, Int32.not_lt.mp c29⟩, ⟨Int32.not_lt.mp c24, Int32.not_lt.mp c34⟩, wI_1 c45⟩
              have G2a := G2.1
              have G2b := G2.2.1
              have G2c := G2.2.2
              obtain ⟨s, -, hs4, ey⟩ := wP_N (a := 0) (b := 4) G2a (by decide) (by decide)
              obtain ⟨d, -, hd4, ez⟩ := wP_N (a := 0) (b := 4) G2b (by decide) (by decide)
              subst ex
              subst ey
              subst ez
              rw [nI_add] at G2c
              obtain ⟨hc, hc1, hc4, ehc⟩ := wP_N (a := 1) (b := 4) G2c (by decide) (by decide)
              have ehc2 : s + d = hc := (nI_eq (by omega) (by omega)).mp ehc
              refine V_iload_n h 55 2 rfl dX7_die_54 rfl ?_
              refine V_iload_n h 56 3 rfl dX7_die_55 rfl ?_
              refine V_iadd h 57 dX7_die_56 rfl ?_
              refine V_top (y := nI hc) (by rw [nI_add, ehc2]) ?_
              refine V_istore h 59 [(4, .int (nI hc)), (0, .ref q), (1, .int (nI (ρ p))), (2, .int (nI s)), (3, .int (nI d))] (by decide) rfl dX7_die_57 rfl ?_
              refine V_aload_n h 60 1 rfl dX7_die_59 rfl ?_
              refine g_X7_10 h 63 (b := r) hmS hmP dX7_die_60 rfl ?_
              refine g_X7_20 h 66 (R_s0 hL) dX7_die_63 rfl ?_
              refine V_top (y := nI e) (by rw [eD1, upd2_nk (by decide)]; exact hS.2.2.2.2.1.1) ?_
              refine V_iload h 68 0 rfl dX7_die_66 rfl ?_
              refine V_iadd h 69 dX7_die_68 rfl ?_
              refine V_bipush h 71 (v := 10) (by decide) dX7_die_69 rfl ?_
              refine V_icmp_le h 80 74 dX7_die_71 (by decide) rfl (fun c71 => ?_) (fun c71 => ?_)
              · skip
                have he10h : e + hc ≤ 10 := (nI_leI (b := 10) (by omega) (by decide)).mp (by rw [nI_add] at c71; exact c71)
                have hc1x := hc1
                refine V_iconst h 81 (v := 2) (by decide) dX7_die_80 rfl ?_
                refine V_iload_n h 82 3 rfl dX7_die_81 rfl ?_
                refine V_imul h 83 dX7_die_82 rfl ?_
                refine V_iload_n h 84 4 rfl dX7_die_83 rfl ?_
                refine V_iadd h 85 dX7_die_84 rfl ?_
                refine V_top (y := nI (2 * s + d)) (by rw [show (2 : Int32) = nI 2 from rfl, nI_mul, nI_add]) ?_
                refine V_istore h 87 [(5, .int (nI (2 * s + d))), (4, .int (nI hc)), (0, .ref q), (1, .int (nI (ρ p))), (2, .int (nI s)), (3, .int (nI d))] (by decide) rfl dX7_die_85 rfl ?_
                refine V_aload_n h 88 2 rfl dX7_die_87 rfl ?_
                refine V_iload_n h 89 3 rfl dX7_die_88 rfl ?_
                refine CVR h 92 (As := [.int (nI (ρ p))]) (q_at hmS hmP hL (t := (ρ p)) hp10) rfl hmS qL_X7_39 qI_X7_at qS_X7_at qZ_X7 qC_X7_at hd_X7_at ⟨Nat.le_of_ble_eq_true rfl, Nat.le_of_ble_eq_true rfl⟩ (Nat.le_of_ble_eq_true rfl) rfl rfl dX7_die_89 (Nat.le_of_ble_eq_true rfl) (Nat.le_of_ble_eq_true rfl) (fun r8 D8 hq8 => ?_)
                rw [hq8.1, hq8.2]
                refine V_astore h 94 [(6, .ref (r + 2 + (ρ p))), (5, .int (nI (2 * s + d))), (4, .int (nI hc)), (0, .ref q), (1, .int (nI (ρ p))), (2, .int (nI s)), (3, .int (nI d))] (by decide) rfl dX7_die_92 rfl ?_
                refine V_aload_n h 95 3 rfl dX7_die_94 rfl ?_
                refine g_X7_10 h 98 (b := r) hmS hmP dX7_die_95 rfl ?_
                refine g_X7_20 h 101 (R_s0 hL) dX7_die_98 rfl ?_
                refine V_top (y := nI e) (by rw [eD1, upd2_nk (by decide)]; exact hS.2.2.2.2.1.1) ?_
                refine V_istore h 103 [(7, .int (nI e)), (6, .ref (r + 2 + (ρ p))), (5, .int (nI (2 * s + d))), (4, .int (nI hc)), (0, .ref q), (1, .int (nI (ρ p))), (2, .int (nI s)), (3, .int (nI d))] (by decide) rfl dX7_die_101 rfl ?_
                have dead1 : ∀ X : mDt, (∀ a, (∀ z, z < hc → a ≠ r + 2 + (e + z)) → X a = D1 a) → X (r + 2 + ρ p) = D1 (r + 2 + ρ p) := fun X hX => hX _ (fun z hz => by omega)
                refine V_iconst h 104 (v := 0) (by decide) dX7_die_103 rfl ?_
                refine V_istore h 106 [(8, .int 0), (7, .int (nI e)), (6, .ref (r + 2 + (ρ p))), (5, .int (nI (2 * s + d))), (4, .int (nI hc)), (0, .ref q), (1, .int (nI (ρ p))), (2, .int (nI s)), (3, .int (nI d))] (by decide) rfl dX7_die_104 rfl ?_
                have LP106 : ∀ (kk : Nat) (w : Nat) (x8 : Int32) (Dk : mDt), (w ≤ 7) → (x8 = nI w) → (∀ a, (∀ z, z < hc → a ≠ r + 2 + (e + z)) → Dk a = D1 a) → (∀ i, i < hc → ∀ j, j < w → j ≠ 4 → j ≠ 5 → Dk (r + 2 + (e + i)) j = partF (V (o + 6 + ρ p) (clm j)) (nI s) (nI d) (nI i)) → (∀ i, i < hc → ∀ j, (w ≤ j ∨ j = 4 ∨ j = 5) → Dk (r + 2 + (e + i)) j = D1 (r + 2 + (e + i)) j) → 7 - w < kk → mV Γ Q 0 0 n sh P Dk E [(0, .ref q), (1, .int (nI (ρ p))), (2, .int (nI s)), (3, .int (nI d)), (4, .int (nI hc)), (5, .int (nI (2 * s + d))), (6, .ref (r + 2 + ρ p)), (7, .int (nI e)), (8, .int x8)] [] 106 := by
                  intro kk
                  induction kk with
                  | zero =>
                    intro w x8 Dk _ _ _ _ _ hms
                    exact absurd hms (Nat.not_lt_zero _)
                  | succ kk ih =>
                    intro w x8 Dk hw e8 hFk hA1 hA2 hms
                    subst e8
                    refine V_iload h 108 8 rfl dX7_die_106 rfl ?_
                    refine V_bipush h 110 (v := 7) (by decide) dX7_die_108 rfl ?_
                    refine V_icmp_ge h 240 113 dX7_die_110 (by decide) rfl (fun c110 => ?_) (fun c110 => ?_)
                    · skip
                      have hexA : w = 7 := by have := (nI_leI (a := 7) (b := w) (by decide) (by omega)).mp c110; omega
                      subst hexA
                      refine V_iconst h 241 (v := 0) (by decide) dX7_die_240 rfl ?_
                      refine V_istore h 243 [(8, .int 0), (0, .ref q), (1, .int (nI (ρ p))), (2, .int (nI s)), (3, .int (nI d)), (4, .int (nI hc)), (5, .int (nI (2 * s + d))), (6, .ref (r + 2 + ρ p)), (7, .int (nI e))] (by decide) rfl dX7_die_241 rfl ?_
                      have LP243 : ∀ (kk : Nat) (i : Nat) (x8 : Int32) (Dd : mDt), (i ≤ hc) → (x8 = nI i) → (∀ z, z < i → Dd (r + 2 + (e + z)) 4 = V (o + 6 + ρ p) 6 ∧ Dd (r + 2 + (e + z)) 5 = V (o + 6 + ρ p) 7 ∧ Dd (r + 2 + (e + z)) 11 = 1) → (∀ a j, ((∀ z, z < hc → a ≠ r + 2 + (e + z)) ∨ (j ≠ 4 ∧ j ≠ 5 ∧ j ≠ 11)) → Dd a j = Dk a j) → hc - i < kk → mV Γ Q 0 0 n sh P Dd E [(0, .ref q), (1, .int (nI (ρ p))), (2, .int (nI s)), (3, .int (nI d)), (4, .int (nI hc)), (5, .int (nI (2 * s + d))), (6, .ref (r + 2 + ρ p)), (7, .int (nI e)), (8, .int x8)] [] 243 := by
                        intro kk
                        induction kk with
                        | zero =>
                          intro i x8 Dd _ _ _ _ hms
                          exact absurd hms (Nat.not_lt_zero _)
                        | succ kk ih =>
                          intro i x8 Dd hi e8 hD1 hDo hms
                          subst e8
                          have hFd : ∀ a, (∀ z, z < hc → a ≠ r + 2 + (e + z)) → Dd a = D1 a := fun a ha => (funext (fun j => hDo a j (Or.inl ha))).trans (hFk a ha)
                          refine V_iload h 245 8 rfl dX7_die_243 rfl ?_
                          refine V_iload h 247 4 rfl dX7_die_245 rfl ?_
                          refine V_icmp_ge h 299 250 dX7_die_247 (by decide) rfl (fun c247 => ?_) (fun c247 => ?_)
                          · skip
                            have hexD : i = hc := by have := mGe c247 (by omega) (by omega); omega
                            refine V_aload h 301 6 rfl dX7_die_299 rfl ?_
                            refine V_bipush h 303 (v := 11) (by decide) dX7_die_301 rfl ?_
                            refine V_iconst h 304 (v := 0) (by decide) dX7_die_303 rfl ?_
                            refine V_iast h 305 11 (R_sw hL hp10) (by decide) (by decide) (by decide) dX7_die_304 rfl ?_
                            obtain ⟨D9, eD9⟩ : ∃ zz, zz = upd2 Dd (r + 2 + ρ p) 11 0 := ⟨_, rfl⟩
                            rw [← eD9]
                            have hFp : ∀ a, a ≠ r + 2 + ρ p → (∀ z, z < hc → a ≠ r + 2 + (e + z)) → D9 a = D1 a := fun a a1 a2 => by rw [eD9, upd2_ra a1]; exact hFd a a2
                            refine V_aload_n h 306 0 rfl dX7_die_305 rfl ?_
                            refine g_X7_10 h 309 (b := r) hmS hmP dX7_die_306 rfl ?_
                            refine V_iload_n h 310 1 rfl dX7_die_309 rfl ?_
                            refine CVI h 313 (As := [.int (nI (ρ p))]) (r_placeW hL (L := L) (ρ := ρ) (by rw [hFp r (by omega) (fun _ _ => by omega)]; exact hS1.2.2.2.2.1.2.1) (fun z hz => by rw [hFp _ (by omega) (fun _ _ => by omega)]; exact hS1.2.1 z hz) hL10 hρ hinj hp) rfl (R_s0 hL) qL_X7_73 qI_X6_place qS_X6_place qZ_X6 qC_X6_place hd_X6_place ⟨Nat.le_of_ble_eq_true rfl, Nat.le_of_ble_eq_true rfl⟩ (Nat.le_of_ble_eq_true rfl) rfl rfl dX7_die_310 (Nat.le_of_ble_eq_true rfl) (Nat.le_of_ble_eq_true rfl) (fun r10 D10 hq10 => ?_)
                            rw [hq10.1, hq10.2]
                            refine V_istore h 315 [(8, .int (nI p)), (0, .ref q), (1, .int (nI (ρ p))), (2, .int (nI s)), (3, .int (nI d)), (4, .int (nI hc)), (5, .int (nI (2 * s + d))), (6, .ref (r + 2 + ρ p)), (7, .int (nI e))] (by decide) rfl dX7_die_313 rfl ?_
                            refine V_aload_n h 316 1 rfl dX7_die_315 rfl ?_
                            refine g_X7_10 h 319 (b := r) hmS hmP dX7_die_316 rfl ?_
                            refine g_X7_49 h 322 (b := r + 12) (R_s0 hL) (R_p1 hL) dX7_die_319 rfl ?_
                            refine V_iload h 324 0 rfl dX7_die_322 rfl ?_
                            refine V_iconst h 325 (v := 1) (by decide) dX7_die_324 rfl ?_
                            refine V_iadd h 326 dX7_die_325 rfl ?_
                            refine V_top (y := nI (p + 1)) (nI_1 p) ?_
                            refine V_aload_n h 327 1 rfl dX7_die_326 rfl ?_
                            refine g_X7_10 h 330 (b := r) hmS hmP dX7_die_327 rfl ?_
                            refine g_X7_49 h 333 (b := r + 12) (R_s0 hL) (R_p1 hL) dX7_die_330 rfl ?_
                            refine V_iload h 335 0 rfl dX7_die_333 rfl ?_
                            refine V_iload h 337 5 rfl dX7_die_335 rfl ?_
                            refine V_iadd h 338 dX7_die_337 rfl ?_
                            refine V_top (y := nI (p + hc)) (nI_add ..) ?_
                            refine V_aload_n h 339 1 rfl dX7_die_338 rfl ?_
                            refine g_X7_10 h 342 (b := r) hmS hmP dX7_die_339 rfl ?_
                            refine g_X7_53 h 345 (R_s0 hL) dX7_die_342 rfl ?_
                            refine V_top (y := nI L) (by rw [hFp r (by omega) (fun _ _ => by omega)]; exact hS1.2.2.2.2.1.2.1) ?_
                            refine V_iload h 347 0 rfl dX7_die_345 rfl ?_
                            refine V_isub h 348 dX7_die_347 rfl ?_
                            refine V_iconst h 349 (v := 1) (by decide) dX7_die_348 rfl ?_
                            refine V_isub h 350 dX7_die_349 rfl ?_
                            refine V_top (y := nI (L - p - 1)) (by rw [show (1 : Int32) = nI 1 from rfl, nI_sub (by omega), nI_sub (by omega)]) ?_
                            refine V_copyi h 353 (p + 1) (p + hc) (L - p - 1) qL_X7_43 (R_s12 hL) (R_s12 hL) rfl rfl rfl (by omega) (by omega) (by decide) (by decide) (Nat.le_of_ble_eq_true rfl) (Nat.le_of_ble_eq_true rfl) dX7_die_350 rfl ?_
                            obtain ⟨D11, eD11⟩ : ∃ zz, zz = cpD D9 (r + 12) (r + 12) (p + 1) (p + hc) (L - p - 1) := ⟨_, rfl⟩
                            rw [← eD11]
                            have hFc : ∀ a, a ≠ r + 12 → D11 a = D9 a := fun a a1 => by rw [eD11, cpD_ne a1]
                            have hc1 : ∀ z, z < p → D11 (r + 12) z = nI (ρ z) := fun z hz => by rw [eD11, cpD_out (by omega), hFp _ (by omega) (fun _ _ => by omega)]; exact hS1.2.1 z (by omega)
                            have hc2 : ∀ z, p < z → z < L → D11 (r + 12) (z + hc - 1) = nI (ρ z) := fun z hz hz2 => by rw [eD11, cpD_in (by omega) (by omega), hFp _ (by omega) (fun _ _ => by omega), show p + 1 + (z + hc - 1 - (p + hc)) = z by omega]; exact hS1.2.1 z hz2
                            refine V_iconst h 354 (v := 0) (by decide) dX7_die_353 rfl ?_
                            refine V_istore h 356 [(9, .int 0), (8, .int (nI p)), (0, .ref q), (1, .int (nI (ρ p))), (2, .int (nI s)), (3, .int (nI d)), (4, .int (nI hc)), (5, .int (nI (2 * s + d))), (6, .ref (r + 2 + ρ p)), (7, .int (nI e))] (by decide) rfl dX7_die_354 rfl ?_
                            have LP356 : ∀ (kk : Nat) (i : Nat) (x9 : Int32) (De : mDt), (i ≤ hc) → (x9 = nI i) → (∀ j, j < i → De (r + 12) (p + j) = nI (e + j)) → (∀ a, a ≠ r + 12 → De a = D11 a) → (∀ z, z < p → De (r + 12) z = nI (ρ z)) → (∀ z, p < z → z < L → De (r + 12) (z + hc - 1) = nI (ρ z)) → hc - i < kk → mV Γ Q 0 0 n sh P De E [(0, .ref q), (1, .int (nI (ρ p))), (2, .int (nI s)), (3, .int (nI d)), (4, .int (nI hc)), (5, .int (nI (2 * s + d))), (6, .ref (r + 2 + ρ p)), (7, .int (nI e)), (8, .int (nI p)), (9, .int x9)] [] 356 := by
                              intro kk
                              induction kk with
                              | zero =>
                                intro i x9 De _ _ _ _ _ _ hms
                                exact absurd hms (Nat.not_lt_zero _)
                              | succ kk ih =>
                                intro i x9 De hi e9 hE1 hEo hE2 hE3 hms
                                subst e9
                                refine V_iload h 358 9 rfl dX7_die_356 rfl ?_
                                refine V_iload h 360 4 rfl dX7_die_358 rfl ?_
                                refine V_icmp_ge h 387 363 dX7_die_360 (by decide) rfl (fun c360 => ?_) (fun c360 => ?_)
                                · skip
                                  have hexE : i = hc := by have := mGe c360 (by omega) (by omega); omega
                                  have hFe : ∀ a, a ≠ r + 12 → a ≠ r + 2 + ρ p → (∀ z, z < hc → a ≠ r + 2 + (e + z)) → De a = D1 a := fun a a1 a2 a3 => by rw [hEo a a1, hFc a a1]; exact hFp a a2 a3
                                  refine V_aload_n h 388 0 rfl dX7_die_387 rfl ?_
                                  refine g_X7_10 h 391 (b := r) hmS hmP dX7_die_388 rfl ?_
                                  refine V_dup h 392 rfl dX7_die_391 rfl ?_
                                  refine g_X7_53 h 395 (R_s0 hL) dX7_die_392 rfl ?_
                                  refine V_top (y := nI L) (by rw [hFe r (by omega) (by omega) (fun _ _ => by omega)]; exact hS1.2.2.2.2.1.2.1) ?_
                                  refine V_iload h 397 4 rfl dX7_die_395 rfl ?_
                                  refine V_iconst h 398 (v := 1) (by decide) dX7_die_397 rfl ?_
                                  refine V_isub h 399 dX7_die_398 rfl ?_
                                  refine V_iadd h 400 dX7_die_399 rfl ?_
                                  refine p_X7_53 h 403 (R_s0 hL) dX7_die_400 rfl ?_
                                  obtain ⟨D12, eD12⟩ : ∃ zz, zz = upd2 De r 6 ((nI L) + ((nI hc) - 1)) := ⟨_, rfl⟩
                                  rw [← eD12]
                                  refine V_aload_n h 404 0 rfl dX7_die_403 rfl ?_
                                  refine g_X7_10 h 407 (b := r) hmS hmP dX7_die_404 rfl ?_
                                  refine V_dup h 408 rfl dX7_die_407 rfl ?_
                                  refine g_X7_20 h 411 (R_s0 hL) dX7_die_408 rfl ?_
                                  refine V_top (y := nI e) (by rw [eD12, upd2_nk (by decide)]; exact (by rw [hFe r (by omega) (by omega) (fun _ _ => by omega)]; exact hS1.2.2.2.2.1.1)) ?_
                                  refine V_iload h 413 4 rfl dX7_die_411 rfl ?_
                                  refine V_iadd h 414 dX7_die_413 rfl ?_
                                  refine p_X7_20 h 417 (R_s0 hL) dX7_die_414 rfl ?_
                                  obtain ⟨D13, eD13⟩ : ∃ zz, zz = upd2 D12 r 5 ((nI e) + (nI hc)) := ⟨_, rfl⟩
                                  rw [← eD13]
                                  have hf5 : D13 r 5 = nI (e + hc) := by rw [eD13, upd2_eq, nI_add]
                                  have hf6 : D13 r 6 = nI (L + hc - 1) := by rw [eD13, upd2_nk (by decide), eD12, upd2_eq, show (1 : Int32) = nI 1 from rfl, nI_sub (by omega), nI_add]; congr 1; omega
                                  have hf0 : ∀ j, j ≠ 5 → j ≠ 6 → D13 r j = D1 r j := fun j j5 j6 => by rw [eD13, upd2_nk j5, eD12, upd2_nk j6, hFe r (by omega) (by omega) (fun _ _ => by omega)]
                                  have hfa : ∀ a, a ≠ r → D13 a = De a := fun a a1 => by rw [eD13, upd2_ra a1, eD12, upd2_ra a1]
                                  have hf14 : ∀ a, r + 13 ≤ a → D13 a = D1 a := fun a a1 => by rw [hfa a (by omega)]; exact hFe a (by omega) (by omega) (fun _ _ => by omega)
                                  refine V_iconst h 418 (v := 0) (by decide) dX7_die_417 rfl ?_
                                  refine V_istore h 420 [(9, .int 0), (0, .ref q), (1, .int (nI (ρ p))), (2, .int (nI s)), (3, .int (nI d)), (4, .int (nI hc)), (5, .int (nI (2 * s + d))), (6, .ref (r + 2 + ρ p)), (7, .int (nI e)), (8, .int (nI p))] (by decide) rfl dX7_die_418 rfl ?_
                                  refine V_iconst h 421 (v := 0) (by decide) dX7_die_420 rfl ?_
                                  refine V_istore h 423 [(10, .int 0), (9, .int 0), (0, .ref q), (1, .int (nI (ρ p))), (2, .int (nI s)), (3, .int (nI d)), (4, .int (nI hc)), (5, .int (nI (2 * s + d))), (6, .ref (r + 2 + ρ p)), (7, .int (nI e)), (8, .int (nI p))] (by decide) rfl dX7_die_421 rfl ?_
                                  have LP423 : ∀ (kk : Nat) (i kept : Nat) (x9 x10 : Int32) (lok idx : Nat → Nat) (Pf : mPt), (i ≤ m) → (kept ≤ i) → (x9 = nI kept) → (x10 = nI i) → (rLay r lok sh Pf) → (∀ a, a ≠ r + 13 → Pf a = P a) → (∀ z, i ≤ z → z < 8 → lok z = lo z) → (∀ z, z < kept → lok z = lo (idx z) ∧ idx z < i) → ((List.range kept).map (fun z => drow (V (o + 17)) (idx z)) = (dls (V (o + 17)) i).filterMap (endR (nI (ρ p)))) → m - i < kk → mV Γ Q 0 0 n sh Pf D13 E [(0, .ref q), (1, .int (nI (ρ p))), (2, .int (nI s)), (3, .int (nI d)), (4, .int (nI hc)), (5, .int (nI (2 * s + d))), (6, .ref (r + 2 + ρ p)), (7, .int (nI e)), (9, .int x9), (10, .int x10)] [] 423 := by
                                    intro kk
                                    induction kk with
                                    | zero =>
                                      intro i kept x9 x10 lok idx Pf _ _ _ _ _ _ _ _ _ hms
                                      exact absurd hms (Nat.not_lt_zero _)
                                    | succ kk ih =>
                                      intro i kept x9 x10 lok idx Pf hi hkp e9 e10 hLf hPf hlk hidx hlist hms
                                      subst e9 e10
                                      have hmSf : sh q = some (.inl 7) := hmS
                                      have hmPf : Pf q 1 = some r := by rw [hPf q (by omega)]; exact hmP
                                      refine V_iload h 425 9 rfl dX7_die_423 rfl ?_
                                      refine V_aload_n h 426 0 rfl dX7_die_425 rfl ?_
                                      refine g_X7_10 h 429 (b := r) hmS hmPf dX7_die_426 rfl ?_
                                      refine g_X7_63 h 432 (R_s0 hLf) dX7_die_429 rfl ?_
                                      refine V_top (y := nI m) (by rw [hf0 7 (by decide) (by decide)]; exact hS1.2.2.2.2.1.2.2.1) ?_
                                      refine V_icmp_ge h 507 435 dX7_die_432 (by decide) rfl (fun c432 => ?_) (fun c432 => ?_)
                                      · skip
                                        have hexF : i = m := by have := mGe c432 (by omega) (by omega); omega
                                        refine V_aload_n h 508 0 rfl dX7_die_507 rfl ?_
                                        refine g_X7_10 h 511 (b := r) hmS hmPf dX7_die_508 rfl ?_
                                        refine V_iload h 513 8 rfl dX7_die_511 rfl ?_
                                        refine p_X7_63 h 516 (R_s0 hLf) dX7_die_513 rfl ?_
                                        obtain ⟨D14, eD14⟩ : ∃ zz, zz = upd2 D13 r 7 (nI kept) := ⟨_, rfl⟩
                                        rw [← eD14]
                                        have hg0 : ∀ j, j ≠ 7 → D14 r j = D13 r j := fun j j7 => by rw [eD14, upd2_nk j7]
                                        have hg7 : D14 r 7 = nI kept := by rw [eD14, upd2_eq]
                                        have hga : ∀ a, a ≠ r → D14 a = D13 a := fun a a1 => by rw [eD14, upd2_ra a1]
                                        refine V_iconst h 517 (v := 0) (by decide) dX7_die_516 rfl ?_
                                        refine V_istore h 519 [(10, .int 0), (0, .ref q), (1, .int (nI (ρ p))), (2, .int (nI s)), (3, .int (nI d)), (4, .int (nI hc)), (5, .int (nI (2 * s + d))), (6, .ref (r + 2 + ρ p)), (7, .int (nI e)), (9, .int (nI kept))] (by decide) rfl dX7_die_517 rfl ?_
                                        have hhd8 : ∀ X : mDt, (∀ a, (∀ z, z < k → a ≠ r + 23 + z) → X a = D14 a) → X r 8 = nI k := fun X hX => by rw [hX r (fun z hz => by omega), hg0 8 (by decide), hf0 8 (by decide) (by decide)]; exact hS1.2.2.2.2.1.2.2.2.1
                                        have LP519 : ∀ (kk : Nat) (i : Nat) (x10 : Int32) (Dg : mDt), (i ≤ k) → (x10 = nI i) → (∀ a, (∀ z, z < k → a ≠ r + 23 + z) → Dg a = D14 a) → (∀ z, z < i → Dg (r + 23 + z) 0 = (passR (nI (ρ p)) (nI e) (drow (V (o + 19)) z)).1 ∧ Dg (r + 23 + z) 1 = (passR (nI (ρ p)) (nI e) (drow (V (o + 19)) z)).2.1 ∧ Dg (r + 23 + z) 2 = V (o + 19) (z * 4 + 2)) → (∀ z, i ≤ z → z < k → ∀ j, j < 3 → Dg (r + 23 + z) j = V (o + 19) (z * 4 + j)) → k - i < kk → mV Γ Q 0 0 n sh Pf Dg E [(0, .ref q), (1, .int (nI (ρ p))), (2, .int (nI s)), (3, .int (nI d)), (4, .int (nI hc)), (5, .int (nI (2 * s + d))), (6, .ref (r + 2 + ρ p)), (7, .int (nI e)), (10, .int x10)] [] 519 := by
                                          intro kk
                                          induction kk with
                                          | zero =>
                                            intro i x10 Dg _ _ _ _ _ hms
                                            exact absurd hms (Nat.not_lt_zero _)
                                          | succ kk ih =>
                                            intro i x10 Dg hi e10 hGo hG1 hG2 hms
                                            subst e10
                                            refine V_iload h 521 8 rfl dX7_die_519 rfl ?_
                                            refine V_aload_n h 522 0 rfl dX7_die_521 rfl ?_
                                            refine g_X7_10 h 525 (b := r) hmS hmPf dX7_die_522 rfl ?_
                                            refine g_X7_76 h 528 (R_s0 hLf) dX7_die_525 rfl ?_
                                            refine V_top (y := nI k) (hhd8 _ hGo) ?_
                                            refine V_icmp_ge h 584 531 dX7_die_528 (by decide) rfl (fun c528 => ?_) (fun c528 => ?_)
                                            · skip
                                              have hexG : i = k := by have := mGe c528 (by omega) (by omega); omega
                                              have hz0 : ∀ a, r ≤ a → a < r + 23 → a ≠ r → Dg a = De a := fun a a1 a2 a3 => by rw [hGo a (fun z hz => by omega), hga a a3, hfa a a3]
                                              have hz5 : ∀ j, j ≠ 7 → Dg r j = D13 r j := fun j j7 => by rw [hGo r (fun z hz => by omega), hg0 j j7]
                                              have hrow12 := heir3 (g := De (r + 12)) (h := hc) (by omega) hp hE2 hE3 (by rw [hexE] at hE1; exact hE1)
                                              have hDR : dieR o p hc e s d L ρ m k V r lo lok kept D1 Dg := by
                                                refine ⟨by rw [hz5 5 (by decide)]; exact hf5, by rw [hz5 6 (by decide)]; exact hf6, by rw [hGo r (fun z hz => by omega)]; exact hg7, fun j j5 j6 j7 => by rw [hz5 j j7]; exact hf0 j j5 j6, fun z hz => by rw [hz0 _ (by omega) (by omega) (by omega)]; exact hrow12 z hz, fun i hi => ?_, ?_, fun t ht t1 t2 => by rw [hz0 _ (by omega) (by omega) (by omega)]; exact hFe _ (by omega) (by omega) (fun z hz => by omega), ⟨idx, by omega, fun z hz => ⟨(hidx z hz).1, by have := (hidx z hz).2; omega⟩, by rw [hexF] at hlist; exact hlist⟩, fun a a1 a2 => by rw [hz0 a (by omega) a2 (by omega)]; exact hFe a (by omega) (by omega) (fun z hz => by omega), fun z hz => hG1 z (by omega)⟩
                                                · have hrow : ∀ j, Dg (r + 2 + (e + i)) j = Dd (r + 2 + (e + i)) j := fun j => by rw [hz0 _ (by omega) (by omega) (by omega), hEo _ (by omega), hFc _ (by omega), eD9, upd2_na (by omega)]
                                                  refine inh_row (fun j j7 j4 j5 => ?_) ?_ ?_ ?_ (fun j j7 j11 => ?_)
                                                  · rw [hrow, hDo _ j (Or.inr ⟨j4, j5, by omega⟩)]; exact hA1 i hi j (by omega) j4 j5
                                                  · rw [hrow]; exact (hD1 i (by omega)).1
                                                  · rw [hrow]; exact (hD1 i (by omega)).2.1
                                                  · rw [hrow]; exact (hD1 i (by omega)).2.2
                                                  · rw [hrow, hDo _ j (Or.inr ⟨by omega, by omega, by omega⟩), hA2 i hi j (by omega)]; exact hS1.1 _ (by omega) j (by omega)
                                                · intro j hj
                                                  rw [hz0 _ (by omega) (by omega) (by omega), hEo _ (by omega), hFc _ (by omega), eD9]
                                                  by_cases q9 : j = 11
                                                  · subst q9; rw [upd2_eq]; rfl
                                                  · rw [upd2_nk q9, hFd _ (fun z hz => by omega), hS1.1 _ hp10 j hj]
                                                    have : clm j ≠ 1 := by have : ∀ j, j < 11 → clm j ≠ 1 := by decide
                                                                           exact this j (by omega)
                                                    simp only [upd]; rw [if_neg this]
                                              refine V_iload h 586 7 rfl dX7_die_584 rfl ?_
                                              exact V_iret h rfl hQ (Nat.le_of_ble_eq_true rfl) (Nat.le_of_ble_eq_true rfl) ⟨Nat.le_refl _, rfl, fun _ _ => rfl, fun a _ ha => hPf a ha, _, rfl, lok, hLf, fun a _ ha => by rw [hGo a (fun z hz => by omega), hga a (by omega), hfa a (by omega), hFe a (by omega) (by omega) (fun z hz => by omega), eD1, upd2_ra (by omega)], rO4 hl_x G2 ⟨hc, by rw [nI_add, ehc2], hc4, he10h⟩ (by rw [hGo q (fun z hz => by omega), hga q (by omega), hfa q (by omega), hFe q (by omega) (by omega) (fun z hz => by omega), eD1, upd2_eq]) ⟨p, s, d, hc, hp, rfl, rfl, rfl, ehc2, hc1x, hc4, he10h, rfl, kept, fun V' hV' => rSim_die hS1 hm8 hk8 hL.2.2.2.1 hpe he10h hDR hV'⟩⟩ dX7_die_586
                                            · skip
                                              have hlti := mLt c528 (by omega)
                                              refine V_iconst h 532 (v := 0) (by decide) dX7_die_531 rfl ?_
                                              refine V_istore h 534 [(11, .int 0), (0, .ref q), (1, .int (nI (ρ p))), (2, .int (nI s)), (3, .int (nI d)), (4, .int (nI hc)), (5, .int (nI (2 * s + d))), (6, .ref (r + 2 + ρ p)), (7, .int (nI e)), (10, .int (nI i))] (by decide) rfl dX7_die_532 rfl ?_
                                              have LP534 : ∀ (kk : Nat) (w : Nat) (x11 : Int32) (Dh : mDt), (w ≤ 2) → (x11 = nI w) → (∀ a, a ≠ r + 23 + i → Dh a = Dg a) → (0 < w → Dh (r + 23 + i) 0 = (passR (nI (ρ p)) (nI e) (drow (V (o + 19)) i)).1) → (1 < w → Dh (r + 23 + i) 1 = (passR (nI (ρ p)) (nI e) (drow (V (o + 19)) i)).2.1) → (∀ j, w ≤ j → j < 3 → Dh (r + 23 + i) j = V (o + 19) (i * 4 + j)) → (Dh (r + 23 + i) 2 = V (o + 19) (i * 4 + 2)) → 2 - w < kk → mV Γ Q 0 0 n sh Pf Dh E [(0, .ref q), (1, .int (nI (ρ p))), (2, .int (nI s)), (3, .int (nI d)), (4, .int (nI hc)), (5, .int (nI (2 * s + d))), (6, .ref (r + 2 + ρ p)), (7, .int (nI e)), (10, .int (nI i)), (11, .int x11)] [] 534 := by
                                                intro jk
                                                induction jk with
                                                | zero =>
                                                  intro w x11 Dh _ _ _ _ _ _ _ hms
                                                  exact absurd hms (Nat.not_lt_zero _)
                                                | succ jk jh =>
                                                  intro w x11 Dh hw e11 hHo hH0 hH1 hHw hH2 hms
                                                  subst e11
                                                  refine V_iload h 536 9 rfl dX7_die_534 rfl ?_
                                                  refine V_iconst h 537 (v := 2) (by decide) dX7_die_536 rfl ?_
                                                  refine V_icmp_ge h 578 540 dX7_die_537 (by decide) rfl (fun c537 => ?_) (fun c537 => ?_)
                                                  · skip
                                                    have hexw : w = 2 := by have := (nI_leI (a := 2) (b := w) (by decide) (by omega)).mp c537; omega
                                                    refine V_iinc h 581 [(10, .int ((nI i) + 1)), (0, .ref q), (1, .int (nI (ρ p))), (2, .int (nI s)), (3, .int (nI d)), (4, .int (nI hc)), (5, .int (nI (2 * s + d))), (6, .ref (r + 2 + ρ p)), (7, .int (nI e)), (11, .int (nI w))] 8 rfl (by rfl) (by decide) rfl dX7_die_578 rfl ?_
                                                    refine V_goto h 519 dX7_die_581 (by decide) ?_
                                                    refine V_lsub [(0, .ref q), (1, .int (nI (ρ p))), (2, .int (nI s)), (3, .int (nI d)), (4, .int (nI hc)), (5, .int (nI (2 * s + d))), (6, .ref (r + 2 + ρ p)), (7, .int (nI e)), (10, .int ((nI i) + 1))] [1, 2, 3, 4, 5, 6, 7, 8, 0] rfl ?_
                                                    refine ih (i + 1) _ Dh (by omega) (nI_1 i) (fun a ha => by rw [hHo a (ha i (by omega))]; exact hGo a ha) (fun z hz => ?_) (fun z hz hz2 j hj => by rw [hHo _ (by omega)]; exact hG2 z (by omega) hz2 j hj) (by omega)
                                                    by_cases q9 : z = i
                                                    · subst q9; exact ⟨hH0 (by omega), hH1 (by omega), hH2⟩
                                                    · rw [hHo _ (by omega)]; exact hG1 z (by omega)
                                                  · skip
                                                    have hltw : w < 2 := Nat.lt_of_not_le (fun z9 => c537 (nI_le (a := 2) z9 (by omega)))
                                                    refine V_aload_n h 541 0 rfl dX7_die_540 rfl ?_
                                                    refine g_X7_10 h 544 (b := r) hmS hmPf dX7_die_541 rfl ?_
                                                    refine g_X7_79 h 547 (b := r + 22) (R_s0 hLf) (R_p3 hLf) dX7_die_544 rfl ?_
                                                    refine V_iload h 549 8 rfl dX7_die_547 rfl ?_
                                                    refine V_aald h 550 (b := r + 23 + i) i (Or.inr rfl) (R_s22 hLf) rfl (by omega) (by decide) (R_ps hLf (by omega)) dX7_die_549 rfl ?_
                                                    refine V_iload h 552 9 rfl dX7_die_550 rfl ?_
                                                    refine V_iald h 553 w (R_ss hLf (by omega)) rfl (by omega) (by decide) dX7_die_552 rfl ?_
                                                    refine V_top (y := V (o + 19) (i * 4 + w)) (hHw w (Nat.le_refl _) (by omega)) ?_
                                                    refine V_iload_n h 554 1 rfl dX7_die_553 rfl ?_
                                                    refine V_icmp_ne h 572 557 dX7_die_554 (by decide) rfl (fun c554 => ?_) (fun c554 => ?_)
                                                    · skip
                                                      refine V_iinc h 575 [(11, .int ((nI w) + 1)), (0, .ref q), (1, .int (nI (ρ p))), (2, .int (nI s)), (3, .int (nI d)), (4, .int (nI hc)), (5, .int (nI (2 * s + d))), (6, .ref (r + 2 + ρ p)), (7, .int (nI e)), (10, .int (nI i))] 9 rfl (by rfl) (by decide) rfl dX7_die_572 rfl ?_
                                                      refine V_goto h 534 dX7_die_575 (by decide) ?_
                                                      refine V_lsub [(0, .ref q), (1, .int (nI (ρ p))), (2, .int (nI s)), (3, .int (nI d)), (4, .int (nI hc)), (5, .int (nI (2 * s + d))), (6, .ref (r + 2 + ρ p)), (7, .int (nI e)), (10, .int (nI i)), (11, .int ((nI w) + 1))] [1, 2, 3, 4, 5, 6, 7, 8, 9, 0] rfl ?_
                                                      refine jh (w + 1) _ Dh (by omega) (nI_1 w) hHo (fun _ => ?_) (fun _ => ?_) (fun j hj hj2 => hHw j (by omega) hj2) hH2 (by omega)
                                                      · by_cases q9 : w = 0
                                                        · subst q9; rw [hHw 0 (Nat.le_refl _) (by decide)]; exact (if_neg c554).symm
                                                        · exact hH0 (by omega)
                                                      · have q9 : w = 1 := by omega
                                                        subst q9; rw [hHw 1 (Nat.le_refl _) (by decide)]; exact (if_neg c554).symm
                                                    · skip
                                                      refine V_aload_n h 558 0 rfl dX7_die_557 rfl ?_
                                                      refine g_X7_10 h 561 (b := r) hmS hmPf dX7_die_558 rfl ?_
                                                      refine g_X7_79 h 564 (b := r + 22) (R_s0 hLf) (R_p3 hLf) dX7_die_561 rfl ?_
                                                      refine V_iload h 566 8 rfl dX7_die_564 rfl ?_
                                                      refine V_aald h 567 (b := r + 23 + i) i (Or.inr rfl) (R_s22 hLf) rfl (by omega) (by decide) (R_ps hLf (by omega)) dX7_die_566 rfl ?_
                                                      refine V_iload h 569 9 rfl dX7_die_567 rfl ?_
                                                      refine V_iload h 571 7 rfl dX7_die_569 rfl ?_
                                                      refine V_iast h 572 w (R_ss hLf (by omega)) rfl (by omega) (by decide) dX7_die_571 rfl ?_
                                                      obtain ⟨D15, eD15⟩ : ∃ zz, zz = upd2 Dh (r + 23 + i) w (nI e) := ⟨_, rfl⟩
                                                      rw [← eD15]
                                                      refine V_iinc h 575 [(11, .int ((nI w) + 1)), (0, .ref q), (1, .int (nI (ρ p))), (2, .int (nI s)), (3, .int (nI d)), (4, .int (nI hc)), (5, .int (nI (2 * s + d))), (6, .ref (r + 2 + ρ p)), (7, .int (nI e)), (10, .int (nI i))] 9 rfl (by rfl) (by decide) rfl dX7_die_572 rfl ?_
                                                      refine V_goto h 534 dX7_die_575 (by decide) ?_
                                                      refine V_lsub [(0, .ref q), (1, .int (nI (ρ p))), (2, .int (nI s)), (3, .int (nI d)), (4, .int (nI hc)), (5, .int (nI (2 * s + d))), (6, .ref (r + 2 + ρ p)), (7, .int (nI e)), (10, .int (nI i)), (11, .int ((nI w) + 1))] [1, 2, 3, 4, 5, 6, 7, 8, 9, 0] rfl ?_
                                                      refine jh (w + 1) _ D15 (by omega) (nI_1 w) (fun a ha => by rw [eD15, upd2_ra ha]; exact hHo a ha) (fun _ => ?_) (fun _ => ?_) (fun j hj hj2 => by rw [eD15, upd2_nk (by omega)]; exact hHw j (by omega) hj2) (by rw [eD15, upd2_nk (by omega)]; exact hH2) (by omega)
                                                      · by_cases q9 : w = 0
                                                        · subst q9; rw [eD15, upd2_eq]; exact (if_pos c554).symm
                                                        · rw [eD15, upd2_nk (by omega)]; exact hH0 (by omega)
                                                      · have q9 : w = 1 := by omega
                                                        subst q9; rw [eD15, upd2_eq]; exact (if_pos c554).symm
                                              refine V_lsub [(0, .ref q), (1, .int (nI (ρ p))), (2, .int (nI s)), (3, .int (nI d)), (4, .int (nI hc)), (5, .int (nI (2 * s + d))), (6, .ref (r + 2 + ρ p)), (7, .int (nI e)), (10, .int (nI i)), (11, .int 0)] [1, 2, 3, 4, 5, 6, 7, 8, 9, 0] rfl ?_
                                              exact LP534 _ 0 _ Dg (Nat.zero_le _) rfl (fun _ _ => rfl) (fun z => absurd z (by omega)) (fun z => absurd z (by omega)) (fun j _ hj => hG2 i (Nat.le_refl _) hlti j hj) (hG2 i (Nat.le_refl _) hlti 2 (by decide)) (Nat.lt_succ_self _)
                                        refine V_lsub [(0, .ref q), (1, .int (nI (ρ p))), (2, .int (nI s)), (3, .int (nI d)), (4, .int (nI hc)), (5, .int (nI (2 * s + d))), (6, .ref (r + 2 + ρ p)), (7, .int (nI e)), (10, .int 0)] [1, 2, 3, 4, 5, 6, 7, 8, 0] rfl ?_
                                        exact LP519 _ 0 _ D14 (Nat.zero_le _) rfl (fun _ _ => rfl) (fun z hz => absurd hz (Nat.not_lt_zero _)) (fun z _ hz j hj => by rw [hga _ (by omega), hf14 _ (by omega)]; exact hS1.2.2.2.1 z hz j hj) (Nat.lt_succ_self _)
                                      · skip
                                        have hlti := mLt c432 (by omega)
                                        refine V_aload_n h 436 0 rfl dX7_die_435 rfl ?_
                                        refine g_X7_10 h 439 (b := r) hmS hmPf dX7_die_436 rfl ?_
                                        refine g_X7_66 h 442 (b := r + 13) (R_s0 hLf) (R_p2 hLf) dX7_die_439 rfl ?_
                                        refine V_iload h 444 9 rfl dX7_die_442 rfl ?_
                                        refine V_aald h 445 (b := r + 14 + lok i) i (Or.inr rfl) (R_s13 hLf) rfl (by omega) (by decide) (R_pl hLf (by omega)) dX7_die_444 rfl ?_
                                        refine V_astore h 447 [(11, .ref (r + 14 + lok i)), (0, .ref q), (1, .int (nI (ρ p))), (2, .int (nI s)), (3, .int (nI d)), (4, .int (nI hc)), (5, .int (nI (2 * s + d))), (6, .ref (r + 2 + ρ p)), (7, .int (nI e)), (9, .int (nI kept)), (10, .int (nI i))] (by decide) rfl dX7_die_445 rfl ?_
                                        refine V_aload h 449 0 rfl dX7_die_447 rfl ?_
                                        refine V_iconst h 450 (v := 0) (by decide) dX7_die_449 rfl ?_
                                        refine V_iald h 451 0 (R_sL hLf (by omega)) (by decide) (by decide) (by decide) dX7_die_450 rfl ?_
                                        refine V_top (y := V (o + 17) (i * 4 + 0)) (by rw [hlk i (Nat.le_refl _) (by omega), hf14 _ (by have := hL.2.2.2.1 i (by omega); omega)]; exact hS1.2.2.1 i hlti 0 (by decide)) ?_
                                        refine V_iload_n h 452 2 rfl dX7_die_451 rfl ?_
                                        refine V_icmp_eq h 501 455 dX7_die_452 (by decide) rfl (fun c452 => ?_) (fun c452 => ?_)
                                        · skip
                                          refine V_iinc h 504 [(10, .int ((nI i) + 1)), (11, .ref (r + 14 + lok i)), (0, .ref q), (1, .int (nI (ρ p))), (2, .int (nI s)), (3, .int (nI d)), (4, .int (nI hc)), (5, .int (nI (2 * s + d))), (6, .ref (r + 2 + ρ p)), (7, .int (nI e)), (9, .int (nI kept))] 10 rfl (by rfl) (by decide) rfl dX7_die_501 rfl ?_
                                          refine V_goto h 423 dX7_die_504 (by decide) ?_
                                          refine V_lsub [(0, .ref q), (1, .int (nI (ρ p))), (2, .int (nI s)), (3, .int (nI d)), (4, .int (nI hc)), (5, .int (nI (2 * s + d))), (6, .ref (r + 2 + ρ p)), (7, .int (nI e)), (9, .int (nI kept)), (10, .int ((nI i) + 1))] [2, 3, 4, 5, 6, 7, 8, 9, 10, 0] rfl ?_
                                          exact ih (i + 1) kept _ _ lok idx Pf (by omega) (by omega) rfl (nI_1 i) hLf hPf (fun z hz hz2 => hlk z (by omega) hz2) (fun z hz => ⟨(hidx z hz).1, by have := (hidx z hz).2; omega⟩) ((endS hlist).1 c452) (by omega)
                                        · skip
                                          refine V_aload h 457 0 rfl dX7_die_455 rfl ?_
                                          refine V_iconst h 458 (v := 1) (by decide) dX7_die_457 rfl ?_
                                          refine V_iald h 459 1 (R_sL hLf (by omega)) (by decide) (by decide) (by decide) dX7_die_458 rfl ?_
                                          refine V_top (y := V (o + 17) (i * 4 + 1)) (by rw [hlk i (Nat.le_refl _) (by omega), hf14 _ (by have := hL.2.2.2.1 i (by omega); omega)]; exact hS1.2.2.1 i hlti 1 (by decide)) ?_
                                          refine V_iload_n h 460 2 rfl dX7_die_459 rfl ?_
                                          refine V_icmp_ne h 466 463 dX7_die_460 (by decide) rfl (fun c460 => ?_) (fun c460 => ?_)
                                          · skip
                                            refine V_aload_n h 467 1 rfl dX7_die_466 rfl ?_
                                            refine g_X7_10 h 470 (b := r) hmS hmPf dX7_die_467 rfl ?_
                                            refine g_X7_66 h 473 (b := r + 13) (R_s0 hLf) (R_p2 hLf) dX7_die_470 rfl ?_
                                            refine V_iload h 475 10 rfl dX7_die_473 rfl ?_
                                            refine V_aload_n h 476 1 rfl dX7_die_475 rfl ?_
                                            refine g_X7_10 h 479 (b := r) hmS hmPf dX7_die_476 rfl ?_
                                            refine g_X7_66 h 482 (b := r + 13) (R_s0 hLf) (R_p2 hLf) dX7_die_479 rfl ?_
                                            refine V_iload h 484 9 rfl dX7_die_482 rfl ?_
                                            refine V_aald h 485 (b := r + 14 + lok kept) kept (Or.inr rfl) (R_s13 hLf) rfl (by omega) (by decide) (R_pl hLf (by omega)) dX7_die_484 rfl ?_
                                            refine V_aast2 h 486 i (R_s13 hLf) (R_sL hLf (by omega)) rfl (by omega) (by decide) dX7_die_485 rfl ?_
                                            obtain ⟨P16, eP16⟩ : ∃ zz, zz = updP Pf (r + 13) i (some (r + 14 + lok kept)) := ⟨_, rfl⟩
                                            rw [← eP16]
                                            refine V_aload_n h 487 1 rfl dX7_die_486 rfl ?_
                                            refine g_X7_10 h 490 (b := r) hmS (by rw [eP16, updP_ra (by omega)]; exact hmPf) dX7_die_487 rfl ?_
                                            refine g_X7_66 h 493 (b := r + 13) (R_s0 hLf) (by rw [eP16, updP_ra (by omega)]; exact (R_p2 hLf)) dX7_die_490 rfl ?_
                                            refine V_iload h 495 9 rfl dX7_die_493 rfl ?_
                                            refine V_iinc h 498 [(9, .int ((nI kept) + 1)), (11, .ref (r + 14 + lok i)), (0, .ref q), (1, .int (nI (ρ p))), (2, .int (nI s)), (3, .int (nI d)), (4, .int (nI hc)), (5, .int (nI (2 * s + d))), (6, .ref (r + 2 + ρ p)), (7, .int (nI e)), (10, .int (nI i))] 9 rfl (by rfl) (by decide) rfl dX7_die_495 rfl ?_
                                            refine V_aload h 500 1 rfl dX7_die_498 rfl ?_
                                            refine V_aast2 h 501 kept (R_s13 hLf) (R_sL hLf (by omega)) rfl (by omega) (by decide) dX7_die_500 rfl ?_
                                            obtain ⟨P17, eP17⟩ : ∃ zz, zz = updP P16 (r + 13) kept (some (r + 14 + lok i)) := ⟨_, rfl⟩
                                            rw [← eP17]
                                            refine V_iinc h 504 [(10, .int ((nI i) + 1)), (9, .int ((nI kept) + 1)), (11, .ref (r + 14 + lok i)), (0, .ref q), (1, .int (nI (ρ p))), (2, .int (nI s)), (3, .int (nI d)), (4, .int (nI hc)), (5, .int (nI (2 * s + d))), (6, .ref (r + 2 + ρ p)), (7, .int (nI e))] 10 rfl (by rfl) (by decide) rfl dX7_die_501 rfl ?_
                                            refine V_goto h 423 dX7_die_504 (by decide) ?_
                                            refine V_lsub [(0, .ref q), (1, .int (nI (ρ p))), (2, .int (nI s)), (3, .int (nI d)), (4, .int (nI hc)), (5, .int (nI (2 * s + d))), (6, .ref (r + 2 + ρ p)), (7, .int (nI e)), (9, .int ((nI kept) + 1)), (10, .int ((nI i) + 1))] [3, 4, 5, 6, 7, 8, 9, 10, 1, 0] rfl ?_
                                            have hsw := swp_lay (P' := P17) hLf (i := i) (l := kept) (by omega) (by omega) (by rw [eP17, eP16])
                                            refine ih (i + 1) (kept + 1) _ _ _ (fun z => if z = kept then i else idx z) P17 (by omega) (by omega) (nI_1 kept) (nI_1 i) hsw (fun a ha => by rw [eP17, eP16, updP_ra ha, updP_ra ha]; exact hPf a ha) (fun z hz hz2 => ?_) (fun z hz => ?_) ((endS hlist).2.2 c452 c460) (by omega)
                                            · unfold swp; rw [if_neg (by omega), if_neg (by omega)]; exact hlk z (by omega) hz2
                                            · unfold swp
                                              by_cases q9 : z = kept
                                              · rw [if_pos q9, if_pos q9]; exact ⟨hlk i (Nat.le_refl _) (by omega), by omega⟩
                                              · rw [if_neg q9, if_neg q9, if_neg (by omega)]; exact ⟨(hidx z (by omega)).1, by have := (hidx z (by omega)).2; omega⟩
                                          · skip
                                            refine V_goto h 501 dX7_die_463 (by decide) ?_
                                            refine V_iinc h 504 [(10, .int ((nI i) + 1)), (11, .ref (r + 14 + lok i)), (0, .ref q), (1, .int (nI (ρ p))), (2, .int (nI s)), (3, .int (nI d)), (4, .int (nI hc)), (5, .int (nI (2 * s + d))), (6, .ref (r + 2 + ρ p)), (7, .int (nI e)), (9, .int (nI kept))] 10 rfl (by rfl) (by decide) rfl dX7_die_501 rfl ?_
                                            refine V_goto h 423 dX7_die_504 (by decide) ?_
                                            refine V_lsub [(0, .ref q), (1, .int (nI (ρ p))), (2, .int (nI s)), (3, .int (nI d)), (4, .int (nI hc)), (5, .int (nI (2 * s + d))), (6, .ref (r + 2 + ρ p)), (7, .int (nI e)), (9, .int (nI kept)), (10, .int ((nI i) + 1))] [2, 3, 4, 5, 6, 7, 8, 9, 10, 0] rfl ?_
                                            exact ih (i + 1) kept _ _ lok idx Pf (by omega) (by omega) rfl (nI_1 i) hLf hPf (fun z hz hz2 => hlk z (by omega) hz2) (fun z hz => ⟨(hidx z hz).1, by have := (hidx z hz).2; omega⟩) ((endS hlist).2.1 c460) (by omega)
                                  refine V_lsub [(0, .ref q), (1, .int (nI (ρ p))), (2, .int (nI s)), (3, .int (nI d)), (4, .int (nI hc)), (5, .int (nI (2 * s + d))), (6, .ref (r + 2 + ρ p)), (7, .int (nI e)), (9, .int 0), (10, .int 0)] [2, 3, 4, 5, 6, 7, 8, 9, 1, 0] rfl ?_
                                  exact LP423 _ 0 0 _ _ lo (fun z => z) P (Nat.zero_le _) (Nat.le_refl _) rfl rfl hL (fun _ _ => rfl) (fun _ _ _ => rfl) (fun z hz => absurd hz (Nat.not_lt_zero _)) rfl (Nat.lt_succ_self _)
                                · skip
                                  have hltE := mLt c360 (by omega)
                                  refine V_aload_n h 364 0 rfl dX7_die_363 rfl ?_
                                  refine g_X7_10 h 367 (b := r) hmS hmP dX7_die_364 rfl ?_
                                  refine g_X7_49 h 370 (b := r + 12) (R_s0 hL) (R_p1 hL) dX7_die_367 rfl ?_
                                  refine V_iload h 372 8 rfl dX7_die_370 rfl ?_
                                  refine V_iload h 374 9 rfl dX7_die_372 rfl ?_
                                  refine V_iadd h 375 dX7_die_374 rfl ?_
                                  refine V_top (y := nI (p + i)) (nI_add ..) ?_
                                  refine V_iload h 377 7 rfl dX7_die_375 rfl ?_
                                  refine V_iload h 379 9 rfl dX7_die_377 rfl ?_
                                  refine V_iadd h 380 dX7_die_379 rfl ?_
                                  refine V_top (y := nI (e + i)) (nI_add ..) ?_
                                  refine V_iast h 381 (p + i) (R_s12 hL) rfl (by omega) (by decide) dX7_die_380 rfl ?_
                                  obtain ⟨D18, eD18⟩ : ∃ zz, zz = upd2 De (r + 12) (p + i) (nI (e + i)) := ⟨_, rfl⟩
                                  rw [← eD18]
                                  refine V_iinc h 384 [(9, .int ((nI i) + 1)), (0, .ref q), (1, .int (nI (ρ p))), (2, .int (nI s)), (3, .int (nI d)), (4, .int (nI hc)), (5, .int (nI (2 * s + d))), (6, .ref (r + 2 + ρ p)), (7, .int (nI e)), (8, .int (nI p))] 9 rfl (by rfl) (by decide) rfl dX7_die_381 rfl ?_
                                  refine V_goto h 356 dX7_die_384 (by decide) ?_
                                  refine V_lsub [(0, .ref q), (1, .int (nI (ρ p))), (2, .int (nI s)), (3, .int (nI d)), (4, .int (nI hc)), (5, .int (nI (2 * s + d))), (6, .ref (r + 2 + ρ p)), (7, .int (nI e)), (8, .int (nI p)), (9, .int ((nI i) + 1))] [1, 2, 3, 4, 5, 6, 7, 8, 9, 0] rfl ?_
                                  refine ih (i + 1) _ D18 (by omega) (nI_1 i) (fun j hj => ?_) (fun a ha => by rw [eD18, upd2_ra ha]; exact hEo a ha) (fun z hz => by rw [eD18, upd2_nk (by omega)]; exact hE2 z hz) (fun z hz hz2 => by rw [eD18, upd2_nk (by omega)]; exact hE3 z hz hz2) (by omega)
                                  by_cases q9 : j = i
                                  · subst q9; rw [eD18, upd2_eq]
                                  · rw [eD18, upd2_nk (by omega)]; exact hE1 j (by omega)
                            refine V_lsub [(0, .ref q), (1, .int (nI (ρ p))), (2, .int (nI s)), (3, .int (nI d)), (4, .int (nI hc)), (5, .int (nI (2 * s + d))), (6, .ref (r + 2 + ρ p)), (7, .int (nI e)), (8, .int (nI p)), (9, .int 0)] [2, 3, 4, 5, 6, 7, 8, 9, 1, 0] rfl ?_
                            exact LP356 _ 0 _ D11 (Nat.zero_le _) rfl (fun j hj => absurd hj (Nat.not_lt_zero _)) (fun _ _ => rfl) hc1 hc2 (Nat.lt_succ_self _)
                          · skip
                            have hltD := mLt c247 (by omega)
                            refine V_aload_n h 251 0 rfl dX7_die_250 rfl ?_
                            refine V_iload h 253 7 rfl dX7_die_251 rfl ?_
                            refine V_iload h 255 8 rfl dX7_die_253 rfl ?_
                            refine V_iadd h 256 dX7_die_255 rfl ?_
                            refine V_top (y := nI (e + i)) (nI_add ..) ?_
                            refine CVR h 259 (As := [.int (nI (e + i))]) (q_at hmS hmP hL (t := (e + i)) (by omega)) rfl hmS qL_X7_39 qI_X7_at qS_X7_at qZ_X7 qC_X7_at hd_X7_at ⟨Nat.le_of_ble_eq_true rfl, Nat.le_of_ble_eq_true rfl⟩ (Nat.le_of_ble_eq_true rfl) rfl rfl dX7_die_256 (Nat.le_of_ble_eq_true rfl) (Nat.le_of_ble_eq_true rfl) (fun r19 D19 hq19 => ?_)
                            rw [hq19.1, hq19.2]
                            refine V_iconst h 260 (v := 4) (by decide) dX7_die_259 rfl ?_
                            refine V_aload h 262 6 rfl dX7_die_260 rfl ?_
                            refine V_iconst h 263 (v := 4) (by decide) dX7_die_262 rfl ?_
                            refine V_iald h 264 4 (R_sw hL hp10) (by decide) (by decide) (by decide) dX7_die_263 rfl ?_
                            refine V_top (y := V (o + 6 + ρ p) 6) (by rw [dead1 _ hFd]; exact hS1.1 _ hp10 4 (by decide)) ?_
                            refine V_iast h 265 4 (R_sw hL (by omega)) (by decide) (by decide) (by decide) dX7_die_264 rfl ?_
                            obtain ⟨D20, eD20⟩ : ∃ zz, zz = upd2 Dd (r + 2 + (e + i)) 4 (V (o + 6 + ρ p) 6) := ⟨_, rfl⟩
                            rw [← eD20]
                            refine V_aload_n h 266 0 rfl dX7_die_265 rfl ?_
                            refine V_iload h 268 7 rfl dX7_die_266 rfl ?_
                            refine V_iload h 270 8 rfl dX7_die_268 rfl ?_
                            refine V_iadd h 271 dX7_die_270 rfl ?_
                            refine V_top (y := nI (e + i)) (nI_add ..) ?_
                            refine CVR h 274 (As := [.int (nI (e + i))]) (q_at hmS hmP hL (t := (e + i)) (by omega)) rfl hmS qL_X7_39 qI_X7_at qS_X7_at qZ_X7 qC_X7_at hd_X7_at ⟨Nat.le_of_ble_eq_true rfl, Nat.le_of_ble_eq_true rfl⟩ (Nat.le_of_ble_eq_true rfl) rfl rfl dX7_die_271 (Nat.le_of_ble_eq_true rfl) (Nat.le_of_ble_eq_true rfl) (fun r21 D21 hq21 => ?_)
                            rw [hq21.1, hq21.2]
                            refine V_iconst h 275 (v := 5) (by decide) dX7_die_274 rfl ?_
                            refine V_aload h 277 6 rfl dX7_die_275 rfl ?_
                            refine V_iconst h 278 (v := 5) (by decide) dX7_die_277 rfl ?_
                            refine V_iald h 279 5 (R_sw hL hp10) (by decide) (by decide) (by decide) dX7_die_278 rfl ?_
                            refine V_top (y := V (o + 6 + ρ p) 7) (by rw [eD20, upd2_nk (by decide)]; exact (by rw [dead1 _ hFd]; exact hS1.1 _ hp10 5 (by decide))) ?_
                            refine V_iast h 280 5 (R_sw hL (by omega)) (by decide) (by decide) (by decide) dX7_die_279 rfl ?_
                            obtain ⟨D22, eD22⟩ : ∃ zz, zz = upd2 D20 (r + 2 + (e + i)) 5 (V (o + 6 + ρ p) 7) := ⟨_, rfl⟩
                            rw [← eD22]
                            refine V_aload_n h 281 0 rfl dX7_die_280 rfl ?_
                            refine V_iload h 283 7 rfl dX7_die_281 rfl ?_
                            refine V_iload h 285 8 rfl dX7_die_283 rfl ?_
                            refine V_iadd h 286 dX7_die_285 rfl ?_
                            refine V_top (y := nI (e + i)) (nI_add ..) ?_
                            refine CVR h 289 (As := [.int (nI (e + i))]) (q_at hmS hmP hL (t := (e + i)) (by omega)) rfl hmS qL_X7_39 qI_X7_at qS_X7_at qZ_X7 qC_X7_at hd_X7_at ⟨Nat.le_of_ble_eq_true rfl, Nat.le_of_ble_eq_true rfl⟩ (Nat.le_of_ble_eq_true rfl) rfl rfl dX7_die_286 (Nat.le_of_ble_eq_true rfl) (Nat.le_of_ble_eq_true rfl) (fun r23 D23 hq23 => ?_)
                            rw [hq23.1, hq23.2]
                            refine V_bipush h 291 (v := 11) (by decide) dX7_die_289 rfl ?_
                            refine V_iconst h 292 (v := 1) (by decide) dX7_die_291 rfl ?_
                            refine V_iast h 293 11 (R_sw hL (by omega)) (by decide) (by decide) (by decide) dX7_die_292 rfl ?_
                            obtain ⟨D24, eD24⟩ : ∃ zz, zz = upd2 D22 (r + 2 + (e + i)) 11 1 := ⟨_, rfl⟩
                            rw [← eD24]
                            refine V_iinc h 296 [(8, .int ((nI i) + 1)), (0, .ref q), (1, .int (nI (ρ p))), (2, .int (nI s)), (3, .int (nI d)), (4, .int (nI hc)), (5, .int (nI (2 * s + d))), (6, .ref (r + 2 + ρ p)), (7, .int (nI e))] 8 rfl (by rfl) (by decide) rfl dX7_die_293 rfl ?_
                            refine V_goto h 243 dX7_die_296 (by decide) ?_
                            refine V_lsub [(0, .ref q), (1, .int (nI (ρ p))), (2, .int (nI s)), (3, .int (nI d)), (4, .int (nI hc)), (5, .int (nI (2 * s + d))), (6, .ref (r + 2 + ρ p)), (7, .int (nI e)), (8, .int ((nI i) + 1))] [1, 2, 3, 4, 5, 6, 7, 8, 0] rfl ?_
                            refine ih (i + 1) _ D24 (by omega) (nI_1 i) (fun z hz => ?_) (fun a j hj => ?_) (by omega)
                            · by_cases q9 : z = i
                              · subst q9; exact ⟨by rw [eD24, eD22, eD20, upd2_nk (by decide), upd2_nk (by decide), upd2_eq], by rw [eD24, eD22, upd2_nk (by decide), upd2_eq], by rw [eD24, upd2_eq]⟩
                              · rw [eD24, eD22, eD20, upd2_ra (by omega), upd2_ra (by omega), upd2_ra (by omega)]; exact hD1 z (by omega)
                            · rcases hj with hj | hj
                              · rw [eD24, eD22, eD20, upd2_na (hj i (by omega)), upd2_na (hj i (by omega)), upd2_na (hj i (by omega))]; exact hDo a j (Or.inl hj)
                              · rw [eD24, eD22, eD20, upd2_nk hj.2.2, upd2_nk hj.2.1, upd2_nk hj.1]; exact hDo a j (Or.inr hj)
                      refine V_lsub [(0, .ref q), (1, .int (nI (ρ p))), (2, .int (nI s)), (3, .int (nI d)), (4, .int (nI hc)), (5, .int (nI (2 * s + d))), (6, .ref (r + 2 + ρ p)), (7, .int (nI e)), (8, .int 0)] [1, 2, 3, 4, 5, 6, 7, 8, 0] rfl ?_
                      exact LP243 _ 0 _ Dk (Nat.zero_le _) rfl (fun z hz => absurd hz (Nat.not_lt_zero _)) (fun _ _ _ => rfl) (Nat.lt_succ_self _)
                    · skip
                      have hw7 : w < 7 := Nat.lt_of_not_le (fun z9 => c110 (nI_le (a := 7) z9 (by omega)))
                      refine V_iload h 115 8 rfl dX7_die_113 rfl ?_
                      refine V_iconst h 116 (v := 4) (by decide) dX7_die_115 rfl ?_
                      refine V_icmp_eq h 234 119 dX7_die_116 (by decide) rfl (fun c116 => ?_) (fun c116 => ?_)
                      · skip
                        refine V_iinc h 237 [(8, .int ((nI w) + 1)), (0, .ref q), (1, .int (nI (ρ p))), (2, .int (nI s)), (3, .int (nI d)), (4, .int (nI hc)), (5, .int (nI (2 * s + d))), (6, .ref (r + 2 + ρ p)), (7, .int (nI e))] 8 rfl (by rfl) (by decide) rfl dX7_die_234 rfl ?_
                        refine V_goto h 106 dX7_die_237 (by decide) ?_
                        refine V_lsub [(0, .ref q), (1, .int (nI (ρ p))), (2, .int (nI s)), (3, .int (nI d)), (4, .int (nI hc)), (5, .int (nI (2 * s + d))), (6, .ref (r + 2 + ρ p)), (7, .int (nI e)), (8, .int ((nI w) + 1))] [1, 2, 3, 4, 5, 6, 7, 8, 0] rfl ?_
                        have hw5 := (nI_eq (a := w) (b := 4) (by omega) (by decide)).mp c116
                        exact ih (w + 1) _ Dk (by omega) (nI_1 w) hFk (fun i hi j hj j4 j5 => hA1 i hi j (by omega) j4 j5) (fun i hi j hj => hA2 i hi j (by omega)) (by omega)
                      · skip
                        have hw4 : w ≠ 4 := fun z9 => c116 (by rw [z9]; rfl)
                        refine V_iload h 121 8 rfl dX7_die_119 rfl ?_
                        refine V_iconst h 122 (v := 5) (by decide) dX7_die_121 rfl ?_
                        refine V_icmp_ne h 128 125 dX7_die_122 (by decide) rfl (fun c122 => ?_) (fun c122 => ?_)
                        · skip
                          have hw5 : w ≠ 5 := fun z9 => c122 (by rw [z9]; rfl)
                          refine V_aload h 130 6 rfl dX7_die_128 rfl ?_
                          refine V_iload h 132 8 rfl dX7_die_130 rfl ?_
                          refine V_iald h 133 w (R_sw hL hp10) rfl (by omega) (by decide) dX7_die_132 rfl ?_
                          refine V_top (y := V (o + 6 + ρ p) (clm w)) (by rw [dead1 _ hFk]; exact hS1.1 _ hp10 w (by omega)) ?_
                          refine V_istore h 135 [(9, .int (V (o + 6 + ρ p) (clm w))), (0, .ref q), (1, .int (nI (ρ p))), (2, .int (nI s)), (3, .int (nI d)), (4, .int (nI hc)), (5, .int (nI (2 * s + d))), (6, .ref (r + 2 + ρ p)), (7, .int (nI e)), (8, .int (nI w))] (by decide) rfl dX7_die_133 rfl ?_
                          refine V_iconst h 136 (v := 0) (by decide) dX7_die_135 rfl ?_
                          refine V_istore h 138 [(10, .int 0), (9, .int (V (o + 6 + ρ p) (clm w))), (0, .ref q), (1, .int (nI (ρ p))), (2, .int (nI s)), (3, .int (nI d)), (4, .int (nI hc)), (5, .int (nI (2 * s + d))), (6, .ref (r + 2 + ρ p)), (7, .int (nI e)), (8, .int (nI w))] (by decide) rfl dX7_die_136 rfl ?_
                          have LP138 : ∀ (kk : Nat) (i : Nat) (x9 x10 : Int32) (Dl : mDt), (i ≤ hc) → (x9 = lsub (V (o + 6 + ρ p) (clm w)) (baseF (V (o + 6 + ρ p) (clm w)) s d) i) → (x10 = nI i) → (∀ z, z < i → Dl (r + 2 + (e + z)) w = baseF (V (o + 6 + ρ p) (clm w)) s d z) → (∀ a j, ((∀ z, z < hc → a ≠ r + 2 + (e + z)) ∨ j ≠ w) → Dl a j = Dk a j) → hc - i < kk → mV Γ Q 0 0 n sh P Dl E [(0, .ref q), (1, .int (nI (ρ p))), (2, .int (nI s)), (3, .int (nI d)), (4, .int (nI hc)), (5, .int (nI (2 * s + d))), (6, .ref (r + 2 + ρ p)), (7, .int (nI e)), (8, .int (nI w)), (9, .int x9), (10, .int x10)] [] 138 := by
                            intro jk
                            induction jk with
                            | zero =>
                              intro i x9 x10 Dl _ _ _ _ _ hms
                              exact absurd hms (Nat.not_lt_zero _)
                            | succ jk jh =>
                              intro i x9 x10 Dl hi e9 e10 hB hBo hms
                              subst e10
                              have hFl : ∀ a, (∀ z, z < hc → a ≠ r + 2 + (e + z)) → Dl a = D1 a := fun a ha => (funext (fun j => hBo a j (Or.inl ha))).trans (hFk a ha)
                              refine V_iload h 140 10 rfl dX7_die_138 rfl ?_
                              refine V_iload h 142 4 rfl dX7_die_140 rfl ?_
                              refine V_icmp_ge h 202 145 dX7_die_142 (by decide) rfl (fun c142 => ?_) (fun c142 => ?_)
                              · skip
                                have hexB : i = hc := by have := mGe c142 (by omega) (by omega); omega
                                have hexB2 := hexB.symm
                                subst hexB2
                                obtain ⟨t, htc, htl⟩ := left_ok (dv := (V (o + 6 + ρ p) (clm w))) (s := s) (d := d) (by omega) (by omega) (hbd _ hp10 w hw7 hw4 hw5).1 (hbd _ hp10 w hw7 hw4 hw5).2
                                rw [← ehc2, lsub_left (by omega) htl] at e9
                                subst e9
                                refine V_iconst h 203 (v := 0) (by decide) dX7_die_202 rfl ?_
                                refine V_istore h 205 [(10, .int 0), (0, .ref q), (1, .int (nI (ρ p))), (2, .int (nI s)), (3, .int (nI d)), (4, .int (nI hc)), (5, .int (nI (2 * s + d))), (6, .ref (r + 2 + ρ p)), (7, .int (nI e)), (8, .int (nI w)), (9, .int (nI t))] (by decide) rfl dX7_die_203 rfl ?_
                                have LP205 : ∀ (kk : Nat) (i : Nat) (x10 : Int32) (Dm : mDt), (i ≤ t) → (x10 = nI i) → (∀ z, z < hc → Dm (r + 2 + (e + z)) w = baseF (V (o + 6 + ρ p) (clm w)) s d z + (if z < i then 1 else 0)) → (∀ a j, ((∀ z, z < hc → a ≠ r + 2 + (e + z)) ∨ j ≠ w) → Dm a j = Dk a j) → t - i < kk → mV Γ Q 0 0 n sh P Dm E [(0, .ref q), (1, .int (nI (ρ p))), (2, .int (nI s)), (3, .int (nI d)), (4, .int (nI hc)), (5, .int (nI (2 * s + d))), (6, .ref (r + 2 + ρ p)), (7, .int (nI e)), (8, .int (nI w)), (9, .int (nI t)), (10, .int x10)] [] 205 := by
                                  intro mk
                                  induction mk with
                                  | zero =>
                                    intro i x10 Dm _ _ _ _ hms
                                    exact absurd hms (Nat.not_lt_zero _)
                                  | succ mk mh =>
                                    intro i x10 Dm hi e10 hC hCo hms
                                    subst e10
                                    refine V_iload h 207 10 rfl dX7_die_205 rfl ?_
                                    refine V_iload h 209 9 rfl dX7_die_207 rfl ?_
                                    refine V_icmp_ge h 234 212 dX7_die_209 (by decide) rfl (fun c209 => ?_) (fun c209 => ?_)
                                    · skip
                                      have hexC : i = t := by have := mGe c209 (by omega) (by omega); omega
                                      refine V_iinc h 237 [(8, .int ((nI w) + 1)), (0, .ref q), (1, .int (nI (ρ p))), (2, .int (nI s)), (3, .int (nI d)), (4, .int (nI hc)), (5, .int (nI (2 * s + d))), (6, .ref (r + 2 + ρ p)), (7, .int (nI e)), (9, .int (nI t)), (10, .int (nI i))] 8 rfl (by rfl) (by decide) rfl dX7_die_234 rfl ?_
                                      refine V_goto h 106 dX7_die_237 (by decide) ?_
                                      refine V_lsub [(0, .ref q), (1, .int (nI (ρ p))), (2, .int (nI s)), (3, .int (nI d)), (4, .int (nI hc)), (5, .int (nI (2 * s + d))), (6, .ref (r + 2 + ρ p)), (7, .int (nI e)), (8, .int ((nI w) + 1))] [1, 2, 3, 4, 5, 6, 7, 8, 0] rfl ?_
                                      rw [hexC] at hC
                                      refine ih (w + 1) _ Dm (by omega) (nI_1 w) (fun a ha => by rw [show Dm a = Dk a from funext (fun j => hCo a j (Or.inl ha))]; exact hFk a ha) (fun i hi j hj j4 j5 => ?_) (fun i hi j hj => by rw [hCo _ j (Or.inr (by omega))]; exact hA2 i hi j (by omega)) (by omega)
                                      by_cases q9 : j = w
                                      · subst q9; rw [hC i hi, part_eq (by omega) (by omega) (by omega) (by omega) htl]
                                      · rw [hCo _ j (Or.inr q9)]; exact hA1 i hi j (by omega) j4 j5
                                    · skip
                                      have hltC := mLt c209 (by omega)
                                      refine V_aload_n h 213 0 rfl dX7_die_212 rfl ?_
                                      refine V_iload h 215 7 rfl dX7_die_213 rfl ?_
                                      refine V_iload h 217 10 rfl dX7_die_215 rfl ?_
                                      refine V_iadd h 218 dX7_die_217 rfl ?_
                                      refine V_top (y := nI (e + i)) (nI_add ..) ?_
                                      refine CVR h 221 (As := [.int (nI (e + i))]) (q_at hmS hmP hL (t := (e + i)) (by omega)) rfl hmS qL_X7_39 qI_X7_at qS_X7_at qZ_X7 qC_X7_at hd_X7_at ⟨Nat.le_of_ble_eq_true rfl, Nat.le_of_ble_eq_true rfl⟩ (Nat.le_of_ble_eq_true rfl) rfl rfl dX7_die_218 (Nat.le_of_ble_eq_true rfl) (Nat.le_of_ble_eq_true rfl) (fun r25 D25 hq25 => ?_)
                                      rw [hq25.1, hq25.2]
                                      refine V_iload h 223 8 rfl dX7_die_221 rfl ?_
                                      refine V_dup2 h 224 rfl rfl dX7_die_223 rfl ?_
                                      refine V_iald h 225 w (R_sw hL (by omega)) rfl (by omega) (by decide) dX7_die_224 rfl ?_
                                      refine V_top (y := baseF (V (o + 6 + ρ p) (clm w)) s d i) (by rw [hC i (by omega), if_neg (Nat.lt_irrefl _), Int32.add_zero]) ?_
                                      refine V_iconst h 226 (v := 1) (by decide) dX7_die_225 rfl ?_
                                      refine V_iadd h 227 dX7_die_226 rfl ?_
                                      refine V_iast h 228 w (R_sw hL (by omega)) rfl (by omega) (by decide) dX7_die_227 rfl ?_
                                      obtain ⟨D26, eD26⟩ : ∃ zz, zz = upd2 Dm (r + 2 + (e + i)) w ((baseF (V (o + 6 + ρ p) (clm w)) s d i) + 1) := ⟨_, rfl⟩
                                      rw [← eD26]
                                      refine V_iinc h 231 [(10, .int ((nI i) + 1)), (0, .ref q), (1, .int (nI (ρ p))), (2, .int (nI s)), (3, .int (nI d)), (4, .int (nI hc)), (5, .int (nI (2 * s + d))), (6, .ref (r + 2 + ρ p)), (7, .int (nI e)), (8, .int (nI w)), (9, .int (nI t))] 10 rfl (by rfl) (by decide) rfl dX7_die_228 rfl ?_
                                      refine V_goto h 205 dX7_die_231 (by decide) ?_
                                      refine V_lsub [(0, .ref q), (1, .int (nI (ρ p))), (2, .int (nI s)), (3, .int (nI d)), (4, .int (nI hc)), (5, .int (nI (2 * s + d))), (6, .ref (r + 2 + ρ p)), (7, .int (nI e)), (8, .int (nI w)), (9, .int (nI t)), (10, .int ((nI i) + 1))] [1, 2, 3, 4, 5, 6, 7, 8, 9, 10, 0] rfl ?_
                                      refine mh (i + 1) _ D26 (by omega) (nI_1 i) (fun z hz => ?_) (fun a j hj => ?_) (by omega)
                                      · by_cases q9 : z = i
                                        · subst q9; rw [eD26, upd2_eq, if_pos (by omega)]
                                        · rw [eD26, upd2_na (by omega), hC z hz]; congr 1; by_cases q8 : z < i; rw [if_pos q8, if_pos (by omega)]; rw [if_neg q8, if_neg (by omega)]
                                      · rcases hj with hj | hj
                                        · rw [eD26, upd2_na (hj i (by omega))]; exact hCo a j (Or.inl hj)
                                        · rw [eD26, upd2_nk hj]; exact hCo a j (Or.inr hj)
                                refine V_lsub [(0, .ref q), (1, .int (nI (ρ p))), (2, .int (nI s)), (3, .int (nI d)), (4, .int (nI hc)), (5, .int (nI (2 * s + d))), (6, .ref (r + 2 + ρ p)), (7, .int (nI e)), (8, .int (nI w)), (9, .int (nI t)), (10, .int 0)] [1, 2, 3, 4, 5, 6, 7, 8, 9, 10, 0] rfl ?_
                                exact LP205 _ 0 _ Dl (Nat.zero_le _) rfl (fun z hz => by rw [if_neg (Nat.not_lt_zero _), Int32.add_zero]; exact hB z (by omega)) hBo (Nat.lt_succ_self _)
                              · skip
                                have hltB := mLt c142 (by omega)
                                refine V_aload_n h 146 0 rfl dX7_die_145 rfl ?_
                                refine V_iload h 148 7 rfl dX7_die_146 rfl ?_
                                refine V_iload h 150 10 rfl dX7_die_148 rfl ?_
                                refine V_iadd h 151 dX7_die_150 rfl ?_
                                refine V_top (y := nI (e + i)) (nI_add ..) ?_
                                refine CVR h 154 (As := [.int (nI (e + i))]) (q_at hmS hmP hL (t := (e + i)) (by omega)) rfl hmS qL_X7_39 qI_X7_at qS_X7_at qZ_X7 qC_X7_at hd_X7_at ⟨Nat.le_of_ble_eq_true rfl, Nat.le_of_ble_eq_true rfl⟩ (Nat.le_of_ble_eq_true rfl) rfl rfl dX7_die_151 (Nat.le_of_ble_eq_true rfl) (Nat.le_of_ble_eq_true rfl) (fun r27 D27 hq27 => ?_)
                                rw [hq27.1, hq27.2]
                                refine V_iload h 156 8 rfl dX7_die_154 rfl ?_
                                refine V_aload h 158 6 rfl dX7_die_156 rfl ?_
                                refine V_iload h 160 8 rfl dX7_die_158 rfl ?_
                                refine V_iald h 161 w (R_sw hL hp10) rfl (by omega) (by decide) dX7_die_160 rfl ?_
                                refine V_top (y := V (o + 6 + ρ p) (clm w)) (by rw [dead1 _ hFl]; exact hS1.1 _ hp10 w (by omega)) ?_
                                refine V_iload h 163 10 rfl dX7_die_161 rfl ?_
                                refine V_iload_n h 164 2 rfl dX7_die_163 rfl ?_
                                refine V_icmp_ge h 171 167 dX7_die_164 (by decide) rfl (fun c164 => ?_) (fun c164 => ?_)
                                · skip
                                  refine V_iconst h 172 (v := 1) (by decide) dX7_die_171 rfl ?_
                                  refine V_imul h 173 dX7_die_172 rfl ?_
                                  refine V_iload h 175 5 rfl dX7_die_173 rfl ?_
                                  refine CSI h 178 (As := [.int ((V (o + 6 + ρ p) (clm w)) * 1), .int (nI (2 * s + d))]) (q_lower ((V (o + 6 + ρ p) (clm w)) * 1) (nI (2 * s + d)) (by intro z9; have := (nI_eq (a := 2 * s + d) (b := 0) (by omega) (by decide)).mp z9; omega)) qL_X7_69 qT_X7_lower qZ_X7 qC_X7_lower hd_X7_lower ⟨Nat.le_of_ble_eq_true rfl, Nat.le_of_ble_eq_true rfl⟩ (Nat.le_of_ble_eq_true rfl) rfl rfl dX7_die_175 (Nat.le_of_ble_eq_true rfl) (Nat.le_of_ble_eq_true rfl) (fun r28 D28 hq28 => ?_)
                                  rw [hq28.1, hq28.2]
                                  refine V_top (y := baseF (V (o + 6 + ρ p) (clm w)) s d i) ((base_low (by omega) (by omega) (hbd _ hp10 w hw7 hw4 hw5).1 (hbd _ hp10 w hw7 hw4 hw5).2).2 (Nat.not_lt.mpr ((nI_leI (by omega) (by omega)).mp c164))) ?_
                                  refine V_iast h 179 w (R_sw hL (by omega)) rfl (by omega) (by decide) dX7_die_178 rfl ?_
                                  obtain ⟨D29, eD29⟩ : ∃ zz, zz = upd2 Dl (r + 2 + (e + i)) w (baseF (V (o + 6 + ρ p) (clm w)) s d i) := ⟨_, rfl⟩
                                  rw [← eD29]
                                  refine V_iload h 181 9 rfl dX7_die_179 rfl ?_
                                  refine V_aload_n h 182 0 rfl dX7_die_181 rfl ?_
                                  refine V_iload h 184 7 rfl dX7_die_182 rfl ?_
                                  refine V_iload h 186 10 rfl dX7_die_184 rfl ?_
                                  refine V_iadd h 187 dX7_die_186 rfl ?_
                                  refine V_top (y := nI (e + i)) (nI_add ..) ?_
                                  refine CVR h 190 (As := [.int (nI (e + i))]) (q_at hmS hmP hL (t := (e + i)) (by omega)) rfl hmS qL_X7_39 qI_X7_at qS_X7_at qZ_X7 qC_X7_at hd_X7_at ⟨Nat.le_of_ble_eq_true rfl, Nat.le_of_ble_eq_true rfl⟩ (Nat.le_of_ble_eq_true rfl) rfl rfl dX7_die_187 (Nat.le_of_ble_eq_true rfl) (Nat.le_of_ble_eq_true rfl) (fun r30 D30 hq30 => ?_)
                                  rw [hq30.1, hq30.2]
                                  refine V_iload h 192 8 rfl dX7_die_190 rfl ?_
                                  refine V_iald h 193 w (R_sw hL (by omega)) rfl (by omega) (by decide) dX7_die_192 rfl ?_
                                  refine V_top (y := baseF (V (o + 6 + ρ p) (clm w)) s d i) (by rw [eD29, upd2_eq]) ?_
                                  refine V_isub h 194 dX7_die_193 rfl ?_
                                  refine V_istore h 196 [(9, .int (x9 - (baseF (V (o + 6 + ρ p) (clm w)) s d i))), (0, .ref q), (1, .int (nI (ρ p))), (2, .int (nI s)), (3, .int (nI d)), (4, .int (nI hc)), (5, .int (nI (2 * s + d))), (6, .ref (r + 2 + ρ p)), (7, .int (nI e)), (8, .int (nI w)), (10, .int (nI i))] (by decide) rfl dX7_die_194 rfl ?_
                                  refine V_iinc h 199 [(10, .int ((nI i) + 1)), (9, .int (x9 - (baseF (V (o + 6 + ρ p) (clm w)) s d i))), (0, .ref q), (1, .int (nI (ρ p))), (2, .int (nI s)), (3, .int (nI d)), (4, .int (nI hc)), (5, .int (nI (2 * s + d))), (6, .ref (r + 2 + ρ p)), (7, .int (nI e)), (8, .int (nI w))] 10 rfl (by rfl) (by decide) rfl dX7_die_196 rfl ?_
                                  refine V_goto h 138 dX7_die_199 (by decide) ?_
                                  refine V_lsub [(0, .ref q), (1, .int (nI (ρ p))), (2, .int (nI s)), (3, .int (nI d)), (4, .int (nI hc)), (5, .int (nI (2 * s + d))), (6, .ref (r + 2 + ρ p)), (7, .int (nI e)), (8, .int (nI w)), (9, .int (x9 - (baseF (V (o + 6 + ρ p) (clm w)) s d i))), (10, .int ((nI i) + 1))] [2, 3, 4, 5, 6, 7, 8, 9, 10, 1, 0] rfl ?_
                                  refine jh (i + 1) _ _ D29 (by omega) (by rw [lsub, ← e9]) (nI_1 i) (fun z hz => ?_) (fun a j hj => ?_) (by omega)
                                  · by_cases q9 : z = i
                                    · subst q9; rw [eD29, upd2_eq]
                                    · rw [eD29, upd2_na (by omega)]; exact hB z (by omega)
                                  · rcases hj with hj | hj
                                    · rw [eD29, upd2_na (hj i (by omega))]; exact hBo a j (Or.inl hj)
                                    · rw [eD29, upd2_nk hj]; exact hBo a j (Or.inr hj)
                                · skip
                                  refine V_iconst h 168 (v := 2) (by decide) dX7_die_167 rfl ?_
                                  refine V_goto h 172 dX7_die_168 (by decide) ?_
                                  refine V_imul h 173 dX7_die_172 rfl ?_
                                  refine V_iload h 175 5 rfl dX7_die_173 rfl ?_
                                  refine CSI h 178 (As := [.int ((V (o + 6 + ρ p) (clm w)) * 2), .int (nI (2 * s + d))]) (q_lower ((V (o + 6 + ρ p) (clm w)) * 2) (nI (2 * s + d)) (by intro z9; have := (nI_eq (a := 2 * s + d) (b := 0) (by omega) (by decide)).mp z9; omega)) qL_X7_69 qT_X7_lower qZ_X7 qC_X7_lower hd_X7_lower ⟨Nat.le_of_ble_eq_true rfl, Nat.le_of_ble_eq_true rfl⟩ (Nat.le_of_ble_eq_true rfl) rfl rfl dX7_die_175 (Nat.le_of_ble_eq_true rfl) (Nat.le_of_ble_eq_true rfl) (fun r31 D31 hq31 => ?_)
                                  rw [hq31.1, hq31.2]
                                  refine V_top (y := baseF (V (o + 6 + ρ p) (clm w)) s d i) ((base_low (by omega) (by omega) (hbd _ hp10 w hw7 hw4 hw5).1 (hbd _ hp10 w hw7 hw4 hw5).2).1 (Nat.lt_of_not_le (fun z9 => c164 (nI_le z9 (by omega))))) ?_
                                  refine V_iast h 179 w (R_sw hL (by omega)) rfl (by omega) (by decide) dX7_die_178 rfl ?_
                                  obtain ⟨D32, eD32⟩ : ∃ zz, zz = upd2 Dl (r + 2 + (e + i)) w (baseF (V (o + 6 + ρ p) (clm w)) s d i) := ⟨_, rfl⟩
                                  rw [← eD32]
                                  refine V_iload h 181 9 rfl dX7_die_179 rfl ?_
                                  refine V_aload_n h 182 0 rfl dX7_die_181 rfl ?_
                                  refine V_iload h 184 7 rfl dX7_die_182 rfl ?_
                                  refine V_iload h 186 10 rfl dX7_die_184 rfl ?_
                                  refine V_iadd h 187 dX7_die_186 rfl ?_
                                  refine V_top (y := nI (e + i)) (nI_add ..) ?_
                                  refine CVR h 190 (As := [.int (nI (e + i))]) (q_at hmS hmP hL (t := (e + i)) (by omega)) rfl hmS qL_X7_39 qI_X7_at qS_X7_at qZ_X7 qC_X7_at hd_X7_at ⟨Nat.le_of_ble_eq_true rfl, Nat.le_of_ble_eq_true rfl⟩ (Nat.le_of_ble_eq_true rfl) rfl rfl dX7_die_187 (Nat.le_of_ble_eq_true rfl) (Nat.le_of_ble_eq_true rfl) (fun r33 D33 hq33 => ?_)
                                  rw [hq33.1, hq33.2]
                                  refine V_iload h 192 8 rfl dX7_die_190 rfl ?_
                                  refine V_iald h 193 w (R_sw hL (by omega)) rfl (by omega) (by decide) dX7_die_192 rfl ?_
                                  refine V_top (y := baseF (V (o + 6 + ρ p) (clm w)) s d i) (by rw [eD32, upd2_eq]) ?_
                                  refine V_isub h 194 dX7_die_193 rfl ?_
                                  refine V_istore h 196 [(9, .int (x9 - (baseF (V (o + 6 + ρ p) (clm w)) s d i))), (0, .ref q), (1, .int (nI (ρ p))), (2, .int (nI s)), (3, .int (nI d)), (4, .int (nI hc)), (5, .int (nI (2 * s + d))), (6, .ref (r + 2 + ρ p)), (7, .int (nI e)), (8, .int (nI w)), (10, .int (nI i))] (by decide) rfl dX7_die_194 rfl ?_
                                  refine V_iinc h 199 [(10, .int ((nI i) + 1)), (9, .int (x9 - (baseF (V (o + 6 + ρ p) (clm w)) s d i))), (0, .ref q), (1, .int (nI (ρ p))), (2, .int (nI s)), (3, .int (nI d)), (4, .int (nI hc)), (5, .int (nI (2 * s + d))), (6, .ref (r + 2 + ρ p)), (7, .int (nI e)), (8, .int (nI w))] 10 rfl (by rfl) (by decide) rfl dX7_die_196 rfl ?_
                                  refine V_goto h 138 dX7_die_199 (by decide) ?_
                                  refine V_lsub [(0, .ref q), (1, .int (nI (ρ p))), (2, .int (nI s)), (3, .int (nI d)), (4, .int (nI hc)), (5, .int (nI (2 * s + d))), (6, .ref (r + 2 + ρ p)), (7, .int (nI e)), (8, .int (nI w)), (9, .int (x9 - (baseF (V (o + 6 + ρ p) (clm w)) s d i))), (10, .int ((nI i) + 1))] [2, 3, 4, 5, 6, 7, 8, 9, 10, 1, 0] rfl ?_
                                  refine jh (i + 1) _ _ D32 (by omega) (by rw [lsub, ← e9]) (nI_1 i) (fun z hz => ?_) (fun a j hj => ?_) (by omega)
                                  · by_cases q9 : z = i
                                    · subst q9; rw [eD32, upd2_eq]
                                    · rw [eD32, upd2_na (by omega)]; exact hB z (by omega)
                                  · rcases hj with hj | hj
                                    · rw [eD32, upd2_na (hj i (by omega))]; exact hBo a j (Or.inl hj)
                                    · rw [eD32, upd2_nk hj]; exact hBo a j (Or.inr hj)
                          refine V_lsub [(0, .ref q), (1, .int (nI (ρ p))), (2, .int (nI s)), (3, .int (nI d)), (4, .int (nI hc)), (5, .int (nI (2 * s + d))), (6, .ref (r + 2 + ρ p)), (7, .int (nI e)), (8, .int (nI w)), (9, .int (V (o + 6 + ρ p) (clm w))), (10, .int 0)] [2, 3, 4, 5, 6, 7, 8, 9, 10, 1, 0] rfl ?_
                          exact LP138 _ 0 _ _ Dk (Nat.zero_le _) rfl rfl (fun z hz => absurd hz (Nat.not_lt_zero _)) (fun _ _ _ => rfl) (Nat.lt_succ_self _)
                        · skip
                          refine V_goto h 234 dX7_die_125 (by decide) ?_
                          refine V_iinc h 237 [(8, .int ((nI w) + 1)), (0, .ref q), (1, .int (nI (ρ p))), (2, .int (nI s)), (3, .int (nI d)), (4, .int (nI hc)), (5, .int (nI (2 * s + d))), (6, .ref (r + 2 + ρ p)), (7, .int (nI e))] 8 rfl (by rfl) (by decide) rfl dX7_die_234 rfl ?_
                          refine V_goto h 106 dX7_die_237 (by decide) ?_
                          refine V_lsub [(0, .ref q), (1, .int (nI (ρ p))), (2, .int (nI s)), (3, .int (nI d)), (4, .int (nI hc)), (5, .int (nI (2 * s + d))), (6, .ref (r + 2 + ρ p)), (7, .int (nI e)), (8, .int ((nI w) + 1))] [1, 2, 3, 4, 5, 6, 7, 8, 0] rfl ?_
                          have hw5 := (nI_eq (a := w) (b := 5) (by omega) (by decide)).mp c122
                          exact ih (w + 1) _ Dk (by omega) (nI_1 w) hFk (fun i hi j hj j4 j5 => hA1 i hi j (by omega) j4 j5) (fun i hi j hj => hA2 i hi j (by omega)) (by omega)
                refine V_lsub [(0, .ref q), (1, .int (nI (ρ p))), (2, .int (nI s)), (3, .int (nI d)), (4, .int (nI hc)), (5, .int (nI (2 * s + d))), (6, .ref (r + 2 + (ρ p))), (7, .int (nI e)), (8, .int 0)] [5, 6, 7, 8, 4, 3, 2, 1, 0] rfl ?_
                exact LP106 _ 0 _ D1 (Nat.zero_le _) rfl (fun a _ => rfl) (fun i hi j hj => absurd hj (Nat.not_lt_zero _)) (fun i hi j hj => rfl) (Nat.lt_succ_self _)
              · skip
                refine V_aload_n h 75 1 rfl dX7_die_74 rfl ?_
                refine V_iconst h 76 (v := 3) (by decide) dX7_die_75 rfl ?_
                refine CVI h 79 (As := [.int 3]) (q_no hmS 3) rfl hmS qL_X7_31 qI_X7_no qS_X7_no qZ_X7 qC_X7_no hd_X7_no ⟨Nat.le_of_ble_eq_true rfl, Nat.le_of_ble_eq_true rfl⟩ (Nat.le_of_ble_eq_true rfl) rfl rfl dX7_die_76 (Nat.le_of_ble_eq_true rfl) (Nat.le_of_ble_eq_true rfl) (fun r34 D34 hq34 => ?_)
                obtain ⟨eD34, erD34⟩ := hq34
                rw [erD34]
                exact V_iret h rfl hQ (Nat.le_of_ble_eq_true rfl) (Nat.le_of_ble_eq_true rfl) ⟨Nat.le_refl _, rfl, fun _ _ => rfl, fun _ _ _ => rfl, _, rfl, lo, hL, fun a _ ha => by rw [eD34, eD1, upd2_ra (by omega), upd2_ra (by omega)], rO3 hl_x G2 (fun ⟨z, z1, z2, z3⟩ => c71 (by rw [nI_add] at z1; have z4 : s + d = z := (nI_eq (by omega) (by omega)).mp z1; rw [nI_add]; exact nI_le (b := 10) (by omega) (by decide))) (by rw [eD34, upd2_eq]) (rSim_q hS hm8 hk8 hL.2.2.2.1 hqr (fun a ha => by rw [eD34, eD1, upd2_ra ha, upd2_ra ha]))⟩ dX7_die_79
            · skip
              refine V_aload_n h 49 0 rfl dX7_die_48 rfl ?_
              refine V_iconst h 50 (v := 2) (by decide) dX7_die_49 rfl ?_
              refine CVI h 53 (As := [.int 2]) (q_no hmS 2) rfl hmS qL_X7_31 qI_X7_no qS_X7_no qZ_X7 qC_X7_no hd_X7_no ⟨Nat.le_of_ble_eq_true rfl, Nat.le_of_ble_eq_true rfl⟩ (Nat.le_of_ble_eq_true rfl) rfl rfl dX7_die_50 (Nat.le_of_ble_eq_true rfl) (Nat.le_of_ble_eq_true rfl) (fun r35 D35 hq35 => ?_)
              obtain ⟨eD35, erD35⟩ := hq35
              rw [erD35]
              exact V_iret h rfl hQ (Nat.le_of_ble_eq_true rfl) (Nat.le_of_ble_eq_true rfl) ⟨Nat.le_refl _, rfl, fun _ _ => rfl, fun _ _ _ => rfl, _, rfl, lo, hL, fun a _ ha => by rw [eD35, eD1, upd2_ra (by omega), upd2_ra (by omega)], rO2 hl_x (fun q9 => wI_0 c45 q9.2.2) (by rw [eD35, upd2_eq]) (rSim_q hS hm8 hk8 hL.2.2.2.1 hqr (fun a ha => by rw [eD35, eD1, upd2_ra ha, upd2_ra ha]))⟩ dX7_die_53
  · skip
    have nl_x := lv_n hv_x c10
    refine V_aload_n h 14 0 rfl dX7_die_13 rfl ?_
    refine V_iconst h 15 (v := 1) (by decide) dX7_die_14 rfl ?_
    refine CVI h 18 (As := [.int 1]) (q_no hmS 1) rfl hmS qL_X7_31 qI_X7_no qS_X7_no qZ_X7 qC_X7_no hd_X7_no ⟨Nat.le_of_ble_eq_true rfl, Nat.le_of_ble_eq_true rfl⟩ (Nat.le_of_ble_eq_true rfl) rfl rfl dX7_die_15 (Nat.le_of_ble_eq_true rfl) (Nat.le_of_ble_eq_true rfl) (fun r36 D36 hq36 => ?_)
    obtain ⟨eD36, erD36⟩ := hq36
    rw [erD36]
    exact V_iret h rfl hQ (Nat.le_of_ble_eq_true rfl) (Nat.le_of_ble_eq_true rfl) ⟨Nat.le_refl _, rfl, fun _ _ => rfl, fun _ _ _ => rfl, _, rfl, lo, hL, fun a _ ha => by rw [eD36, eD1, upd2_ra (by omega), upd2_ra (by omega)], rO1 nl_x (by rw [eD36, upd2_eq]) (rSim_q hS hm8 hk8 hL.2.2.2.1 hqr (fun a ha => by rw [eD36, eD1, upd2_ra ha, upd2_ra ha]))⟩ dX7_die_18
