/-- V at o2 is like D at o, as far as it matters -/
def lkV (o o2 L : Nat) (ρ : Nat → Nat) (m k : Nat) (D V : mDt) : Prop := (∀ j, j < 4 → V (o2 + 1) j = D (o + 1) j) ∧ V (o2 + 2) 4 = nI L ∧ V (o2 + 2) 3 = D (o + 2) 3 ∧ (∀ p, p < L → V (o2 + 4) p = nI (ρ p)) ∧ (∀ i, i < 10 → V (o2 + 6 + i) 0 = nI i ∧ ∀ j, 1 ≤ j → j < 15 → V (o2 + 6 + i) j = D (o + 6 + i) j) ∧ V (o2 + 16) 1 = nI m ∧ (∀ z, z < m * 4 → V (o2 + 17) z = D (o + 17) z) ∧ V (o2 + 18) 1 = nI k ∧ (∀ z, z < k * 4 → V (o2 + 19) z = D (o + 19) z) ∧ (∀ j, 4 ≤ j → j < 8 → V o2 j = D o j)
theorem likeX_j (y x : Nat → Int32) {j : Nat} (h : 1 ≤ j) (h2 : j < 15) : likeX y x j = y j := by
  obtain rfl | rfl | rfl | rfl | rfl | rfl | rfl | rfl | rfl | rfl | rfl | rfl | rfl | rfl : j = 1 ∨ j = 2 ∨ j = 3 ∨ j = 4 ∨ j = 5 ∨ j = 6 ∨ j = 7 ∨ j = 8 ∨ j = 9 ∨ j = 10 ∨ j = 11 ∨ j = 12 ∨ j = 13 ∨ j = 14 := by omega
  all_goals rfl
theorem like_lkV {o o2 L : Nat} {ρ : Nat → Nat} {m k : Nat} {D D0 D1 : mDt} (h : likeOk o2 o L ρ m k D D1) (hD : ∀ a, o ≤ a → a < o + 20 → D a = D0 a) (hn : ∀ i, i < 10 → D (o2 + 6 + i) 0 = nI i) : lkV o o2 L ρ m k D0 D1 := by
  obtain ⟨h1, h2, h3, h4, h5, h6, h7, h8, h9, h10, h11⟩ := h
  refine ⟨fun j hj => by rw [h1 j hj, hD _ (by omega) (by omega)], h2, by rw [h3, hD _ (by omega) (by omega)], h4, fun i hi => ⟨?_, fun j hj hj2 => ?_⟩, h6, fun z hz => by rw [h7 z hz, hD _ (by omega) (by omega)], h8, fun z hz => by rw [h9 z hz, hD _ (by omega) (by omega)], fun j hj hj2 => by rw [h10 j hj hj2, hD _ (by omega) (by omega)]⟩
  · rw [h5 i hi]; exact hn i hi
  · rw [h5 i hi, likeX_j _ _ hj hj2, hD _ (by omega) (by omega)]
theorem cI_blk {o L e : Nat} {ρ : Nat → Nat} {m k : Nat} {D D' : mDt} (h : cI o L e ρ m k D) (hD : ∀ a, o ≤ a → a < o + 20 → D' a = D a) : cI o L e ρ m k D' := by
  obtain ⟨h1, h2, h3, h4, h5, h6, h7, h8⟩ := h
  refine ⟨cW_of (hD _ (by omega) (by omega)) (hD _ (by omega) (by omega)) (hD _ (by omega) (by omega)) (hD _ (by omega) (by omega)) (hD _ (by omega) (by omega)) (hD _ (by omega) (by omega)) (fun i hi => by rw [hD _ (by omega) (by omega)]) h1, by rw [hD _ (by omega) (by omega)]; exact h2, h3, h4, h5, h6, fun i hi => ?_, by rw [hD _ (by omega) (by omega)]; exact h8⟩
  rw [hD _ (by omega) (by omega)]
  exact h7 i hi
/-- the first of the lengths tried that brings the most -/
def digB (F : Nat → Int32) (len : Int32) : Nat → Int32 × Int32
  | 0 => (0, -1)
  | i + 1 => if 90 < len + nI i then digB F len i else if F i ≤ (digB F len i).2 then digB F len i else (nI i, F i)
theorem digB_congr {F G : Nat → Int32} {len : Int32} {n : Nat} (h : ∀ i, i < n → F i = G i) : digB F len n = digB G len n := by
  induction n with
  | zero => rfl
  | succ n ih => rw [digB, digB, ih (fun i hi => h i (Nat.lt_succ_of_lt hi)), h n (Nat.lt_succ_self n)]
def digOk (o o2 L : Nat) (ρ : Nat → Nat) (m k : Nat) (x : Int32) (d : Nat) (D : mDt) (F : Nat → Int32) (n : Nat) : Prop := ∀ i, i < n → ¬ 90 < D (o + 1) 1 + nI i → ∃ V, lkV o o2 L ρ m k D V ∧ F i = daysS o2 ρ L x (upd2 V (o2 + 1) 1 (V (o2 + 1) 1 + nI i), m, k) d
theorem digOk_skip {o o2 L : Nat} {ρ : Nat → Nat} {m k : Nat} {x : Int32} {d : Nat} {D : mDt} {F : Nat → Int32} {n : Nat} (h : digOk o o2 L ρ m k x d D F n) (c : 90 < D (o + 1) 1 + nI n) : digOk o o2 L ρ m k x d D F (n + 1) := by
  intro i hi hc
  rcases Nat.lt_succ_iff_lt_or_eq.mp hi with q | rfl
  · exact h i q hc
  · exact absurd c hc
theorem digOk_more {o o2 L : Nat} {ρ : Nat → Nat} {m k : Nat} {x : Int32} {d : Nat} {D V : mDt} {F : Nat → Int32} {n : Nat} {r : Int32} (h : digOk o o2 L ρ m k x d D F n) (hV : lkV o o2 L ρ m k D V) (hr : r = daysS o2 ρ L x (upd2 V (o2 + 1) 1 (V (o2 + 1) 1 + nI n), m, k) d) : digOk o o2 L ρ m k x d D (fun j => if j = n then r else F j) (n + 1) := by
  intro i hi hc
  rcases Nat.lt_succ_iff_lt_or_eq.mp hi with q | rfl
  · obtain ⟨V2, h1, h2⟩ := h i q hc
    exact ⟨V2, h1, by rw [← h2]; exact if_neg (by omega)⟩
  · exact ⟨V, hV, by rw [← hr]; exact if_pos rfl⟩
theorem digB_new {F : Nat → Int32} {len r : Int32} {n : Nat} : digB (fun j => if j = n then r else F j) len n = digB F len n := digB_congr (fun i hi => if_neg (by omega))
theorem days_outD {o L : Nat} {ρ : Nat → Nat} {x : Int32} {m k : Nat} {D : mDt} (h : cW o L ρ m k D) {a : Nat} (ha : a < o ∨ o + 20 ≤ a) (n : Nat) : (daysD o ρ L x (D, m, k) n).1 a = D a := days_out (q := (D, m, k)) h ha n
theorem lk_days {o2 L : Nat} {ρ : Nat → Nat} {m k : Nat} {D : mDt} {j : Nat} {v : Int32} (h : cW o2 L ρ m k D) : cW o2 L ρ m k (upd2 D (o2 + 1) j v) := cW_of (upd2_ra (by omega)) (upd2_ra (by omega)) (upd2_ra (by omega)) (upd2_ra (by omega)) (upd2_ra (by omega)) (upd2_ra (by omega)) (fun i _ => by rw [upd2_ra (by omega)]) h

set_option maxRecDepth 100000 in
set_option maxHeartbeats 4000000 in
theorem c_bestDig {κ : mKp} (hst : κ.1.stackTraces = false) {n : Nat} {sh : mSh} {P : mPt} {D : mDt} {E : mEt} {b o o2 o3 : Nat} (hB : bLay b o o2 o3 sh P) {L e m k : Nat} {ρ : Nat → Nat} (hI : cI o L e ρ m k D) (hN2 : ∀ i, i < 10 → D (o2 + 6 + i) 0 = nI i) (hN3 : ∀ i, i < 10 → D (o3 + 6 + i) 0 = nI i) (x w : Int32) : mXnI κ yX5_bestDig cX5_bestDig 7 (Option.some Jvm.ClassFile.FieldType.int) 7 147 1 6 [.ref b, .int x, .int w] n sh P D E (fun r D' => (wP x 0 99 ∧ wP w 1 35) ∧ ∃ d F, 1 ≤ d ∧ d ≤ 35 ∧ w = nI d ∧ digOk o o2 L ρ m k x d D F 21 ∧ r = (digB F (D (o + 1) 1) 21).1 ∧ (∀ a, (a < o2 ∨ o2 + 20 ≤ a) → D' a = D a) ∧ ∀ i, i < 10 → D' (o2 + 6 + i) 0 = nI i) (fun X => Kx True (wP x 0 99 ∧ wP w 1 35) True X) := by
  refine mXMet_of hst (by decide) (Nat.le_of_ble_eq_true rfl) ?_
  intro Γ Q hQ h hX
  have h : mOk Γ κ RX5 cX5_bestDig 7 (Option.some Jvm.ClassFile.FieldType.int) { frames := 7, cells := 1, slots := 6, locals := 147 } := h
  have hL := hB.2.2.2.2.1
  have hL2 := hB.2.2.2.2.2.1
  have hL3 := hB.2.2.2.2.2.2.1
  show mV Γ Q 0 0 n sh P D E [(0, .ref b), (1, .int x), (2, .int w)] [] 0
  refine V_iload_n h 1 1 rfl dX5_bestDig_0 rfl ?_
  refine V_iconst h 2 (v := 0) (by decide) dX5_bestDig_1 rfl ?_
  refine V_bipush h 4 (v := 99) (by decide) dX5_bestDig_2 rfl ?_
  refine CSI h 7 (As := [.int x, .int 0, .int 99]) (c_isWithin x 0 99) qL_X5_22 qT_X5_isWithin qZ_X5 qC_X5_isWithin hd_X5_isWithin ⟨Nat.le_of_ble_eq_true rfl, Nat.le_of_ble_eq_true rfl⟩ (Nat.le_of_ble_eq_true rfl) rfl rfl dX5_bestDig_4 (Nat.le_of_ble_eq_true rfl) (Nat.le_of_ble_eq_true rfl) (fun r1 D1 hq1 => ?_)
  rw [hq1.1, hq1.2]
  refine V_if_eq h 24 10 dX5_bestDig_7 (by decide) rfl (fun c7 => ?_) (fun c7 => ?_)
  · skip
    refine V_iconst h 25 (v := 0) (by decide) dX5_bestDig_24 rfl ?_
    refine XSV h hX hQ 1 6 28 (As := [.int 0]) (c_mustRight hst 0) qL_X5_26 qT_X5_mustBeRight qZ_X5 qC_X5_mustBeRight hd_X5_mustBeRight ⟨Nat.le_of_ble_eq_true rfl, Nat.le_of_ble_eq_true rfl⟩ (Nat.le_of_ble_eq_true rfl) rfl rfl dX5_bestDig_25 ⟨Nat.le_of_ble_eq_true rfl, Nat.le_of_ble_eq_true rfl⟩ ⟨Nat.le_of_ble_eq_true rfl, Nat.le_of_ble_eq_true rfl⟩ rfl rfl (fun X9 hk => ⟨kA hk.1 trivial (fun q => wI_0 c7 q.1), rfl⟩) (fun D2 hq2 => ?_)
    exact absurd rfl hq2.2
  · skip
    refine V_iload_n h 11 2 rfl dX5_bestDig_10 rfl ?_
    refine V_iconst h 12 (v := 1) (by decide) dX5_bestDig_11 rfl ?_
    refine V_bipush h 14 (v := 35) (by decide) dX5_bestDig_12 rfl ?_
    refine CSI h 17 (As := [.int w, .int 1, .int 35]) (c_isWithin w 1 35) qL_X5_22 qT_X5_isWithin qZ_X5 qC_X5_isWithin hd_X5_isWithin ⟨Nat.le_of_ble_eq_true rfl, Nat.le_of_ble_eq_true rfl⟩ (Nat.le_of_ble_eq_true rfl) rfl rfl dX5_bestDig_14 (Nat.le_of_ble_eq_true rfl) (Nat.le_of_ble_eq_true rfl) (fun r3 D3 hq3 => ?_)
    rw [hq3.1, hq3.2]
    refine V_if_eq h 24 20 dX5_bestDig_17 (by decide) rfl (fun c17 => ?_) (fun c17 => ?_)
    · skip
      refine V_iconst h 25 (v := 0) (by decide) dX5_bestDig_24 rfl ?_
      refine XSV h hX hQ 1 6 28 (As := [.int 0]) (c_mustRight hst 0) qL_X5_26 qT_X5_mustBeRight qZ_X5 qC_X5_mustBeRight hd_X5_mustBeRight ⟨Nat.le_of_ble_eq_true rfl, Nat.le_of_ble_eq_true rfl⟩ (Nat.le_of_ble_eq_true rfl) rfl rfl dX5_bestDig_25 ⟨Nat.le_of_ble_eq_true rfl, Nat.le_of_ble_eq_true rfl⟩ ⟨Nat.le_of_ble_eq_true rfl, Nat.le_of_ble_eq_true rfl⟩ rfl rfl (fun X9 hk => ⟨kA hk.1 trivial (fun q => wI_0 c17 q.2), rfl⟩) (fun D4 hq4 => ?_)
      exact absurd rfl hq4.2
    · skip
      refine V_iconst h 21 (v := 1) (by decide) dX5_bestDig_20 rfl ?_
      refine V_goto h 25 dX5_bestDig_21 (by decide) ?_
      refine XSV h hX hQ 1 6 28 (As := [.int 1]) (c_mustRight hst 1) qL_X5_26 qT_X5_mustBeRight qZ_X5 qC_X5_mustBeRight hd_X5_mustBeRight ⟨Nat.le_of_ble_eq_true rfl, Nat.le_of_ble_eq_true rfl⟩ (Nat.le_of_ble_eq_true rfl) rfl rfl dX5_bestDig_25 ⟨Nat.le_of_ble_eq_true rfl, Nat.le_of_ble_eq_true rfl⟩ ⟨Nat.le_of_ble_eq_true rfl, Nat.le_of_ble_eq_true rfl⟩ rfl rfl (fun X9 hk => (absurd hk.2 (by decide))) (fun D5 hq5 => ?_)
      rw [hq5.1]
      obtain ⟨d, hd1, hd, ed⟩ := wP_N (a := 1) (b := 35) (wI_1 c17) (by decide) (by decide)
      subst ed
      have hdis := hB.2.2.2.2.2.2.2
      refine V_iconst h 29 (v := 0) (by decide) dX5_bestDig_28 rfl ?_
      refine V_istore_n h 30 [(3, .int 0), (0, .ref b), (1, .int x), (2, .int (nI d))] (by decide) rfl dX5_bestDig_29 rfl ?_
      refine V_iconst h 31 (v := (-1)) (by decide) dX5_bestDig_30 rfl ?_
      refine V_istore h 33 [(4, .int (-1)), (3, .int 0), (0, .ref b), (1, .int x), (2, .int (nI d))] (by decide) rfl dX5_bestDig_31 rfl ?_
      refine V_iconst h 34 (v := 0) (by decide) dX5_bestDig_33 rfl ?_
      refine V_istore h 36 [(5, .int 0), (4, .int (-1)), (3, .int 0), (0, .ref b), (1, .int x), (2, .int (nI d))] (by decide) rfl dX5_bestDig_34 rfl ?_
      have LP36 : ∀ (kk : Nat) (i : Nat) (F : Nat → Int32) (x3 x4 x5 : Int32) (Dk : mDt), (i ≤ 21) → (∀ a, (a < o2 ∨ o2 + 20 ≤ a) → Dk a = D a) → (∀ i, i < 10 → Dk (o2 + 6 + i) 0 = nI i) → (digOk o o2 L ρ m k x d D F i) → (x3 = (digB F (D (o + 1) 1) i).1) → (x4 = (digB F (D (o + 1) 1) i).2) → (x5 = nI i) → 21 - i < kk → mV Γ Q 1 6 n sh P Dk E [(0, .ref b), (1, .int x), (2, .int (nI d)), (3, .int x3), (4, .int x4), (5, .int x5)] [] 36 := by
        intro kk
        induction kk with
        | zero =>
          intro i F x3 x4 x5 Dk _ _ _ _ _ _ _ hms
          exact absurd hms (Nat.not_lt_zero _)
        | succ kk ih =>
          intro i F x3 x4 x5 Dk hi hF hn hO e3 e4 e5 hms
          subst e5
          refine V_iload h 38 5 rfl dX5_bestDig_36 rfl ?_
          refine V_bipush h 40 (v := 20) (by decide) dX5_bestDig_38 rfl ?_
          refine V_icmp_gt h 120 43 dX5_bestDig_40 (by decide) rfl (fun c40 => ?_) (fun c40 => ?_)
          · skip
            have hex : i = 21 := by have := (nI_ltI (a := 20) (b := i) (by decide) (by omega)).mp c40; omega
            subst hex
            refine V_iload_n h 121 3 rfl dX5_bestDig_120 rfl ?_
            exact X_iret h rfl hQ (Nat.le_of_ble_eq_true rfl) (Nat.le_of_ble_eq_true rfl) ⟨rfl, rfl, rfl, rfl, _, rfl, ⟨⟨wI_1 c7, wI_1 c17⟩, d, F, hd1, hd, rfl, hO, e3, hF, hn⟩⟩ dX5_bestDig_121
          · skip
            have hlt : i < 21 := by have := (nI_leI (a := i) (b := 20) (by omega) (by decide)).mp (Int32.not_lt.mp c40); omega
            refine V_aload_n h 44 0 rfl dX5_bestDig_43 rfl ?_
            refine g_X5_10 h 47 (b := o) hB.1 hB.2.1 dX5_bestDig_44 rfl ?_
            refine gN_X5_97 h 50 (b := o + 1) (L_s0 hL) (L_p0 hL) dX5_bestDig_47 rfl ?_
            refine gN_X5_101 h 53 (L_s1 hL) dX5_bestDig_50 rfl ?_
            refine V_top (y := D (o + 1) 1) (by rw [hF _ (by omega)]) ?_
            refine V_iload h 55 5 rfl dX5_bestDig_53 rfl ?_
            refine V_iadd h 56 dX5_bestDig_55 rfl ?_
            refine V_bipush h 58 (v := 90) (by decide) dX5_bestDig_56 rfl ?_
            refine V_icmp_gt h 114 61 dX5_bestDig_58 (by decide) rfl (fun c58 => ?_) (fun c58 => ?_)
            · skip
              refine V_iinc h 117 [(5, .int ((nI i) + 1)), (0, .ref b), (1, .int x), (2, .int (nI d)), (3, .int x3), (4, .int x4)] 5 rfl (by rfl) (by decide) rfl dX5_bestDig_114 rfl ?_
              refine V_goto h 36 dX5_bestDig_117 (by decide) ?_
              refine V_lsub [(0, .ref b), (1, .int x), (2, .int (nI d)), (3, .int x3), (4, .int x4), (5, .int ((nI i) + 1))] [1, 2, 3, 4, 5, 0] rfl ?_
              exact ih (i + 1) F _ _ _ Dk (by omega) hF hn (digOk_skip hO c58) (by rw [e3, digB, if_pos c58]) (by rw [e4, digB, if_pos c58]) (nI_1 i) (by omega)
            · skip
              refine V_aload_n h 62 0 rfl dX5_bestDig_61 rfl ?_
              refine g_X5_16 h 65 (b := o2) hB.1 hB.2.2.1 dX5_bestDig_62 rfl ?_
              refine V_aload_n h 66 0 rfl dX5_bestDig_65 rfl ?_
              refine g_X5_10 h 69 (b := o) hB.1 hB.2.1 dX5_bestDig_66 rfl ?_
              refine CVV h 72 (As := [.ref o]) (c_oasisLike hL2 hL (by omega) (cI_blk hI (fun a h1 h2 => hF a (by omega))).1 (cI_lv (cI_blk hI (fun a h1 h2 => hF a (by omega))))) rfl (L_s0 hL2) qL_X5_179 qI_X2_becomeLike qS_X2_becomeLike qZ_X2 qC_X2_becomeLike hd_X2_becomeLike ⟨Nat.le_of_ble_eq_true rfl, Nat.le_of_ble_eq_true rfl⟩ (Nat.le_of_ble_eq_true rfl) rfl rfl dX5_bestDig_69 (Nat.le_of_ble_eq_true rfl) (Nat.le_of_ble_eq_true rfl) (fun D6 hq6 => ?_)
              refine V_aload_n h 73 0 rfl dX5_bestDig_72 rfl ?_
              refine g_X5_16 h 76 (b := o2) hB.1 hB.2.2.1 dX5_bestDig_73 rfl ?_
              refine gN_X5_97 h 79 (b := o2 + 1) (L_s0 hL2) (L_p0 hL2) dX5_bestDig_76 rfl ?_
              refine V_dup h 80 rfl dX5_bestDig_79 rfl ?_
              refine gN_X5_101 h 83 (L_s1 hL2) dX5_bestDig_80 rfl ?_
              refine V_iload h 85 5 rfl dX5_bestDig_83 rfl ?_
              refine V_iadd h 86 dX5_bestDig_85 rfl ?_
              refine pN_X5_101 h 89 (L_s1 hL2) dX5_bestDig_86 rfl ?_
              obtain ⟨D7, eD7⟩ : ∃ zz, zz = upd2 D6 (o2 + 1) 1 ((D6 (o2 + 1) 1) + (nI i)) := ⟨_, rfl⟩
              rw [← eD7]
              refine V_aload_n h 90 0 rfl dX5_bestDig_89 rfl ?_
              refine g_X5_16 h 93 (b := o2) hB.1 hB.2.2.1 dX5_bestDig_90 rfl ?_
              refine V_iload_n h 94 1 rfl dX5_bestDig_93 rfl ?_
              refine V_iload_n h 95 2 rfl dX5_bestDig_94 rfl ?_
              have hW2 : cW o2 L ρ m k D7 := by rw [eD7]; exact lk_days (like_cW hq6 (cI_blk hI (fun a h1 h2 => hF a (by omega))).1 hn)
              refine CVI h 98 (As := [.int x, .int (nI d)]) (c_days hL2 hW2 (d := d) (by omega) x) rfl (L_s0 hL2) qL_X5_142 qI_X2_letDaysGoBy qS_X2_letDaysGoBy qZ_X2 qC_X2_letDaysGoBy hd_X2_letDaysGoBy ⟨Nat.le_of_ble_eq_true rfl, Nat.le_of_ble_eq_true rfl⟩ (Nat.le_of_ble_eq_true rfl) rfl rfl dX5_bestDig_95 (Nat.le_of_ble_eq_true rfl) (Nat.le_of_ble_eq_true rfl) (fun r8 D8 hq8 => ?_)
              refine V_istore h 100 [(6, .int r8), (0, .ref b), (1, .int x), (2, .int (nI d)), (3, .int x3), (4, .int x4), (5, .int (nI i))] (by decide) rfl dX5_bestDig_98 rfl ?_
              refine V_iload h 102 0 rfl dX5_bestDig_100 rfl ?_
              refine V_iload h 104 5 rfl dX5_bestDig_102 rfl ?_
              refine V_icmp_le h 114 107 dX5_bestDig_104 (by decide) rfl (fun c104 => ?_) (fun c104 => ?_)
              · skip
                refine V_iinc h 117 [(5, .int ((nI i) + 1)), (6, .int r8), (0, .ref b), (1, .int x), (2, .int (nI d)), (3, .int x3), (4, .int x4)] 6 rfl (by rfl) (by decide) rfl dX5_bestDig_114 rfl ?_
                refine V_goto h 36 dX5_bestDig_117 (by decide) ?_
                refine V_lsub [(0, .ref b), (1, .int x), (2, .int (nI d)), (3, .int x3), (4, .int x4), (5, .int ((nI i) + 1))] [2, 3, 4, 5, 6, 0] rfl ?_
                have hV := like_lkV hq6 (fun a ha1 ha2 => hF a (by omega)) hn
                have hO2 := digOk_more hO hV (show r8 = _ from by rw [hq8.2, eD7])
                have hF2 : ∀ a, (a < o2 ∨ o2 + 20 ≤ a) → D8 a = D a := fun a ha => by rw [hq8.1, days_outD (D := D7) hW2 ha, eD7, upd2_ra (by omega), hq6.2.2.2.2.2.2.2.2.2.2 a ha]; exact hF a ha
                have hn2 : ∀ i, i < 10 → D8 (o2 + 6 + i) 0 = nI i := by rw [hq8.1]; exact (cW_days (q := (D7, m, k)) hW2 d).2.1
                exact ih (i + 1) _ _ _ _ D8 (by omega) hF2 hn2 hO2 (by rw [digB, if_neg c58, digB_new, if_pos (by rw [if_pos rfl, ← e4]; exact c104)]; exact e3) (by rw [digB, if_neg c58, digB_new, if_pos (by rw [if_pos rfl, ← e4]; exact c104)]; exact e4) (nI_1 i) (by omega)
              · skip
                refine V_iload h 109 0 rfl dX5_bestDig_107 rfl ?_
                refine V_istore h 111 [(4, .int r8), (6, .int r8), (0, .ref b), (1, .int x), (2, .int (nI d)), (3, .int x3), (5, .int (nI i))] (by decide) rfl dX5_bestDig_109 rfl ?_
                refine V_iload h 113 6 rfl dX5_bestDig_111 rfl ?_
                refine V_istore_n h 114 [(3, .int (nI i)), (4, .int r8), (6, .int r8), (0, .ref b), (1, .int x), (2, .int (nI d)), (5, .int (nI i))] (by decide) rfl dX5_bestDig_113 rfl ?_
                refine V_iinc h 117 [(5, .int ((nI i) + 1)), (3, .int (nI i)), (4, .int r8), (6, .int r8), (0, .ref b), (1, .int x), (2, .int (nI d))] 6 rfl (by rfl) (by decide) rfl dX5_bestDig_114 rfl ?_
                refine V_goto h 36 dX5_bestDig_117 (by decide) ?_
                refine V_lsub [(0, .ref b), (1, .int x), (2, .int (nI d)), (3, .int (nI i)), (4, .int r8), (5, .int ((nI i) + 1))] [4, 5, 6, 1, 2, 0] rfl ?_
                have hV := like_lkV hq6 (fun a ha1 ha2 => hF a (by omega)) hn
                have hO2 := digOk_more hO hV (show r8 = _ from by rw [hq8.2, eD7])
                have hF2 : ∀ a, (a < o2 ∨ o2 + 20 ≤ a) → D8 a = D a := fun a ha => by rw [hq8.1, days_outD (D := D7) hW2 ha, eD7, upd2_ra (by omega), hq6.2.2.2.2.2.2.2.2.2.2 a ha]; exact hF a ha
                have hn2 : ∀ i, i < 10 → D8 (o2 + 6 + i) 0 = nI i := by rw [hq8.1]; exact (cW_days (q := (D7, m, k)) hW2 d).2.1
                exact ih (i + 1) _ _ _ _ D8 (by omega) hF2 hn2 hO2 (by rw [digB, if_neg c58, digB_new, if_neg (by rw [if_pos rfl, ← e4]; exact c104)]) (by rw [digB, if_neg c58, digB_new, if_neg (by rw [if_pos rfl, ← e4]; exact c104)]; exact (if_pos rfl).symm) (nI_1 i) (by omega)
      refine V_lsub [(0, .ref b), (1, .int x), (2, .int (nI d)), (3, .int 0), (4, .int (-1)), (5, .int 0)] [3, 4, 5, 2, 1, 0] rfl ?_
      exact LP36 _ 0 (fun _ => 0) _ _ _ _ (Nat.zero_le _) (fun a _ => rfl) hN2 (fun i hi => absurd hi (Nat.not_lt_zero _)) rfl rfl rfl (Nat.lt_succ_self _)

set_option maxRecDepth 100000 in
set_option maxHeartbeats 4000000 in
theorem c_pumpTakes {κ : mKp} (hst : κ.1.stackTraces = false) {n : Nat} {sh : mSh} {P : mPt} {D : mDt} {E : mEt} {b o o2 o3 : Nat} (hB : bLay b o o2 o3 sh P) {L e m k : Nat} {ρ : Nat → Nat} (hI : cI o L e ρ m k D) (hN2 : ∀ i, i < 10 → D (o2 + 6 + i) 0 = nI i) (hN3 : ∀ i, i < 10 → D (o3 + 6 + i) 0 = nI i) (z x w : Int32) : mXnI κ yX5_pumpTakes cX5_pumpTakes 5 (Option.some Jvm.ClassFile.FieldType.int) 7 147 1 6 [.ref b, .int z, .int x, .int w] n sh P D E (fun r D' => (wP z 0 20 ∧ wP x 0 99 ∧ wP w 1 70) ∧ ∃ d V1 V2, 1 ≤ d ∧ d ≤ 70 ∧ w = nI d ∧ lkV o o2 L ρ m k D V1 ∧ lkV o o2 L ρ m k D V2 ∧ r = daysS o2 ρ L x (V1, m, k) d - daysS o2 ρ L x (upd2 V2 (o2 + 1) 3 z, m, k) d ∧ (∀ a, (a < o2 ∨ o2 + 20 ≤ a) → D' a = D a) ∧ ∀ i, i < 10 → D' (o2 + 6 + i) 0 = nI i) (fun X => Kx True (wP z 0 20 ∧ wP x 0 99 ∧ wP w 1 70) True X) := by
  refine mXMet_of hst (by decide) (Nat.le_of_ble_eq_true rfl) ?_
  intro Γ Q hQ h hX
  have h : mOk Γ κ RX5 cX5_pumpTakes 5 (Option.some Jvm.ClassFile.FieldType.int) { frames := 7, cells := 1, slots := 6, locals := 147 } := h
  have hL := hB.2.2.2.2.1
  have hL2 := hB.2.2.2.2.2.1
  have hL3 := hB.2.2.2.2.2.2.1
  show mV Γ Q 0 0 n sh P D E [(0, .ref b), (1, .int z), (2, .int x), (3, .int w)] [] 0
  refine V_iload_n h 1 1 rfl dX5_pumpTakes_0 rfl ?_
  refine V_iconst h 2 (v := 0) (by decide) dX5_pumpTakes_1 rfl ?_
  refine V_bipush h 4 (v := 20) (by decide) dX5_pumpTakes_2 rfl ?_
  refine CSI h 7 (As := [.int z, .int 0, .int 20]) (c_isWithin z 0 20) qL_X5_22 qT_X5_isWithin qZ_X5 qC_X5_isWithin hd_X5_isWithin ⟨Nat.le_of_ble_eq_true rfl, Nat.le_of_ble_eq_true rfl⟩ (Nat.le_of_ble_eq_true rfl) rfl rfl dX5_pumpTakes_4 (Nat.le_of_ble_eq_true rfl) (Nat.le_of_ble_eq_true rfl) (fun r1 D1 hq1 => ?_)
  rw [hq1.1, hq1.2]
  refine V_if_eq h 34 10 dX5_pumpTakes_7 (by decide) rfl (fun c7 => ?_) (fun c7 => ?_)
  · skip
    refine V_iconst h 35 (v := 0) (by decide) dX5_pumpTakes_34 rfl ?_
    refine XSV h hX hQ 1 6 38 (As := [.int 0]) (c_mustRight hst 0) qL_X5_26 qT_X5_mustBeRight qZ_X5 qC_X5_mustBeRight hd_X5_mustBeRight ⟨Nat.le_of_ble_eq_true rfl, Nat.le_of_ble_eq_true rfl⟩ (Nat.le_of_ble_eq_true rfl) rfl rfl dX5_pumpTakes_35 ⟨Nat.le_of_ble_eq_true rfl, Nat.le_of_ble_eq_true rfl⟩ ⟨Nat.le_of_ble_eq_true rfl, Nat.le_of_ble_eq_true rfl⟩ rfl rfl (fun X9 hk => ⟨kA hk.1 trivial (fun q => wI_0 c7 q.1), rfl⟩) (fun D2 hq2 => ?_)
    exact absurd rfl hq2.2
  · skip
    refine V_iload_n h 11 2 rfl dX5_pumpTakes_10 rfl ?_
    refine V_iconst h 12 (v := 0) (by decide) dX5_pumpTakes_11 rfl ?_
    refine V_bipush h 14 (v := 99) (by decide) dX5_pumpTakes_12 rfl ?_
    refine CSI h 17 (As := [.int x, .int 0, .int 99]) (c_isWithin x 0 99) qL_X5_22 qT_X5_isWithin qZ_X5 qC_X5_isWithin hd_X5_isWithin ⟨Nat.le_of_ble_eq_true rfl, Nat.le_of_ble_eq_true rfl⟩ (Nat.le_of_ble_eq_true rfl) rfl rfl dX5_pumpTakes_14 (Nat.le_of_ble_eq_true rfl) (Nat.le_of_ble_eq_true rfl) (fun r3 D3 hq3 => ?_)
    rw [hq3.1, hq3.2]
    refine V_if_eq h 34 20 dX5_pumpTakes_17 (by decide) rfl (fun c17 => ?_) (fun c17 => ?_)
    · skip
      refine V_iconst h 35 (v := 0) (by decide) dX5_pumpTakes_34 rfl ?_
      refine XSV h hX hQ 1 6 38 (As := [.int 0]) (c_mustRight hst 0) qL_X5_26 qT_X5_mustBeRight qZ_X5 qC_X5_mustBeRight hd_X5_mustBeRight ⟨Nat.le_of_ble_eq_true rfl, Nat.le_of_ble_eq_true rfl⟩ (Nat.le_of_ble_eq_true rfl) rfl rfl dX5_pumpTakes_35 ⟨Nat.le_of_ble_eq_true rfl, Nat.le_of_ble_eq_true rfl⟩ ⟨Nat.le_of_ble_eq_true rfl, Nat.le_of_ble_eq_true rfl⟩ rfl rfl (fun X9 hk => ⟨kA hk.1 trivial (fun q => wI_0 c17 q.2.1), rfl⟩) (fun D4 hq4 => ?_)
      exact absurd rfl hq4.2
    · skip
      refine V_iload_n h 21 3 rfl dX5_pumpTakes_20 rfl ?_
      refine V_iconst h 22 (v := 1) (by decide) dX5_pumpTakes_21 rfl ?_
      refine V_bipush h 24 (v := 70) (by decide) dX5_pumpTakes_22 rfl ?_
      refine CSI h 27 (As := [.int w, .int 1, .int 70]) (c_isWithin w 1 70) qL_X5_22 qT_X5_isWithin qZ_X5 qC_X5_isWithin hd_X5_isWithin ⟨Nat.le_of_ble_eq_true rfl, Nat.le_of_ble_eq_true rfl⟩ (Nat.le_of_ble_eq_true rfl) rfl rfl dX5_pumpTakes_24 (Nat.le_of_ble_eq_true rfl) (Nat.le_of_ble_eq_true rfl) (fun r5 D5 hq5 => ?_)
      rw [hq5.1, hq5.2]
      refine V_if_eq h 34 30 dX5_pumpTakes_27 (by decide) rfl (fun c27 => ?_) (fun c27 => ?_)
      · skip
        refine V_iconst h 35 (v := 0) (by decide) dX5_pumpTakes_34 rfl ?_
        refine XSV h hX hQ 1 6 38 (As := [.int 0]) (c_mustRight hst 0) qL_X5_26 qT_X5_mustBeRight qZ_X5 qC_X5_mustBeRight hd_X5_mustBeRight ⟨Nat.le_of_ble_eq_true rfl, Nat.le_of_ble_eq_true rfl⟩ (Nat.le_of_ble_eq_true rfl) rfl rfl dX5_pumpTakes_35 ⟨Nat.le_of_ble_eq_true rfl, Nat.le_of_ble_eq_true rfl⟩ ⟨Nat.le_of_ble_eq_true rfl, Nat.le_of_ble_eq_true rfl⟩ rfl rfl (fun X9 hk => ⟨kA hk.1 trivial (fun q => wI_0 c27 q.2.2), rfl⟩) (fun D6 hq6 => ?_)
        exact absurd rfl hq6.2
      · skip
        refine V_iconst h 31 (v := 1) (by decide) dX5_pumpTakes_30 rfl ?_
        refine V_goto h 35 dX5_pumpTakes_31 (by decide) ?_
        refine XSV h hX hQ 1 6 38 (As := [.int 1]) (c_mustRight hst 1) qL_X5_26 qT_X5_mustBeRight qZ_X5 qC_X5_mustBeRight hd_X5_mustBeRight ⟨Nat.le_of_ble_eq_true rfl, Nat.le_of_ble_eq_true rfl⟩ (Nat.le_of_ble_eq_true rfl) rfl rfl dX5_pumpTakes_35 ⟨Nat.le_of_ble_eq_true rfl, Nat.le_of_ble_eq_true rfl⟩ ⟨Nat.le_of_ble_eq_true rfl, Nat.le_of_ble_eq_true rfl⟩ rfl rfl (fun X9 hk => (absurd hk.2 (by decide))) (fun D7 hq7 => ?_)
        rw [hq7.1]
        obtain ⟨d, hd1, hd, ed⟩ := wP_N (a := 1) (b := 70) (wI_1 c27) (by decide) (by decide)
        subst ed
        have hdis := hB.2.2.2.2.2.2.2
        refine V_aload_n h 39 0 rfl dX5_pumpTakes_38 rfl ?_
        refine g_X5_16 h 42 (b := o2) hB.1 hB.2.2.1 dX5_pumpTakes_39 rfl ?_
        refine V_aload_n h 43 0 rfl dX5_pumpTakes_42 rfl ?_
        refine g_X5_10 h 46 (b := o) hB.1 hB.2.1 dX5_pumpTakes_43 rfl ?_
        refine CVV h 49 (As := [.ref o]) (c_oasisLike hL2 hL (by omega) hI.1 (cI_lv hI)) rfl (L_s0 hL2) qL_X5_179 qI_X2_becomeLike qS_X2_becomeLike qZ_X2 qC_X2_becomeLike hd_X2_becomeLike ⟨Nat.le_of_ble_eq_true rfl, Nat.le_of_ble_eq_true rfl⟩ (Nat.le_of_ble_eq_true rfl) rfl rfl dX5_pumpTakes_46 (Nat.le_of_ble_eq_true rfl) (Nat.le_of_ble_eq_true rfl) (fun D8 hq8 => ?_)
        have hV1 := like_lkV hq8 (fun a _ _ => rfl) hN2
        refine V_aload_n h 50 0 rfl dX5_pumpTakes_49 rfl ?_
        refine g_X5_16 h 53 (b := o2) hB.1 hB.2.2.1 dX5_pumpTakes_50 rfl ?_
        refine V_iload_n h 54 2 rfl dX5_pumpTakes_53 rfl ?_
        refine V_iload_n h 55 3 rfl dX5_pumpTakes_54 rfl ?_
        refine CVI h 58 (As := [.int x, .int (nI d)]) (c_days hL2 (like_cW hq8 hI.1 hN2) (d := d) (by omega) x) rfl (L_s0 hL2) qL_X5_142 qI_X2_letDaysGoBy qS_X2_letDaysGoBy qZ_X2 qC_X2_letDaysGoBy hd_X2_letDaysGoBy ⟨Nat.le_of_ble_eq_true rfl, Nat.le_of_ble_eq_true rfl⟩ (Nat.le_of_ble_eq_true rfl) rfl rfl dX5_pumpTakes_55 (Nat.le_of_ble_eq_true rfl) (Nat.le_of_ble_eq_true rfl) (fun r9 D9 hq9 => ?_)
        refine V_istore h 60 [(4, .int r9), (0, .ref b), (1, .int z), (2, .int x), (3, .int (nI d))] (by decide) rfl dX5_pumpTakes_58 rfl ?_
        refine V_aload_n h 61 1 rfl dX5_pumpTakes_60 rfl ?_
        refine g_X5_16 h 64 (b := o2) hB.1 hB.2.2.1 dX5_pumpTakes_61 rfl ?_
        refine V_aload_n h 65 1 rfl dX5_pumpTakes_64 rfl ?_
        refine g_X5_10 h 68 (b := o) hB.1 hB.2.1 dX5_pumpTakes_65 rfl ?_
        have hF : ∀ a, (a < o2 ∨ o2 + 20 ≤ a) → D9 a = D a := fun a ha => by rw [hq9.1, days_outD (D := D8) (like_cW hq8 hI.1 hN2) ha, hq8.2.2.2.2.2.2.2.2.2.2 a ha]
        have hn : ∀ i, i < 10 → D9 (o2 + 6 + i) 0 = nI i := by rw [hq9.1]; exact (cW_days (q := (D8, m, k)) (like_cW hq8 hI.1 hN2) d).2.1
        refine CVV h 71 (As := [.ref o]) (c_oasisLike hL2 hL (by omega) (cI_blk hI (fun a h1 h2 => hF a (by omega))).1 (cI_lv (cI_blk hI (fun a h1 h2 => hF a (by omega))))) rfl (L_s0 hL2) qL_X5_179 qI_X2_becomeLike qS_X2_becomeLike qZ_X2 qC_X2_becomeLike hd_X2_becomeLike ⟨Nat.le_of_ble_eq_true rfl, Nat.le_of_ble_eq_true rfl⟩ (Nat.le_of_ble_eq_true rfl) rfl rfl dX5_pumpTakes_68 (Nat.le_of_ble_eq_true rfl) (Nat.le_of_ble_eq_true rfl) (fun D10 hq10 => ?_)
        have hV2 := like_lkV hq10 (fun a h1 h2 => hF a (by omega)) hn
        refine V_aload_n h 72 1 rfl dX5_pumpTakes_71 rfl ?_
        refine g_X5_16 h 75 (b := o2) hB.1 hB.2.2.1 dX5_pumpTakes_72 rfl ?_
        refine gN_X5_97 h 78 (b := o2 + 1) (L_s0 hL2) (L_p0 hL2) dX5_pumpTakes_75 rfl ?_
        refine V_iload_n h 79 2 rfl dX5_pumpTakes_78 rfl ?_
        refine pN_X5_118 h 82 (L_s1 hL2) dX5_pumpTakes_79 rfl ?_
        obtain ⟨D11, eD11⟩ : ∃ zz, zz = upd2 D10 (o2 + 1) 3 z := ⟨_, rfl⟩
        rw [← eD11]
        refine V_iload h 84 0 rfl dX5_pumpTakes_82 rfl ?_
        refine V_aload_n h 85 1 rfl dX5_pumpTakes_84 rfl ?_
        refine g_X5_16 h 88 (b := o2) hB.1 hB.2.2.1 dX5_pumpTakes_85 rfl ?_
        refine V_iload_n h 89 3 rfl dX5_pumpTakes_88 rfl ?_
        refine V_iload_n h 90 4 rfl dX5_pumpTakes_89 rfl ?_
        have hW2 : cW o2 L ρ m k D11 := by rw [eD11]; exact lk_days (like_cW hq10 (cI_blk hI (fun a h1 h2 => hF a (by omega))).1 hn)
        refine CVI h 93 (As := [.int x, .int (nI d)]) (c_days hL2 hW2 (d := d) (by omega) x) rfl (L_s0 hL2) qL_X5_142 qI_X2_letDaysGoBy qS_X2_letDaysGoBy qZ_X2 qC_X2_letDaysGoBy hd_X2_letDaysGoBy ⟨Nat.le_of_ble_eq_true rfl, Nat.le_of_ble_eq_true rfl⟩ (Nat.le_of_ble_eq_true rfl) rfl rfl dX5_pumpTakes_90 (Nat.le_of_ble_eq_true rfl) (Nat.le_of_ble_eq_true rfl) (fun r12 D12 hq12 => ?_)
        refine V_isub h 94 dX5_pumpTakes_93 rfl ?_
        exact X_iret h rfl hQ (Nat.le_of_ble_eq_true rfl) (Nat.le_of_ble_eq_true rfl) ⟨rfl, rfl, rfl, rfl, _, rfl, ⟨⟨wI_1 c7, wI_1 c17, wI_1 c27⟩, d, D8, D10, hd1, hd, rfl, hV1, hV2, by rw [hq9.2, hq12.2, eD11], fun a ha => by rw [hq12.1, days_outD (D := D11) hW2 ha, eD11, upd2_ra (by omega), hq10.2.2.2.2.2.2.2.2.2.2 a ha]; exact hF a ha, by rw [hq12.1]; exact (cW_days (q := (D11, m, k)) hW2 d).2.1⟩⟩ dX5_pumpTakes_94
