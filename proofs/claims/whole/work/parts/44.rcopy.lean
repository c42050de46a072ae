/-- D' at n holds a copy of what D holds at r (but the three sums, which begin at 0) -/
def rCp (e m k r : Nat) (lo : Nat → Nat) (n : Nat) (D D' : mDt) : Prop := (∀ t, t < e → ∀ j, j < 12 → D' (n + 2 + t) j = D (r + 2 + t) j) ∧ (∀ t, e ≤ t → t < 10 → ∀ j, D' (n + 2 + t) j = 0) ∧ (∀ p, p < 10 → D' (n + 12) p = D (r + 12) p) ∧ (∀ i, i < m → ∀ j, j < 4 → D' (n + 14 + i) j = D (r + 14 + lo i) j) ∧ (∀ i, i < k → ∀ j, j < 3 → D' (n + 23 + i) j = D (r + 23 + i) j) ∧ (∀ j, 5 ≤ j → j < 14 → D' n j = D r j) ∧ D' n 14 = 0 ∧ D' n 15 = 0 ∧ D' n 16 = 0
theorem cp_sim {o o2 L e : Nat} {ρ : Nat → Nat} {m k : Nat} {V V2 : mDt} {r : Nat} {lo : Nat → Nat} {t1 t2 t3 : Int32} {n : Nat} {D D' : mDt} (h : rSim o L e ρ m k V r lo t1 t2 t3 D) (he : e ≤ 10) (hL10 : L ≤ 10) (hm : m ≤ 8) (hk : k ≤ 8) (hz : ∀ i, e ≤ i → i < 10 → ∀ j, 1 ≤ j → j < 15 → V (o + 6 + i) j = 0) (hc : rCp e m k r lo n D D') (hl : lkV o o2 L ρ m k V V2) : rSim o2 L e ρ m k V2 n (fun i => i) (-V2 o2 5) (-V2 o2 6) (-V2 o2 7) D' := by
  obtain ⟨h1, h2, h3, h4, ⟨g1, g2, g3, g4, g5, g6, g7, g8, g9⟩, -⟩ := h
  obtain ⟨c1, c2, c3, c4, c5, c6, c7, c8, c9⟩ := hc
  obtain ⟨l1, l2, l3, l4, l5, l6, l7, l8, l9, l10⟩ := hl
  have hcl : ∀ j, j < 12 → 1 ≤ clm j ∧ clm j < 15 := by decide
  refine ⟨fun i hi j hj => ?_, fun p hp => by rw [c3 p (by omega)]; exact h2 p hp, fun i hi j hj => ?_, fun i hi j hj => ?_, ⟨?_, ?_, ?_, ?_, ?_, ?_, ?_, ?_, ?_⟩, ?_, ?_, ?_⟩
  · rw [(l5 i hi).2 _ (hcl j hj).1 (hcl j hj).2]
    by_cases q : i < e
    · rw [c1 i q j hj]; exact h1 i hi j hj
    · rw [c2 i (by omega) hi j, hz i (by omega) hi _ (hcl j hj).1 (hcl j hj).2]
  · rw [c4 i hi j hj, l7 _ (by omega)]; exact h3 i hi j hj
  · rw [c5 i hi j hj, l9 _ (by omega)]; exact h4 i hi j hj
  · rw [c6 _ (by decide) (by decide)]; exact g1
  · rw [c6 _ (by decide) (by decide)]; exact g2
  · rw [c6 _ (by decide) (by decide)]; exact g3
  · rw [c6 _ (by decide) (by decide)]; exact g4
  · rw [c6 _ (by decide) (by decide), l10 4 (by decide) (by decide)]; exact g5
  · rw [c6 _ (by decide) (by decide), l1 0 (by decide)]; exact g6
  · rw [c6 _ (by decide) (by decide), l1 1 (by decide)]; exact g7
  · rw [c6 _ (by decide) (by decide), l1 2 (by decide)]; exact g8
  · rw [c6 _ (by decide) (by decide), l1 3 (by decide)]; exact g9
  · rw [c7, Int32.add_right_neg]
  · rw [c8, Int32.add_right_neg]
  · rw [c9, Int32.add_right_neg]

theorem cp_fin {e m k r : Nat} {lo : Nat → Nat} {n : Nat} {D D0 Dk D1 D2 D3 D4 D5 D6 D7 D8 D9 : mDt} (hrn : r + 32 ≤ n) (hD1 : ∀ a, a < n → D0 a = D a) (hfr : rFresh n D0) (hFk : ∀ a, a < n + 2 → Dk a = D0 a) (hc1 : ∀ t, t < e → ∀ j, j < 12 → Dk (n + 2 + t) j = D (r + 2 + t) j) (hc2 : ∀ t, e ≤ t → t < 10 → Dk (n + 2 + t) = fun _ => 0) (hc3 : ∀ p, p < 10 → Dk (n + 12) p = D (r + 12) p) (hc4 : ∀ t, t < m → ∀ j, j < 4 → Dk (n + 14 + t) j = D (r + 14 + lo t) j) (hc5 : ∀ t, t < k → ∀ j, j < 3 → Dk (n + 23 + t) j = D (r + 23 + t) j)
    (e1 : D1 = upd2 Dk n 5 (D r 5)) (e2 : D2 = upd2 D1 n 6 (D r 6)) (e3 : D3 = upd2 D2 n 7 (D r 7)) (e4 : D4 = upd2 D3 n 8 (D r 8)) (e5 : D5 = upd2 D4 n 9 (D r 9)) (e6 : D6 = upd2 D5 n 10 (D r 10)) (e7 : D7 = upd2 D6 n 11 (D r 11)) (e8 : D8 = upd2 D7 n 12 (D r 12)) (e9 : D9 = upd2 D8 n 13 (D r 13)) : (∀ a, a < n → D9 a = D a) ∧ rCp e m k r lo n D D9 := by
  have hra : ∀ a, a ≠ n → D9 a = Dk a := fun a ha => by rw [e9, e8, e7, e6, e5, e4, e3, e2, e1, upd2_ra ha, upd2_ra ha, upd2_ra ha, upd2_ra ha, upd2_ra ha, upd2_ra ha, upd2_ra ha, upd2_ra ha, upd2_ra ha]
  have h0 : ∀ j, 14 ≤ j → D9 n j = D0 n j := fun j hj => by rw [e9, e8, e7, e6, e5, e4, e3, e2, e1, upd2_nk (by omega), upd2_nk (by omega), upd2_nk (by omega), upd2_nk (by omega), upd2_nk (by omega), upd2_nk (by omega), upd2_nk (by omega), upd2_nk (by omega), upd2_nk (by omega), hFk n (by omega)]
  refine ⟨fun a ha => by rw [hra a (by omega), hFk a (by omega), hD1 a ha], fun t ht j hj => by rw [hra _ (by omega)]; exact hc1 t ht j hj, fun t h1 h2 j => by rw [hra _ (by omega), hc2 t h1 h2], fun p hp => by rw [hra _ (by omega)]; exact hc3 p hp, fun t ht j hj => by rw [hra _ (by omega)]; exact hc4 t ht j hj, fun t ht j hj => by rw [hra _ (by omega)]; exact hc5 t ht j hj, fun j h1 h2 => ?_, ?_, ?_, ?_⟩
  · obtain rfl | rfl | rfl | rfl | rfl | rfl | rfl | rfl | rfl : j = 5 ∨ j = 6 ∨ j = 7 ∨ j = 8 ∨ j = 9 ∨ j = 10 ∨ j = 11 ∨ j = 12 ∨ j = 13 := by omega
    all_goals (rw [e9, e8, e7, e6, e5, e4, e3, e2, e1]; simp [upd2])
  · rw [h0 _ (by decide), hfr.1]; rfl
  · rw [h0 _ (by decide), hfr.1]; rfl
  · rw [h0 _ (by decide), hfr.1]; rfl

set_option maxRecDepth 100000 in
set_option maxHeartbeats 4000000 in
theorem r_copy {κ : mKp} {n : Nat} {sh : mSh} {P : mPt} {D : mDt} {E : mEt} {r : Nat} {lo : Nat → Nat} (hL : rLay r lo sh P) {o L e m k : Nat} {ρ : Nat → Nat} {V : mDt} {t1 t2 t3 : Int32} (hS : rSim o L e ρ m k V r lo t1 t2 t3 D) (hm8 : m ≤ 8) (hk8 : k ≤ 8) (he : e ≤ 10) (hrn : r + 32 ≤ n) : mMet κ yX6_copy cX6_copy 3 (Option.some (Jvm.ClassFile.FieldType.object "OasisBooksModel$Oasis")) { frames := 2, cells := 32, slots := 239, locals := 48 } [.ref r] n sh P D E (fun v n' sh' P' D' E' => v = some (.ref n) ∧ E' = E ∧ n' = n + 32 ∧ rLay n (fun i => i) sh' P' ∧ (∀ a, a < n → sh' a = sh a) ∧ (∀ a, a < n → P' a = P a) ∧ (∀ a, a < n → D' a = D a) ∧ rCp e m k r lo n D D') := by
  refine mMet_of (by decide) (Nat.le_of_ble_eq_true rfl) ?_
  intro Γ Q hQ h hin
  have h : mOk Γ κ RX6 cX6_copy 3 (Option.some (Jvm.ClassFile.FieldType.object "OasisBooksModel$Oasis")) { frames := 2, cells := 32, slots := 239, locals := 48 } := h
  show mV Γ Q 0 0 n sh P D E [(0, .ref r)] [] 0
  refine V_new (ci := 6) (C := RX6) (T := TX6) h 3 (n + 1) 1 17 tyX6 tyX6_ok (by decide) qU_X6 rfl qK_X6_12 qN_X6 qZ_X6 (Nat.le_of_ble_eq_true rfl) (Nat.le_of_ble_eq_true rfl) dX6_copy_0 rfl (by first | omega | dsimp only | (dsimp only; omega)) (by first | omega | dsimp only | (dsimp only; omega)) (by first | omega | dsimp only | (dsimp only; omega)) ?_
  obtain ⟨S1, eS1⟩ : ∃ zz, zz = updS sh n (.inl 6) := ⟨_, rfl⟩
  rw [← eS1]
  obtain ⟨P1, eP1⟩ : ∃ zz, zz = clrP P n := ⟨_, rfl⟩
  rw [← eP1]
  obtain ⟨D1, eD1⟩ : ∃ zz, zz = clrD D n := ⟨_, rfl⟩
  rw [← eD1]
  have fn2 : S1 n = some (.inl 6) := by rw [eS1]; exact updS_eq
  refine V_dup h 4 rfl dX6_copy_3 rfl ?_
  refine V_callI h 7 (ret2 := none) (rm := { frames := 1, cells := 31, slots := 222, locals := 20 }) (As := []) (m_rasInit fn2) rfl qL_X6_36 qI_X6_init qZ_X6 qC_X6_init hd_X6_init ⟨Nat.le_of_ble_eq_true rfl, Nat.le_of_ble_eq_true rfl⟩ (Nat.le_of_ble_eq_true rfl) rfl rfl dX6_copy_4 ⟨(Nat.le_of_ble_eq_true rfl), (Nat.le_of_ble_eq_true rfl)⟩ (fun v3 n3 S3 P3 D3 E3 hq3 => ?_)
  obtain ⟨q5, q4, q1, hq3⟩ := hq3
  subst q5
  rw [q1, q4]
  obtain ⟨hLn, hSn, hPn, hDn, hFr⟩ := hq3
  have hS1 : ∀ a, a < n → S3 a = sh a := fun a ha => by rw [hSn a (by omega), eS1, updS_ne (by omega)]
  have hP1 : ∀ a, a < n → P3 a = P a := fun a ha => by rw [hPn a ha, eP1, clrP_ne (by omega)]
  have hD1 : ∀ a, a < n → D3 a = D a := fun a ha => by rw [hDn a ha, eD1, clrD_ne (by omega)]
  have hLr : rLay r lo S3 P3 := rLay_of hL (fun a h1 h2 => hS1 a (by omega)) (fun a h1 h2 => hP1 a (by omega))
  have hfr := hFr (by rw [eD1, clrD_eq])
  refine V_astore_n h 8 [(1, .ref n), (0, .ref r)] (by decide) rfl dX6_copy_7 rfl ?_
  refine V_iconst h 9 (v := 0) (by decide) dX6_copy_8 rfl ?_
  refine V_istore_n h 10 [(2, .int 0), (1, .ref n), (0, .ref r)] (by decide) rfl dX6_copy_9 rfl ?_
  have LP10 : ∀ (kk : Nat) (i : Nat) (x2 : Int32) (Dk : mDt), (i ≤ e) → (x2 = nI i) → (∀ a, (a < n + 2 ∨ n + 12 ≤ a) → Dk a = D3 a) → (∀ t, t < i → ∀ j, j < 12 → Dk (n + 2 + t) j = D (r + 2 + t) j) → (∀ t, i ≤ t → t < 10 → Dk (n + 2 + t) = fun _ => 0) → e - i < kk → mV Γ Q 32 239 (n + 32) S3 P3 Dk E [(0, .ref r), (1, .ref n), (2, .int x2)] [] 10 := by
    intro kk
    induction kk with
    | zero =>
      intro i x2 Dk _ _ _ _ _ hms
      exact absurd hms (Nat.not_lt_zero _)
    | succ kk ih =>
      intro i x2 Dk hi e2 hFk hc1 hc2 hms
      subst e2
      refine V_iload_n h 11 2 rfl dX6_copy_10 rfl ?_
      refine V_aload_n h 12 0 rfl dX6_copy_11 rfl ?_
      refine g_X6_37 h 15 (R_s0 hLr) dX6_copy_12 rfl ?_
      refine V_top (y := nI e) (by rw [hFk r (by omega), hD1 r (by omega)]; exact hS.2.2.2.2.1.1) ?_
      refine V_icmp_ge h 43 18 dX6_copy_15 (by decide) rfl (fun c15 => ?_) (fun c15 => ?_)
      · skip
        have hex : i = e := by have := mGe c15 (by omega) (by omega); omega
        refine V_aload_n h 44 0 rfl dX6_copy_43 rfl ?_
        refine g_X6_16 h 47 (b := r + 12) (R_s0 hLr) (R_p1 hLr) dX6_copy_44 rfl ?_
        refine V_iconst h 48 (v := 0) (by decide) dX6_copy_47 rfl ?_
        refine V_aload_n h 49 1 rfl dX6_copy_48 rfl ?_
        refine g_X6_16 h 52 (b := n + 12) (R_s0 hLn) (R_p1 hLn) dX6_copy_49 rfl ?_
        refine V_iconst h 53 (v := 0) (by decide) dX6_copy_52 rfl ?_
        refine V_bipush h 55 (v := 10) (by decide) dX6_copy_53 rfl ?_
        refine V_copyi h 58 0 0 10 qL_X6_40 (R_s12 hLr) (R_s12 hLn) rfl rfl rfl (by omega) (by omega) (by decide) (by decide) (Nat.le_of_ble_eq_true rfl) (Nat.le_of_ble_eq_true rfl) dX6_copy_55 rfl ?_
        obtain ⟨D4, eD4⟩ : ∃ zz, zz = cpD Dk (r + 12) (n + 12) 0 0 10 := ⟨_, rfl⟩
        rw [← eD4]
        refine V_iconst h 59 (v := 0) (by decide) dX6_copy_58 rfl ?_
        refine V_istore_n h 60 [(2, .int 0), (0, .ref r), (1, .ref n)] (by decide) rfl dX6_copy_59 rfl ?_
        have LP60 : ∀ (kk : Nat) (i : Nat) (x2 : Int32) (Dk : mDt), (i ≤ m) → (x2 = nI i) → (∀ a, (a < n + 2 ∨ n + 22 ≤ a ∨ a = n + 13) → Dk a = D3 a) → (∀ t, t < e → ∀ j, j < 12 → Dk (n + 2 + t) j = D (r + 2 + t) j) → (∀ t, e ≤ t → t < 10 → Dk (n + 2 + t) = fun _ => 0) → (∀ p, p < 10 → Dk (n + 12) p = D (r + 12) p) → (∀ t, t < i → ∀ j, j < 4 → Dk (n + 14 + t) j = D (r + 14 + lo t) j) → m - i < kk → mV Γ Q 32 239 (n + 32) S3 P3 Dk E [(0, .ref r), (1, .ref n), (2, .int x2)] [] 60 := by
          intro kk
          induction kk with
          | zero =>
            intro i x2 Dk _ _ _ _ _ _ _ hms
            exact absurd hms (Nat.not_lt_zero _)
          | succ kk ih =>
            intro i x2 Dk hi e2 hFk hc1 hc2 hc3 hc4 hms
            subst e2
            refine V_iload_n h 61 2 rfl dX6_copy_60 rfl ?_
            refine V_aload_n h 62 0 rfl dX6_copy_61 rfl ?_
            refine g_X6_46 h 65 (R_s0 hLr) dX6_copy_62 rfl ?_
            refine V_top (y := nI m) (by rw [hFk r (by omega), hD1 r (by omega)]; exact hS.2.2.2.2.1.2.2.1) ?_
            refine V_icmp_ge h 92 68 dX6_copy_65 (by decide) rfl (fun c65 => ?_) (fun c65 => ?_)
            · skip
              have hex : i = m := by have := mGe c65 (by omega) (by omega); omega
              refine V_iconst h 93 (v := 0) (by decide) dX6_copy_92 rfl ?_
              refine V_istore_n h 94 [(2, .int 0), (0, .ref r), (1, .ref n)] (by decide) rfl dX6_copy_93 rfl ?_
              have LP94 : ∀ (kk : Nat) (i : Nat) (x2 : Int32) (Dk : mDt), (i ≤ k) → (x2 = nI i) → (∀ a, a < n + 2 → Dk a = D3 a) → (∀ t, t < e → ∀ j, j < 12 → Dk (n + 2 + t) j = D (r + 2 + t) j) → (∀ t, e ≤ t → t < 10 → Dk (n + 2 + t) = fun _ => 0) → (∀ p, p < 10 → Dk (n + 12) p = D (r + 12) p) → (∀ t, t < m → ∀ j, j < 4 → Dk (n + 14 + t) j = D (r + 14 + lo t) j) → (∀ t, t < i → ∀ j, j < 3 → Dk (n + 23 + t) j = D (r + 23 + t) j) → k - i < kk → mV Γ Q 32 239 (n + 32) S3 P3 Dk E [(0, .ref r), (1, .ref n), (2, .int x2)] [] 94 := by
                intro kk
                induction kk with
                | zero =>
                  intro i x2 Dk _ _ _ _ _ _ _ _ hms
                  exact absurd hms (Nat.not_lt_zero _)
                | succ kk ih =>
                  intro i x2 Dk hi e2 hFk hc1 hc2 hc3 hc4 hc5 hms
                  subst e2
                  refine V_iload_n h 95 2 rfl dX6_copy_94 rfl ?_
                  refine V_aload_n h 96 0 rfl dX6_copy_95 rfl ?_
                  refine g_X6_49 h 99 (R_s0 hLr) dX6_copy_96 rfl ?_
                  refine V_top (y := nI k) (by rw [hFk r (by omega), hD1 r (by omega)]; exact hS.2.2.2.2.1.2.2.2.1) ?_
                  refine V_icmp_ge h 126 102 dX6_copy_99 (by decide) rfl (fun c99 => ?_) (fun c99 => ?_)
                  · skip
                    have hexk : i = k := by have := mGe c99 (by omega) (by omega); omega
                    refine V_aload_n h 127 1 rfl dX6_copy_126 rfl ?_
                    refine V_aload_n h 128 0 rfl dX6_copy_127 rfl ?_
                    refine g_X6_37 h 131 (R_s0 hLr) dX6_copy_128 rfl ?_
                    refine V_top (y := D r 5) (by rw [hFk r (by omega), hD1 r (by omega)]) ?_
                    refine p_X6_37 h 134 (R_s0 hLn) dX6_copy_131 rfl ?_
                    obtain ⟨D5, eD5⟩ : ∃ zz, zz = upd2 Dk n 5 (D r 5) := ⟨_, rfl⟩
                    rw [← eD5]
                    refine V_aload_n h 135 1 rfl dX6_copy_134 rfl ?_
                    refine V_aload_n h 136 0 rfl dX6_copy_135 rfl ?_
                    refine g_X6_52 h 139 (R_s0 hLr) dX6_copy_136 rfl ?_
                    refine V_top (y := D r 6) (by rw [eD5, upd2_nk (by decide)]; exact (by rw [hFk r (by omega), hD1 r (by omega)])) ?_
                    refine p_X6_52 h 142 (R_s0 hLn) dX6_copy_139 rfl ?_
                    obtain ⟨D6, eD6⟩ : ∃ zz, zz = upd2 D5 n 6 (D r 6) := ⟨_, rfl⟩
                    rw [← eD6]
                    refine V_aload_n h 143 1 rfl dX6_copy_142 rfl ?_
                    refine V_aload_n h 144 0 rfl dX6_copy_143 rfl ?_
                    refine g_X6_46 h 147 (R_s0 hLr) dX6_copy_144 rfl ?_
                    refine V_top (y := D r 7) (by rw [eD6, upd2_nk (by decide), eD5, upd2_nk (by decide)]; exact (by rw [hFk r (by omega), hD1 r (by omega)])) ?_
                    refine p_X6_46 h 150 (R_s0 hLn) dX6_copy_147 rfl ?_
                    obtain ⟨D7, eD7⟩ : ∃ zz, zz = upd2 D6 n 7 (D r 7) := ⟨_, rfl⟩
                    rw [← eD7]
                    refine V_aload_n h 151 1 rfl dX6_copy_150 rfl ?_
                    refine V_aload_n h 152 0 rfl dX6_copy_151 rfl ?_
                    refine g_X6_49 h 155 (R_s0 hLr) dX6_copy_152 rfl ?_
                    refine V_top (y := D r 8) (by rw [eD7, upd2_nk (by decide), eD6, upd2_nk (by decide), eD5, upd2_nk (by decide)]; exact (by rw [hFk r (by omega), hD1 r (by omega)])) ?_
                    refine p_X6_49 h 158 (R_s0 hLn) dX6_copy_155 rfl ?_
                    obtain ⟨D8, eD8⟩ : ∃ zz, zz = upd2 D7 n 8 (D r 8) := ⟨_, rfl⟩
                    rw [← eD8]
                    refine V_aload_n h 159 1 rfl dX6_copy_158 rfl ?_
                    refine V_aload_n h 160 0 rfl dX6_copy_159 rfl ?_
                    refine g_X6_55 h 163 (R_s0 hLr) dX6_copy_160 rfl ?_
                    refine V_top (y := D r 9) (by rw [eD8, upd2_nk (by decide), eD7, upd2_nk (by decide), eD6, upd2_nk (by decide), eD5, upd2_nk (by decide)]; exact (by rw [hFk r (by omega), hD1 r (by omega)])) ?_
                    refine p_X6_55 h 166 (R_s0 hLn) dX6_copy_163 rfl ?_
                    obtain ⟨D9, eD9⟩ : ∃ zz, zz = upd2 D8 n 9 (D r 9) := ⟨_, rfl⟩
                    rw [← eD9]
                    refine V_aload_n h 167 1 rfl dX6_copy_166 rfl ?_
                    refine V_aload_n h 168 0 rfl dX6_copy_167 rfl ?_
                    refine g_X6_29 h 171 (R_s0 hLr) dX6_copy_168 rfl ?_
                    refine V_top (y := D r 10) (by rw [eD9, upd2_nk (by decide), eD8, upd2_nk (by decide), eD7, upd2_nk (by decide), eD6, upd2_nk (by decide), eD5, upd2_nk (by decide)]; exact (by rw [hFk r (by omega), hD1 r (by omega)])) ?_
                    refine p_X6_29 h 174 (R_s0 hLn) dX6_copy_171 rfl ?_
                    obtain ⟨D10, eD10⟩ : ∃ zz, zz = upd2 D9 n 10 (D r 10) := ⟨_, rfl⟩
                    rw [← eD10]
                    refine V_aload_n h 175 1 rfl dX6_copy_174 rfl ?_
                    refine V_aload_n h 176 0 rfl dX6_copy_175 rfl ?_
                    refine g_X6_33 h 179 (R_s0 hLr) dX6_copy_176 rfl ?_
                    refine V_top (y := D r 11) (by rw [eD10, upd2_nk (by decide), eD9, upd2_nk (by decide), eD8, upd2_nk (by decide), eD7, upd2_nk (by decide), eD6, upd2_nk (by decide), eD5, upd2_nk (by decide)]; exact (by rw [hFk r (by omega), hD1 r (by omega)])) ?_
                    refine p_X6_33 h 182 (R_s0 hLn) dX6_copy_179 rfl ?_
                    obtain ⟨D11, eD11⟩ : ∃ zz, zz = upd2 D10 n 11 (D r 11) := ⟨_, rfl⟩
                    rw [← eD11]
                    refine V_aload_n h 183 1 rfl dX6_copy_182 rfl ?_
                    refine V_aload_n h 184 0 rfl dX6_copy_183 rfl ?_
                    refine g_X6_58 h 187 (R_s0 hLr) dX6_copy_184 rfl ?_
                    refine V_top (y := D r 12) (by rw [eD11, upd2_nk (by decide), eD10, upd2_nk (by decide), eD9, upd2_nk (by decide), eD8, upd2_nk (by decide), eD7, upd2_nk (by decide), eD6, upd2_nk (by decide), eD5, upd2_nk (by decide)]; exact (by rw [hFk r (by omega), hD1 r (by omega)])) ?_
                    refine p_X6_58 h 190 (R_s0 hLn) dX6_copy_187 rfl ?_
                    obtain ⟨D12, eD12⟩ : ∃ zz, zz = upd2 D11 n 12 (D r 12) := ⟨_, rfl⟩
                    rw [← eD12]
                    refine V_aload_n h 191 1 rfl dX6_copy_190 rfl ?_
                    refine V_aload_n h 192 0 rfl dX6_copy_191 rfl ?_
                    refine g_X6_61 h 195 (R_s0 hLr) dX6_copy_192 rfl ?_
                    refine V_top (y := D r 13) (by rw [eD12, upd2_nk (by decide), eD11, upd2_nk (by decide), eD10, upd2_nk (by decide), eD9, upd2_nk (by decide), eD8, upd2_nk (by decide), eD7, upd2_nk (by decide), eD6, upd2_nk (by decide), eD5, upd2_nk (by decide)]; exact (by rw [hFk r (by omega), hD1 r (by omega)])) ?_
                    refine p_X6_61 h 198 (R_s0 hLn) dX6_copy_195 rfl ?_
                    obtain ⟨D13, eD13⟩ : ∃ zz, zz = upd2 D12 n 13 (D r 13) := ⟨_, rfl⟩
                    rw [← eD13]
                    refine V_aload_n h 199 1 rfl dX6_copy_198 rfl ?_
                    exact V_aret h (Or.inl ⟨_, rfl⟩) hQ (Nat.le_of_ble_eq_true rfl) (Nat.le_of_ble_eq_true rfl) ⟨rfl, rfl, rfl, hLn, hS1, hP1, cp_fin hrn hD1 hfr hFk hc1 hc2 hc3 hc4 (by rw [hexk] at hc5; exact hc5) eD5 eD6 eD7 eD8 eD9 eD10 eD11 eD12 eD13⟩ dX6_copy_199
                  · skip
                    have hlt := mLt c99 (by omega)
                    refine V_aload_n h 103 0 rfl dX6_copy_102 rfl ?_
                    refine g_X6_23 h 106 (b := r + 22) (R_s0 hLr) (R_p3 hLr) dX6_copy_103 rfl ?_
                    refine V_iload_n h 107 2 rfl dX6_copy_106 rfl ?_
                    refine V_aald h 108 (b := r + 23 + i) i (Or.inr rfl) (R_s22 hLr) rfl (by omega) (by decide) (R_ps hLr (by omega)) dX6_copy_107 rfl ?_
                    refine V_iconst h 109 (v := 0) (by decide) dX6_copy_108 rfl ?_
                    refine V_aload_n h 110 1 rfl dX6_copy_109 rfl ?_
                    refine g_X6_23 h 113 (b := n + 22) (R_s0 hLn) (R_p3 hLn) dX6_copy_110 rfl ?_
                    refine V_iload_n h 114 2 rfl dX6_copy_113 rfl ?_
                    refine V_aald h 115 (b := n + 23 + i) i (Or.inr rfl) (R_s22 hLn) rfl (by omega) (by decide) (R_ps hLn (by omega)) dX6_copy_114 rfl ?_
                    refine V_iconst h 116 (v := 0) (by decide) dX6_copy_115 rfl ?_
                    refine V_iconst h 117 (v := 3) (by decide) dX6_copy_116 rfl ?_
                    refine V_copyi h 120 0 0 3 qL_X6_40 (R_ss hLr (by omega)) (R_ss hLn (by omega)) rfl rfl rfl (by omega) (by omega) (by decide) (by decide) (Nat.le_of_ble_eq_true rfl) (Nat.le_of_ble_eq_true rfl) dX6_copy_117 rfl ?_
                    obtain ⟨D14, eD14⟩ : ∃ zz, zz = cpD Dk (r + 23 + i) (n + 23 + i) 0 0 3 := ⟨_, rfl⟩
                    rw [← eD14]
                    refine V_iinc h 123 [(2, .int ((nI i) + 1)), (0, .ref r), (1, .ref n)] 2 rfl (by rfl) (by decide) rfl dX6_copy_120 rfl ?_
                    refine V_goto h 94 dX6_copy_123 (by decide) ?_
                    refine V_lsub [(0, .ref r), (1, .ref n), (2, .int ((nI i) + 1))] [1, 2, 0] rfl ?_
                    refine ih (i + 1) _ D14 (by omega) (nI_1 i) (fun a ha => by rw [eD14, cpD_ne (by omega)]; exact hFk a ha) (fun t ht j hj => by rw [eD14, cpD_ne (by omega)]; exact hc1 t ht j hj) (fun t ht ht2 => by rw [eD14, cpD_ne (by omega)]; exact hc2 t ht ht2) (fun p hp => by rw [eD14, cpD_ne (by omega)]; exact hc3 p hp) (fun t ht j hj => by rw [eD14, cpD_ne (by omega)]; exact hc4 t ht j hj) (fun t ht j hj => ?_) (by omega)
                    by_cases q : t = i
                    · subst q; rw [eD14, cpD_in (by omega) (by omega), hFk _ (by omega), hD1 _ (by omega)]; congr 1; omega
                    · rw [eD14, cpD_ne (by omega)]; exact hc5 t (by omega) j hj
              refine V_lsub [(0, .ref r), (1, .ref n), (2, .int 0)] [1, 2, 0] rfl ?_
              exact LP94 _ 0 _ Dk (Nat.zero_le _) rfl (fun a ha => hFk a (by omega)) hc1 hc2 hc3 (by rw [hex] at hc4; exact hc4) (fun t ht => absurd ht (Nat.not_lt_zero _)) (Nat.lt_succ_self _)
            · skip
              have hlt := mLt c65 (by omega)
              refine V_aload_n h 69 0 rfl dX6_copy_68 rfl ?_
              refine g_X6_20 h 72 (b := r + 13) (R_s0 hLr) (R_p2 hLr) dX6_copy_69 rfl ?_
              refine V_iload_n h 73 2 rfl dX6_copy_72 rfl ?_
              refine V_aald h 74 (b := r + 14 + lo i) i (Or.inr rfl) (R_s13 hLr) rfl (by omega) (by decide) (R_pl hLr (by omega)) dX6_copy_73 rfl ?_
              refine V_iconst h 75 (v := 0) (by decide) dX6_copy_74 rfl ?_
              refine V_aload_n h 76 1 rfl dX6_copy_75 rfl ?_
              refine g_X6_20 h 79 (b := n + 13) (R_s0 hLn) (R_p2 hLn) dX6_copy_76 rfl ?_
              refine V_iload_n h 80 2 rfl dX6_copy_79 rfl ?_
              refine V_aald h 81 (b := n + 14 + i) i (Or.inr rfl) (R_s13 hLn) rfl (by omega) (by decide) (R_pl hLn (by omega)) dX6_copy_80 rfl ?_
              refine V_iconst h 82 (v := 0) (by decide) dX6_copy_81 rfl ?_
              refine V_iconst h 83 (v := 4) (by decide) dX6_copy_82 rfl ?_
              refine V_copyi h 86 0 0 4 qL_X6_40 (R_sL hLr (by omega)) (R_sl hLn (by omega)) rfl rfl rfl (by omega) (by omega) (by decide) (by decide) (Nat.le_of_ble_eq_true rfl) (Nat.le_of_ble_eq_true rfl) dX6_copy_83 rfl ?_
              obtain ⟨D15, eD15⟩ : ∃ zz, zz = cpD Dk (r + 14 + lo i) (n + 14 + i) 0 0 4 := ⟨_, rfl⟩
              rw [← eD15]
              refine V_iinc h 89 [(2, .int ((nI i) + 1)), (0, .ref r), (1, .ref n)] 2 rfl (by rfl) (by decide) rfl dX6_copy_86 rfl ?_
              refine V_goto h 60 dX6_copy_89 (by decide) ?_
              refine V_lsub [(0, .ref r), (1, .ref n), (2, .int ((nI i) + 1))] [1, 2, 0] rfl ?_
              have hlo := hL.2.2.2.1 i (by omega)
              refine ih (i + 1) _ D15 (by omega) (nI_1 i) (fun a ha => by rw [eD15, cpD_ne (by omega)]; exact hFk a ha) (fun t ht j hj => by rw [eD15, cpD_ne (by omega)]; exact hc1 t ht j hj) (fun t ht ht2 => by rw [eD15, cpD_ne (by omega)]; exact hc2 t ht ht2) (fun p hp => by rw [eD15, cpD_ne (by omega)]; exact hc3 p hp) (fun t ht j hj => ?_) (by omega)
              by_cases q : t = i
              · subst q; rw [eD15, cpD_in (by omega) (by omega), hFk _ (by omega), hD1 _ (by omega)]; congr 1; omega
              · rw [eD15, cpD_ne (by omega)]; exact hc4 t (by omega) j hj
        refine V_lsub [(0, .ref r), (1, .ref n), (2, .int 0)] [1, 2, 0] rfl ?_
        exact LP60 _ 0 _ D4 (Nat.zero_le _) rfl (fun a ha => by rw [eD4, cpD_ne (by omega)]; exact hFk a (by omega)) (fun t ht j hj => by rw [eD4, cpD_ne (by omega)]; exact hc1 t (by omega) j hj) (fun t ht ht2 => by rw [eD4, cpD_ne (by omega)]; exact hc2 t (by omega) ht2) (fun p hp => by rw [eD4, cpD_in (by omega) (by omega), hFk _ (by omega), hD1 _ (by omega)]; congr 1; omega) (fun t ht => absurd ht (Nat.not_lt_zero _)) (Nat.lt_succ_self _)
      · skip
        have hlt := mLt c15 (by omega)
        refine V_aload_n h 19 0 rfl dX6_copy_18 rfl ?_
        refine g_X6_11 h 22 (b := r + 1) (R_s0 hLr) (R_p0 hLr) dX6_copy_19 rfl ?_
        refine V_iload_n h 23 2 rfl dX6_copy_22 rfl ?_
        refine V_aald h 24 (b := r + 2 + i) i (Or.inr rfl) (R_s1 hLr) rfl (by omega) (by decide) (R_pw hLr (by omega)) dX6_copy_23 rfl ?_
        refine V_iconst h 25 (v := 0) (by decide) dX6_copy_24 rfl ?_
        refine V_aload_n h 26 1 rfl dX6_copy_25 rfl ?_
        refine g_X6_11 h 29 (b := n + 1) (R_s0 hLn) (R_p0 hLn) dX6_copy_26 rfl ?_
        refine V_iload_n h 30 2 rfl dX6_copy_29 rfl ?_
        refine V_aald h 31 (b := n + 2 + i) i (Or.inr rfl) (R_s1 hLn) rfl (by omega) (by decide) (R_pw hLn (by omega)) dX6_copy_30 rfl ?_
        refine V_iconst h 32 (v := 0) (by decide) dX6_copy_31 rfl ?_
        refine V_bipush h 34 (v := 12) (by decide) dX6_copy_32 rfl ?_
        refine V_copyi h 37 0 0 12 qL_X6_40 (R_sw hLr (by omega)) (R_sw hLn (by omega)) rfl rfl rfl (by omega) (by omega) (by decide) (by decide) (Nat.le_of_ble_eq_true rfl) (Nat.le_of_ble_eq_true rfl) dX6_copy_34 rfl ?_
        obtain ⟨D16, eD16⟩ : ∃ zz, zz = cpD Dk (r + 2 + i) (n + 2 + i) 0 0 12 := ⟨_, rfl⟩
        rw [← eD16]
        refine V_iinc h 40 [(2, .int ((nI i) + 1)), (0, .ref r), (1, .ref n)] 2 rfl (by rfl) (by decide) rfl dX6_copy_37 rfl ?_
        refine V_goto h 10 dX6_copy_40 (by decide) ?_
        refine V_lsub [(0, .ref r), (1, .ref n), (2, .int ((nI i) + 1))] [1, 2, 0] rfl ?_
        refine ih (i + 1) _ D16 (by omega) (nI_1 i) (fun a ha => by rw [eD16, cpD_ne (by omega)]; exact hFk a ha) (fun t ht j hj => ?_) (fun t ht ht2 => by rw [eD16, cpD_ne (by omega)]; exact hc2 t (by omega) ht2) (by omega)
        by_cases q : t = i
        · subst q; rw [eD16, cpD_in (by omega) (by omega), hFk _ (by omega), hD1 _ (by omega)]; congr 1; omega
        · rw [eD16, cpD_ne (by omega)]; exact hc1 t (by omega) j hj
  refine V_lsub [(0, .ref r), (1, .ref n), (2, .int 0)] [2, 1, 0] rfl ?_
  exact LP10 _ 0 _ D3 (Nat.zero_le _) rfl (fun a _ => rfl) (fun t ht => absurd ht (Nat.not_lt_zero _)) (fun t _ ht => hfr.2.1 t ht) (Nat.lt_succ_self _)
