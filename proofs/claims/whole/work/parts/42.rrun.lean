theorem lentD_nl {o L m : Nat} {ρ : Nat → Nat} {f : Nat → Int32} {y en fb fl : Int32} {D : mDt} (hto : ∀ i, i < m → livR L ρ (toN (f (i * 4 + 1)))) {t : Nat} (ht : ¬ livR L ρ t) : ∀ i, i ≤ m → lentD o f y en fb fl D i (o + 6 + t) 11 = D (o + 6 + t) 11 := by
  intro i
  induction i with
  | zero => intro _; rfl
  | succ i ih =>
    intro hi
    rw [lentD]
    split
    · have hne : t ≠ toN (f (i * 4 + 1)) := fun e => ht (by rw [e]; exact hto i (by omega))
      rw [upd2_na (by omega)]; exact ih (by omega)
    · exact ih (by omega)
theorem gwD_nl {o L m : Nat} {ρ : Nat → Nat} {f F : Nat → Int32} {fb fl : Int32} {D : mDt} (hto : ∀ i, i < m → livR L ρ (toN (f (i * 4 + 1)))) {t : Nat} (ht : ¬ livR L ρ t) : ∀ i, i ≤ L → gwD o ρ f m fb fl F D i (o + 6 + t) 11 = D (o + 6 + t) 11 := by
  intro i
  induction i with
  | zero => intro _; rfl
  | succ i ih =>
    intro hi
    have hne : t ≠ ρ i := fun e => ht ⟨i, by omega, e.symm⟩
    rw [gwD, gwS, upd2_na (by omega), lentD_nl hto ht m (Nat.le_refl _)]
    exact ih (by omega)
theorem tk_11 {o L : Nat} {ρ : Nat → Nat} (hinj : ∀ p q, p < q → q < L → ρ p ≠ ρ q) {D : mDt} : ∀ i, i ≤ L → ∀ p, p < i → tkD o ρ D i (o + 6 + ρ p) 11 = 0 := by
  intro i
  induction i with
  | zero => intro _ p hp; omega
  | succ i ih =>
    intro hi p hp
    rw [tkD]
    by_cases e : p = i
    · subst e; rw [tkS_row (by omega)]; simp [takeX, upd]
    · have := hinj p i (by omega) (by omega)
      rw [tkS_out (by omega) (by omega)]; exact ih (by omega) p (by omega)
theorem wtr_11 {o L m : Nat} {ρ : Nat → Nat} {V : mDt} (hinj : ∀ p q, p < q → q < L → ρ p ≠ ρ q) (hfl : ∀ i, i < 10 → V (o + 6 + i) 11 = 0) (hto : ∀ i, i < m → livR L ρ (toN (V (o + 17) (i * 4 + 1)))) {t : Nat} (ht : t < 10) : wtrD o ρ L m V (o + 6 + t) 11 = 0 := by
  rw [wtrD]
  by_cases e : livR L ρ t
  · obtain ⟨p, hp, rfl⟩ := e
    exact tk_11 hinj L (Nat.le_refl _) p hp
  · rw [tkD_out (fun p hp q => e ⟨p, hp, by omega⟩) (by omega), wtrB, upd2_ra (by omega), gwD_nl hto e L (Nat.le_refl _)]
    exact hfl t ht
theorem pal_less {p : Nat} (h1 : 1 ≤ p) (hp : p ≤ 100000) : nI p - (nI p / 10 + 1) = nI (p - (p / 10 + 1)) := by
  rw [show (10 : Int32) = nI 10 from rfl, nI_div (by omega) (by omega), nI_1, nI_sub (by omega)]
theorem grow_4 {z : Int32} {x : Nat → Int32} (h : ∃ p, p ≤ 100000 ∧ x 4 = nI p) : ∃ p, p ≤ 100000 ∧ growX z x 4 = nI p := by
  obtain ⟨p, hp, e⟩ := h
  have hw : ∀ y : Nat → Int32, y 4 = nI p → 1 ≤ p → ∃ p, p ≤ 100000 ∧ witherX z y 4 = nI p := fun y hy h1 => by
    unfold witherX
    split
    · exact ⟨p, hp, hy⟩
    · split
      · exact ⟨p, hp, hy⟩
      · refine ⟨p - (p / 10 + 1), by omega, ?_⟩
        show y 4 - (y 4 / 10 + 1) = _
        rw [hy]; exact pal_less h1 hp
  unfold growX
  split
  · rename_i h1
    have hp1 : 1 ≤ p := by
      rcases Nat.eq_zero_or_pos p with q | q
      · subst q; rw [e] at h1; exact absurd h1 (by decide)
      · exact q
    split
    · exact hw _ e hp1
    · exact hw _ e hp1
  · exact ⟨p, hp, e⟩
theorem map_4 {o : Nat} {ρ : Nat → Nat} {z : Int32} {V : mDt} (h : ∀ i, i < 10 → ∃ p, p ≤ 100000 ∧ V (o + 6 + i) 4 = nI p) : ∀ k t, t < 10 → ∃ p, p ≤ 100000 ∧ mapD o ρ (fun _ => growX z) V k (o + 6 + t) 4 = nI p := by
  intro k
  induction k with
  | zero => exact h
  | succ k ih =>
    intro t ht
    rw [mapD]
    by_cases e : t = ρ k
    · subst e; rw [setRow_eq]; exact grow_4 (ih _ ht)
    · rw [setRow_ne (by omega)]; exact ih t ht
theorem gage_keep {f : Nat → Int32} {m L : Nat} {ρ : Nat → Nat} (hto : ∀ i, i < m → livR L ρ (toN (f (i * 4 + 1)))) (hcy : ∀ i, i < m → ∃ c, 1 ≤ c ∧ c < 2 ^ 31 ∧ f (i * 4 + 3) = nI c) : (∀ i, i < (ageG f m).2 → livR L ρ (toN ((ageG f m).1 (i * 4 + 1)))) ∧ ∀ i, i < (ageG f m).2 → ∃ c, 1 ≤ c ∧ c < 2 ^ 31 ∧ (ageG f m).1 (i * 4 + 3) = nI c := by
  have h := (ageG_ok f m).2.1
  have key : ∀ i, i < (ageG f m).2 → ∃ j, j < m ∧ ageR (drow f j) = some (drow (ageG f m).1 i) := fun i hi => by
    have hm : drow (ageG f m).1 i ∈ dls (ageG f m).1 (ageG f m).2 := List.mem_map.mpr ⟨i, List.mem_range.mpr hi, rfl⟩
    rw [h] at hm
    obtain ⟨r, hr, e⟩ := List.mem_filterMap.mp hm
    obtain ⟨j, hj, rfl⟩ := List.mem_map.mp hr
    exact ⟨j, List.mem_range.mp hj, e⟩
  refine ⟨fun i hi => ?_, fun i hi => ?_⟩
  · obtain ⟨j, hj, e⟩ := key i hi
    unfold ageR at e
    split at e
    · cases e
    · have e2 := Option.some.inj e
      have : (ageG f m).1 (i * 4 + 1) = f (j * 4 + 1) := (congrArg (fun q => q.2.1) e2).symm
      rw [this]; exact hto j hj
  · obtain ⟨j, hj, e⟩ := key i hi
    unfold ageR at e
    split at e
    · cases e
    · rename_i hn
      have e2 := Option.some.inj e
      have e3 : (ageG f m).1 (i * 4 + 3) = f (j * 4 + 3) - 1 := (congrArg (fun q => q.2.2.2) e2).symm
      obtain ⟨c, h1, h2, h3⟩ := hcy j hj
      have hn' : ¬ f (j * 4 + 3) - 1 ≤ 0 := hn
      rw [h3] at hn' e3
      obtain ⟨d, rfl⟩ : ∃ d, c = d + 1 := ⟨c - 1, by omega⟩
      rw [nI_pred] at hn' e3
      refine ⟨d, ?_, by omega, e3⟩
      rcases Nat.eq_zero_or_pos d with q | q
      · subst q; exact absurd (show nI 0 ≤ 0 by decide) hn'
      · exact q
theorem gX_dayB {o L m k dd : Nat} {ρ : Nat → Nat} {V : mDt} {x : Int32} (h : gX o L ρ m k V dd) : gX o L ρ m k (dayB o ρ L x m V) (dd + 1) := by
  obtain ⟨hW, hinj, hfl, hto, hcy, hpa, hd⟩ := h
  have hρ : ∀ p, p < L → ρ p < 10 := fun p hp => (hW.1.2.2 p hp).1
  have hWA := cW_dayA (x := x) hW
  have e17 : dayB o ρ L x m V (o + 17) = V (o + 17) := by rw [dayB, mapD_row (by omega) hρ, wtrD_row (by omega) hρ hWA.2.2.2.1, dayA_ra (by omega)]
  refine ⟨cW_dayB hW, hinj, fun i hi => ?_, fun i hi => by rw [e17]; exact hto i hi, fun i hi => by rw [e17]; exact hcy i hi, fun i hi => ?_, by rw [dayB_o hW, hd, nI_1]⟩
  · rw [dayB, mapD_j (fun _ _ => growX_j (by decide) (by decide) (by decide) (by decide))]
    exact wtr_11 hinj (fun i hi => by rw [dayA_ra (by omega)]; exact hfl i hi) (fun i hi => by rw [dayA_ra (by omega)]; exact hto i hi) hi
  · rw [dayB]
    exact map_4 (fun i hi => by rw [wtrD_j (by decide), dayA_ra (by omega)]; exact hpa i hi) L i hi
theorem gX_dayH {o L m k dd : Nat} {ρ : Nat → Nat} {V : mDt} (h : gX o L ρ m k V dd) : gX o L ρ m 0 (dayH o ρ L k V) dd := by
  obtain ⟨hW, hinj, hfl, hto, hcy, hpa, hd⟩ := h
  have hρ : ∀ p, p < L → ρ p < 10 := fun p hp => (hW.1.2.2 p hp).1
  have hR := cW_dayR hW
  have vr : ∀ a, a ≠ o → a ≠ o + 18 → (a < o + 6 ∨ o + 16 ≤ a) → dayH o ρ L k V a = V a := fun a h1 h2 h3 => by
    rw [dayH, upd2_ra h2, dsD_row (m := k) h3 hR.2.2.2.2.2 (Nat.le_refl _), dayR, upd2_ra h1, mapD_row h3 hρ]
  have vw : ∀ t j, t < 10 → j ≠ 8 → j ≠ 3 → (∀ x : Nat → Int32, reapX x j = x j) → dayH o ρ L k V (o + 6 + t) j = V (o + 6 + t) j := fun t j ht h1 h2 h3 => by
    rw [dayH, upd2_ra (by omega), dsD_0 h1 h2, dayR, upd2_ra (by omega), mapD_j (fun _ x => h3 x)]
  refine ⟨cW_dayH hW, hinj, fun i hi => ?_, fun i hi => ?_, fun i hi => ?_, fun i hi => ?_, ?_⟩
  · rw [vw i 11 hi (by decide) (by decide) (fun _ => rfl)]; exact hfl i hi
  · rw [vr _ (by omega) (by omega) (by omega)]; exact hto i hi
  · rw [vr _ (by omega) (by omega) (by omega)]; exact hcy i hi
  · rw [vw i 4 hi (by decide) (by decide) (fun _ => rfl)]; exact hpa i hi
  · rw [dayH, upd2_ra (by omega), dsD_row (m := k) (by omega) hR.2.2.2.2.2 (Nat.le_refl _), dayR, upd2_nk (by decide), mapD_row (by omega) hρ]; exact hd
theorem gX_short {o L m k dd : Nat} {ρ : Nat → Nat} {V : mDt} (h : gX o L ρ m k V dd) : gX o L ρ (ageG (V (o + 17)) m).2 k (shortD o m V) dd := by
  obtain ⟨hW, hinj, hfl, hto, hcy, hpa, hd⟩ := h
  have v1 : ∀ a, a ≠ o + 16 → a ≠ o + 17 → shortD o m V a = V a := fun a h1 h2 => by rw [shortD, upd2_ra h1, setRow_ne h2]
  have v17 : shortD o m V (o + 17) = (ageG (V (o + 17)) m).1 := by rw [shortD, upd2_ra (by omega), setRow_eq]
  have hk := gage_keep hto hcy
  refine ⟨cW_short hW, hinj, fun i hi => ?_, fun i hi => ?_, fun i hi => ?_, fun i hi => ?_, ?_⟩
  · rw [v1 _ (by omega) (by omega)]; exact hfl i hi
  · rw [v17]; exact hk.1 i hi
  · rw [v17]; exact hk.2 i hi
  · rw [v1 _ (by omega) (by omega)]; exact hpa i hi
  · rw [v1 _ (by omega) (by omega)]; exact hd
theorem gX_day {o L m k dd : Nat} {ρ : Nat → Nat} {V : mDt} {x : Int32} (h : gX o L ρ m k V dd) : gX o L ρ (dayD o ρ L x (V, m, k)).2.1 (dayD o ρ L x (V, m, k)).2.2 (dayD o ρ L x (V, m, k)).1 (dd + 1) := by
  have hW := h.1
  have hB := gX_dayB (x := x) h
  by_cases c1 : rm70 (V o 4 + 1) = 60
  · by_cases c2 : rm7 (V o 4 + 1) = 0
    · rw [dayD_11 hW c1 c2]; exact gX_short (gX_dayH hB)
    · rw [dayD_10 hW c1 c2]; exact gX_dayH hB
  · by_cases c2 : rm7 (V o 4 + 1) = 0
    · rw [dayD_01 hW c1 c2]; exact gX_short hB
    · rw [dayD_00 hW c1 c2]; exact hB
theorem gX_days {o L m k dd : Nat} {ρ : Nat → Nat} {V : mDt} {x : Int32} (h : gX o L ρ m k V dd) (i : Nat) : gX o L ρ (daysD o ρ L x (V, m, k) i).2.1 (daysD o ρ L x (V, m, k) i).2.2 (daysD o ρ L x (V, m, k) i).1 (dd + i) := by
  induction i with
  | zero => exact h
  | succ i ih => exact gX_day ih

set_option maxRecDepth 100000 in
set_option maxHeartbeats 4000000 in
theorem r_run {κ : mKp} {n : Nat} {sh : mSh} {P : mPt} {D : mDt} {E : mEt} {r : Nat} {lo : Nat → Nat} (hL : rLay r lo sh P) {o L e m k : Nat} {ρ : Nat → Nat} {V : mDt} {t1 t2 t3 : Int32} (hS : rSim o L e ρ m k V r lo t1 t2 t3 D) {dd : Nat} (hG : gX o L ρ m k V dd) (hdd : dd < 2 ^ 29) (x : Int32) {dn : Nat} (hdn : dn < 2 ^ 29) : mMet κ yX6_run cX6_run 5 (Option.some Jvm.ClassFile.FieldType.int) { frames := 4, cells := 0, slots := 0, locals := 95 } [.ref r, .int x, .int (nI dn)] n sh P D E (fun v n' sh' P' D' E' => n' = n ∧ sh' = sh ∧ E' = E ∧ ∃ ans : Int32, v = some (.int ans) ∧ ans = daysS o ρ L x (V, m, k) dn ∧ ∃ lo', rLay r lo' sh P' ∧ (∀ a, a ≠ r + 13 → P' a = P a) ∧ rSim o L e ρ (daysD o ρ L x (V, m, k) dn).2.1 (daysD o ρ L x (V, m, k) dn).2.2 (daysD o ρ L x (V, m, k) dn).1 r lo' t1 t2 t3 D' ∧ ∀ a, (a < r ∨ r + 32 ≤ a) → D' a = D a) := by
  refine mMet_of (by decide) (Nat.le_of_ble_eq_true rfl) ?_
  intro Γ Q hQ h hin
  have h : mOk Γ κ RX6 cX6_run 5 (Option.some Jvm.ClassFile.FieldType.int) { frames := 4, cells := 0, slots := 0, locals := 95 } := h
  show mV Γ Q 0 0 n sh P D E [(0, .ref r), (1, .int x), (2, .int (nI dn))] [] 0
  refine V_iconst h 1 (v := 0) (by decide) dX6_run_0 rfl ?_
  refine V_istore_n h 2 [(3, .int 0), (0, .ref r), (1, .int x), (2, .int (nI dn))] (by decide) rfl dX6_run_1 rfl ?_
  refine V_iconst h 3 (v := 0) (by decide) dX6_run_2 rfl ?_
  refine V_istore h 5 [(4, .int 0), (3, .int 0), (0, .ref r), (1, .int x), (2, .int (nI dn))] (by decide) rfl dX6_run_3 rfl ?_
  have LP5 : ∀ (kk : Nat) (i : Nat) (x3 x4 : Int32) (lok : Nat → Nat) (Pk : mPt) (Dk : mDt), (i ≤ dn) → (x3 = daysS o ρ L x (V, m, k) i) → (x4 = nI i) → (rLay r lok sh Pk) → (∀ a, a ≠ r + 13 → Pk a = P a) → (rSim o L e ρ (daysD o ρ L x (V, m, k) i).2.1 (daysD o ρ L x (V, m, k) i).2.2 (daysD o ρ L x (V, m, k) i).1 r lok t1 t2 t3 Dk) → (∀ a, (a < r ∨ r + 32 ≤ a) → Dk a = D a) → dn - i < kk → mV Γ Q 0 0 n sh Pk Dk E [(0, .ref r), (1, .int x), (2, .int (nI dn)), (3, .int x3), (4, .int x4)] [] 5 := by
    intro kk
    induction kk with
    | zero =>
      intro i x3 x4 lok Pk Dk _ _ _ _ _ _ _ hms
      exact absurd hms (Nat.not_lt_zero _)
    | succ kk ih =>
      intro i x3 x4 lok Pk Dk hi e3 e4 hLk hPk hSk hFk hms
      subst e4
      refine V_iload h 7 4 rfl dX6_run_5 rfl ?_
      refine V_iload_n h 8 2 rfl dX6_run_7 rfl ?_
      refine V_icmp_ge h 25 11 dX6_run_8 (by decide) rfl (fun c8 => ?_) (fun c8 => ?_)
      · skip
        have hex : i = dn := by have := mGeB c8 (by omega) (by omega); omega
        subst hex
        refine V_iload_n h 26 3 rfl dX6_run_25 rfl ?_
        exact V_iret h rfl hQ (Nat.le_of_ble_eq_true rfl) (Nat.le_of_ble_eq_true rfl) ⟨rfl, rfl, rfl, _, rfl, e3, lok, hLk, hPk, hSk, hFk⟩ dX6_run_26
      · skip
        have hlt : i < dn := mLtB c8 (by omega)
        refine V_iload_n h 12 3 rfl dX6_run_11 rfl ?_
        refine V_aload_n h 13 0 rfl dX6_run_12 rfl ?_
        refine V_iload_n h 14 1 rfl dX6_run_13 rfl ?_
        refine V_callV h 17 (rm := { frames := 3, cells := 0, slots := 0, locals := 71 }) (As := [.int x]) (r_go hLk hSk (dd := dd + i) (gX_days hG i) (by omega) x) rfl (R_s0 hLk) qL_X6_116 qI_X6_go qS_X6_go qZ_X6 qC_X6_go hd_X6_go ⟨Nat.le_of_ble_eq_true rfl, Nat.le_of_ble_eq_true rfl⟩ (Nat.le_of_ble_eq_true rfl) rfl rfl dX6_run_14 ⟨(Nat.le_of_ble_eq_true rfl), (Nat.le_of_ble_eq_true rfl)⟩ (fun v1 n1 S1 P1 D1 E1 hq1 => ?_)
        obtain ⟨q1, q2, q4, an1, q5, ea, lo2, hL2, hP2, hSG, hFG⟩ := hq1
        subst q5
        subst q4
        rw [q1, q2]
        refine V_iadd h 18 dX6_run_17 rfl ?_
        refine V_istore_n h 19 [(3, .int (x3 + an1)), (0, .ref r), (1, .int x), (2, .int (nI dn)), (4, .int (nI i))] (by decide) rfl dX6_run_18 rfl ?_
        refine V_iinc h 22 [(4, .int ((nI i) + 1)), (3, .int (x3 + an1)), (0, .ref r), (1, .int x), (2, .int (nI dn))] 4 rfl (by rfl) (by decide) rfl dX6_run_19 rfl ?_
        refine V_goto h 5 dX6_run_22 (by decide) ?_
        refine V_lsub [(0, .ref r), (1, .int x), (2, .int (nI dn)), (3, .int (x3 + an1)), (4, .int ((nI i) + 1))] [2, 3, 4, 1, 0] rfl ?_
        exact ih (i + 1) _ _ lo2 P1 D1 (by omega) (by rw [daysS, rsum, ← daysS, ← e3, ea]) (nI_1 i) hL2 (fun a ha => by rw [hP2 a ha]; exact hPk a ha) hSG (fun a ha => by rw [hFG a ha]; exact hFk a ha) (by omega)
  refine V_lsub [(0, .ref r), (1, .int x), (2, .int (nI dn)), (3, .int 0), (4, .int 0)] [2, 3, 4, 1, 0] rfl ?_
  exact LP5 _ 0 _ _ lo P D (Nat.zero_le _) rfl rfl hL (fun a _ => rfl) hS (fun a _ => rfl) (Nat.lt_succ_self _)
