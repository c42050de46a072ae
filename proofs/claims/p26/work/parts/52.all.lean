/-! what would come to all: what all are asked for one by one -/
theorem days_blk {o L m k d : Nat} {ρ : Nat → Nat} {x : Int32} {D V : mDt} (hW : cW o L ρ m k D) (h : ∀ a, o ≤ a → a < o + 20 → V a = D a) : ∀ i, i < 10 → ∀ j, 1 ≤ j → j < 15 → (daysD o ρ L x (V, m, k) d).1 (o + 6 + i) j = (daysD o ρ L x (D, m, k) d).1 (o + 6 + i) j := by
  have hW2 : cW o L ρ m k V := cW_of (h _ (by omega) (by omega)) (h _ (by omega) (by omega)) (h _ (by omega) (by omega)) (h _ (by omega) (by omega)) (h _ (by omega) (by omega)) (h _ (by omega) (by omega)) (fun i hi => by rw [h _ (by omega) (by omega)]) hW
  intro i hi j h1 h2
  exact ev_w (days_ev (x := x) (Or.inl rfl) hW hW2 (ev_blk h) d).2.1 hi h1 h2
theorem askFr_t {t : Nat} {D D1 D2 : mDt} (h : askFr t D D1) (h2 : askFr t D1 D2) : askFr t D D2 := ⟨fun a ha => (h2.1 a ha).trans (h.1 a ha), h2.2.1, h2.2.2⟩
theorem askFr_0 {t m dd c n : Nat} {sh : mSh} {P : mPt} {D : mDt} (h : oI t m dd c n sh P D) : askFr t D D := ⟨fun _ _ => rfl, h.2.2.2.1, h.2.2.2.2⟩
theorem all_sum {t m dd c n d : Nat} {sh : mSh} {P : mPt} {D : mDt} {x : Int32} (hO : oI t m dd c n sh P D) : rsum (fun a => (daysD (t + 2) (rhoN 4) 4 x (D, m, 0) d).1 (t + 2 + 6 + a) 13 - D (t + 2 + 6 + a) 13) 4 = daysS (t + 2) (rhoN 4) 4 x (D, m, 0) d := by
  rw [← came_days hO.2.2.1.1.1 hO.2.2.1.2.1.2.1 d]
  exact rsum_c2 (fun p hp => by show _ = (daysD (t + 2) (rhoN 4) 4 x (D, m, 0) d).1 (t + 2 + 6 + rhoN 4 p) 13 - D (t + 2 + 6 + rhoN 4 p) 13; rw [rho4 hp])
set_option maxRecDepth 100000 in
set_option maxHeartbeats 4000000 in
theorem m_all {κ : mKp} {n : Nat} {sh : mSh} {P : mPt} {D : mDt} {E : mEt} {bs Ls : Nat} {xs : Nat → Int32} {t m dd c d : Nat} {x : Int32} (hst : κ.1.stackTraces = false) (hO : oI t m dd c n sh P D) (h1 : 1 ≤ d) (h2 : d ≤ 70) (hx : wP x 0 99) : mSMet κ yL_all cL_all 5 (Option.some Jvm.ClassFile.FieldType.int) { frames := 9, cells := 8, slots := 48, locals := 192 } [.ref (t + 1), .int x, .int (nI d)] n sh P D E bs Ls xs (fun v n' sh' P' D' E' => v = some (.int (daysS (t + 2) (rhoN 4) 4 x (D, m, 0) d)) ∧ n' = n ∧ sh' = sh ∧ P' = P ∧ E' = E ∧ askFr t D D') := by
  refine mSMet_of (by decide) (Nat.le_of_ble_eq_true rfl) ?_
  intro Γ Q hQ h hX hin
  have h : mOk Γ κ RL cL_all 5 (Option.some Jvm.ClassFile.FieldType.int) { frames := 9, cells := 8, slots := 48, locals := 192 } := h
  have hB1 := hO.2.1.1
  show mV Γ Q 0 0 n sh P D E [(0, .ref (t + 1)), (1, .int x), (2, .int (nI d))] [] 0
  refine V_iconst h 1 (v := 0) (by decide) dL_all_0 rfl ?_
  refine V_istore_n h 2 [(3, .int 0), (0, .ref (t + 1)), (1, .int x), (2, .int (nI d))] (by decide) rfl dL_all_1 rfl ?_
  refine V_iconst h 3 (v := 0) (by decide) dL_all_2 rfl ?_
  refine V_istore h 5 [(4, .int 0), (3, .int 0), (0, .ref (t + 1)), (1, .int x), (2, .int (nI d))] (by decide) rfl dL_all_3 rfl ?_
  have LP : ∀ (kk : Nat) (i : Nat) (x3 x4 : Int32) (D1 : mDt), i ≤ 4 → x4 = nI i → x3 = rsum (fun a => (daysD (t + 2) (rhoN 4) 4 x (D, m, 0) d).1 (t + 2 + 6 + a) 13 - D (t + 2 + 6 + a) 13) i → askFr t D D1 → 4 - i < kk → mV Γ Q (2 * i) (12 * i) n sh P D1 E [(0, .ref (t + 1)), (1, .int x), (2, .int (nI d)), (3, .int x3), (4, .int x4)] [] 5 := by
    intro kk
    induction kk with
    | zero => intro i x3 x4 D1 _ _ _ _ hm; exact absurd hm (Nat.not_lt_zero _)
    | succ kk ih =>
      intro i x3 x4 D1 hi e4 e3 hA hm
      subst e4
      obtain ⟨K, eK⟩ : ∃ K, K = 2 * i := ⟨_, rfl⟩
      obtain ⟨S, eS⟩ : ∃ S, S = 12 * i := ⟨_, rfl⟩
      rw [← eK, ← eS]
      refine V_iload h 7 4 rfl dL_all_5 rfl ?_
      refine V_iconst h 8 (v := 4) (by decide) dL_all_7 rfl ?_
      refine V_icmp_ge h 28 11 dL_all_8 (by decide) rfl (fun c8 => ?_) (fun c8 => ?_)
      · have hi4 : i = 4 := by have := mGeB (i := i) (m := 4) c8 (by omega) (by decide); omega
        subst hi4
        rw [e3, all_sum hO]
        refine V_iload_n h 29 3 rfl dL_all_28 rfl ?_
        exact V_iret h rfl hQ (by show K ≤ 8; omega) (by show S ≤ 48; omega) ⟨rfl, rfl, rfl, rfl, rfl, hA⟩ dL_all_29
      · have hi4 : i < 4 := mLtB (i := i) (m := 4) c8 (by omega)
        have hO1 : oI t m dd c n sh P D1 := oI_ask hO hA
        refine V_iload_n h 12 3 rfl dL_all_11 rfl ?_
        refine V_aload_n h 13 0 rfl dL_all_12 rfl ?_
        refine V_iload h 15 4 rfl dL_all_13 rfl ?_
        refine V_iload_n h 16 1 rfl dL_all_15 rfl ?_
        refine V_iload_n h 17 2 rfl dL_all_16 rfl ?_
        refine NVI h hX (K + 2) (S + 12) 20 (As := [.int (nI i), .int x, .int (nI d)]) (o_come hst hO1 (a := i) (d := d) hi4 h1 h2 hx) rfl hB1 qL_L_46 qI_X5_wouldCome qS_X5_wouldCome qZ_X5 qC_X5_wouldCome hd_X5_wouldCome ⟨Nat.le_of_ble_eq_true rfl, Nat.le_of_ble_eq_true rfl⟩ (Nat.le_of_ble_eq_true rfl) rfl rfl dL_all_17 ⟨by show K + 2 ≤ 8; omega, by show S + 12 ≤ 48; omega⟩ rfl rfl (fun X9 hk => hk) (fun r1 D1 hq1 => ?_)
        obtain ⟨hr, hf⟩ := hq1
        refine V_iadd h 21 dL_all_20 rfl ?_
        refine V_istore_n h 22 [(3, .int (x3 + r1)), (0, .ref (t + 1)), (1, .int x), (2, .int (nI d)), (4, .int (nI i))] (by decide) rfl dL_all_21 rfl ?_
        refine V_iinc h 25 [(4, .int ((nI i) + 1)), (3, .int (x3 + r1)), (0, .ref (t + 1)), (1, .int x), (2, .int (nI d))] 4 rfl (by rfl) (by decide) rfl dL_all_22 rfl ?_
        refine V_goto h 5 dL_all_25 (by decide) ?_
        refine V_lsub [(0, .ref (t + 1)), (1, .int x), (2, .int (nI d)), (3, .int (x3 + r1)), (4, .int ((nI i) + 1))] [2, 3, 4, 1, 0] rfl ?_
        rw [show K + 2 = 2 * (i + 1) by omega, show S + 12 = 12 * (i + 1) by omega]
        refine ih (i + 1) _ _ _ (by omega) (nI_1 i) ?_ (askFr_t hA hf) (by omega)
        rw [rsum, ← e3, hr, days_blk hO.2.2.1.1.1 (fun a a1 a2 => hA.1 a (by omega)) i (by omega) 13 (by decide) (by decide), hA.1 _ (by omega)]
  refine V_lsub [(0, .ref (t + 1)), (1, .int x), (2, .int (nI d)), (3, .int 0), (4, .int (nI 0))] [2, 3, 4, 1, 0] rfl ?_
  exact LP _ 0 _ _ D (by omega) rfl rfl (askFr_0 hO) (Nat.lt_succ_self _)

