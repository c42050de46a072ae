def inhD (o e t : Nat) (x y : Int32) (D : mDt) : Nat → mDt
  | 0 => D
  | k + 1 => setRow (inhD o e t x y D k) (o + 6 + (e + k)) (inhX (inhD o e t x y D k (o + 6 + t)) x y (nI k) (inhD o e t x y D k (o + 6 + (e + k))))
theorem inhD_out {o e t : Nat} {x y : Int32} {D : mDt} {k a : Nat} (h : ∀ i, i < k → a ≠ o + 6 + (e + i)) : inhD o e t x y D k a = D a := by
  induction k with
  | zero => rfl
  | succ k ih =>
    rw [inhD, setRow_ne (h k (Nat.lt_succ_self k))]
    exact ih (fun p hp => h p (Nat.lt_succ_of_lt hp))
theorem inhD_in {o e t : Nat} (hte : t < e) {x y : Int32} {D : mDt} {k i : Nat} (hi : i < k) : inhD o e t x y D k (o + 6 + (e + i)) = inhX (D (o + 6 + t)) x y (nI i) (D (o + 6 + (e + i))) := by
  induction k with
  | zero => omega
  | succ k ih =>
    rw [inhD]
    by_cases h : i = k
    · subst h
      rw [setRow_eq, inhD_out (fun j hj => by omega), inhD_out (fun j hj => by omega)]
    · rw [setRow_ne (by omega)]
      exact ih (by omega)
def dieOk (o q h e : Nat) (x y : Int32) (L : Nat) (ρ : Nat → Nat) (m k : Nat) (D D' : mDt) : Prop := D' (o + 2) 4 = nI (L + h - 1) ∧ D' (o + 2) 3 = nI (e + h) ∧ (∀ p, p < L + h - 1 → D' (o + 4) p = nI (heirRow ρ q h e p)) ∧ (∀ i, i < h → D' (o + 6 + (e + i)) = inhX (upd (D (o + 6 + ρ q)) 1 0) x y (nI i) (upd (D (o + 6 + (e + i))) 1 1)) ∧ D' (o + 6 + ρ q) = upd (D (o + 6 + ρ q)) 1 0 ∧ (∀ i, i < 10 → i ≠ ρ q → (i < e ∨ e + h ≤ i) → D' (o + 6 + i) = D (o + 6 + i)) ∧ (∃ k2, k2 ≤ m ∧ D' (o + 16) 1 = nI k2 ∧ dls (D' (o + 17)) k2 = (dls (D (o + 17)) m).filterMap (endR (nI (ρ q)))) ∧ D' (o + 18) 1 = nI k ∧ dls (D' (o + 19)) k = (dls (D (o + 19)) k).map (passR (nI (ρ q)) (nI e)) ∧ ∀ a, (a < o ∨ o + 20 ≤ a ∨ a = o ∨ a = o + 1 ∨ a = o + 5) → D' a = D a
theorem livD_row {o e : Nat} {D : mDt} {k i : Nat} (hi : i < k) : livD o e D k (o + 6 + (e + i)) = upd (D (o + 6 + (e + i))) 1 1 := by
  funext j
  by_cases h : j = 1
  · subst h
    rw [livD_in hi]; simp [upd]
  · rw [livD_0 h]; simp [upd, h]
theorem die_ok {o q h e : Nat} {x y : Int32} {L : Nat} {ρ : Nat → Nat} {m k k2 : Nat} {D D1 D3 D4 : mDt} {g g2 g3 : Nat → Int32} (hq : ρ q < e) (he : e + h ≤ 10)
    (e1 : D1 = upd2 (upd2 (upd2 (setRow (livD o e D h) (o + 4) g) (o + 6 + ρ q) 1 0) (o + 2) 4 (nI (L + h - 1))) (o + 2) 3 (nI (e + h))) (hg : ∀ p, p < L + h - 1 → g p = nI (heirRow ρ q h e p))
    (hk2 : k2 ≤ m) (e3 : D3 = upd2 (setRow (inhD o e (ρ q) x y D1 h) (o + 17) g2) (o + 16) 1 (nI k2)) (hg2 : dls g2 k2 = (dls (inhD o e (ρ q) x y D1 h (o + 17)) m).filterMap (endR (nI (ρ q))))
    (e4 : D4 = setRow D3 (o + 19) g3) (hg3 : dls g3 k = (dls (D3 (o + 19)) k).map (passR (nI (ρ q)) (nI e))) (h18 : D (o + 18) 1 = nI k) : dieOk o q h e x y L ρ m k D D4 := by
  have hd : D1 (o + 6 + ρ q) = upd (D (o + 6 + ρ q)) 1 0 := by
    rw [e1, upd2_ra (by omega), upd2_ra (by omega), upd2_row, setRow_ne (by omega), livD_out (fun i hi => by omega)]
  have hh : ∀ i, i < h → D1 (o + 6 + (e + i)) = upd (D (o + 6 + (e + i))) 1 1 := fun i hi => by
    rw [e1, upd2_ra (by omega), upd2_ra (by omega), upd2_ra (by omega), setRow_ne (by omega), livD_row hi]
  have a1 : ∀ a, a ≠ o + 2 → a ≠ o + 4 → (a < o + 6 ∨ o + 16 ≤ a) → D1 a = D a := fun a h1 h2 h3 => by
    rw [e1, upd2_ra h1, upd2_ra h1, upd2_ra (by omega), setRow_ne h2, livD_out (fun i hi => by omega)]
  have a2 : ∀ a, (a < o + 6 ∨ o + 16 ≤ a) → inhD o e (ρ q) x y D1 h a = D1 a := fun a h1 => inhD_out (fun i hi => by omega)
  have a3 : ∀ a, a ≠ o + 16 → a ≠ o + 17 → D3 a = inhD o e (ρ q) x y D1 h a := fun a h1 h2 => by rw [e3, upd2_ra h1, setRow_ne h2]
  have a4 : ∀ a, a ≠ o + 19 → D4 a = D3 a := fun a h1 => by rw [e4, setRow_ne h1]
  refine ⟨?_, ?_, fun p hp => ?_, fun i hi => ?_, ?_, fun i h10 hn hi => ?_, ⟨k2, hk2, ?_, ?_⟩, ?_, ?_, fun a ha => ?_⟩
  · rw [a4 _ (by omega), a3 _ (by omega) (by omega), a2 _ (by omega), e1, upd2_nk (by decide), upd2_eq]
  · rw [a4 _ (by omega), a3 _ (by omega) (by omega), a2 _ (by omega), e1, upd2_eq]
  · rw [a4 _ (by omega), a3 _ (by omega) (by omega), a2 _ (by omega), e1, upd2_na (by omega), upd2_na (by omega), upd2_na (by omega), setRow_eq]; exact hg p hp
  · rw [a4 _ (by omega), a3 _ (by omega) (by omega), inhD_in hq hi, hd, hh i hi]
  · rw [a4 _ (by omega), a3 _ (by omega) (by omega), inhD_out (fun i hi => by omega), hd]
  · rw [a4 _ (by omega), a3 _ (by omega) (by omega), inhD_out (fun j hj => by omega), e1, upd2_ra (by omega), upd2_ra (by omega), upd2_ra (by omega), setRow_ne (by omega), livD_out (fun j hj => by omega)]
  · rw [a4 _ (by omega), e3, upd2_eq]
  · rw [a4 _ (by omega), e3, upd2_ra (by omega), setRow_eq, hg2, a2 _ (by omega), a1 _ (by omega) (by omega) (by omega)]
  · rw [a4 _ (by omega), a3 _ (by omega) (by omega), a2 _ (by omega), a1 _ (by omega) (by omega) (by omega), h18]
  · rw [e4, setRow_eq, hg3, a3 _ (by omega) (by omega), a2 _ (by omega), a1 _ (by omega) (by omega) (by omega)]
  · rw [a4 _ (by omega), a3 _ (by omega) (by omega), a2 _ (by omega), a1 _ (by omega) (by omega) (by omega)]

set_option maxRecDepth 100000 in
set_option maxHeartbeats 4000000 in
theorem c_leave {κ : mKp} {n : Nat} {sh : mSh} {P : mPt} {D : mDt} {E : mEt} {o : Nat} (hL : mLay o sh P) {L m k q hc e : Nat} {ρ : Nat → Nat} (hW : cW o L ρ m k D) (hq : q < L) (hinj : ∀ p, p < q → ρ p ≠ ρ q) (hqe : ρ q < e) (h3 : D (o + 2) 3 = nI e) (hLe : L ≤ e) (he : e + hc ≤ 10) (hh : 1 ≤ hc) (x y : Int32) (hxy : x + y = nI hc) : mFnI κ yX2_leaveToHeirs cX2_leaveToHeirs 7 (Option.some Jvm.ClassFile.FieldType.int) 4 89 [.ref o, .int (nI (ρ q)), .int x, .int y] n sh P D E (fun r D' => r = nI e ∧ dieOk o q hc e x y L ρ m k D D') := by
  refine mMet_of (by decide) (Nat.le_of_ble_eq_true rfl) ?_
  intro Γ Q hQ h hin
  have h : mOk Γ κ RX2 cX2_leaveToHeirs 7 (Option.some Jvm.ClassFile.FieldType.int) { frames := 4, cells := 0, slots := 0, locals := 89 } := h
  have hq10 := (hW.1.2.2 q hq).1
  show mV Γ Q 0 0 n sh P D E [(0, .ref o), (1, .int (nI (ρ q))), (2, .int x), (3, .int y)] [] 0
  refine V_aload_n h 1 0 rfl dX2_leaveToHeirs_0 rfl ?_
  refine g_X2_21 h 4 (b := o + 2) (L_s0 hL) (L_p1 hL) dX2_leaveToHeirs_1 rfl ?_
  refine V_iload_n h 5 1 rfl dX2_leaveToHeirs_4 rfl ?_
  refine CVR h 8 (As := [.int (nI (ρ q))]) (c_numb hL (i := (ρ q)) (hW.1.2.2 q hq).1) rfl (L_s2 hL) qL_X2_128 qI_X4_numbered qS_X4_numbered qZ_X4 qC_X4_numbered hd_X4_numbered ⟨Nat.le_of_ble_eq_true rfl, Nat.le_of_ble_eq_true rfl⟩ (Nat.le_of_ble_eq_true rfl) rfl rfl dX2_leaveToHeirs_5 (Nat.zero_le _) (Nat.zero_le _) (fun r1 D1 hq1 => ?_)
  rw [hq1.1, hq1.2]
  refine V_astore h 10 [(4, .ref (o + 6 + (ρ q))), (0, .ref o), (1, .int (nI (ρ q))), (2, .int x), (3, .int y)] (by decide) rfl dX2_leaveToHeirs_8 rfl ?_
  refine V_aload_n h 11 1 rfl dX2_leaveToHeirs_10 rfl ?_
  refine g_X2_21 h 14 (b := o + 2) (L_s0 hL) (L_p1 hL) dX2_leaveToHeirs_11 rfl ?_
  refine V_aload h 16 0 rfl dX2_leaveToHeirs_14 rfl ?_
  refine V_iload_n h 17 3 rfl dX2_leaveToHeirs_16 rfl ?_
  refine V_iload_n h 18 4 rfl dX2_leaveToHeirs_17 rfl ?_
  refine V_iadd h 19 dX2_leaveToHeirs_18 rfl ?_
  refine V_top (y := nI hc) hxy ?_
  refine CVI h 22 (As := [.ref (o + 6 + (ρ q)), .int (nI hc)]) (c_putHeirs hL hW.1 hq hinj hW.2.1 h3 hLe he hh) rfl (L_s2 hL) qL_X2_149 qI_X4_putHeirsFor qS_X4_putHeirsFor qZ_X4 qC_X4_putHeirsFor hd_X4_putHeirsFor ⟨Nat.le_of_ble_eq_true rfl, Nat.le_of_ble_eq_true rfl⟩ (Nat.le_of_ble_eq_true rfl) rfl rfl dX2_leaveToHeirs_19 (Nat.zero_le _) (Nat.zero_le _) (fun r2 D2 hq2 => ?_)
  obtain ⟨er, g, e1, hg⟩ := hq2
  refine V_top (y := nI e) er ?_
  have a1 : ∀ a, a ≠ o + 2 → a ≠ o + 4 → (a < o + 6 ∨ o + 16 ≤ a) → D2 a = D a := fun a h1 h2 h3 => by rw [e1, upd2_ra h1, upd2_ra h1, upd2_ra (by omega), setRow_ne h2, livD_out (fun i hi => by omega)]
  refine V_istore h 24 [(5, .int (nI e)), (4, .ref (o + 6 + (ρ q))), (0, .ref o), (1, .int (nI (ρ q))), (2, .int x), (3, .int y)] (by decide) rfl dX2_leaveToHeirs_22 rfl ?_
  refine V_iconst h 25 (v := 0) (by decide) dX2_leaveToHeirs_24 rfl ?_
  refine V_istore h 27 [(6, .int 0), (5, .int (nI e)), (4, .ref (o + 6 + (ρ q))), (0, .ref o), (1, .int (nI (ρ q))), (2, .int x), (3, .int y)] (by decide) rfl dX2_leaveToHeirs_25 rfl ?_
  have LP27 : ∀ (kk : Nat) (i : Nat) (x6 : Int32), (i ≤ hc) → (x6 = nI i) → hc - i < kk → mV Γ Q 0 0 n sh P (inhD o e (ρ q) x y D2 i) E [(0, .ref o), (1, .int (nI (ρ q))), (2, .int x), (3, .int y), (4, .ref (o + 6 + ρ q)), (5, .int (nI e)), (6, .int x6)] [] 27 := by
    intro kk
    induction kk with
    | zero =>
      intro i x6 _ _ hms
      exact absurd hms (Nat.not_lt_zero _)
    | succ kk ih =>
      intro i x6 hi e6 hms
      subst e6
      refine V_iload h 29 6 rfl dX2_leaveToHeirs_27 rfl ?_
      refine V_iload_n h 30 2 rfl dX2_leaveToHeirs_29 rfl ?_
      refine V_iload_n h 31 3 rfl dX2_leaveToHeirs_30 rfl ?_
      refine V_iadd h 32 dX2_leaveToHeirs_31 rfl ?_
      refine V_top (y := nI hc) hxy ?_
      refine V_icmp_ge h 62 35 dX2_leaveToHeirs_32 (by decide) rfl (fun c32 => ?_) (fun c32 => ?_)
      · skip
        have hex : hc = i := by have := mGe (m := hc) c32 (by omega) (by omega); omega
        subst hex
        have a2 : ∀ a, (a < o + 6 ∨ o + 16 ≤ a) → (inhD o e (ρ q) x y D2 hc) a = D2 a := fun a h1 => inhD_out (fun i hi => by omega)
        refine V_aload_n h 63 0 rfl dX2_leaveToHeirs_62 rfl ?_
        refine g_X2_28 h 66 (b := o + 16) (L_s0 hL) (L_p2 hL) dX2_leaveToHeirs_63 rfl ?_
        refine V_iload_n h 67 1 rfl dX2_leaveToHeirs_66 rfl ?_
        refine CVV h 70 (As := [.int (nI (ρ q))]) (c_endThose (L_s16 hL) (L_p16 hL) (L_s17 hL) (m := m) (by omega) (by rw [a2 _ (by omega), a1 _ (by omega) (by omega) (by omega)]; exact hW.2.2.1) hW.2.2.2.1.1 (nI (ρ q))) rfl (L_s16 hL) qL_X2_157 qI_X1_endThoseOf qS_X1_endThoseOf qZ_X1 qC_X1_endThoseOf hd_X1_endThoseOf ⟨Nat.le_of_ble_eq_true rfl, Nat.le_of_ble_eq_true rfl⟩ (Nat.le_of_ble_eq_true rfl) rfl rfl dX2_leaveToHeirs_67 (Nat.zero_le _) (Nat.zero_le _) (fun D3 hq3 => ?_)
        obtain ⟨g2, k2, hk2, e3, hg2⟩ := hq3
        have a3 : ∀ a, a ≠ o + 16 → a ≠ o + 17 → D3 a = (inhD o e (ρ q) x y D2 hc) a := fun a h1 h2 => by rw [e3, upd2_ra h1, setRow_ne h2]
        refine V_aload_n h 71 0 rfl dX2_leaveToHeirs_70 rfl ?_
        refine g_X2_32 h 74 (b := o + 18) (L_s0 hL) (L_p3 hL) dX2_leaveToHeirs_71 rfl ?_
        refine V_iload_n h 75 1 rfl dX2_leaveToHeirs_74 rfl ?_
        refine V_iload h 77 5 rfl dX2_leaveToHeirs_75 rfl ?_
        refine CVV h 80 (As := [.int (nI (ρ q)), .int (nI e)]) (c_passOn (L_s18 hL) (L_p18 hL) (L_s19 hL) (m := k) (by omega) (by rw [a3 _ (by omega) (by omega), a2 _ (by omega), a1 _ (by omega) (by omega) (by omega)]; exact hW.2.2.2.2.1) hW.2.2.2.2.2.1 (nI (ρ q)) (nI e)) rfl (L_s18 hL) qL_X2_160 qI_X1_passOn qS_X1_passOn qZ_X1 qC_X1_passOn hd_X1_passOn ⟨Nat.le_of_ble_eq_true rfl, Nat.le_of_ble_eq_true rfl⟩ (Nat.le_of_ble_eq_true rfl) rfl rfl dX2_leaveToHeirs_77 (Nat.zero_le _) (Nat.zero_le _) (fun D4 hq4 => ?_)
        obtain ⟨g3, e4, hg3⟩ := hq4
        refine V_iload h 82 5 rfl dX2_leaveToHeirs_80 rfl ?_
        exact V_iret h rfl hQ (Nat.zero_le _) (Nat.zero_le _) ⟨rfl, rfl, rfl, rfl, _, rfl, ⟨rfl, die_ok hqe he e1 hg hk2 e3 hg2 e4 hg3 hW.2.2.2.2.1⟩⟩ dX2_leaveToHeirs_82
      · skip
        have hlt := mLt c32 (by omega)
        refine V_aload_n h 36 0 rfl dX2_leaveToHeirs_35 rfl ?_
        refine g_X2_21 h 39 (b := o + 2) (L_s0 hL) (L_p1 hL) dX2_leaveToHeirs_36 rfl ?_
        refine V_iload h 41 5 rfl dX2_leaveToHeirs_39 rfl ?_
        refine V_iload h 43 6 rfl dX2_leaveToHeirs_41 rfl ?_
        refine V_iadd h 44 dX2_leaveToHeirs_43 rfl ?_
        refine V_top (y := nI (e + i)) (nI_add e i) ?_
        refine CVR h 47 (As := [.int (nI (e + i))]) (c_numb hL (i := (e + i)) (by omega)) rfl (L_s2 hL) qL_X2_128 qI_X4_numbered qS_X4_numbered qZ_X4 qC_X4_numbered hd_X4_numbered ⟨Nat.le_of_ble_eq_true rfl, Nat.le_of_ble_eq_true rfl⟩ (Nat.le_of_ble_eq_true rfl) rfl rfl dX2_leaveToHeirs_44 (Nat.zero_le _) (Nat.zero_le _) (fun r5 D5 hq5 => ?_)
        rw [hq5.1, hq5.2]
        refine V_aload h 49 4 rfl dX2_leaveToHeirs_47 rfl ?_
        refine V_iload_n h 50 2 rfl dX2_leaveToHeirs_49 rfl ?_
        refine V_iload_n h 51 3 rfl dX2_leaveToHeirs_50 rfl ?_
        refine V_iload h 53 6 rfl dX2_leaveToHeirs_51 rfl ?_
        refine CVV h 56 (As := [.ref (o + 6 + ρ q), .int x, .int y, .int (nI i)]) (c_inherit (L_sw hL (by omega)) (L_sw hL (hW.1.2.2 q hq).1) (by omega) x y (nI i)) rfl (L_sw hL (by omega)) qL_X2_153 qI_X3_inherit qS_X3_inherit qZ_X3 qC_X3_inherit hd_X3_inherit ⟨Nat.le_of_ble_eq_true rfl, Nat.le_of_ble_eq_true rfl⟩ (Nat.le_of_ble_eq_true rfl) rfl rfl dX2_leaveToHeirs_53 (Nat.zero_le _) (Nat.zero_le _) (fun D6 hq6 => ?_)
        rw [show D6 = (inhD o e (ρ q) x y D2 (i + 1)) from hq6]
        refine V_iinc h 59 [(6, .int ((nI i) + 1)), (0, .ref o), (1, .int (nI (ρ q))), (2, .int x), (3, .int y), (4, .ref (o + 6 + ρ q)), (5, .int (nI e))] 6 rfl (by rfl) (by decide) rfl dX2_leaveToHeirs_56 rfl ?_
        refine V_goto h 27 dX2_leaveToHeirs_59 (by decide) ?_
        refine V_lsub [(0, .ref o), (1, .int (nI (ρ q))), (2, .int x), (3, .int y), (4, .ref (o + 6 + ρ q)), (5, .int (nI e)), (6, .int ((nI i) + 1))] [1, 2, 3, 4, 5, 6, 0] rfl ?_
        exact ih (i + 1) _ (by omega) (nI_1 i) (by omega)
  refine V_lsub [(0, .ref o), (1, .int (nI (ρ q))), (2, .int x), (3, .int y), (4, .ref (o + 6 + (ρ q))), (5, .int (nI e)), (6, .int 0)] [3, 4, 5, 6, 2, 1, 0] rfl ?_
  exact LP27 _ 0 _ (Nat.zero_le _) rfl (Nat.lt_succ_self _)
