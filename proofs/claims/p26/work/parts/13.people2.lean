def payD (o : Nat) (ρ : Nat → Nat) (L : Nat) (x : Int32) (D : mDt) : mDt := upd2 (mapD o ρ (fun _ => shareX x (rsum (fun p => D (o + 6 + ρ p) 2) L)) D L) (o + 6 + ρ 0) 3 (mapD o ρ (fun _ => shareX x (rsum (fun p => D (o + 6 + ρ p) 2) L)) D L (o + 6 + ρ 0) 3 - lsub x (fun p => x * mapD o ρ (fun _ => shareX x (rsum (fun p => D (o + 6 + ρ p) 2) L)) D p (o + 6 + ρ p) 2 / rsum (fun p => D (o + 6 + ρ p) 2) L) L)
def addD (o e L : Nat) (w c p m : Int32) (D : mDt) : mDt := upd2 (upd2 (upd2 (setRow D (o + 6 + e) (upd (settleX w c p m (D (o + 6 + e))) 1 1)) (o + 4) L (nI e)) (o + 2) 4 (nI (L + 1))) (o + 2) 3 (nI (e + 1))

set_option maxRecDepth 100000 in
set_option maxHeartbeats 4000000 in
theorem c_shareCost {κ : mKp} {n : Nat} {sh : mSh} {P : mPt} {D : mDt} {E : mEt} {o : Nat} (hL : mLay o sh P) {L : Nat} {ρ : Nat → Nat} (hp : pOk o L ρ D) (hall : 1 ≤ rsum (fun p => D (o + 6 + ρ p) 2) L) (x : Int32) : mFnV κ yX4_shareCost cX4_shareCost 7 3 64 [.ref (o + 2), .int x] n sh P D E (fun D' => D' = payD o ρ L x D) := by
  refine mMet_of (by decide) (Nat.le_of_ble_eq_true rfl) ?_
  intro Γ Q hQ h hin
  have h : mOk Γ κ RX4 cX4_shareCost 7 (Option.none : Option Jvm.ClassFile.FieldType) { frames := 3, cells := 0, slots := 0, locals := 64 } := h
  have hL10 := hp.2.1
  have hL1 : 0 < L := by
    rcases Nat.eq_zero_or_pos L with q | q
    · exact absurd hall (by rw [q]; show ¬ (1 : Int32) ≤ 0; decide)
    · exact q
  show mV Γ Q 0 0 n sh P D E [(0, .ref (o + 2)), (1, .int x)] [] 0
  refine V_aload_n h 1 0 rfl dX4_shareCost_0 rfl ?_
  refine CVI h 4 (As := []) (c_ownedBowls hL hp) rfl (L_s2 hL) qL_X4_68 qI_X4_ownedBowls qS_X4_ownedBowls qZ_X4 qC_X4_ownedBowls hd_X4_ownedBowls ⟨Nat.le_of_ble_eq_true rfl, Nat.le_of_ble_eq_true rfl⟩ (Nat.le_of_ble_eq_true rfl) rfl rfl dX4_shareCost_1 (Nat.zero_le _) (Nat.zero_le _) (fun r1 D1 hq1 => ?_)
  rw [hq1.1, hq1.2]
  refine V_topi (fun al eal => ?_)
  refine V_istore_n h 5 [(2, .int al), (0, .ref (o + 2)), (1, .int x)] (by decide) rfl dX4_shareCost_4 rfl ?_
  refine V_iload_n h 6 0 rfl dX4_shareCost_5 rfl ?_
  refine V_iconst h 7 (v := 1) (by decide) dX4_shareCost_6 rfl ?_
  refine V_icmp_ge h 11 10 dX4_shareCost_7 (by decide) rfl (fun c7 => ?_) (fun c7 => absurd (by rw [eal]; exact hall) c7)
  refine V_iload_n h 12 2 rfl dX4_shareCost_11 rfl ?_
  refine V_istore_n h 13 [(3, .int x), (2, .int al), (0, .ref (o + 2)), (1, .int x)] (by decide) rfl dX4_shareCost_12 rfl ?_
  refine V_iconst h 14 (v := 0) (by decide) dX4_shareCost_13 rfl ?_
  refine V_istore h 16 [(4, .int 0), (3, .int x), (2, .int al), (0, .ref (o + 2)), (1, .int x)] (by decide) rfl dX4_shareCost_14 rfl ?_
  have LP16 : ∀ (kk : Nat) (i : Nat) (x3 x4 : Int32), (i ≤ L) → (x3 = lsub x (fun p => x * mapD o ρ (fun _ => shareX x al) D p (o + 6 + ρ p) 2 / al) i) → (x4 = nI i) → L - i < kk → mV Γ Q 0 0 n sh P (mapD o ρ (fun _ => shareX x al) D i) E [(0, .ref (o + 2)), (1, .int x), (2, .int al), (3, .int x3), (4, .int x4)] [] 16 := by
    intro kk
    induction kk with
    | zero =>
      intro i x3 x4 _ _ _ hms
      exact absurd hms (Nat.not_lt_zero _)
    | succ kk ih =>
      intro i x3 x4 hi e3 e4 hms
      subst e3 e4
      refine V_iload h 18 4 rfl dX4_shareCost_16 rfl ?_
      refine V_aload_n h 19 0 rfl dX4_shareCost_18 rfl ?_
      refine g_X4_36 h 22 (L_s2 hL) dX4_shareCost_19 rfl ?_
      refine V_top (y := nI L) ((pOk_map hp).1) ?_
      refine V_icmp_ge h 67 25 dX4_shareCost_22 (by decide) rfl (fun c22 => ?_) (fun c22 => ?_)
      · skip
        have hex : i = L := by have := mGe c22 (by omega) (by omega); omega
        refine V_aload_n h 68 0 rfl dX4_shareCost_67 rfl ?_
        refine V_iconst h 69 (v := 0) (by decide) dX4_shareCost_68 rfl ?_
        refine CVR h 72 (As := [.int 0]) (c_standing hL (pOk_map hp) (q := 0) (by omega)) rfl (L_s2 hL) qL_X4_40 qI_X4_standing qS_X4_standing qZ_X4 qC_X4_standing hd_X4_standing ⟨Nat.le_of_ble_eq_true rfl, Nat.le_of_ble_eq_true rfl⟩ (Nat.le_of_ble_eq_true rfl) rfl rfl dX4_shareCost_69 (Nat.zero_le _) (Nat.zero_le _) (fun r2 D2 hq2 => ?_)
        rw [hq2.1, hq2.2]
        refine V_dup h 73 rfl dX4_shareCost_72 rfl ?_
        refine gN_X4_72 h 76 (L_sw hL (hp.2.2 0 (by omega)).1) dX4_shareCost_73 rfl ?_
        refine V_iload_n h 77 3 rfl dX4_shareCost_76 rfl ?_
        refine V_isub h 78 dX4_shareCost_77 rfl ?_
        refine pN_X4_72 h 81 (L_sw hL (hp.2.2 0 (by omega)).1) dX4_shareCost_78 rfl ?_
        obtain ⟨D3, eD3⟩ : ∃ zz, zz = upd2 (mapD o ρ (fun _ => shareX x al) D i) (o + 6 + ρ 0) 3 (((mapD o ρ (fun _ => shareX x al) D i) (o + 6 + ρ 0) 3) - (lsub x (fun p => x * mapD o ρ (fun _ => shareX x al) D p (o + 6 + ρ p) 2 / al) i)) := ⟨_, rfl⟩
        rw [← eD3]
        exact V_ret h  hQ (Nat.zero_le _) (Nat.zero_le _) ⟨rfl, rfl, rfl, rfl, rfl, (by dsimp only; rw [eD3, hex, eal]; rfl)⟩ dX4_shareCost_81
      · skip
        have hlt := mLt c22 (by omega)
        refine V_aload_n h 26 0 rfl dX4_shareCost_25 rfl ?_
        refine V_iload h 28 4 rfl dX4_shareCost_26 rfl ?_
        refine CVR h 31 (As := [.int (nI i)]) (c_standing hL (pOk_map hp) (q := i) hlt) rfl (L_s2 hL) qL_X4_40 qI_X4_standing qS_X4_standing qZ_X4 qC_X4_standing hd_X4_standing ⟨Nat.le_of_ble_eq_true rfl, Nat.le_of_ble_eq_true rfl⟩ (Nat.le_of_ble_eq_true rfl) rfl rfl dX4_shareCost_28 (Nat.zero_le _) (Nat.zero_le _) (fun r4 D4 hq4 => ?_)
        rw [hq4.1, hq4.2]
        refine V_astore h 33 [(5, .ref (o + 6 + ρ i)), (0, .ref (o + 2)), (1, .int x), (2, .int al), (3, .int (lsub x (fun p => x * mapD o ρ (fun _ => shareX x al) D p (o + 6 + ρ p) 2 / al) i)), (4, .int (nI i))] (by decide) rfl dX4_shareCost_31 rfl ?_
        refine V_iload_n h 34 2 rfl dX4_shareCost_33 rfl ?_
        refine V_aload h 36 0 rfl dX4_shareCost_34 rfl ?_
        refine gN_X4_65 h 39 (L_sw hL (hp.2.2 i hlt).1) dX4_shareCost_36 rfl ?_
        refine V_imul h 40 dX4_shareCost_39 rfl ?_
        refine V_iload_n h 41 3 rfl dX4_shareCost_40 rfl ?_
        refine V_idiv h 42 (fun q => absurd hall (by rw [← eal, q]; decide)) dX4_shareCost_41 rfl ?_
        refine V_istore h 44 [(6, .int ((x * ((mapD o ρ (fun _ => shareX x al) D i) (o + 6 + ρ i) 2)) / al)), (5, .ref (o + 6 + ρ i)), (0, .ref (o + 2)), (1, .int x), (2, .int al), (3, .int (lsub x (fun p => x * mapD o ρ (fun _ => shareX x al) D p (o + 6 + ρ p) 2 / al) i)), (4, .int (nI i))] (by decide) rfl dX4_shareCost_42 rfl ?_
        refine V_aload h 46 1 rfl dX4_shareCost_44 rfl ?_
        refine V_dup h 47 rfl dX4_shareCost_46 rfl ?_
        refine gN_X4_72 h 50 (L_sw hL (hp.2.2 i hlt).1) dX4_shareCost_47 rfl ?_
        refine V_iload h 52 0 rfl dX4_shareCost_50 rfl ?_
        refine V_isub h 53 dX4_shareCost_52 rfl ?_
        refine pN_X4_72 h 56 (L_sw hL (hp.2.2 i hlt).1) dX4_shareCost_53 rfl ?_
        obtain ⟨D5, eD5⟩ : ∃ zz, zz = upd2 (mapD o ρ (fun _ => shareX x al) D i) (o + 6 + ρ i) 3 (((mapD o ρ (fun _ => shareX x al) D i) (o + 6 + ρ i) 3) - ((x * ((mapD o ρ (fun _ => shareX x al) D i) (o + 6 + ρ i) 2)) / al)) := ⟨_, rfl⟩
        rw [← eD5]
        refine V_iload_n h 57 5 rfl dX4_shareCost_56 rfl ?_
        refine V_iload h 59 0 rfl dX4_shareCost_57 rfl ?_
        refine V_isub h 60 dX4_shareCost_59 rfl ?_
        refine V_istore_n h 61 [(3, .int ((lsub x (fun p => x * mapD o ρ (fun _ => shareX x al) D p (o + 6 + ρ p) 2 / al) i) - ((x * ((mapD o ρ (fun _ => shareX x al) D i) (o + 6 + ρ i) 2)) / al))), (6, .int ((x * ((mapD o ρ (fun _ => shareX x al) D i) (o + 6 + ρ i) 2)) / al)), (5, .ref (o + 6 + ρ i)), (0, .ref (o + 2)), (1, .int x), (2, .int al), (4, .int (nI i))] (by decide) rfl dX4_shareCost_60 rfl ?_
        refine V_iinc h 64 [(4, .int ((nI i) + 1)), (3, .int ((lsub x (fun p => x * mapD o ρ (fun _ => shareX x al) D p (o + 6 + ρ p) 2 / al) i) - ((x * ((mapD o ρ (fun _ => shareX x al) D i) (o + 6 + ρ i) 2)) / al))), (6, .int ((x * ((mapD o ρ (fun _ => shareX x al) D i) (o + 6 + ρ i) 2)) / al)), (5, .ref (o + 6 + ρ i)), (0, .ref (o + 2)), (1, .int x), (2, .int al)] 6 rfl (by rfl) (by decide) rfl dX4_shareCost_61 rfl ?_
        refine V_goto h 16 dX4_shareCost_64 (by decide) ?_
        refine V_lsub [(0, .ref (o + 2)), (1, .int x), (2, .int al), (3, .int ((lsub x (fun p => x * mapD o ρ (fun _ => shareX x al) D p (o + 6 + ρ p) 2 / al) i) - ((x * ((mapD o ρ (fun _ => shareX x al) D i) (o + 6 + ρ i) 2)) / al))), (4, .int ((nI i) + 1))] [4, 5, 6, 1, 0] rfl ?_
        rw [show D5 = (mapD o ρ (fun _ => shareX x al) D (i + 1)) from by rw [eD5, upd2_sr]; rfl]
        exact ih (i + 1) _ _ (by omega) rfl (nI_1 i) (by omega)
  refine V_lsub [(0, .ref (o + 2)), (1, .int x), (2, .int al), (3, .int x), (4, .int 0)] [3, 4, 2, 1, 0] rfl ?_
  exact LP16 _ 0 _ _ (Nat.zero_le _) rfl rfl (Nat.lt_succ_self _)

set_option maxRecDepth 100000 in
set_option maxHeartbeats 4000000 in
theorem c_addLast {κ : mKp} {n : Nat} {sh : mSh} {P : mPt} {D : mDt} {E : mEt} {o : Nat} (hL : mLay o sh P) {L e : Nat} (h4 : D (o + 2) 4 = nI L) (h3 : D (o + 2) 3 = nI e) (hLe : L ≤ e) (he : e < 10) (w c p m : Int32) : mFnI κ yX4_addLast cX4_addLast 7 (Option.some Jvm.ClassFile.FieldType.int) 1 24 [.ref (o + 2), .int w, .int c, .int p, .int m] n sh P D E (fun r D' => D' = addD o e L w c p m D ∧ r = nI e) := by
  refine mMet_of (by decide) (Nat.le_of_ble_eq_true rfl) ?_
  intro Γ Q hQ h hin
  have h : mOk Γ κ RX4 cX4_addLast 7 (Option.some Jvm.ClassFile.FieldType.int) { frames := 1, cells := 0, slots := 0, locals := 24 } := h
  show mV Γ Q 0 0 n sh P D E [(0, .ref (o + 2)), (1, .int w), (2, .int c), (3, .int p), (4, .int m)] [] 0
  refine V_aload_n h 1 0 rfl dX4_addLast_0 rfl ?_
  refine g_X4_50 h 4 (L_s2 hL) dX4_addLast_1 rfl ?_
  refine V_top (y := nI e) h3 ?_
  refine V_istore h 6 [(5, .int (nI e)), (0, .ref (o + 2)), (1, .int w), (2, .int c), (3, .int p), (4, .int m)] (by decide) rfl dX4_addLast_4 rfl ?_
  refine V_aload_n h 7 1 rfl dX4_addLast_6 rfl ?_
  refine V_iload h 9 0 rfl dX4_addLast_7 rfl ?_
  refine CVR h 12 (As := [.int (nI e)]) (c_numb hL (i := e) (by omega)) rfl (L_s2 hL) qL_X4_28 qI_X4_numbered qS_X4_numbered qZ_X4 qC_X4_numbered hd_X4_numbered ⟨Nat.le_of_ble_eq_true rfl, Nat.le_of_ble_eq_true rfl⟩ (Nat.le_of_ble_eq_true rfl) rfl rfl dX4_addLast_9 (Nat.zero_le _) (Nat.zero_le _) (fun r1 D1 hq1 => ?_)
  rw [hq1.1, hq1.2]
  refine V_astore h 14 [(6, .ref (o + 6 + e)), (5, .int (nI e)), (0, .ref (o + 2)), (1, .int w), (2, .int c), (3, .int p), (4, .int m)] (by decide) rfl dX4_addLast_12 rfl ?_
  refine V_aload h 16 0 rfl dX4_addLast_14 rfl ?_
  refine V_iload_n h 17 3 rfl dX4_addLast_16 rfl ?_
  refine V_iload_n h 18 4 rfl dX4_addLast_17 rfl ?_
  refine V_iload_n h 19 5 rfl dX4_addLast_18 rfl ?_
  refine V_iload h 21 6 rfl dX4_addLast_19 rfl ?_
  refine CVV h 24 (As := [.int w, .int c, .int p, .int m]) (c_settle (L_sw hL (by omega)) w c p m) rfl (L_sw hL (by omega)) qL_X4_57 qI_X3_settle qS_X3_settle qZ_X3 qC_X3_settle hd_X3_settle ⟨Nat.le_of_ble_eq_true rfl, Nat.le_of_ble_eq_true rfl⟩ (Nat.le_of_ble_eq_true rfl) rfl rfl dX4_addLast_21 (Nat.zero_le _) (Nat.zero_le _) (fun D2 hq2 => ?_)
  rw [show D2 = (setRow D (o + 6 + e) (settleX w c p m (D (o + 6 + e)))) from hq2]
  refine V_aload h 26 0 rfl dX4_addLast_24 rfl ?_
  refine V_iconst h 27 (v := 1) (by decide) dX4_addLast_26 rfl ?_
  refine pN_X4_53 h 30 (Or.inr rfl) (L_sw hL (by omega)) dX4_addLast_27 rfl ?_
  obtain ⟨D3, eD3⟩ : ∃ zz, zz = upd2 (setRow D (o + 6 + e) (settleX w c p m (D (o + 6 + e)))) (o + 6 + e) 1 1 := ⟨_, rfl⟩
  rw [← eD3]
  refine V_aload_n h 31 2 rfl dX4_addLast_30 rfl ?_
  refine V_aload_n h 32 2 rfl dX4_addLast_31 rfl ?_
  refine g_X4_36 h 35 (L_s2 hL) dX4_addLast_32 rfl ?_
  refine V_top (y := nI L) (by rw [eD3, upd2_nk (by decide)]; exact (by rw [setRow_ne (by omega)]; exact h4)) ?_
  refine V_iload h 37 1 rfl dX4_addLast_35 rfl ?_
  refine CVV h 40 (As := [.int (nI L), .int (nI e)]) (c_putAt hL (q := L) (by omega) (nI e)) rfl (L_s2 hL) qL_X4_46 qI_X4_putAt qS_X4_putAt qZ_X4 qC_X4_putAt hd_X4_putAt ⟨Nat.le_of_ble_eq_true rfl, Nat.le_of_ble_eq_true rfl⟩ (Nat.le_of_ble_eq_true rfl) rfl rfl dX4_addLast_37 (Nat.zero_le _) (Nat.zero_le _) (fun D4 hq4 => ?_)
  have eD4 := hq4
  refine V_aload_n h 41 2 rfl dX4_addLast_40 rfl ?_
  refine V_dup h 42 rfl dX4_addLast_41 rfl ?_
  refine g_X4_36 h 45 (L_s2 hL) dX4_addLast_42 rfl ?_
  refine V_top (y := nI L) (by rw [eD4, upd2_na (by omega), eD3, upd2_nk (by decide)]; exact (by rw [setRow_ne (by omega)]; exact h4)) ?_
  refine V_iconst h 46 (v := 1) (by decide) dX4_addLast_45 rfl ?_
  refine V_iadd h 47 dX4_addLast_46 rfl ?_
  refine p_X4_36 h 50 (L_s2 hL) dX4_addLast_47 rfl ?_
  obtain ⟨D5, eD5⟩ : ∃ zz, zz = upd2 D4 (o + 2) 4 ((nI L) + 1) := ⟨_, rfl⟩
  rw [← eD5]
  refine V_aload_n h 51 2 rfl dX4_addLast_50 rfl ?_
  refine V_dup h 52 rfl dX4_addLast_51 rfl ?_
  refine g_X4_50 h 55 (L_s2 hL) dX4_addLast_52 rfl ?_
  refine V_top (y := nI e) (by rw [eD5, upd2_nk (by decide), eD4, upd2_na (by omega), eD3, upd2_nk (by decide)]; exact (by rw [setRow_ne (by omega)]; exact h3)) ?_
  refine V_iconst h 56 (v := 1) (by decide) dX4_addLast_55 rfl ?_
  refine V_iadd h 57 dX4_addLast_56 rfl ?_
  refine p_X4_50 h 60 (L_s2 hL) dX4_addLast_57 rfl ?_
  obtain ⟨D6, eD6⟩ : ∃ zz, zz = upd2 D5 (o + 2) 3 ((nI e) + 1) := ⟨_, rfl⟩
  rw [← eD6]
  refine V_iload h 62 1 rfl dX4_addLast_60 rfl ?_
  exact V_iret h rfl hQ (Nat.zero_le _) (Nat.zero_le _) ⟨rfl, rfl, rfl, rfl, _, rfl, ⟨by rw [eD6, eD5, eD4, eD3, nI_1, nI_1, sr_upd2]; rfl, rfl⟩⟩ dX4_addLast_62

theorem pOk_of {o L : Nat} {ρ : Nat → Nat} {D D' : mDt} (h2 : D' (o + 2) = D (o + 2)) (h4 : D' (o + 4) = D (o + 4)) (hp : pOk o L ρ D) : pOk o L ρ D' := ⟨by rw [h2]; exact hp.1, hp.2.1, fun p h => ⟨(hp.2.2 p h).1, by rw [h4]; exact (hp.2.2 p h).2⟩⟩
theorem row_step {g : Nat → Int32} {ρ : Nat → Nat} {i : Nat} (h1 : ∀ p, p < i → g p = nI (ρ p)) : ∀ p, p < i + 1 → upd g i (nI (ρ i)) p = nI (ρ p) := by
  intro p hp
  simp only [upd]
  by_cases h : p = i
  · rw [if_pos h, h]
  · rw [if_neg h]; exact h1 p (by omega)
def likD (o o2 : Nat) (D : mDt) : Nat → mDt
  | 0 => D
  | k + 1 => setRow (likD o o2 D k) (o + 6 + k) (likeX (likD o o2 D k (o2 + 6 + k)) (likD o o2 D k (o + 6 + k)))
theorem likD_out {o o2 : Nat} {D : mDt} {k a : Nat} (h : ∀ i, i < k → a ≠ o + 6 + i) : likD o o2 D k a = D a := by
  induction k with
  | zero => rfl
  | succ k ih =>
    rw [likD, setRow_ne (h k (Nat.lt_succ_self k))]
    exact ih (fun p hp => h p (Nat.lt_succ_of_lt hp))
theorem likD_in {o o2 : Nat} (hoo : o + 20 ≤ o2 ∨ o2 + 20 ≤ o) {D : mDt} {k i : Nat} (hk : k ≤ 10) (hi : i < k) : likD o o2 D k (o + 6 + i) = likeX (D (o2 + 6 + i)) (D (o + 6 + i)) := by
  induction k with
  | zero => omega
  | succ k ih =>
    rw [likD]
    by_cases h : i = k
    · subst h
      rw [setRow_eq, likD_out (fun j hj => by omega), likD_out (fun j hj => by omega)]
    · rw [setRow_ne (by omega)]
      exact ih (by omega) (by omega)

set_option maxRecDepth 100000 in
set_option maxHeartbeats 4000000 in
theorem c_pplLike {κ : mKp} {n : Nat} {sh : mSh} {P : mPt} {D : mDt} {E : mEt} {o o2 : Nat} (hL : mLay o sh P) (hL2 : mLay o2 sh P) (hoo : o + 20 ≤ o2 ∨ o2 + 20 ≤ o) {L : Nat} {ρ : Nat → Nat} (hp2 : pOk o2 L ρ D) (hnum : ∀ i, i < 10 → D (o2 + 6 + i) 0 = nI i) (hlv : ∀ i, i < 10 → D (o2 + 6 + i) 1 = 0 ∨ D (o2 + 6 + i) 1 = 1) : mFnV κ yX4_becomeLike cX4_becomeLike 3 2 42 [.ref (o + 2), .ref (o2 + 2)] n sh P D E (fun D' => ∃ g : Nat → Int32, D' = upd2 (setRow (upd2 (likD o o2 D 10) (o + 2) 4 (nI L)) (o + 4) g) (o + 2) 3 (D (o2 + 2) 3) ∧ ∀ p, p < L → g p = nI (ρ p)) := by
  refine mMet_of (by decide) (Nat.le_of_ble_eq_true rfl) ?_
  intro Γ Q hQ h hin
  have h : mOk Γ κ RX4 cX4_becomeLike 3 (Option.none : Option Jvm.ClassFile.FieldType) { frames := 2, cells := 0, slots := 0, locals := 42 } := h
  have hL10 := hp2.2.1
  show mV Γ Q 0 0 n sh P D E [(0, .ref (o + 2)), (1, .ref (o2 + 2))] [] 0
  refine V_iconst h 1 (v := 0) (by decide) dX4_becomeLike_0 rfl ?_
  refine V_istore_n h 2 [(2, .int 0), (0, .ref (o + 2)), (1, .ref (o2 + 2))] (by decide) rfl dX4_becomeLike_1 rfl ?_
  have LP2 : ∀ (kk : Nat) (i : Nat) (x2 : Int32), (i ≤ 10) → (x2 = nI i) → 10 - i < kk → mV Γ Q 0 0 n sh P (likD o o2 D i) E [(0, .ref (o + 2)), (1, .ref (o2 + 2)), (2, .int x2)] [] 2 := by
    intro kk
    induction kk with
    | zero =>
      intro i x2 _ _ hms
      exact absurd hms (Nat.not_lt_zero _)
    | succ kk ih =>
      intro i x2 hi e2 hms
      subst e2
      refine V_iload_n h 3 2 rfl dX4_becomeLike_2 rfl ?_
      refine V_bipush h 5 (v := 10) (by decide) dX4_becomeLike_3 rfl ?_
      refine V_icmp_ge h 27 8 dX4_becomeLike_5 (by decide) rfl (fun c5 => ?_) (fun c5 => ?_)
      · skip
        have hex : i = 10 := by have := mGe (m := 10) c5 (by omega) (by omega); omega
        subst hex
        refine V_aload_n h 28 0 rfl dX4_becomeLike_27 rfl ?_
        refine V_aload_n h 29 1 rfl dX4_becomeLike_28 rfl ?_
        refine g_X4_36 h 32 (L_s2 hL2) dX4_becomeLike_29 rfl ?_
        refine V_top (y := nI L) (by rw [likD_out (fun j hj => by omega)]; exact hp2.1) ?_
        refine p_X4_36 h 35 (L_s2 hL) dX4_becomeLike_32 rfl ?_
        obtain ⟨D1, eD1⟩ : ∃ zz, zz = upd2 (likD o o2 D 10) (o + 2) 4 (nI L) := ⟨_, rfl⟩
        rw [← eD1]
        rw [eD1]
        refine V_iconst h 36 (v := 0) (by decide) dX4_becomeLike_35 rfl ?_
        refine V_istore_n h 37 [(2, .int 0), (0, .ref (o + 2)), (1, .ref (o2 + 2))] (by decide) rfl dX4_becomeLike_36 rfl ?_
        have LP37 : ∀ (kk : Nat) (i : Nat) (x2 : Int32) (g : Nat → Int32), (i ≤ L) → (x2 = nI i) → (∀ p, p < i → g p = nI (ρ p)) → L - i < kk → mV Γ Q 0 0 n sh P (setRow (upd2 (likD o o2 D 10) (o + 2) 4 (nI L)) (o + 4) g) E [(0, .ref (o + 2)), (1, .ref (o2 + 2)), (2, .int x2)] [] 37 := by
          intro kk
          induction kk with
          | zero =>
            intro i x2 g _ _ _ hms
            exact absurd hms (Nat.not_lt_zero _)
          | succ kk ih =>
            intro i x2 g hi e2 h1 hms
            subst e2
            refine V_iload_n h 38 2 rfl dX4_becomeLike_37 rfl ?_
            refine V_aload_n h 39 0 rfl dX4_becomeLike_38 rfl ?_
            refine g_X4_36 h 42 (L_s2 hL) dX4_becomeLike_39 rfl ?_
            refine V_top (y := nI L) (by rw [setRow_ne (by omega)]; exact upd2_eq) ?_
            refine V_icmp_ge h 64 45 dX4_becomeLike_42 (by decide) rfl (fun c42 => ?_) (fun c42 => ?_)
            · skip
              have hex : i = L := by have := mGe c42 (by omega) (by omega); omega
              refine V_aload_n h 65 0 rfl dX4_becomeLike_64 rfl ?_
              refine V_aload_n h 66 1 rfl dX4_becomeLike_65 rfl ?_
              refine g_X4_50 h 69 (L_s2 hL2) dX4_becomeLike_66 rfl ?_
              refine V_top (y := D (o2 + 2) 3) (by rw [setRow_ne (by omega), upd2_na (by omega), likD_out (fun j hj => by omega)]) ?_
              refine p_X4_50 h 72 (L_s2 hL) dX4_becomeLike_69 rfl ?_
              obtain ⟨D2, eD2⟩ : ∃ zz, zz = upd2 (setRow (upd2 (likD o o2 D 10) (o + 2) 4 (nI L)) (o + 4) g) (o + 2) 3 (D (o2 + 2) 3) := ⟨_, rfl⟩
              rw [← eD2]
              exact V_ret h  hQ (Nat.zero_le _) (Nat.zero_le _) ⟨rfl, rfl, rfl, rfl, rfl, ⟨g, by rw [eD2], by rw [hex] at h1; exact h1⟩⟩ dX4_becomeLike_72
            · skip
              have hlt := mLt c42 (by omega)
              refine V_aload_n h 46 0 rfl dX4_becomeLike_45 rfl ?_
              refine V_iload_n h 47 2 rfl dX4_becomeLike_46 rfl ?_
              refine V_aload_n h 48 1 rfl dX4_becomeLike_47 rfl ?_
              refine V_iload_n h 49 2 rfl dX4_becomeLike_48 rfl ?_
              refine CVR h 52 (As := [.int (nI i)]) (c_standing hL2 (pOk_of (D := D) (by rw [setRow_ne (by omega), upd2_ra (by omega), likD_out (fun j hj => by omega)]) (by rw [setRow_ne (by omega), upd2_ra (by omega), likD_out (fun j hj => by omega)]) hp2) (q := i) hlt) rfl (L_s2 hL2) qL_X4_40 qI_X4_standing qS_X4_standing qZ_X4 qC_X4_standing hd_X4_standing ⟨Nat.le_of_ble_eq_true rfl, Nat.le_of_ble_eq_true rfl⟩ (Nat.le_of_ble_eq_true rfl) rfl rfl dX4_becomeLike_49 (Nat.zero_le _) (Nat.zero_le _) (fun r3 D3 hq3 => ?_)
              rw [hq3.1, hq3.2]
              refine gN_X4_43 h 55 (L_sw hL2 (hp2.2.2 i hlt).1) dX4_becomeLike_52 rfl ?_
              refine V_top (y := nI (ρ i)) (by have := (hp2.2.2 i hlt).1; rw [setRow_ne (by omega), upd2_na (by omega), likD_out (fun j hj => by omega)]; exact hnum _ this) ?_
              refine CVV h 58 (As := [.int (nI i), .int (nI (ρ i))]) (c_putAt hL (q := i) (by omega) (nI (ρ i))) rfl (L_s2 hL) qL_X4_46 qI_X4_putAt qS_X4_putAt qZ_X4 qC_X4_putAt hd_X4_putAt ⟨Nat.le_of_ble_eq_true rfl, Nat.le_of_ble_eq_true rfl⟩ (Nat.le_of_ble_eq_true rfl) rfl rfl dX4_becomeLike_55 (Nat.zero_le _) (Nat.zero_le _) (fun D4 hq4 => ?_)
              rw [show D4 = (setRow (upd2 (likD o o2 D 10) (o + 2) 4 (nI L)) (o + 4) (upd g i (nI (ρ i)))) from (by rw [hq4, sr_upd2])]
              refine V_iinc h 61 [(2, .int ((nI i) + 1)), (0, .ref (o + 2)), (1, .ref (o2 + 2))] 2 rfl (by rfl) (by decide) rfl dX4_becomeLike_58 rfl ?_
              refine V_goto h 37 dX4_becomeLike_61 (by decide) ?_
              refine V_lsub [(0, .ref (o + 2)), (1, .ref (o2 + 2)), (2, .int ((nI i) + 1))] [1, 2, 0] rfl ?_
              exact ih (i + 1) _ _ (by omega) (nI_1 i) (row_step h1) (by omega)
        rw [show mV Γ Q 0 0 n sh P (upd2 (likD o o2 D 10) (o + 2) 4 (nI L)) E = mV Γ Q 0 0 n sh P (setRow (upd2 (likD o o2 D 10) (o + 2) 4 (nI L)) (o + 4) ((upd2 (likD o o2 D 10) (o + 2) 4 (nI L)) (o + 4))) E from by rw [setRow_self]]
        refine V_lsub [(0, .ref (o + 2)), (1, .ref (o2 + 2)), (2, .int 0)] [1, 2, 0] rfl ?_
        exact LP37 _ 0 _ ((upd2 (likD o o2 D 10) (o + 2) 4 (nI L)) (o + 4)) (Nat.zero_le _) rfl (fun p hp => absurd hp (by omega)) (Nat.lt_succ_self _)
      · skip
        have hlt := mLt (m := 10) c5 (by omega)
        refine V_aload_n h 9 0 rfl dX4_becomeLike_8 rfl ?_
        refine V_iload_n h 10 2 rfl dX4_becomeLike_9 rfl ?_
        refine CVR h 13 (As := [.int (nI i)]) (c_numb hL (i := i) (by omega)) rfl (L_s2 hL) qL_X4_28 qI_X4_numbered qS_X4_numbered qZ_X4 qC_X4_numbered hd_X4_numbered ⟨Nat.le_of_ble_eq_true rfl, Nat.le_of_ble_eq_true rfl⟩ (Nat.le_of_ble_eq_true rfl) rfl rfl dX4_becomeLike_10 (Nat.zero_le _) (Nat.zero_le _) (fun r5 D5 hq5 => ?_)
        rw [hq5.1, hq5.2]
        refine V_aload_n h 14 1 rfl dX4_becomeLike_13 rfl ?_
        refine V_iload_n h 15 2 rfl dX4_becomeLike_14 rfl ?_
        refine CVR h 18 (As := [.int (nI i)]) (c_numb hL2 (i := i) (by omega)) rfl (L_s2 hL2) qL_X4_28 qI_X4_numbered qS_X4_numbered qZ_X4 qC_X4_numbered hd_X4_numbered ⟨Nat.le_of_ble_eq_true rfl, Nat.le_of_ble_eq_true rfl⟩ (Nat.le_of_ble_eq_true rfl) rfl rfl dX4_becomeLike_15 (Nat.zero_le _) (Nat.zero_le _) (fun r6 D6 hq6 => ?_)
        rw [hq6.1, hq6.2]
        refine CVV h 21 (As := [.ref (o2 + 6 + i)]) (c_owLike (L_sw hL (by omega)) (L_sw hL2 (by omega)) (by omega) (by rw [likD_out (fun j hj => by omega)]; exact hlv i hlt)) rfl (L_sw hL (by omega)) qL_X4_32 qI_X3_becomeLike qS_X3_becomeLike qZ_X3 qC_X3_becomeLike hd_X3_becomeLike ⟨Nat.le_of_ble_eq_true rfl, Nat.le_of_ble_eq_true rfl⟩ (Nat.le_of_ble_eq_true rfl) rfl rfl dX4_becomeLike_18 (Nat.zero_le _) (Nat.zero_le _) (fun D7 hq7 => ?_)
        rw [show D7 = (likD o o2 D (i + 1)) from hq7]
        refine V_iinc h 24 [(2, .int ((nI i) + 1)), (0, .ref (o + 2)), (1, .ref (o2 + 2))] 2 rfl (by rfl) (by decide) rfl dX4_becomeLike_21 rfl ?_
        refine V_goto h 2 dX4_becomeLike_24 (by decide) ?_
        refine V_lsub [(0, .ref (o + 2)), (1, .ref (o2 + 2)), (2, .int ((nI i) + 1))] [1, 2, 0] rfl ?_
        exact ih (i + 1) _ (by omega) (nI_1 i) (by omega)
  refine V_lsub [(0, .ref (o + 2)), (1, .ref (o2 + 2)), (2, .int 0)] [1, 2, 0] rfl ?_
  exact LP2 _ 0 _ (by decide) rfl (Nat.lt_succ_self _)

def livD (o e : Nat) (D : mDt) : Nat → mDt
  | 0 => D
  | k + 1 => upd2 (livD o e D k) (o + 6 + (e + k)) 1 1
theorem livD_out {o e : Nat} {D : mDt} {k a : Nat} (h : ∀ i, i < k → a ≠ o + 6 + (e + i)) : livD o e D k a = D a := by
  induction k with
  | zero => rfl
  | succ k ih =>
    rw [livD, upd2_ra (h k (Nat.lt_succ_self k))]
    exact ih (fun p hp => h p (Nat.lt_succ_of_lt hp))
theorem livD_0 {o e : Nat} {D : mDt} {k a j : Nat} (hj : j ≠ 1) : livD o e D k a j = D a j := by
  induction k with
  | zero => rfl
  | succ k ih =>
    rw [livD, upd2_nk hj]; exact ih
theorem livD_in {o e : Nat} {D : mDt} {k i : Nat} (hi : i < k) : livD o e D k (o + 6 + (e + i)) 1 = 1 := by
  induction k with
  | zero => omega
  | succ k ih =>
    rw [livD]
    by_cases h : i = k
    · subst h; exact upd2_eq
    · rw [upd2_na (by omega)]; exact ih (by omega)
/-- the row with h heirs, from the number e on, in the place q -/
def heirRow (ρ : Nat → Nat) (q h e : Nat) : Nat → Nat := fun p => if p < q then ρ p else if p < q + h then e + (p - q) else ρ (p + 1 - h)
theorem heir1 {g : Nat → Int32} {ρ : Nat → Nat} {b L h : Nat} {f : Nat → Int32} (hh : 1 ≤ h) (h1 : ∀ p, p ≤ b → g p = f p) (h2 : ∀ p, b < p → p < L → g (p + h - 1) = nI (ρ p)) : (∀ p, p ≤ b - 1 → p < b → upd g (b + h - 1) (nI (ρ b)) p = f p) ∧ (∀ p, b - 1 < p → p < L → upd g (b + h - 1) (nI (ρ b)) (p + h - 1) = nI (ρ p)) := by
  refine ⟨fun p hp hpb => ?_, fun p hp hL => ?_⟩
  · simp only [upd]
    rw [if_neg (by omega)]; exact h1 p (by omega)
  · simp only [upd]
    by_cases hx : p = b
    · subst hx; rw [if_pos rfl]
    · rw [if_neg (by omega)]; exact h2 p (by omega) hL

theorem heir2 {g : Nat → Int32} {q e i : Nat} (h6 : ∀ j, j < i → g (q + j) = nI (e + j)) : ∀ j, j < i + 1 → upd g (q + i) (nI (e + i)) (q + j) = nI (e + j) := by
  intro j hj
  simp only [upd]
  by_cases h : j = i
  · rw [if_pos (by omega), h]
  · rw [if_neg (by omega)]; exact h6 j (by omega)
theorem heir3 {g : Nat → Int32} {ρ : Nat → Nat} {q h e L : Nat} (hh : 1 ≤ h) (hq : q < L) (h1 : ∀ p, p < q → g p = nI (ρ p)) (h2 : ∀ p, q < p → p < L → g (p + h - 1) = nI (ρ p)) (h6 : ∀ j, j < h → g (q + j) = nI (e + j)) : ∀ p, p < L + h - 1 → g p = nI (heirRow ρ q h e p) := by
  intro p hp
  simp only [heirRow]
  by_cases a : p < q
  · rw [if_pos a]; exact h1 p a
  · rw [if_neg a]
    by_cases b : p < q + h
    · rw [if_pos b]
      have := h6 (p - q) (by omega)
      rw [show q + (p - q) = p by omega] at this
      exact this
    · rw [if_neg b]
      have := h2 (p + 1 - h) (by omega) (by omega)
      rw [show p + 1 - h + h - 1 = p by omega] at this
      exact this

theorem liv_comm {o e : Nat} {D : mDt} {i : Nat} {g : Nat → Int32} (h : e + i < 10) : upd2 (setRow (livD o e D i) (o + 4) g) (o + 6 + (e + i)) 1 1 = setRow (livD o e D (i + 1)) (o + 4) g := by
  funext a j
  simp only [livD, upd2, setRow]
  by_cases h1 : a = o + 4
  · subst h1
    rw [if_neg (by omega), if_pos rfl, if_pos rfl]
  · rw [if_neg h1, if_neg h1]
