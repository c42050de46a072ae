theorem mIx {x : Int32} {m : Nat} (h0 : ¬ x < 0) (h1 : ¬ nI m ≤ x) (hm : m < 2 ^ 31) : ∃ j : Nat, j < m ∧ x = nI j := by
  obtain ⟨j, hj, hx, -⟩ := pk_mu h0 h1 hm
  exact ⟨j, hj, hx⟩
theorem numb_sh {o : Nat} {sh : mSh} {P : mPt} (hL : mLay o sh P) {x : Int32} : sh (numb o x) = some (.inl 3) := by
  unfold numb
  by_cases h : 0 ≤ x ∧ x < 10
  · rw [if_pos h]
    refine L_sw hL ?_
    have h2 := h.2
    obtain ⟨j, hj, rfl⟩ := nI_of (x := x) (Int32.not_lt.mpr h.1)
    rw [nI_clamp hj]
    exact (nI_ltI (b := 10) hj (by decide)).mp h2
  · rw [if_neg h]; exact L_s5 hL
theorem numb_lo {o : Nat} {x : Int32} (h : x < 0) : numb o x = o + 5 := by
  unfold numb
  rw [if_neg (fun q => absurd h (Int32.not_lt.mpr q.1))]
theorem numb_hi {o : Nat} {x : Int32} (h : 10 ≤ x) : numb o x = o + 5 := by
  unfold numb
  rw [if_neg (fun q => absurd q.2 (Int32.not_lt.mpr h))]

set_option maxRecDepth 100000 in
set_option maxHeartbeats 4000000 in
theorem c_numbered {κ : mKp} {n : Nat} {sh : mSh} {P : mPt} {D : mDt} {E : mEt} {o : Nat} (hL : mLay o sh P) (x : Int32) : mFnR κ yX4_numbered cX4_numbered 2 (Option.some (Jvm.ClassFile.FieldType.object "OasisBooks$Owner")) 0 0 [.ref (o + 2), .int x] n sh P D E (fun r D' => D' = D ∧ r = numb o x) := by
  refine mMet_of (by decide) (Nat.le_of_ble_eq_true rfl) ?_
  intro Γ Q hQ h hin
  have h : mOk Γ κ RX4 cX4_numbered 2 (Option.some (Jvm.ClassFile.FieldType.object "OasisBooks$Owner")) { frames := 0, cells := 0, slots := 0, locals := 0 } := h
  show mV Γ Q 0 0 n sh P D E [(0, .ref (o + 2)), (1, .int x)] [] 0
  refine V_iload_n h 1 1 rfl dX4_numbered_0 rfl ?_
  refine V_if_lt h 22 4 dX4_numbered_1 (by decide) rfl (fun c1 => ?_) (fun c1 => ?_)
  · skip
    refine V_aload_n h 23 0 rfl dX4_numbered_22 rfl ?_
    refine g_X4_24 h 26 (b := o + 5) (L_s2 hL) (L_q2 hL) dX4_numbered_23 rfl ?_
    exact V_aret h (Or.inl ⟨_, rfl⟩) hQ (Nat.zero_le _) (Nat.zero_le _) ⟨rfl, rfl, rfl, rfl, _, rfl, ⟨rfl, (numb_lo c1).symm⟩⟩ dX4_numbered_26
  · skip
    refine V_iload_n h 5 1 rfl dX4_numbered_4 rfl ?_
    refine V_aload_n h 6 0 rfl dX4_numbered_5 rfl ?_
    refine g_X4_11 h 9 (b := o + 3) (L_s2 hL) (L_q0 hL) dX4_numbered_6 rfl ?_
    refine V_alen h 10 1 (by decide) (L_s3 hL) (v := 10) (by decide) dX4_numbered_9 rfl ?_
    refine V_icmp_ge h 22 13 dX4_numbered_10 (by decide) rfl (fun c10 => ?_) (fun c10 => ?_)
    · skip
      refine V_aload_n h 23 0 rfl dX4_numbered_22 rfl ?_
      refine g_X4_24 h 26 (b := o + 5) (L_s2 hL) (L_q2 hL) dX4_numbered_23 rfl ?_
      exact V_aret h (Or.inl ⟨_, rfl⟩) hQ (Nat.zero_le _) (Nat.zero_le _) ⟨rfl, rfl, rfl, rfl, _, rfl, ⟨rfl, (numb_hi c10).symm⟩⟩ dX4_numbered_26
    · skip
      obtain ⟨j, hj, ex⟩ := mIx (m := 10) c1 c10 (by decide)
      refine V_aload_n h 14 0 rfl dX4_numbered_13 rfl ?_
      refine g_X4_11 h 17 (b := o + 3) (L_s2 hL) (L_q0 hL) dX4_numbered_14 rfl ?_
      refine V_iload_n h 18 1 rfl dX4_numbered_17 rfl ?_
      refine V_aald h 19 (b := o + 6 + j) j (Or.inl rfl) (L_s3 hL) ex hj (by decide) (L_qw hL hj) dX4_numbered_18 rfl ?_
      refine V_goto h 26 dX4_numbered_19 (by decide) ?_
      exact V_aret h (Or.inl ⟨_, rfl⟩) hQ (Nat.zero_le _) (Nat.zero_le _) ⟨rfl, rfl, rfl, rfl, _, rfl, ⟨rfl, (by rw [ex]; exact (numb_nI hj).symm)⟩⟩ dX4_numbered_26

theorem c_numb {κ : mKp} {n : Nat} {sh : mSh} {P : mPt} {D : mDt} {E : mEt} {o i : Nat} (hL : mLay o sh P) (hi : i < 10) : mFnR κ yX4_numbered cX4_numbered 2 (Option.some (Jvm.ClassFile.FieldType.object "OasisBooks$Owner")) 0 0 [.ref (o + 2), .int (nI i)] n sh P D E (fun r D' => D' = D ∧ r = o + 6 + i) := by
  have h := c_numbered (κ := κ) (n := n) (D := D) (E := E) hL (nI i)
  rw [numb_nI hi] at h
  exact h

set_option maxRecDepth 100000 in
set_option maxHeartbeats 4000000 in
theorem c_stand1 {κ : mKp} {n : Nat} {sh : mSh} {P : mPt} {D : mDt} {E : mEt} {o : Nat} (hL : mLay o sh P) {L q t : Nat} (h4 : D (o + 2) 4 = nI L) (hL10 : L ≤ 10) (hq : q < L) (hr : D (o + 4) q = nI t) (ht : t < 10) : mFnR κ yX4_standing cX4_standing 2 (Option.some (Jvm.ClassFile.FieldType.object "OasisBooks$Owner")) 1 21 [.ref (o + 2), .int (nI q)] n sh P D E (fun r D' => D' = D ∧ r = o + 6 + t) := by
  refine mMet_of (by decide) (Nat.le_of_ble_eq_true rfl) ?_
  intro Γ Q hQ h hin
  have h : mOk Γ κ RX4 cX4_standing 2 (Option.some (Jvm.ClassFile.FieldType.object "OasisBooks$Owner")) { frames := 1, cells := 0, slots := 0, locals := 21 } := h
  show mV Γ Q 0 0 n sh P D E [(0, .ref (o + 2)), (1, .int (nI q))] [] 0
  refine V_iload_n h 1 1 rfl dX4_standing_0 rfl ?_
  refine V_if_lt h 34 4 dX4_standing_1 (by decide) rfl (fun c1 => absurd c1 (nI_pos (by omega))) (fun c1 => ?_)
  refine V_iload_n h 5 1 rfl dX4_standing_4 rfl ?_
  refine V_aload_n h 6 0 rfl dX4_standing_5 rfl ?_
  refine g_X4_36 h 9 (L_s2 hL) dX4_standing_6 rfl ?_
  refine V_top (y := nI L) h4 ?_
  refine V_icmp_ge h 34 12 dX4_standing_9 (by decide) rfl (fun c9 => absurd c9 (nI_ge hq (by omega))) (fun c9 => ?_)
  refine V_iload_n h 13 1 rfl dX4_standing_12 rfl ?_
  refine V_aload_n h 14 0 rfl dX4_standing_13 rfl ?_
  refine g_X4_17 h 17 (b := o + 4) (L_s2 hL) (L_q1 hL) dX4_standing_14 rfl ?_
  refine V_alen h 18 0 (by decide) (L_s4 hL) (v := 10) (by decide) dX4_standing_17 rfl ?_
  refine V_icmp_ge h 34 21 dX4_standing_18 (by decide) rfl (fun c18 => absurd c18 (nI_ge (b := 10) (by omega) (by decide))) (fun c18 => ?_)
  refine V_aload_n h 22 0 rfl dX4_standing_21 rfl ?_
  refine V_aload_n h 23 0 rfl dX4_standing_22 rfl ?_
  refine g_X4_17 h 26 (b := o + 4) (L_s2 hL) (L_q1 hL) dX4_standing_23 rfl ?_
  refine V_iload_n h 27 1 rfl dX4_standing_26 rfl ?_
  refine V_iald h 28 q (L_s4 hL) rfl (by omega) (by decide) dX4_standing_27 rfl ?_
  refine V_top (y := nI t) hr ?_
  refine CVR h 31 (As := [.int (nI t)]) (c_numb hL (i := t) ht) rfl (L_s2 hL) qL_X4_28 qI_X4_numbered qS_X4_numbered qZ_X4 qC_X4_numbered hd_X4_numbered ⟨Nat.le_of_ble_eq_true rfl, Nat.le_of_ble_eq_true rfl⟩ (Nat.le_of_ble_eq_true rfl) rfl rfl dX4_standing_28 (Nat.zero_le _) (Nat.zero_le _) (fun r1 D1 hq1 => ?_)
  rw [hq1.1, hq1.2]
  refine V_goto h 38 dX4_standing_31 (by decide) ?_
  exact V_aret h (Or.inl ⟨_, rfl⟩) hQ (Nat.zero_le _) (Nat.zero_le _) ⟨rfl, rfl, rfl, rfl, _, rfl, ⟨rfl, rfl⟩⟩ dX4_standing_38

theorem c_standing {κ : mKp} {n : Nat} {sh : mSh} {P : mPt} {D : mDt} {E : mEt} {o : Nat} (hL : mLay o sh P) {L : Nat} {ρ : Nat → Nat} (hp : pOk o L ρ D) {q : Nat} (hq : q < L) : mFnR κ yX4_standing cX4_standing 2 (Option.some (Jvm.ClassFile.FieldType.object "OasisBooks$Owner")) 1 21 [.ref (o + 2), .int (nI q)] n sh P D E (fun r D' => D' = D ∧ r = o + 6 + ρ q) := c_stand1 hL hp.1 hp.2.1 hq (hp.2.2 q hq).2 (hp.2.2 q hq).1

set_option maxRecDepth 100000 in
set_option maxHeartbeats 4000000 in
theorem c_putAt {κ : mKp} {n : Nat} {sh : mSh} {P : mPt} {D : mDt} {E : mEt} {o : Nat} (hL : mLay o sh P) {q : Nat} (hq : q < 10) (x : Int32) : mFnV κ yX4_putAt cX4_putAt 3 0 0 [.ref (o + 2), .int (nI q), .int x] n sh P D E (fun D' => D' = upd2 D (o + 4) q x) := by
  refine mMet_of (by decide) (Nat.le_of_ble_eq_true rfl) ?_
  intro Γ Q hQ h hin
  have h : mOk Γ κ RX4 cX4_putAt 3 (Option.none : Option Jvm.ClassFile.FieldType) { frames := 0, cells := 0, slots := 0, locals := 0 } := h
  show mV Γ Q 0 0 n sh P D E [(0, .ref (o + 2)), (1, .int (nI q)), (2, .int x)] [] 0
  refine V_iload_n h 1 1 rfl dX4_putAt_0 rfl ?_
  refine V_if_lt h 20 4 dX4_putAt_1 (by decide) rfl (fun c1 => absurd c1 (nI_pos (by omega))) (fun c1 => ?_)
  refine V_iload_n h 5 1 rfl dX4_putAt_4 rfl ?_
  refine V_aload_n h 6 0 rfl dX4_putAt_5 rfl ?_
  refine g_X4_17 h 9 (b := o + 4) (L_s2 hL) (L_q1 hL) dX4_putAt_6 rfl ?_
  refine V_alen h 10 0 (by decide) (L_s4 hL) (v := 10) (by decide) dX4_putAt_9 rfl ?_
  refine V_icmp_ge h 20 13 dX4_putAt_10 (by decide) rfl (fun c10 => absurd c10 (nI_ge (b := 10) hq (by decide))) (fun c10 => ?_)
  refine V_aload_n h 14 0 rfl dX4_putAt_13 rfl ?_
  refine g_X4_17 h 17 (b := o + 4) (L_s2 hL) (L_q1 hL) dX4_putAt_14 rfl ?_
  refine V_iload_n h 18 1 rfl dX4_putAt_17 rfl ?_
  refine V_iload_n h 19 2 rfl dX4_putAt_18 rfl ?_
  refine V_iast h 20 q (L_s4 hL) rfl hq (by decide) dX4_putAt_19 rfl ?_
  obtain ⟨D1, eD1⟩ : ∃ zz, zz = upd2 D (o + 4) q x := ⟨_, rfl⟩
  rw [← eD1]
  exact V_ret h  hQ (Nat.zero_le _) (Nat.zero_le _) ⟨rfl, rfl, rfl, rfl, rfl, eD1⟩ dX4_putAt_20

set_option maxRecDepth 100000 in
set_option maxHeartbeats 4000000 in
theorem c_isLiving {κ : mKp} {n : Nat} {sh : mSh} {P : mPt} {D : mDt} {E : mEt} {o : Nat} (hL : mLay o sh P) (x : Int32) (hz : D (numb o x) 1 = 0 ∨ D (numb o x) 1 = 1) : mFnI κ yX4_isLiving cX4_isLiving 2 (Option.some Jvm.ClassFile.FieldType.boolean) 1 21 [.ref (o + 2), .int x] n sh P D E (fun r D' => D' = D ∧ r = D (numb o x) 1) := by
  refine mMet_of (by decide) (Nat.le_of_ble_eq_true rfl) ?_
  intro Γ Q hQ h hin
  have h : mOk Γ κ RX4 cX4_isLiving 2 (Option.some Jvm.ClassFile.FieldType.boolean) { frames := 1, cells := 0, slots := 0, locals := 21 } := h
  show mV Γ Q 0 0 n sh P D E [(0, .ref (o + 2)), (1, .int x)] [] 0
  refine V_aload_n h 1 0 rfl dX4_isLiving_0 rfl ?_
  refine V_iload_n h 2 1 rfl dX4_isLiving_1 rfl ?_
  refine CVR h 5 (As := [.int x]) (c_numbered hL x) rfl (L_s2 hL) qL_X4_28 qI_X4_numbered qS_X4_numbered qZ_X4 qC_X4_numbered hd_X4_numbered ⟨Nat.le_of_ble_eq_true rfl, Nat.le_of_ble_eq_true rfl⟩ (Nat.le_of_ble_eq_true rfl) rfl rfl dX4_isLiving_2 (Nat.zero_le _) (Nat.zero_le _) (fun r1 D1 hq1 => ?_)
  rw [hq1.1, hq1.2]
  refine gN_X4_53 h 8 (numb_sh hL) dX4_isLiving_5 rfl ?_
  exact V_iret h (by rcases hz with q | q <;> rw [q] <;> rfl) hQ (Nat.zero_le _) (Nat.zero_le _) ⟨rfl, rfl, rfl, rfl, _, rfl, ⟨rfl, rfl⟩⟩ dX4_isLiving_8

set_option maxRecDepth 100000 in
set_option maxHeartbeats 4000000 in
theorem c_countLiving {κ : mKp} {n : Nat} {sh : mSh} {P : mPt} {D : mDt} {E : mEt} {o : Nat} (hL : mLay o sh P) : mFnI κ yX4_countLiving cX4_countLiving 1 (Option.some Jvm.ClassFile.FieldType.int) 0 0 [.ref (o + 2)] n sh P D E (fun r D' => D' = D ∧ r = D (o + 2) 4) := by
  refine mMet_of (by decide) (Nat.le_of_ble_eq_true rfl) ?_
  intro Γ Q hQ h hin
  have h : mOk Γ κ RX4 cX4_countLiving 1 (Option.some Jvm.ClassFile.FieldType.int) { frames := 0, cells := 0, slots := 0, locals := 0 } := h
  show mV Γ Q 0 0 n sh P D E [(0, .ref (o + 2))] [] 0
  refine V_aload_n h 1 0 rfl dX4_countLiving_0 rfl ?_
  refine g_X4_36 h 4 (L_s2 hL) dX4_countLiving_1 rfl ?_
  exact V_iret h rfl hQ (Nat.zero_le _) (Nat.zero_le _) ⟨rfl, rfl, rfl, rfl, _, rfl, ⟨rfl, rfl⟩⟩ dX4_countLiving_4

set_option maxRecDepth 100000 in
set_option maxHeartbeats 4000000 in
theorem c_countEver {κ : mKp} {n : Nat} {sh : mSh} {P : mPt} {D : mDt} {E : mEt} {o : Nat} (hL : mLay o sh P) : mFnI κ yX4_countEver cX4_countEver 1 (Option.some Jvm.ClassFile.FieldType.int) 0 0 [.ref (o + 2)] n sh P D E (fun r D' => D' = D ∧ r = D (o + 2) 3) := by
  refine mMet_of (by decide) (Nat.le_of_ble_eq_true rfl) ?_
  intro Γ Q hQ h hin
  have h : mOk Γ κ RX4 cX4_countEver 1 (Option.some Jvm.ClassFile.FieldType.int) { frames := 0, cells := 0, slots := 0, locals := 0 } := h
  show mV Γ Q 0 0 n sh P D E [(0, .ref (o + 2))] [] 0
  refine V_aload_n h 1 0 rfl dX4_countEver_0 rfl ?_
  refine g_X4_50 h 4 (L_s2 hL) dX4_countEver_1 rfl ?_
  exact V_iret h rfl hQ (Nat.zero_le _) (Nat.zero_le _) ⟨rfl, rfl, rfl, rfl, _, rfl, ⟨rfl, rfl⟩⟩ dX4_countEver_4

set_option maxRecDepth 100000 in
set_option maxHeartbeats 4000000 in
theorem c_hasRoomFor {κ : mKp} {n : Nat} {sh : mSh} {P : mPt} {D : mDt} {E : mEt} {o : Nat} (hL : mLay o sh P) (x : Int32) : mFnI κ yX4_hasRoomFor cX4_hasRoomFor 2 (Option.some Jvm.ClassFile.FieldType.boolean) 0 0 [.ref (o + 2), .int x] n sh P D E (fun r D' => D' = D ∧ r = if 10 < D (o + 2) 3 + x then 0 else 1) := by
  refine mMet_of (by decide) (Nat.le_of_ble_eq_true rfl) ?_
  intro Γ Q hQ h hin
  have h : mOk Γ κ RX4 cX4_hasRoomFor 2 (Option.some Jvm.ClassFile.FieldType.boolean) { frames := 0, cells := 0, slots := 0, locals := 0 } := h
  show mV Γ Q 0 0 n sh P D E [(0, .ref (o + 2)), (1, .int x)] [] 0
  refine V_aload_n h 1 0 rfl dX4_hasRoomFor_0 rfl ?_
  refine g_X4_50 h 4 (L_s2 hL) dX4_hasRoomFor_1 rfl ?_
  refine V_iload_n h 5 1 rfl dX4_hasRoomFor_4 rfl ?_
  refine V_iadd h 6 dX4_hasRoomFor_5 rfl ?_
  refine V_bipush h 8 (v := 10) (by decide) dX4_hasRoomFor_6 rfl ?_
  refine V_icmp_gt h 15 11 dX4_hasRoomFor_8 (by decide) rfl (fun c8 => ?_) (fun c8 => ?_)
  · skip
    refine V_iconst h 16 (v := 0) (by decide) dX4_hasRoomFor_15 rfl ?_
    exact V_iret h rfl hQ (Nat.zero_le _) (Nat.zero_le _) ⟨rfl, rfl, rfl, rfl, _, rfl, ⟨rfl, (if_pos c8).symm⟩⟩ dX4_hasRoomFor_16
  · skip
    refine V_iconst h 12 (v := 1) (by decide) dX4_hasRoomFor_11 rfl ?_
    refine V_goto h 16 dX4_hasRoomFor_12 (by decide) ?_
    exact V_iret h rfl hQ (Nat.zero_le _) (Nat.zero_le _) ⟨rfl, rfl, rfl, rfl, _, rfl, ⟨rfl, (if_neg c8).symm⟩⟩ dX4_hasRoomFor_16

/-- the rows of the owners at the places below k, one after the other, by X -/
def mapD (o : Nat) (ρ : Nat → Nat) (X : Nat → (Nat → Int32) → Nat → Int32) (D : mDt) : Nat → mDt
  | 0 => D
  | k + 1 => setRow (mapD o ρ X D k) (o + 6 + ρ k) (X k (mapD o ρ X D k (o + 6 + ρ k)))
theorem mapD_other {o : Nat} {ρ : Nat → Nat} {X : Nat → (Nat → Int32) → Nat → Int32} {D : mDt} {k a : Nat} (h : ∀ p, p < k → a ≠ o + 6 + ρ p) : mapD o ρ X D k a = D a := by
  induction k with
  | zero => rfl
  | succ k ih =>
    rw [mapD, setRow_ne (h k (Nat.lt_succ_self k))]
    exact ih (fun p hp => h p (Nat.lt_succ_of_lt hp))
theorem mapD_low {o L : Nat} {ρ : Nat → Nat} {X : Nat → (Nat → Int32) → Nat → Int32} {D : mDt} {k c : Nat} (hc : c < 6) : mapD o ρ X D k (o + c) = D (o + c) := mapD_other (fun p _ => by omega)
theorem pOk_map {o L : Nat} {ρ : Nat → Nat} {X : Nat → (Nat → Int32) → Nat → Int32} {D : mDt} {k : Nat} (hp : pOk o L ρ D) : pOk o L ρ (mapD o ρ X D k) := by
  refine ⟨?_, hp.2.1, fun p h => ⟨(hp.2.2 p h).1, ?_⟩⟩
  · rw [mapD_low (L := L) (by decide)]; exact hp.1
  · rw [mapD_low (L := L) (by decide)]; exact (hp.2.2 p h).2
def lsub (c : Int32) (f : Nat → Int32) : Nat → Int32
  | 0 => c
  | k + 1 => lsub c f k - f k
def shareX (cost all : Int32) (x : Nat → Int32) : Nat → Int32 := upd x 3 (x 3 - cost * x 2 / all)
def holdF (F : Nat → Int32) (x : Int32) : Nat → Nat → Option Nat
  | _, 0 => none
  | i, k + 1 => if x < rsum F (i + 1) then some i else holdF F x (i + 1) k
def holdI (F : Nat → Int32) (ρ : Nat → Nat) (x : Int32) (L : Nat) : Int32 := match holdF F x 0 L with
  | some p => nI (ρ p)
  | none => -1
abbrev bwl (o : Nat) (ρ : Nat → Nat) (D : mDt) : Nat → Int32 := fun p => D (o + 6 + ρ p) 2

set_option maxRecDepth 100000 in
set_option maxHeartbeats 4000000 in
theorem c_ownedBowls {κ : mKp} {n : Nat} {sh : mSh} {P : mPt} {D : mDt} {E : mEt} {o : Nat} (hL : mLay o sh P) {L : Nat} {ρ : Nat → Nat} (hp : pOk o L ρ D) : mFnI κ yX4_ownedBowls cX4_ownedBowls 3 (Option.some Jvm.ClassFile.FieldType.int) 2 42 [.ref (o + 2)] n sh P D E (fun r D' => D' = D ∧ r = rsum (fun p => D (o + 6 + ρ p) 2) L) := by
  refine mMet_of (by decide) (Nat.le_of_ble_eq_true rfl) ?_
  intro Γ Q hQ h hin
  have h : mOk Γ κ RX4 cX4_ownedBowls 3 (Option.some Jvm.ClassFile.FieldType.int) { frames := 2, cells := 0, slots := 0, locals := 42 } := h
  have hL10 := hp.2.1
  show mV Γ Q 0 0 n sh P D E [(0, .ref (o + 2))] [] 0
  refine V_iconst h 1 (v := 0) (by decide) dX4_ownedBowls_0 rfl ?_
  refine V_istore_n h 2 [(1, .int 0), (0, .ref (o + 2))] (by decide) rfl dX4_ownedBowls_1 rfl ?_
  refine V_iconst h 3 (v := 0) (by decide) dX4_ownedBowls_2 rfl ?_
  refine V_istore_n h 4 [(2, .int 0), (1, .int 0), (0, .ref (o + 2))] (by decide) rfl dX4_ownedBowls_3 rfl ?_
  have LP4 : ∀ (kk : Nat) (i : Nat) (x1 x2 : Int32), (i ≤ L) → (x1 = rsum (fun p => D (o + 6 + ρ p) 2) i) → (x2 = nI i) → L - i < kk → mV Γ Q 0 0 n sh P D E [(0, .ref (o + 2)), (1, .int x1), (2, .int x2)] [] 4 := by
    intro kk
    induction kk with
    | zero =>
      intro i x1 x2 _ _ _ hms
      exact absurd hms (Nat.not_lt_zero _)
    | succ kk ih =>
      intro i x1 x2 hi e1 e2 hms
      subst e1 e2
      refine V_iload_n h 5 2 rfl dX4_ownedBowls_4 rfl ?_
      refine V_aload_n h 6 0 rfl dX4_ownedBowls_5 rfl ?_
      refine g_X4_36 h 9 (L_s2 hL) dX4_ownedBowls_6 rfl ?_
      refine V_top (y := nI L) hp.1 ?_
      refine V_icmp_ge h 29 12 dX4_ownedBowls_9 (by decide) rfl (fun c9 => ?_) (fun c9 => ?_)
      · skip
        have hex : i = L := by have := mGe c9 (by omega) (by omega); omega
        refine V_iload_n h 30 1 rfl dX4_ownedBowls_29 rfl ?_
        exact V_iret h rfl hQ (Nat.zero_le _) (Nat.zero_le _) ⟨rfl, rfl, rfl, rfl, _, rfl, ⟨rfl, by rw [hex]⟩⟩ dX4_ownedBowls_30
      · skip
        have hlt := mLt c9 (by omega)
        refine V_iload_n h 13 1 rfl dX4_ownedBowls_12 rfl ?_
        refine V_aload_n h 14 0 rfl dX4_ownedBowls_13 rfl ?_
        refine V_iload_n h 15 2 rfl dX4_ownedBowls_14 rfl ?_
        refine CVR h 18 (As := [.int (nI i)]) (c_standing hL hp (q := i) hlt) rfl (L_s2 hL) qL_X4_40 qI_X4_standing qS_X4_standing qZ_X4 qC_X4_standing hd_X4_standing ⟨Nat.le_of_ble_eq_true rfl, Nat.le_of_ble_eq_true rfl⟩ (Nat.le_of_ble_eq_true rfl) rfl rfl dX4_ownedBowls_15 (Nat.zero_le _) (Nat.zero_le _) (fun r1 D1 hq1 => ?_)
        rw [hq1.1, hq1.2]
        refine gN_X4_65 h 21 (L_sw hL (hp.2.2 i hlt).1) dX4_ownedBowls_18 rfl ?_
        refine V_iadd h 22 dX4_ownedBowls_21 rfl ?_
        refine V_istore_n h 23 [(1, .int ((rsum (fun p => D (o + 6 + ρ p) 2) i) + (D (o + 6 + ρ i) 2))), (0, .ref (o + 2)), (2, .int (nI i))] (by decide) rfl dX4_ownedBowls_22 rfl ?_
        refine V_iinc h 26 [(2, .int ((nI i) + 1)), (1, .int ((rsum (fun p => D (o + 6 + ρ p) 2) i) + (D (o + 6 + ρ i) 2))), (0, .ref (o + 2))] 2 rfl (by rfl) (by decide) rfl dX4_ownedBowls_23 rfl ?_
        refine V_goto h 4 dX4_ownedBowls_26 (by decide) ?_
        refine V_lsub [(0, .ref (o + 2)), (1, .int ((rsum (fun p => D (o + 6 + ρ p) 2) i) + (D (o + 6 + ρ i) 2))), (2, .int ((nI i) + 1))] [2, 1, 0] rfl ?_
        exact ih (i + 1) _ _ (by omega) rfl (nI_1 i) (by omega)
  refine V_lsub [(0, .ref (o + 2)), (1, .int 0), (2, .int 0)] [2, 1, 0] rfl ?_
  exact LP4 _ 0 _ _ (Nat.zero_le _) rfl rfl (Nat.lt_succ_self _)

set_option maxRecDepth 100000 in
set_option maxHeartbeats 4000000 in
theorem c_sumOfCoins {κ : mKp} {n : Nat} {sh : mSh} {P : mPt} {D : mDt} {E : mEt} {o : Nat} (hL : mLay o sh P) {L : Nat} {ρ : Nat → Nat} (hp : pOk o L ρ D) : mFnI κ yX4_sumOfCoins cX4_sumOfCoins 3 (Option.some Jvm.ClassFile.FieldType.int) 2 42 [.ref (o + 2)] n sh P D E (fun r D' => D' = D ∧ r = rsum (fun p => D (o + 6 + ρ p) 3) L) := by
  refine mMet_of (by decide) (Nat.le_of_ble_eq_true rfl) ?_
  intro Γ Q hQ h hin
  have h : mOk Γ κ RX4 cX4_sumOfCoins 3 (Option.some Jvm.ClassFile.FieldType.int) { frames := 2, cells := 0, slots := 0, locals := 42 } := h
  have hL10 := hp.2.1
  show mV Γ Q 0 0 n sh P D E [(0, .ref (o + 2))] [] 0
  refine V_iconst h 1 (v := 0) (by decide) dX4_sumOfCoins_0 rfl ?_
  refine V_istore_n h 2 [(1, .int 0), (0, .ref (o + 2))] (by decide) rfl dX4_sumOfCoins_1 rfl ?_
  refine V_iconst h 3 (v := 0) (by decide) dX4_sumOfCoins_2 rfl ?_
  refine V_istore_n h 4 [(2, .int 0), (1, .int 0), (0, .ref (o + 2))] (by decide) rfl dX4_sumOfCoins_3 rfl ?_
  have LP4 : ∀ (kk : Nat) (i : Nat) (x1 x2 : Int32), (i ≤ L) → (x1 = rsum (fun p => D (o + 6 + ρ p) 3) i) → (x2 = nI i) → L - i < kk → mV Γ Q 0 0 n sh P D E [(0, .ref (o + 2)), (1, .int x1), (2, .int x2)] [] 4 := by
    intro kk
    induction kk with
    | zero =>
      intro i x1 x2 _ _ _ hms
      exact absurd hms (Nat.not_lt_zero _)
    | succ kk ih =>
      intro i x1 x2 hi e1 e2 hms
      subst e1 e2
      refine V_iload_n h 5 2 rfl dX4_sumOfCoins_4 rfl ?_
      refine V_aload_n h 6 0 rfl dX4_sumOfCoins_5 rfl ?_
      refine g_X4_36 h 9 (L_s2 hL) dX4_sumOfCoins_6 rfl ?_
      refine V_top (y := nI L) hp.1 ?_
      refine V_icmp_ge h 29 12 dX4_sumOfCoins_9 (by decide) rfl (fun c9 => ?_) (fun c9 => ?_)
      · skip
        have hex : i = L := by have := mGe c9 (by omega) (by omega); omega
        refine V_iload_n h 30 1 rfl dX4_sumOfCoins_29 rfl ?_
        exact V_iret h rfl hQ (Nat.zero_le _) (Nat.zero_le _) ⟨rfl, rfl, rfl, rfl, _, rfl, ⟨rfl, by rw [hex]⟩⟩ dX4_sumOfCoins_30
      · skip
        have hlt := mLt c9 (by omega)
        refine V_iload_n h 13 1 rfl dX4_sumOfCoins_12 rfl ?_
        refine V_aload_n h 14 0 rfl dX4_sumOfCoins_13 rfl ?_
        refine V_iload_n h 15 2 rfl dX4_sumOfCoins_14 rfl ?_
        refine CVR h 18 (As := [.int (nI i)]) (c_standing hL hp (q := i) hlt) rfl (L_s2 hL) qL_X4_40 qI_X4_standing qS_X4_standing qZ_X4 qC_X4_standing hd_X4_standing ⟨Nat.le_of_ble_eq_true rfl, Nat.le_of_ble_eq_true rfl⟩ (Nat.le_of_ble_eq_true rfl) rfl rfl dX4_sumOfCoins_15 (Nat.zero_le _) (Nat.zero_le _) (fun r1 D1 hq1 => ?_)
        rw [hq1.1, hq1.2]
        refine gN_X4_72 h 21 (L_sw hL (hp.2.2 i hlt).1) dX4_sumOfCoins_18 rfl ?_
        refine V_iadd h 22 dX4_sumOfCoins_21 rfl ?_
        refine V_istore_n h 23 [(1, .int ((rsum (fun p => D (o + 6 + ρ p) 3) i) + (D (o + 6 + ρ i) 3))), (0, .ref (o + 2)), (2, .int (nI i))] (by decide) rfl dX4_sumOfCoins_22 rfl ?_
        refine V_iinc h 26 [(2, .int ((nI i) + 1)), (1, .int ((rsum (fun p => D (o + 6 + ρ p) 3) i) + (D (o + 6 + ρ i) 3))), (0, .ref (o + 2))] 2 rfl (by rfl) (by decide) rfl dX4_sumOfCoins_23 rfl ?_
        refine V_goto h 4 dX4_sumOfCoins_26 (by decide) ?_
        refine V_lsub [(0, .ref (o + 2)), (1, .int ((rsum (fun p => D (o + 6 + ρ p) 3) i) + (D (o + 6 + ρ i) 3))), (2, .int ((nI i) + 1))] [2, 1, 0] rfl ?_
        exact ih (i + 1) _ _ (by omega) rfl (nI_1 i) (by omega)
  refine V_lsub [(0, .ref (o + 2)), (1, .int 0), (2, .int 0)] [2, 1, 0] rfl ?_
  exact LP4 _ 0 _ _ (Nat.zero_le _) rfl rfl (Nat.lt_succ_self _)

set_option maxRecDepth 100000 in
set_option maxHeartbeats 4000000 in
theorem c_commonBowls {κ : mKp} {n : Nat} {sh : mSh} {P : mPt} {D : mDt} {E : mEt} {o : Nat} (hL : mLay o sh P) {L : Nat} {ρ : Nat → Nat} (hp : pOk o L ρ D) : mFnI κ yX4_commonBowls cX4_commonBowls 1 (Option.some Jvm.ClassFile.FieldType.int) 3 64 [.ref (o + 2)] n sh P D E (fun r D' => D' = D ∧ r = 5040 - rsum (fun p => D (o + 6 + ρ p) 2) L) := by
  refine mMet_of (by decide) (Nat.le_of_ble_eq_true rfl) ?_
  intro Γ Q hQ h hin
  have h : mOk Γ κ RX4 cX4_commonBowls 1 (Option.some Jvm.ClassFile.FieldType.int) { frames := 3, cells := 0, slots := 0, locals := 64 } := h
  show mV Γ Q 0 0 n sh P D E [(0, .ref (o + 2))] [] 0
  refine V_sipush h 3 (v := 5040) (by decide) dX4_commonBowls_0 rfl ?_
  refine V_aload_n h 4 0 rfl dX4_commonBowls_3 rfl ?_
  refine CVI h 7 (As := []) (c_ownedBowls hL hp) rfl (L_s2 hL) qL_X4_68 qI_X4_ownedBowls qS_X4_ownedBowls qZ_X4 qC_X4_ownedBowls hd_X4_ownedBowls ⟨Nat.le_of_ble_eq_true rfl, Nat.le_of_ble_eq_true rfl⟩ (Nat.le_of_ble_eq_true rfl) rfl rfl dX4_commonBowls_4 (Nat.zero_le _) (Nat.zero_le _) (fun r1 D1 hq1 => ?_)
  rw [hq1.1, hq1.2]
  refine V_isub h 8 dX4_commonBowls_7 rfl ?_
  exact V_iret h rfl hQ (Nat.zero_le _) (Nat.zero_le _) ⟨rfl, rfl, rfl, rfl, _, rfl, ⟨rfl, rfl⟩⟩ dX4_commonBowls_8

set_option maxRecDepth 100000 in
set_option maxHeartbeats 4000000 in
theorem c_firstBowl {κ : mKp} {n : Nat} {sh : mSh} {P : mPt} {D : mDt} {E : mEt} {o : Nat} (hL : mLay o sh P) {L : Nat} {ρ : Nat → Nat} (hp : pOk o L ρ D) {q : Nat} (hq : q < L) (hinj : ∀ p, p < q → ρ p ≠ ρ q) : mFnI κ yX4_firstBowl cX4_firstBowl 4 (Option.some Jvm.ClassFile.FieldType.int) 2 42 [.ref (o + 2), .ref (o + 6 + ρ q)] n sh P D E (fun r D' => D' = D ∧ r = rsum (fun p => D (o + 6 + ρ p) 2) q) := by
  refine mMet_of (by decide) (Nat.le_of_ble_eq_true rfl) ?_
  intro Γ Q hQ h hin
  have h : mOk Γ κ RX4 cX4_firstBowl 4 (Option.some Jvm.ClassFile.FieldType.int) { frames := 2, cells := 0, slots := 0, locals := 42 } := h
  have hL10 := hp.2.1
  show mV Γ Q 0 0 n sh P D E [(0, .ref (o + 2)), (1, .ref (o + 6 + ρ q))] [] 0
  refine V_iconst h 1 (v := 0) (by decide) dX4_firstBowl_0 rfl ?_
  refine V_istore_n h 2 [(2, .int 0), (0, .ref (o + 2)), (1, .ref (o + 6 + ρ q))] (by decide) rfl dX4_firstBowl_1 rfl ?_
  refine V_iconst h 3 (v := 0) (by decide) dX4_firstBowl_2 rfl ?_
  refine V_istore_n h 4 [(3, .int 0), (2, .int 0), (0, .ref (o + 2)), (1, .ref (o + 6 + ρ q))] (by decide) rfl dX4_firstBowl_3 rfl ?_
  have LP4 : ∀ (kk : Nat) (i : Nat) (x1 x2 : Int32), (i ≤ q) → (x1 = rsum (fun p => D (o + 6 + ρ p) 2) i) → (x2 = nI i) → q - i < kk → mV Γ Q 0 0 n sh P D E [(0, .ref (o + 2)), (1, .ref (o + 6 + ρ q)), (2, .int x1), (3, .int x2)] [] 4 := by
    intro kk
    induction kk with
    | zero =>
      intro i x1 x2 _ _ _ hms
      exact absurd hms (Nat.not_lt_zero _)
    | succ kk ih =>
      intro i x1 x2 hi e1 e2 hms
      subst e1 e2
      refine V_iload_n h 5 3 rfl dX4_firstBowl_4 rfl ?_
      refine V_aload_n h 6 0 rfl dX4_firstBowl_5 rfl ?_
      refine g_X4_36 h 9 (L_s2 hL) dX4_firstBowl_6 rfl ?_
      refine V_top (y := nI L) hp.1 ?_
      refine V_icmp_ge h 38 12 dX4_firstBowl_9 (by decide) rfl (fun c9 => absurd c9 (nI_ge (by omega) (by omega))) (fun c9 => ?_)
      refine V_aload_n h 13 0 rfl dX4_firstBowl_12 rfl ?_
      refine V_iload_n h 14 3 rfl dX4_firstBowl_13 rfl ?_
      refine CVR h 17 (As := [.int (nI i)]) (c_standing hL hp (q := i) (by omega)) rfl (L_s2 hL) qL_X4_40 qI_X4_standing qS_X4_standing qZ_X4 qC_X4_standing hd_X4_standing ⟨Nat.le_of_ble_eq_true rfl, Nat.le_of_ble_eq_true rfl⟩ (Nat.le_of_ble_eq_true rfl) rfl rfl dX4_firstBowl_14 (Nat.zero_le _) (Nat.zero_le _) (fun r1 D1 hq1 => ?_)
      rw [hq1.1, hq1.2]
      refine V_aload_n h 18 1 rfl dX4_firstBowl_17 rfl ?_
      refine V_acmp_eq h 38 21 dX4_firstBowl_18 (by decide) rfl (fun c18 => ?_) (fun c18 => ?_)
      · skip
        have hex : i = q := by
          rcases Nat.lt_or_ge i q with hlt | hge
          · exact absurd (by omega) (hinj i hlt)
          · omega
        refine V_iload_n h 39 2 rfl dX4_firstBowl_38 rfl ?_
        exact V_iret h rfl hQ (Nat.zero_le _) (Nat.zero_le _) ⟨rfl, rfl, rfl, rfl, _, rfl, ⟨rfl, by rw [hex]⟩⟩ dX4_firstBowl_39
      · skip
        have hlt : i < q := by
          rcases Nat.lt_or_ge i q with hlt | hge
          · exact hlt
          · exact absurd (by rw [show i = q by omega]) c18
        refine V_iload_n h 22 2 rfl dX4_firstBowl_21 rfl ?_
        refine V_aload_n h 23 0 rfl dX4_firstBowl_22 rfl ?_
        refine V_iload_n h 24 3 rfl dX4_firstBowl_23 rfl ?_
        refine CVR h 27 (As := [.int (nI i)]) (c_standing hL hp (q := i) (by omega)) rfl (L_s2 hL) qL_X4_40 qI_X4_standing qS_X4_standing qZ_X4 qC_X4_standing hd_X4_standing ⟨Nat.le_of_ble_eq_true rfl, Nat.le_of_ble_eq_true rfl⟩ (Nat.le_of_ble_eq_true rfl) rfl rfl dX4_firstBowl_24 (Nat.zero_le _) (Nat.zero_le _) (fun r2 D2 hq2 => ?_)
        rw [hq2.1, hq2.2]
        refine gN_X4_65 h 30 (L_sw hL (hp.2.2 i (by omega)).1) dX4_firstBowl_27 rfl ?_
        refine V_iadd h 31 dX4_firstBowl_30 rfl ?_
        refine V_istore_n h 32 [(2, .int ((rsum (fun p => D (o + 6 + ρ p) 2) i) + (D (o + 6 + ρ i) 2))), (0, .ref (o + 2)), (1, .ref (o + 6 + ρ q)), (3, .int (nI i))] (by decide) rfl dX4_firstBowl_31 rfl ?_
        refine V_iinc h 35 [(3, .int ((nI i) + 1)), (2, .int ((rsum (fun p => D (o + 6 + ρ p) 2) i) + (D (o + 6 + ρ i) 2))), (0, .ref (o + 2)), (1, .ref (o + 6 + ρ q))] 3 rfl (by rfl) (by decide) rfl dX4_firstBowl_32 rfl ?_
        refine V_goto h 4 dX4_firstBowl_35 (by decide) ?_
        refine V_lsub [(0, .ref (o + 2)), (1, .ref (o + 6 + ρ q)), (2, .int ((rsum (fun p => D (o + 6 + ρ p) 2) i) + (D (o + 6 + ρ i) 2))), (3, .int ((nI i) + 1))] [2, 3, 1, 0] rfl ?_
        exact ih (i + 1) _ _ (by omega) rfl (nI_1 i) (by omega)
  refine V_lsub [(0, .ref (o + 2)), (1, .ref (o + 6 + ρ q)), (2, .int 0), (3, .int 0)] [2, 3, 1, 0] rfl ?_
  exact LP4 _ 0 _ _ (Nat.zero_le _) rfl rfl (Nat.lt_succ_self _)

set_option maxRecDepth 100000 in
set_option maxHeartbeats 4000000 in
theorem c_placeOf {κ : mKp} {n : Nat} {sh : mSh} {P : mPt} {D : mDt} {E : mEt} {o : Nat} (hL : mLay o sh P) {L : Nat} {ρ : Nat → Nat} (hp : pOk o L ρ D) {q : Nat} (hq : q < L) (hinj : ∀ p, p < q → ρ p ≠ ρ q) : mFnI κ yX4_placeOf cX4_placeOf 3 (Option.some Jvm.ClassFile.FieldType.int) 2 42 [.ref (o + 2), .ref (o + 6 + ρ q)] n sh P D E (fun r D' => D' = D ∧ r = nI q) := by
  refine mMet_of (by decide) (Nat.le_of_ble_eq_true rfl) ?_
  intro Γ Q hQ h hin
  have h : mOk Γ κ RX4 cX4_placeOf 3 (Option.some Jvm.ClassFile.FieldType.int) { frames := 2, cells := 0, slots := 0, locals := 42 } := h
  have hL10 := hp.2.1
  show mV Γ Q 0 0 n sh P D E [(0, .ref (o + 2)), (1, .ref (o + 6 + ρ q))] [] 0
  refine V_iconst h 1 (v := 0) (by decide) dX4_placeOf_0 rfl ?_
  refine V_istore_n h 2 [(2, .int 0), (0, .ref (o + 2)), (1, .ref (o + 6 + ρ q))] (by decide) rfl dX4_placeOf_1 rfl ?_
  have LP2 : ∀ (kk : Nat) (i : Nat) (x2 : Int32), (i ≤ q) → (x2 = nI i) → q - i < kk → mV Γ Q 0 0 n sh P D E [(0, .ref (o + 2)), (1, .ref (o + 6 + ρ q)), (2, .int x2)] [] 2 := by
    intro kk
    induction kk with
    | zero =>
      intro i x2 _ _ hms
      exact absurd hms (Nat.not_lt_zero _)
    | succ kk ih =>
      intro i x2 hi e2 hms
      subst e2
      refine V_iload_n h 3 2 rfl dX4_placeOf_2 rfl ?_
      refine V_aload_n h 4 0 rfl dX4_placeOf_3 rfl ?_
      refine g_X4_36 h 7 (L_s2 hL) dX4_placeOf_4 rfl ?_
      refine V_top (y := nI L) hp.1 ?_
      refine V_icmp_ge h 27 10 dX4_placeOf_7 (by decide) rfl (fun c7 => absurd c7 (nI_ge (by omega) (by omega))) (fun c7 => ?_)
      refine V_aload_n h 11 0 rfl dX4_placeOf_10 rfl ?_
      refine V_iload_n h 12 2 rfl dX4_placeOf_11 rfl ?_
      refine CVR h 15 (As := [.int (nI i)]) (c_standing hL hp (q := i) (by omega)) rfl (L_s2 hL) qL_X4_40 qI_X4_standing qS_X4_standing qZ_X4 qC_X4_standing hd_X4_standing ⟨Nat.le_of_ble_eq_true rfl, Nat.le_of_ble_eq_true rfl⟩ (Nat.le_of_ble_eq_true rfl) rfl rfl dX4_placeOf_12 (Nat.zero_le _) (Nat.zero_le _) (fun r1 D1 hq1 => ?_)
      rw [hq1.1, hq1.2]
      refine V_aload_n h 16 1 rfl dX4_placeOf_15 rfl ?_
      refine V_acmp_ne h 21 19 dX4_placeOf_16 (by decide) rfl (fun c16 => ?_) (fun c16 => ?_)
      · skip
        have hlt : i < q := by
          rcases Nat.lt_or_ge i q with hlt | hge
          · exact hlt
          · exact absurd (by rw [show i = q by omega]) c16
        refine V_iinc h 24 [(2, .int ((nI i) + 1)), (0, .ref (o + 2)), (1, .ref (o + 6 + ρ q))] 2 rfl (by rfl) (by decide) rfl dX4_placeOf_21 rfl ?_
        refine V_goto h 2 dX4_placeOf_24 (by decide) ?_
        refine V_lsub [(0, .ref (o + 2)), (1, .ref (o + 6 + ρ q)), (2, .int ((nI i) + 1))] [1, 2, 0] rfl ?_
        exact ih (i + 1) _ (by omega) (nI_1 i) (by omega)
      · skip
        have hex : i = q := by
          rcases Nat.lt_or_ge i q with hlt | hge
          · exact absurd (by omega) (hinj i hlt)
          · omega
        refine V_iload_n h 20 2 rfl dX4_placeOf_19 rfl ?_
        exact V_iret h rfl hQ (Nat.zero_le _) (Nat.zero_le _) ⟨rfl, rfl, rfl, rfl, _, rfl, ⟨rfl, by rw [hex]⟩⟩ dX4_placeOf_20
  refine V_lsub [(0, .ref (o + 2)), (1, .ref (o + 6 + ρ q)), (2, .int 0)] [1, 2, 0] rfl ?_
  exact LP2 _ 0 _ (Nat.zero_le _) rfl (Nat.lt_succ_self _)

set_option maxRecDepth 100000 in
set_option maxHeartbeats 4000000 in
theorem c_holderOf {κ : mKp} {n : Nat} {sh : mSh} {P : mPt} {D : mDt} {E : mEt} {o : Nat} (hL : mLay o sh P) {L : Nat} {ρ : Nat → Nat} (hp : pOk o L ρ D) (hnum : ∀ i, i < 10 → D (o + 6 + i) 0 = nI i) (x : Int32) : mFnI κ yX4_holderOf cX4_holderOf 4 (Option.some Jvm.ClassFile.FieldType.int) 2 42 [.ref (o + 2), .int x] n sh P D E (fun r D' => D' = D ∧ r = holdI (fun p => D (o + 6 + ρ p) 2) ρ x L) := by
  refine mMet_of (by decide) (Nat.le_of_ble_eq_true rfl) ?_
  intro Γ Q hQ h hin
  have h : mOk Γ κ RX4 cX4_holderOf 4 (Option.some Jvm.ClassFile.FieldType.int) { frames := 2, cells := 0, slots := 0, locals := 42 } := h
  have hL10 := hp.2.1
  show mV Γ Q 0 0 n sh P D E [(0, .ref (o + 2)), (1, .int x)] [] 0
  refine V_iconst h 1 (v := 0) (by decide) dX4_holderOf_0 rfl ?_
  refine V_istore_n h 2 [(2, .int 0), (0, .ref (o + 2)), (1, .int x)] (by decide) rfl dX4_holderOf_1 rfl ?_
  refine V_iconst h 3 (v := 0) (by decide) dX4_holderOf_2 rfl ?_
  refine V_istore_n h 4 [(3, .int 0), (2, .int 0), (0, .ref (o + 2)), (1, .int x)] (by decide) rfl dX4_holderOf_3 rfl ?_
  have LP4 : ∀ (kk : Nat) (i : Nat) (x2 x3 : Int32), (i ≤ L) → (x2 = rsum (fun p => D (o + 6 + ρ p) 2) i) → (x3 = nI i) → (holdF (fun p => D (o + 6 + ρ p) 2) x 0 L = holdF (fun p => D (o + 6 + ρ p) 2) x i (L - i)) → L - i < kk → mV Γ Q 0 0 n sh P D E [(0, .ref (o + 2)), (1, .int x), (2, .int x2), (3, .int x3)] [] 4 := by
    intro kk
    induction kk with
    | zero =>
      intro i x2 x3 _ _ _ _ hms
      exact absurd hms (Nat.not_lt_zero _)
    | succ kk ih =>
      intro i x2 x3 hi e2 e3 h1 hms
      subst e2 e3
      refine V_iload_n h 5 3 rfl dX4_holderOf_4 rfl ?_
      refine V_aload_n h 6 0 rfl dX4_holderOf_5 rfl ?_
      refine g_X4_36 h 9 (L_s2 hL) dX4_holderOf_6 rfl ?_
      refine V_top (y := nI L) hp.1 ?_
      refine V_icmp_ge h 43 12 dX4_holderOf_9 (by decide) rfl (fun c9 => ?_) (fun c9 => ?_)
      · skip
        have hex : i = L := by have := mGe c9 (by omega) (by omega); omega
        refine V_iconst h 44 (v := (-1)) (by decide) dX4_holderOf_43 rfl ?_
        exact V_iret h rfl hQ (Nat.zero_le _) (Nat.zero_le _) ⟨rfl, rfl, rfl, rfl, _, rfl, ⟨rfl, by simp only [holdI]; rw [h1, show L - i = 0 by omega]; rfl⟩⟩ dX4_holderOf_44
      · skip
        have hlt := mLt c9 (by omega)
        refine V_iload_n h 13 2 rfl dX4_holderOf_12 rfl ?_
        refine V_aload_n h 14 0 rfl dX4_holderOf_13 rfl ?_
        refine V_iload_n h 15 3 rfl dX4_holderOf_14 rfl ?_
        refine CVR h 18 (As := [.int (nI i)]) (c_standing hL hp (q := i) hlt) rfl (L_s2 hL) qL_X4_40 qI_X4_standing qS_X4_standing qZ_X4 qC_X4_standing hd_X4_standing ⟨Nat.le_of_ble_eq_true rfl, Nat.le_of_ble_eq_true rfl⟩ (Nat.le_of_ble_eq_true rfl) rfl rfl dX4_holderOf_15 (Nat.zero_le _) (Nat.zero_le _) (fun r1 D1 hq1 => ?_)
        rw [hq1.1, hq1.2]
        refine gN_X4_65 h 21 (L_sw hL (hp.2.2 i hlt).1) dX4_holderOf_18 rfl ?_
        refine V_iadd h 22 dX4_holderOf_21 rfl ?_
        refine V_istore_n h 23 [(2, .int ((rsum (fun p => D (o + 6 + ρ p) 2) i) + (D (o + 6 + ρ i) 2))), (0, .ref (o + 2)), (1, .int x), (3, .int (nI i))] (by decide) rfl dX4_holderOf_22 rfl ?_
        refine V_iload_n h 24 2 rfl dX4_holderOf_23 rfl ?_
        refine V_iload_n h 25 0 rfl dX4_holderOf_24 rfl ?_
        refine V_icmp_ge h 37 28 dX4_holderOf_25 (by decide) rfl (fun c25 => ?_) (fun c25 => ?_)
        · skip
          refine V_iinc h 40 [(3, .int ((nI i) + 1)), (2, .int ((rsum (fun p => D (o + 6 + ρ p) 2) i) + (D (o + 6 + ρ i) 2))), (0, .ref (o + 2)), (1, .int x)] 3 rfl (by rfl) (by decide) rfl dX4_holderOf_37 rfl ?_
          refine V_goto h 4 dX4_holderOf_40 (by decide) ?_
          refine V_lsub [(0, .ref (o + 2)), (1, .int x), (2, .int ((rsum (fun p => D (o + 6 + ρ p) 2) i) + (D (o + 6 + ρ i) 2))), (3, .int ((nI i) + 1))] [2, 3, 1, 0] rfl ?_
          exact ih (i + 1) _ _ (by omega) rfl (nI_1 i) (by rw [h1, show L - i = (L - (i + 1)) + 1 by omega]; exact if_neg (Int32.not_lt.mpr c25)) (by omega)
        · skip
          refine V_aload_n h 29 1 rfl dX4_holderOf_28 rfl ?_
          refine V_iload_n h 30 3 rfl dX4_holderOf_29 rfl ?_
          refine CVR h 33 (As := [.int (nI i)]) (c_standing hL hp (q := i) hlt) rfl (L_s2 hL) qL_X4_40 qI_X4_standing qS_X4_standing qZ_X4 qC_X4_standing hd_X4_standing ⟨Nat.le_of_ble_eq_true rfl, Nat.le_of_ble_eq_true rfl⟩ (Nat.le_of_ble_eq_true rfl) rfl rfl dX4_holderOf_30 (Nat.zero_le _) (Nat.zero_le _) (fun r2 D2 hq2 => ?_)
          rw [hq2.1, hq2.2]
          refine gN_X4_43 h 36 (L_sw hL (hp.2.2 i hlt).1) dX4_holderOf_33 rfl ?_
          refine V_top (y := nI (ρ i)) (hnum _ (hp.2.2 i hlt).1) ?_
          exact V_iret h rfl hQ (Nat.zero_le _) (Nat.zero_le _) ⟨rfl, rfl, rfl, rfl, _, rfl, ⟨rfl, by simp only [holdI]; rw [h1, show L - i = (L - (i + 1)) + 1 by omega, show holdF (fun p => D (o + 6 + ρ p) 2) x i (L - (i + 1) + 1) = some i from if_pos (Int32.not_le.mp c25)]⟩⟩ dX4_holderOf_36
  refine V_lsub [(0, .ref (o + 2)), (1, .int x), (2, .int 0), (3, .int 0)] [2, 3, 1, 0] rfl ?_
  exact LP4 _ 0 _ _ (Nat.zero_le _) rfl rfl rfl (Nat.lt_succ_self _)

set_option maxRecDepth 100000 in
set_option maxHeartbeats 4000000 in
theorem c_pplGrow {κ : mKp} {n : Nat} {sh : mSh} {P : mPt} {D : mDt} {E : mEt} {o : Nat} (hL : mLay o sh P) {L : Nat} {ρ : Nat → Nat} (hp : pOk o L ρ D) (x : Int32) : mFnV κ yX4_growPalms cX4_growPalms 3 2 44 [.ref (o + 2), .int x] n sh P D E (fun D' => D' = mapD o ρ (fun _ => growX x) D L) := by
  refine mMet_of (by decide) (Nat.le_of_ble_eq_true rfl) ?_
  intro Γ Q hQ h hin
  have h : mOk Γ κ RX4 cX4_growPalms 3 (Option.none : Option Jvm.ClassFile.FieldType) { frames := 2, cells := 0, slots := 0, locals := 44 } := h
  have hL10 := hp.2.1
  show mV Γ Q 0 0 n sh P D E [(0, .ref (o + 2)), (1, .int x)] [] 0
  refine V_iconst h 1 (v := 0) (by decide) dX4_growPalms_0 rfl ?_
  refine V_istore_n h 2 [(2, .int 0), (0, .ref (o + 2)), (1, .int x)] (by decide) rfl dX4_growPalms_1 rfl ?_
  have LP2 : ∀ (kk : Nat) (i : Nat) (x2 : Int32), (i ≤ L) → (x2 = nI i) → L - i < kk → mV Γ Q 0 0 n sh P (mapD o ρ (fun _ => growX x) D i) E [(0, .ref (o + 2)), (1, .int x), (2, .int x2)] [] 2 := by
    intro kk
    induction kk with
    | zero =>
      intro i x2 _ _ hms
      exact absurd hms (Nat.not_lt_zero _)
    | succ kk ih =>
      intro i x2 hi e2 hms
      subst e2
      refine V_iload_n h 3 2 rfl dX4_growPalms_2 rfl ?_
      refine V_aload_n h 4 0 rfl dX4_growPalms_3 rfl ?_
      refine g_X4_36 h 7 (L_s2 hL) dX4_growPalms_4 rfl ?_
      refine V_top (y := nI L) ((pOk_map hp).1) ?_
      refine V_icmp_ge h 25 10 dX4_growPalms_7 (by decide) rfl (fun c7 => ?_) (fun c7 => ?_)
      · skip
        have hex : i = L := by have := mGe c7 (by omega) (by omega); omega
        exact V_ret h  hQ (Nat.zero_le _) (Nat.zero_le _) ⟨rfl, rfl, rfl, rfl, rfl, (by rw [hex])⟩ dX4_growPalms_25
      · skip
        have hlt := mLt c7 (by omega)
        refine V_aload_n h 11 0 rfl dX4_growPalms_10 rfl ?_
        refine V_iload_n h 12 2 rfl dX4_growPalms_11 rfl ?_
        refine CVR h 15 (As := [.int (nI i)]) (c_standing hL (pOk_map hp) (q := i) hlt) rfl (L_s2 hL) qL_X4_40 qI_X4_standing qS_X4_standing qZ_X4 qC_X4_standing hd_X4_standing ⟨Nat.le_of_ble_eq_true rfl, Nat.le_of_ble_eq_true rfl⟩ (Nat.le_of_ble_eq_true rfl) rfl rfl dX4_growPalms_12 (Nat.zero_le _) (Nat.zero_le _) (fun r1 D1 hq1 => ?_)
        rw [hq1.1, hq1.2]
        refine V_iload_n h 16 1 rfl dX4_growPalms_15 rfl ?_
        refine CVV h 19 (As := [.int x]) (c_owGrow (L_sw hL (hp.2.2 i hlt).1) x) rfl (L_sw hL (hp.2.2 i hlt).1) qL_X4_78 qI_X3_growPalms qS_X3_growPalms qZ_X3 qC_X3_growPalms hd_X3_growPalms ⟨Nat.le_of_ble_eq_true rfl, Nat.le_of_ble_eq_true rfl⟩ (Nat.le_of_ble_eq_true rfl) rfl rfl dX4_growPalms_16 (Nat.zero_le _) (Nat.zero_le _) (fun D2 hq2 => ?_)
        rw [show D2 = (mapD o ρ (fun _ => growX x) D (i + 1)) from hq2]
        refine V_iinc h 22 [(2, .int ((nI i) + 1)), (0, .ref (o + 2)), (1, .int x)] 2 rfl (by rfl) (by decide) rfl dX4_growPalms_19 rfl ?_
        refine V_goto h 2 dX4_growPalms_22 (by decide) ?_
        refine V_lsub [(0, .ref (o + 2)), (1, .int x), (2, .int ((nI i) + 1))] [1, 2, 0] rfl ?_
        exact ih (i + 1) _ (by omega) (nI_1 i) (by omega)
  refine V_lsub [(0, .ref (o + 2)), (1, .int x), (2, .int 0)] [1, 2, 0] rfl ?_
  exact LP2 _ 0 _ (Nat.zero_le _) rfl (Nat.lt_succ_self _)

set_option maxRecDepth 100000 in
set_option maxHeartbeats 4000000 in
theorem c_pplReap {κ : mKp} {n : Nat} {sh : mSh} {P : mPt} {D : mDt} {E : mEt} {o : Nat} (hL : mLay o sh P) {L : Nat} {ρ : Nat → Nat} (hp : pOk o L ρ D) : mFnI κ yX4_reap cX4_reap 3 (Option.some Jvm.ClassFile.FieldType.int) 2 42 [.ref (o + 2)] n sh P D E (fun r D' => D' = mapD o ρ (fun _ => reapX) D L ∧ r = rsum (fun p => mapD o ρ (fun _ => reapX) D (p + 1) (o + 6 + ρ p) 14) L) := by
  refine mMet_of (by decide) (Nat.le_of_ble_eq_true rfl) ?_
  intro Γ Q hQ h hin
  have h : mOk Γ κ RX4 cX4_reap 3 (Option.some Jvm.ClassFile.FieldType.int) { frames := 2, cells := 0, slots := 0, locals := 42 } := h
  have hL10 := hp.2.1
  show mV Γ Q 0 0 n sh P D E [(0, .ref (o + 2))] [] 0
  refine V_iconst h 1 (v := 0) (by decide) dX4_reap_0 rfl ?_
  refine V_istore_n h 2 [(1, .int 0), (0, .ref (o + 2))] (by decide) rfl dX4_reap_1 rfl ?_
  refine V_iconst h 3 (v := 0) (by decide) dX4_reap_2 rfl ?_
  refine V_istore_n h 4 [(2, .int 0), (1, .int 0), (0, .ref (o + 2))] (by decide) rfl dX4_reap_3 rfl ?_
  have LP4 : ∀ (kk : Nat) (i : Nat) (x1 x2 : Int32), (i ≤ L) → (x1 = rsum (fun p => mapD o ρ (fun _ => reapX) D (p + 1) (o + 6 + ρ p) 14) i) → (x2 = nI i) → L - i < kk → mV Γ Q 0 0 n sh P (mapD o ρ (fun _ => reapX) D i) E [(0, .ref (o + 2)), (1, .int x1), (2, .int x2)] [] 4 := by
    intro kk
    induction kk with
    | zero =>
      intro i x1 x2 _ _ _ hms
      exact absurd hms (Nat.not_lt_zero _)
    | succ kk ih =>
      intro i x1 x2 hi e1 e2 hms
      subst e1 e2
      refine V_iload_n h 5 2 rfl dX4_reap_4 rfl ?_
      refine V_aload_n h 6 0 rfl dX4_reap_5 rfl ?_
      refine g_X4_36 h 9 (L_s2 hL) dX4_reap_6 rfl ?_
      refine V_top (y := nI L) ((pOk_map hp).1) ?_
      refine V_icmp_ge h 37 12 dX4_reap_9 (by decide) rfl (fun c9 => ?_) (fun c9 => ?_)
      · skip
        have hex : i = L := by have := mGe c9 (by omega) (by omega); omega
        refine V_iload_n h 38 1 rfl dX4_reap_37 rfl ?_
        exact V_iret h rfl hQ (Nat.zero_le _) (Nat.zero_le _) ⟨rfl, rfl, rfl, rfl, _, rfl, ⟨by rw [hex], by rw [hex]⟩⟩ dX4_reap_38
      · skip
        have hlt := mLt c9 (by omega)
        refine V_aload_n h 13 0 rfl dX4_reap_12 rfl ?_
        refine V_iload_n h 14 2 rfl dX4_reap_13 rfl ?_
        refine CVR h 17 (As := [.int (nI i)]) (c_standing hL (pOk_map hp) (q := i) hlt) rfl (L_s2 hL) qL_X4_40 qI_X4_standing qS_X4_standing qZ_X4 qC_X4_standing hd_X4_standing ⟨Nat.le_of_ble_eq_true rfl, Nat.le_of_ble_eq_true rfl⟩ (Nat.le_of_ble_eq_true rfl) rfl rfl dX4_reap_14 (Nat.zero_le _) (Nat.zero_le _) (fun r1 D1 hq1 => ?_)
        rw [hq1.1, hq1.2]
        refine CVV h 20 (As := []) (c_owReap (L_sw hL (hp.2.2 i hlt).1)) rfl (L_sw hL (hp.2.2 i hlt).1) qL_X4_82 qI_X3_reap qS_X3_reap qZ_X3 qC_X3_reap hd_X3_reap ⟨Nat.le_of_ble_eq_true rfl, Nat.le_of_ble_eq_true rfl⟩ (Nat.le_of_ble_eq_true rfl) rfl rfl dX4_reap_17 (Nat.zero_le _) (Nat.zero_le _) (fun D2 hq2 => ?_)
        rw [show D2 = (mapD o ρ (fun _ => reapX) D (i + 1)) from hq2]
        refine V_iload_n h 21 1 rfl dX4_reap_20 rfl ?_
        refine V_aload_n h 22 0 rfl dX4_reap_21 rfl ?_
        refine V_iload_n h 23 2 rfl dX4_reap_22 rfl ?_
        refine CVR h 26 (As := [.int (nI i)]) (c_standing hL (pOk_map hp) (q := i) hlt) rfl (L_s2 hL) qL_X4_40 qI_X4_standing qS_X4_standing qZ_X4 qC_X4_standing hd_X4_standing ⟨Nat.le_of_ble_eq_true rfl, Nat.le_of_ble_eq_true rfl⟩ (Nat.le_of_ble_eq_true rfl) rfl rfl dX4_reap_23 (Nat.zero_le _) (Nat.zero_le _) (fun r3 D3 hq3 => ?_)
        rw [hq3.1, hq3.2]
        refine gN_X4_85 h 29 (L_sw hL (hp.2.2 i hlt).1) dX4_reap_26 rfl ?_
        refine V_iadd h 30 dX4_reap_29 rfl ?_
        refine V_istore_n h 31 [(1, .int ((rsum (fun p => mapD o ρ (fun _ => reapX) D (p + 1) (o + 6 + ρ p) 14) i) + ((mapD o ρ (fun _ => reapX) D (i + 1)) (o + 6 + ρ i) 14))), (0, .ref (o + 2)), (2, .int (nI i))] (by decide) rfl dX4_reap_30 rfl ?_
        refine V_iinc h 34 [(2, .int ((nI i) + 1)), (1, .int ((rsum (fun p => mapD o ρ (fun _ => reapX) D (p + 1) (o + 6 + ρ p) 14) i) + ((mapD o ρ (fun _ => reapX) D (i + 1)) (o + 6 + ρ i) 14))), (0, .ref (o + 2))] 2 rfl (by rfl) (by decide) rfl dX4_reap_31 rfl ?_
        refine V_goto h 4 dX4_reap_34 (by decide) ?_
        refine V_lsub [(0, .ref (o + 2)), (1, .int ((rsum (fun p => mapD o ρ (fun _ => reapX) D (p + 1) (o + 6 + ρ p) 14) i) + ((mapD o ρ (fun _ => reapX) D (i + 1)) (o + 6 + ρ i) 14))), (2, .int ((nI i) + 1))] [2, 1, 0] rfl ?_
        exact ih (i + 1) _ _ (by omega) rfl (nI_1 i) (by omega)
  refine V_lsub [(0, .ref (o + 2)), (1, .int 0), (2, .int 0)] [2, 1, 0] rfl ?_
  exact LP4 _ 0 _ _ (Nat.zero_le _) rfl rfl (Nat.lt_succ_self _)
