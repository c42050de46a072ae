theorem wP_i {v a b : Int32} (h : a ≤ v ∧ v ≤ b) : wP v a b := h
theorem rsum_cg {F G : Nat → Int32} {n : Nat} (h : ∀ p, p < n → F p = G p) : rsum F n = rsum G n := by
  induction n with
  | zero => rfl
  | succ n ih => rw [rsum, rsum, ih (fun p hp => h p (Nat.lt_succ_of_lt hp)), h n (Nat.lt_succ_self n)]
theorem askA_congr {o L : Nat} {ρ : Nat → Nat} {B D : mDt} (h : ∀ a, o ≤ a → a < o + 20 → B a = D a) (hρ : ∀ p, p < L → ρ p < 10) (w : Nat) : askA o L ρ B w = askA o L ρ D w := by
  have hs : ∀ j, rsum (fun p => B (o + 6 + ρ p) j) L = rsum (fun p => D (o + 6 + ρ p) j) L := fun j => rsum_cg (fun p hp => by
    have := hρ p hp
    show B (o + 6 + ρ p) j = D (o + 6 + ρ p) j
    rw [h _ (by omega) (by omega)])
  have h0 := h o (by omega) (by omega)
  have h1 := h (o + 1) (by omega) (by omega)
  have h2 := h (o + 2) (by omega) (by omega)
  have h3 := h (o + 16) (by omega) (by omega)
  have h4 := h (o + 18) (by omega) (by omega)
  unfold askA
  split <;> simp only [h0, h1, h2, h3, h4, hs]
/-- the place in the row of the owner i -/
def plc (ρ : Nat → Nat) (i : Nat) : Nat → Nat
  | 0 => 0
  | k + 1 => if ρ k = i then k else plc ρ i k
theorem plc_at {ρ : Nat → Nat} {L q : Nat} (hinj : ∀ p q, p < q → q < L → ρ p ≠ ρ q) (hq : q < L) : plc ρ (ρ q) L = q := by
  induction L with
  | zero => omega
  | succ L ih =>
    rw [plc]
    by_cases h : q = L
    · subst h; rw [if_pos rfl]
    · rw [if_neg (fun z => hinj q L (by omega) (by omega) z.symm)]
      exact ih (fun p q h1 h2 => hinj p q h1 (by omega)) (by omega)
theorem liv_at {o L e : Nat} {ρ : Nat → Nat} {m k : Nat} {D : mDt} (h : cI o L e ρ m k D) {i : Nat} (hi : i < 10) (hz : ¬ D (o + 6 + i) 1 = 0) : ∃ q, q < L ∧ ρ q = i := by
  rcases h.2.2.2.2.2.2.1 i hi with h1 | h1
  · exact h1.2
  · exact absurd h1.1 hz
def ownDig (o o2 o3 L : Nat) (ρ : Nat → Nat) (m : Nat) (D : mDt) (d : Int64) : Nat → Int64
  | 0 => d
  | i + 1 => if D (o + 6 + i) 1 = 0 then ownDig o o2 o3 L ρ m D d i else (digM (askO o ρ (plc ρ i L) m D) (ownDig o o2 o3 L ρ m D d i) 14 * 31 + (D (o2 + 6 + i) 13 - D (o + 6 + i) 13).toInt64) * 31 + (D (o3 + 6 + i) 14).toInt64
def bwlDig (f g : Int32 → Int32) (d : Int64) : Nat → Int64
  | 0 => d
  | i + 1 => (bwlDig f g d i * 31 + (f (nI (720 * i))).toInt64) * 31 + (g (nI (720 * i))).toInt64
def lstDig (f : Nat → Int32) (c : Nat) (d : Int64) : Nat → Int64
  | 0 => d
  | i + 1 => digM (fun j => f (i * 4 + j)) (lstDig f c d i) c

set_option maxRecDepth 100000 in
set_option maxHeartbeats 4000000 in
theorem c_digOwn {κ : mKp} {n : Nat} {sh : mSh} {P : mPt} {D : mDt} {E : mEt} {b o o2 o3 : Nat} (hB : bLay b o o2 o3 sh P) {L e m k : Nat} {ρ : Nat → Nat} (hI : cI o L e ρ m k D) (d : Int64) : mFnL κ yX5_digestOwners cX5_digestOwners 7 (Option.some Jvm.ClassFile.FieldType.long) 5 112 [.ref b, .long d] n sh P D E (fun r D' => D' = D ∧ r = ownDig o o2 o3 L ρ m D d 10) := by
  refine mMet_of (by decide) (Nat.le_of_ble_eq_true rfl) ?_
  intro Γ Q hQ h hin
  have h : mOk Γ κ RX5 cX5_digestOwners 7 (Option.some Jvm.ClassFile.FieldType.long) { frames := 5, cells := 0, slots := 0, locals := 112 } := h
  have hL := hB.2.2.2.2.1
  have hL2 := hB.2.2.2.2.2.1
  have hL3 := hB.2.2.2.2.2.2.1
  show mV Γ Q 0 0 n sh P D E [(0, .ref b), (1, .long d)] [] 0
  refine V_lload_n h 1 1 rfl dX5_digestOwners_0 rfl ?_
  refine V_lstore_n h 2 [(3, .long d), (0, .ref b), (1, .long d)] (by decide) rfl dX5_digestOwners_1 rfl ?_
  refine V_iconst h 3 (v := 0) (by decide) dX5_digestOwners_2 rfl ?_
  refine V_istore h 5 [(5, .int 0), (3, .long d), (0, .ref b), (1, .long d)] (by decide) rfl dX5_digestOwners_3 rfl ?_
  have LP5 : ∀ (kk : Nat) (i : Nat) (x3 : Int64) (x5 : Int32), (i ≤ 10) → (x3 = ownDig o o2 o3 L ρ m D d i) → (x5 = nI i) → 10 - i < kk → mV Γ Q 0 0 n sh P D E [(0, .ref b), (1, .long d), (3, .long x3), (5, .int x5)] [] 5 := by
    intro kk
    induction kk with
    | zero =>
      intro i x3 x5 _ _ _ hms
      exact absurd hms (Nat.not_lt_zero _)
    | succ kk ih =>
      intro i x3 x5 hi e3 e5 hms
      subst e5
      refine V_iload h 7 3 rfl dX5_digestOwners_5 rfl ?_
      refine V_bipush h 9 (v := 10) (by decide) dX5_digestOwners_7 rfl ?_
      refine V_icmp_ge h 93 12 dX5_digestOwners_9 (by decide) rfl (fun c9 => ?_) (fun c9 => ?_)
      · skip
        have hex : i = 10 := by have := mGe (m := 10) c9 (by omega) (by omega); omega
        subst hex
        refine V_lload_n h 94 2 rfl dX5_digestOwners_93 rfl ?_
        exact V_lret h rfl hQ (Nat.zero_le _) (Nat.zero_le _) ⟨rfl, rfl, rfl, rfl, _, rfl, ⟨rfl, e3⟩⟩ dX5_digestOwners_94
      · skip
        have hlt : i < 10 := mLt (m := 10) c9 (by omega)
        refine V_aload_n h 13 0 rfl dX5_digestOwners_12 rfl ?_
        refine g_X5_10 h 16 (b := o) hB.1 hB.2.1 dX5_digestOwners_13 rfl ?_
        refine gN_X5_30 h 19 (b := o + 2) (L_s0 hL) (L_p1 hL) dX5_digestOwners_16 rfl ?_
        refine V_iload h 21 3 rfl dX5_digestOwners_19 rfl ?_
        refine CVI h 24 (As := [.int (nI i)]) (c_isLiving hL (nI i) (cI_hz hI (nI i))) rfl (L_s2 hL) qL_X5_215 qI_X4_isLiving qS_X4_isLiving qZ_X4 qC_X4_isLiving hd_X4_isLiving ⟨Nat.le_of_ble_eq_true rfl, Nat.le_of_ble_eq_true rfl⟩ (Nat.le_of_ble_eq_true rfl) rfl rfl dX5_digestOwners_21 (Nat.zero_le _) (Nat.zero_le _) (fun r1 D1 hq1 => ?_)
        rw [hq1.1, hq1.2]
        rw [numb_nI hlt]
        refine V_if_eq h 87 27 dX5_digestOwners_24 (by decide) rfl (fun c24 => ?_) (fun c24 => ?_)
        · skip
          refine V_iinc h 90 [(5, .int ((nI i) + 1)), (0, .ref b), (1, .long d), (3, .long x3)] 3 rfl (by rfl) (by decide) rfl dX5_digestOwners_87 rfl ?_
          refine V_goto h 5 dX5_digestOwners_90 (by decide) ?_
          refine V_lsub [(0, .ref b), (1, .long d), (3, .long x3), (5, .int ((nI i) + 1))] [1, 2, 3, 0] rfl ?_
          exact ih (i + 1) _ _ (by omega) (by rw [ownDig, if_pos c24]; exact e3) (nI_1 i) (by omega)
        · skip
          obtain ⟨q, hq, eq⟩ := liv_at hI hlt c24
          subst eq
          obtain ⟨x0, ex0⟩ : ∃ z, z = x3 := ⟨_, rfl⟩
          rw [← ex0]
          rw [← ex0] at e3
          refine V_iconst h 28 (v := 0) (by decide) dX5_digestOwners_27 rfl ?_
          refine V_istore h 30 [(6, .int 0), (0, .ref b), (1, .long d), (3, .long x0), (5, .int (nI (ρ q)))] (by decide) rfl dX5_digestOwners_28 rfl ?_
          have LP30 : ∀ (kk : Nat) (w : Nat) (x3 : Int64) (x6 : Int32), (w ≤ 14) → (x3 = digM (askO o ρ q m D) x0 w) → (x6 = nI w) → 14 - w < kk → mV Γ Q 0 0 n sh P D E [(0, .ref b), (1, .long d), (5, .int (nI (ρ q))), (3, .long x3), (6, .int x6)] [] 30 := by
            intro jk
            induction jk with
            | zero =>
              intro w x3 x6 _ _ _ hms
              exact absurd hms (Nat.not_lt_zero _)
            | succ jk jh =>
              intro w x3 x6 hw e6 e7 hms
              subst e6 e7
              refine V_iload h 32 4 rfl dX5_digestOwners_30 rfl ?_
              refine V_bipush h 34 (v := 13) (by decide) dX5_digestOwners_32 rfl ?_
              refine V_icmp_gt h 59 37 dX5_digestOwners_34 (by decide) rfl (fun c34 => ?_) (fun c34 => ?_)
              · skip
                have hexw : w = 14 := by have := (nI_ltI (a := 13) (b := w) (by decide) (by omega)).mp c34; omega
                subst hexw
                refine V_lload_n h 60 3 rfl dX5_digestOwners_59 rfl ?_
                refine V_ldc2 h 63 qG_X5_191 dX5_digestOwners_60 rfl ?_
                refine V_lmul h 64 dX5_digestOwners_63 rfl ?_
                refine V_aload_n h 65 0 rfl dX5_digestOwners_64 rfl ?_
                refine V_iload h 67 2 rfl dX5_digestOwners_65 rfl ?_
                refine CVI h 70 (As := [.int (nI (ρ q))]) (c_cameUntil hB (nI (ρ q))) rfl hB.1 qL_X5_176 qI_X5_cameUntilLater qS_X5_cameUntilLater qZ_X5 qC_X5_cameUntilLater hd_X5_cameUntilLater ⟨Nat.le_of_ble_eq_true rfl, Nat.le_of_ble_eq_true rfl⟩ (Nat.le_of_ble_eq_true rfl) rfl rfl dX5_digestOwners_67 (Nat.zero_le _) (Nat.zero_le _) (fun r2 D2 hq2 => ?_)
                rw [hq2.1, hq2.2]
                refine V_i2l h 71 dX5_digestOwners_70 rfl ?_
                refine V_ladd h 72 dX5_digestOwners_71 rfl ?_
                refine V_lstore_n h 73 [(3, .long (((digM (askO o ρ q m D) x0 14) * (31 : Int64)) + ((D (numb o2 (nI (ρ q))) 13 - D (numb o (nI (ρ q))) 13).toInt64))), (0, .ref b), (1, .long d), (5, .int (nI (ρ q))), (6, .int (nI 14))] (by decide) rfl dX5_digestOwners_72 rfl ?_
                refine V_lload_n h 74 0 rfl dX5_digestOwners_73 rfl ?_
                refine V_ldc2 h 77 qG_X5_191 dX5_digestOwners_74 rfl ?_
                refine V_lmul h 78 dX5_digestOwners_77 rfl ?_
                refine V_aload_n h 79 1 rfl dX5_digestOwners_78 rfl ?_
                refine V_iload h 81 3 rfl dX5_digestOwners_79 rfl ?_
                refine CVI h 84 (As := [.int (nI (ρ q))]) (c_reapedAt hB (nI (ρ q))) rfl hB.1 qL_X5_186 qI_X5_reapedAtHarvest qS_X5_reapedAtHarvest qZ_X5 qC_X5_reapedAtHarvest hd_X5_reapedAtHarvest ⟨Nat.le_of_ble_eq_true rfl, Nat.le_of_ble_eq_true rfl⟩ (Nat.le_of_ble_eq_true rfl) rfl rfl dX5_digestOwners_81 (Nat.zero_le _) (Nat.zero_le _) (fun r3 D3 hq3 => ?_)
                rw [hq3.1, hq3.2]
                refine V_i2l h 85 dX5_digestOwners_84 rfl ?_
                refine V_ladd h 86 dX5_digestOwners_85 rfl ?_
                refine V_lstore_n h 87 [(3, .long (((((digM (askO o ρ q m D) x0 14) * (31 : Int64)) + ((D (numb o2 (nI (ρ q))) 13 - D (numb o (nI (ρ q))) 13).toInt64)) * (31 : Int64)) + ((D (numb o3 (nI (ρ q))) 14).toInt64))), (0, .ref b), (1, .long d), (5, .int (nI (ρ q))), (6, .int (nI 14))] (by decide) rfl dX5_digestOwners_86 rfl ?_
                refine V_iinc h 90 [(5, .int ((nI (ρ q)) + 1)), (3, .long (((((digM (askO o ρ q m D) x0 14) * (31 : Int64)) + ((D (numb o2 (nI (ρ q))) 13 - D (numb o (nI (ρ q))) 13).toInt64)) * (31 : Int64)) + ((D (numb o3 (nI (ρ q))) 14).toInt64))), (0, .ref b), (1, .long d), (6, .int (nI 14))] 3 rfl (by rfl) (by decide) rfl dX5_digestOwners_87 rfl ?_
                refine V_goto h 5 dX5_digestOwners_90 (by decide) ?_
                refine V_lsub [(0, .ref b), (1, .long d), (3, .long (((((digM (askO o ρ q m D) x0 14) * (31 : Int64)) + ((D (numb o2 (nI (ρ q))) 13 - D (numb o (nI (ρ q))) 13).toInt64)) * (31 : Int64)) + ((D (numb o3 (nI (ρ q))) 14).toInt64))), (5, .int ((nI (ρ q)) + 1))] [2, 3, 1, 0] rfl ?_
                exact ih (ρ q + 1) _ _ (by omega) (by rw [ownDig, if_neg c24, plc_at hI.2.2.2.2.1 hq, ← e3, numb_nI hlt, numb_nI hlt, numb_nI hlt]) (nI_1 (ρ q)) (by omega)
              · skip
                have hltw : w < 14 := by have := (nI_leI (a := w) (b := 13) (by omega) (by decide)).mp (Int32.not_lt.mp c34); omega
                refine V_lload_n h 38 3 rfl dX5_digestOwners_37 rfl ?_
                refine V_ldc2 h 41 qG_X5_191 dX5_digestOwners_38 rfl ?_
                refine V_lmul h 42 dX5_digestOwners_41 rfl ?_
                refine V_aload_n h 43 0 rfl dX5_digestOwners_42 rfl ?_
                refine V_iload h 45 2 rfl dX5_digestOwners_43 rfl ?_
                refine V_iload h 47 4 rfl dX5_digestOwners_45 rfl ?_
                refine CVI h 50 (As := [.int (nI (ρ q)), .int (nI w)]) (n_of hB hI hq hltw) rfl hB.1 qL_X5_218 qI_X5_of qS_X5_of qZ_X5 qC_X5_of hd_X5_of ⟨Nat.le_of_ble_eq_true rfl, Nat.le_of_ble_eq_true rfl⟩ (Nat.le_of_ble_eq_true rfl) rfl rfl dX5_digestOwners_47 (Nat.zero_le _) (Nat.zero_le _) (fun r4 D4 hq4 => ?_)
                rw [hq4.1, hq4.2]
                refine V_i2l h 51 dX5_digestOwners_50 rfl ?_
                refine V_ladd h 52 dX5_digestOwners_51 rfl ?_
                refine V_lstore_n h 53 [(3, .long (((digM (askO o ρ q m D) x0 w) * (31 : Int64)) + ((askO o ρ q m D w).toInt64))), (0, .ref b), (1, .long d), (5, .int (nI (ρ q))), (6, .int (nI w))] (by decide) rfl dX5_digestOwners_52 rfl ?_
                refine V_iinc h 56 [(6, .int ((nI w) + 1)), (3, .long (((digM (askO o ρ q m D) x0 w) * (31 : Int64)) + ((askO o ρ q m D w).toInt64))), (0, .ref b), (1, .long d), (5, .int (nI (ρ q)))] 4 rfl (by rfl) (by decide) rfl dX5_digestOwners_53 rfl ?_
                refine V_goto h 30 dX5_digestOwners_56 (by decide) ?_
                refine V_lsub [(0, .ref b), (1, .long d), (5, .int (nI (ρ q))), (3, .long (((digM (askO o ρ q m D) x0 w) * (31 : Int64)) + ((askO o ρ q m D w).toInt64))), (6, .int ((nI w) + 1))] [2, 3, 4, 1, 0] rfl ?_
                exact jh (w + 1) _ _ (by omega) rfl (nI_1 w) (by omega)
          refine V_lsub [(0, .ref b), (1, .long d), (5, .int (nI (ρ q))), (3, .long x0), (6, .int 0)] [1, 2, 4, 3, 0] rfl ?_
          exact LP30 _ 0 _ _ (Nat.zero_le _) rfl rfl (Nat.lt_succ_self _)
  refine V_lsub [(0, .ref b), (1, .long d), (3, .long d), (5, .int 0)] [2, 3, 1, 0] rfl ?_
  exact LP5 _ 0 _ _ (Nat.zero_le _) rfl rfl (Nat.lt_succ_self _)

theorem lkV_src {o o2 L : Nat} {ρ : Nat → Nat} {m k : Nat} {B D V : mDt} (h : lkV o o2 L ρ m k B V) (hD : ∀ a, o ≤ a → a < o + 20 → B a = D a) (hm : m ≤ 8 := by omega) (hk : k ≤ 8 := by omega) : lkV o o2 L ρ m k D V := by
  obtain ⟨h1, h2, h3, h4, h5, h6, h7, h8, h9, h10⟩ := h
  refine ⟨fun j hj => by rw [h1 j hj, hD _ (by omega) (by omega)], h2, by rw [h3, hD _ (by omega) (by omega)], h4, fun i hi => ⟨(h5 i hi).1, fun j hj hj2 => by rw [(h5 i hi).2 j hj hj2, hD _ (by omega) (by omega)]⟩, h6, fun z hz => by rw [h7 z hz, hD _ (by omega) (by omega)], h8, fun z hz => by rw [h9 z hz, hD _ (by omega) (by omega)], fun j hj hj2 => by rw [h10 j hj hj2, hD _ (by omega) (by omega)]⟩
theorem would_lk {o o2 L : Nat} {ρ : Nat → Nat} {m k : Nat} {x : Int32} {d : Nat} {A B D : mDt} (h : wouldD o o2 L ρ m k x d D A) (hn : ∀ i, i < 10 → D (o2 + 6 + i) 0 = nI i) (hB : ∀ a, o ≤ a → a < o + 20 → D a = B a) (hB2 : ∀ a, o2 ≤ a → a < o2 + 20 → B a = A a) (hm : m ≤ 8 := by omega) (hk : k ≤ 8 := by omega) : ∃ V, lkV o o2 L ρ m k B V ∧ ∀ a, o2 ≤ a → a < o2 + 20 → B a = (daysD o2 ρ L x (V, m, k) d).1 a := by
  obtain ⟨D1, h1, rfl⟩ := h
  exact ⟨D1, lkV_src (like_lkV h1 (fun a _ _ => rfl) hn) hB hm hk, hB2⟩
def digR (o o2 o3 L : Nat) (ρ : Nat → Nat) (m k : Nat) (M : Nat → Int32) (B : mDt) (F : Nat → Int32) (W1 W2 : mDt) : Int64 := (lstDig (B (o + 19)) 3 (lstDig (B (o + 17)) 4 (bwlDig (fun x => holdI (fun p => B (o + 6 + ρ p) 2) ρ x L) (fun x => userI (fun p => B (o + 6 + ρ p) 2) ρ (B (o + 17)) m x L) (ownDig o o2 o3 L ρ m B (digM M 7803 16) 10) 7) m) k * 31 + ((digB F (B (o + 1) 1) 21).1).toInt64) * 31 + (daysS o2 ρ L 0 (W1, m, k) 9 - daysS o2 ρ L 0 (upd2 W2 (o2 + 1) 3 5, m, k) 9).toInt64

set_option maxRecDepth 100000 in
set_option maxHeartbeats 4000000 in
theorem c_digest {κ : mKp} {n : Nat} {sh : mSh} {P : mPt} {D : mDt} {E : mEt} {b o o2 o3 : Nat} (hB : bLay b o o2 o3 sh P) {L e m k : Nat} {ρ : Nat → Nat} (hI : cI o L e ρ m k D) (hN2 : ∀ i, i < 10 → D (o2 + 6 + i) 0 = nI i) (hN3 : ∀ i, i < 10 → D (o3 + 6 + i) 0 = nI i) {dd : Nat} (h4 : D o 4 = nI dd) (hdd : dd < 2 ^ 31) : mFnL κ yX5_digest cX5_digest 5 (Option.some Jvm.ClassFile.FieldType.long) 7 173 [.ref b] n sh P D E (fun r D' => ∃ B F W1 W2, (∀ a, o ≤ a → a < o + 20 → B a = D a) ∧ (∃ V, lkV o o2 L ρ m k B V ∧ ∀ a, o2 ≤ a → a < o2 + 20 → B a = (daysD o2 ρ L 0 (V, m, k) 7).1 a) ∧ (∃ V, lkV o o3 L ρ m k B V ∧ ∀ a, o3 ≤ a → a < o3 + 20 → B a = (daysD o3 ρ L 3 (V, m, k) (harvN dd)).1 a) ∧ digOk o o2 L ρ m k 0 3 B F 21 ∧ lkV o o2 L ρ m k B W1 ∧ lkV o o2 L ρ m k B W2 ∧ r = digR o o2 o3 L ρ m k (askA o L ρ D) B F W1 W2 ∧ (∀ a, (a < o2 ∨ o3 + 20 ≤ a) → D' a = D a) ∧ (∀ i, i < 10 → D' (o2 + 6 + i) 0 = nI i) ∧ ∀ i, i < 10 → D' (o3 + 6 + i) 0 = nI i) := by
  refine mMet_of (by decide) (Nat.le_of_ble_eq_true rfl) ?_
  intro Γ Q hQ h hin
  have h : mOk Γ κ RX5 cX5_digest 5 (Option.some Jvm.ClassFile.FieldType.long) { frames := 7, cells := 0, slots := 0, locals := 173 } := h
  have hL := hB.2.2.2.2.1
  have hL2 := hB.2.2.2.2.2.1
  have hL3 := hB.2.2.2.2.2.2.1
  have hdis := hB.2.2.2.2.2.2.2
  have hk8 := hI.1.2.2.2.2.2.1
  have hm8 := hI.1.2.2.2.1.1
  show mV Γ Q 0 0 n sh P D E [(0, .ref b)] [] 0
  refine V_ldc2 h 3 qG_X5_189 dX5_digest_0 rfl ?_
  refine V_lstore_n h 4 [(1, .long (7803 : Int64)), (0, .ref b)] (by decide) rfl dX5_digest_3 rfl ?_
  refine V_iconst h 5 (v := 0) (by decide) dX5_digest_4 rfl ?_
  refine V_istore_n h 6 [(3, .int 0), (1, .long (7803 : Int64)), (0, .ref b)] (by decide) rfl dX5_digest_5 rfl ?_
  have LP6 : ∀ (kk : Nat) (i : Nat) (x1 : Int64) (x3 : Int32), (i ≤ 16) → (x1 = digM (askA o L ρ D) 7803 i) → (x3 = nI i) → 16 - i < kk → mV Γ Q 0 0 n sh P D E [(0, .ref b), (1, .long x1), (3, .int x3)] [] 6 := by
    intro kk
    induction kk with
    | zero =>
      intro i x1 x3 _ _ _ hms
      exact absurd hms (Nat.not_lt_zero _)
    | succ kk ih =>
      intro i x1 x3 hi e1 e3 hms
      subst e1 e3
      refine V_iload_n h 7 2 rfl dX5_digest_6 rfl ?_
      refine V_bipush h 9 (v := 15) (by decide) dX5_digest_7 rfl ?_
      refine V_icmp_gt h 31 12 dX5_digest_9 (by decide) rfl (fun c9 => ?_) (fun c9 => ?_)
      · skip
        have hex : i = 16 := by have := (nI_ltI (a := 15) (b := i) (by decide) (by omega)).mp c9; omega
        subst hex
        refine V_aload_n h 32 0 rfl dX5_digest_31 rfl ?_
        refine V_iconst h 33 (v := 0) (by decide) dX5_digest_32 rfl ?_
        refine V_bipush h 35 (v := 7) (by decide) dX5_digest_33 rfl ?_
        refine CVV h 38 (As := [.int 0, .int 7]) (c_imLater hB hI hN2 hN3 (d := 7) (by omega) 0) rfl hB.1 qL_X5_172 qI_X5_imagineLater qS_X5_imagineLater qZ_X5 qC_X5_imagineLater hd_X5_imagineLater ⟨Nat.le_of_ble_eq_true rfl, Nat.le_of_ble_eq_true rfl⟩ (Nat.le_of_ble_eq_true rfl) rfl rfl dX5_digest_35 (Nat.zero_le _) (Nat.zero_le _) (fun D1 hq1 => ?_)
        have hFA : ∀ a, (a < o2 ∨ o2 + 20 ≤ a) → D1 a = D a := fun a ha => would_out hq1 hI.1 hN2 ha
        have hIA := cI_blk hI (fun a h1 h2 => hFA a (by omega))
        have hN2A := would_cW hq1 hI.1 hN2
        have hN3A : ∀ i, i < 10 → D1 (o3 + 6 + i) 0 = nI i := fun i hi => by rw [hFA _ (by omega)]; exact hN3 i hi
        have h4A : D1 o 4 = nI dd := by rw [hFA _ (by omega)]; exact h4
        have wA := hq1
        refine V_aload_n h 39 0 rfl dX5_digest_38 rfl ?_
        refine V_iconst h 40 (v := 3) (by decide) dX5_digest_39 rfl ?_
        refine CVV h 43 (As := [.int 3]) (c_imHarv hB hIA hN2A hN3A h4A hdd 3) rfl hB.1 qL_X5_183 qI_X5_imagineHarvest qS_X5_imagineHarvest qZ_X5 qC_X5_imagineHarvest hd_X5_imagineHarvest ⟨Nat.le_of_ble_eq_true rfl, Nat.le_of_ble_eq_true rfl⟩ (Nat.le_of_ble_eq_true rfl) rfl rfl dX5_digest_40 (Nat.zero_le _) (Nat.zero_le _) (fun D2 hq2 => ?_)
        have hFB : ∀ a, (a < o3 ∨ o3 + 20 ≤ a) → D2 a = D1 a := fun a ha => would_out hq2 hIA.1 hN3A ha
        have hIB := cI_blk hIA (fun a h1 h2 => hFB a (by omega))
        have hN2B : ∀ i, i < 10 → D2 (o2 + 6 + i) 0 = nI i := fun i hi => by rw [hFB _ (by omega)]; exact hN2A i hi
        have hN3B := would_cW hq2 hIA.1 hN3A
        have wB := hq2
        refine V_aload_n h 44 0 rfl dX5_digest_43 rfl ?_
        refine V_lload_n h 45 1 rfl dX5_digest_44 rfl ?_
        refine CVL h 48 (As := [.long (digM (askA o L ρ D) 7803 16)]) (c_digOwn hB hIB (digM (askA o L ρ D) 7803 16)) rfl hB.1 qL_X5_196 qI_X5_digestOwners qS_X5_digestOwners qZ_X5 qC_X5_digestOwners hd_X5_digestOwners ⟨Nat.le_of_ble_eq_true rfl, Nat.le_of_ble_eq_true rfl⟩ (Nat.le_of_ble_eq_true rfl) rfl rfl dX5_digest_45 (Nat.zero_le _) (Nat.zero_le _) (fun r3 D3 hq3 => ?_)
        rw [hq3.1, hq3.2]
        refine V_lstore_n h 49 [(1, .long (ownDig o o2 o3 L ρ m D2 (digM (askA o L ρ D) 7803 16) 10)), (0, .ref b), (3, .int (nI 16))] (by decide) rfl dX5_digest_48 rfl ?_
        refine V_iconst h 50 (v := 0) (by decide) dX5_digest_49 rfl ?_
        refine V_istore_n h 51 [(3, .int 0), (1, .long (ownDig o o2 o3 L ρ m D2 (digM (askA o L ρ D) 7803 16) 10)), (0, .ref b)] (by decide) rfl dX5_digest_50 rfl ?_
        have LP51 : ∀ (kk : Nat) (i : Nat) (x1 : Int64) (x3 : Int32), (i ≤ 7) → (x1 = bwlDig (fun x => holdI (fun p => D2 (o + 6 + ρ p) 2) ρ x L) (fun x => userI (fun p => D2 (o + 6 + ρ p) 2) ρ (D2 (o + 17)) m x L) (ownDig o o2 o3 L ρ m D2 (digM (askA o L ρ D) 7803 16) 10) i) → (x3 = nI (720 * i)) → 7 - i < kk → mV Γ Q 0 0 n sh P D2 E [(0, .ref b), (1, .long x1), (3, .int x3)] [] 51 := by
          intro kk
          induction kk with
          | zero =>
            intro i x1 x3 _ _ _ hms
            exact absurd hms (Nat.not_lt_zero _)
          | succ kk ih =>
            intro i x1 x3 hi eb e3 hms
            subst e3
            refine V_iload_n h 52 2 rfl dX5_digest_51 rfl ?_
            refine V_sipush h 55 (v := 5040) (by decide) dX5_digest_52 rfl ?_
            refine V_icmp_ge h 95 58 dX5_digest_55 (by decide) rfl (fun c55 => ?_) (fun c55 => ?_)
            · skip
              have hex : i = 7 := by have := (nI_leI (a := 5040) (b := 720 * i) (by decide) (by omega)).mp c55; omega
              subst hex
              obtain ⟨d3, ed3⟩ : ∃ z, z = x1 := ⟨_, rfl⟩
              rw [← ed3]
              refine V_iconst h 96 (v := 0) (by decide) dX5_digest_95 rfl ?_
              refine V_istore_n h 97 [(3, .int 0), (0, .ref b), (1, .long d3)] (by decide) rfl dX5_digest_96 rfl ?_
              have LP97 : ∀ (kk : Nat) (i : Nat) (x0 : Int64) (x3 : Int32), (i ≤ m) → (x0 = lstDig (D2 (o + 17)) 4 d3 i) → (x3 = nI i) → m - i < kk → mV Γ Q 0 0 n sh P D2 E [(0, .ref b), (1, .long x0), (3, .int x3)] [] 97 := by
                intro kk
                induction kk with
                | zero =>
                  intro i x0 x3 _ _ _ hms
                  exact absurd hms (Nat.not_lt_zero _)
                | succ kk ih =>
                  intro i x0 x3 hi ea e3 hms
                  subst e3
                  refine V_iload_n h 98 2 rfl dX5_digest_97 rfl ?_
                  refine V_aload_n h 99 0 rfl dX5_digest_98 rfl ?_
                  refine g_X5_10 h 102 (b := o) hB.1 hB.2.1 dX5_digest_99 rfl ?_
                  refine gN_X5_76 h 105 (b := o + 16) (L_s0 hL) (L_p2 hL) dX5_digest_102 rfl ?_
                  refine CVI h 108 (As := []) (c_dcount (L_s16 hL)) rfl (L_s16 hL) qL_X5_90 qI_X1_count qS_X1_count qZ_X1 qC_X1_count hd_X1_count ⟨Nat.le_of_ble_eq_true rfl, Nat.le_of_ble_eq_true rfl⟩ (Nat.le_of_ble_eq_true rfl) rfl rfl dX5_digest_105 (Nat.zero_le _) (Nat.zero_le _) (fun r4 D4 hq4 => ?_)
                  rw [hq4.1, hq4.2]
                  refine V_top (y := nI m) hIB.1.2.2.1 ?_
                  refine V_icmp_ge h 147 111 dX5_digest_108 (by decide) rfl (fun c108 => ?_) (fun c108 => ?_)
                  · skip
                    have hex : m = i := by have := mGe c108 (by omega) (by omega); omega
                    subst hex
                    obtain ⟨d4, ed4⟩ : ∃ z, z = x0 := ⟨_, rfl⟩
                    rw [← ed4]
                    refine V_iconst h 148 (v := 0) (by decide) dX5_digest_147 rfl ?_
                    refine V_istore_n h 149 [(3, .int 0), (0, .ref b), (1, .long d4)] (by decide) rfl dX5_digest_148 rfl ?_
                    have LP149 : ∀ (kk : Nat) (i : Nat) (x0 : Int64) (x3 : Int32), (i ≤ k) → (x0 = lstDig (D2 (o + 19)) 3 d4 i) → (x3 = nI i) → k - i < kk → mV Γ Q 0 0 n sh P D2 E [(0, .ref b), (1, .long x0), (3, .int x3)] [] 149 := by
                      intro kk
                      induction kk with
                      | zero =>
                        intro i x0 x3 _ _ _ hms
                        exact absurd hms (Nat.not_lt_zero _)
                      | succ kk ih =>
                        intro i x0 x3 hi ec e3 hms
                        subst e3
                        refine V_iload_n h 150 2 rfl dX5_digest_149 rfl ?_
                        refine V_aload_n h 151 0 rfl dX5_digest_150 rfl ?_
                        refine g_X5_10 h 154 (b := o) hB.1 hB.2.1 dX5_digest_151 rfl ?_
                        refine gN_X5_136 h 157 (b := o + 18) (L_s0 hL) (L_p3 hL) dX5_digest_154 rfl ?_
                        refine CVI h 160 (As := []) (c_dcount (L_s18 hL)) rfl (L_s18 hL) qL_X5_90 qI_X1_count qS_X1_count qZ_X1 qC_X1_count hd_X1_count ⟨Nat.le_of_ble_eq_true rfl, Nat.le_of_ble_eq_true rfl⟩ (Nat.le_of_ble_eq_true rfl) rfl rfl dX5_digest_157 (Nat.zero_le _) (Nat.zero_le _) (fun r5 D5 hq5 => ?_)
                        rw [hq5.1, hq5.2]
                        refine V_top (y := nI k) hIB.1.2.2.2.2.1 ?_
                        refine V_icmp_ge h 199 163 dX5_digest_160 (by decide) rfl (fun c160 => ?_) (fun c160 => ?_)
                        · skip
                          have hex : k = i := by have := mGe c160 (by omega) (by omega); omega
                          subst hex
                          refine V_lload_n h 200 1 rfl dX5_digest_199 rfl ?_
                          refine V_ldc2 h 203 qG_X5_191 dX5_digest_200 rfl ?_
                          refine V_lmul h 204 dX5_digest_203 rfl ?_
                          refine V_aload_n h 205 0 rfl dX5_digest_204 rfl ?_
                          refine V_iconst h 206 (v := 0) (by decide) dX5_digest_205 rfl ?_
                          refine V_iconst h 207 (v := 3) (by decide) dX5_digest_206 rfl ?_
                          refine CVI h 210 (As := [.int 0, .int 3]) (n_bestDig hB hIB hN2B hN3B (d := 3) (by decide) (by decide) 0 (wP_i (by decide))) rfl hB.1 qL_X5_209 qI_X5_bestDig qS_X5_bestDig qZ_X5 qC_X5_bestDig hd_X5_bestDig ⟨Nat.le_of_ble_eq_true rfl, Nat.le_of_ble_eq_true rfl⟩ (Nat.le_of_ble_eq_true rfl) rfl rfl dX5_digest_207 (Nat.zero_le _) (Nat.zero_le _) (fun r6 D6 hq6 => ?_)
                          obtain ⟨F, hO, er, hFC, hN2C⟩ := hq6
                          have hIC := cI_blk hIB (fun a h1 h2 => hFC a (by omega))
                          have hN3C : ∀ i, i < 10 → D6 (o3 + 6 + i) 0 = nI i := fun i hi => by rw [hFC _ (by omega)]; exact hN3B i hi
                          refine V_i2l h 211 dX5_digest_210 rfl ?_
                          refine V_ladd h 212 dX5_digest_211 rfl ?_
                          refine V_lstore_n h 213 [(1, .long ((x0 * (31 : Int64)) + ((r6).toInt64))), (0, .ref b), (3, .int (nI k))] (by decide) rfl dX5_digest_212 rfl ?_
                          refine V_lload_n h 214 0 rfl dX5_digest_213 rfl ?_
                          refine V_ldc2 h 217 qG_X5_191 dX5_digest_214 rfl ?_
                          refine V_lmul h 218 dX5_digest_217 rfl ?_
                          refine V_aload_n h 219 1 rfl dX5_digest_218 rfl ?_
                          refine V_iconst h 220 (v := 5) (by decide) dX5_digest_219 rfl ?_
                          refine V_iconst h 221 (v := 0) (by decide) dX5_digest_220 rfl ?_
                          refine V_bipush h 223 (v := 9) (by decide) dX5_digest_221 rfl ?_
                          refine CVI h 226 (As := [.int 5, .int 0, .int 9]) (n_pumpTakes hB hIC hN2C hN3C (d := 9) (by decide) (by decide) 5 0 (wP_i (by decide)) (wP_i (by decide))) rfl hB.1 qL_X5_212 qI_X5_pumpTakes qS_X5_pumpTakes qZ_X5 qC_X5_pumpTakes hd_X5_pumpTakes ⟨Nat.le_of_ble_eq_true rfl, Nat.le_of_ble_eq_true rfl⟩ (Nat.le_of_ble_eq_true rfl) rfl rfl dX5_digest_223 (Nat.zero_le _) (Nat.zero_le _) (fun r7 D7 hq7 => ?_)
                          obtain ⟨W1, W2, hW1, hW2, er2, hFE, hN2E⟩ := hq7
                          refine V_i2l h 227 dX5_digest_226 rfl ?_
                          refine V_ladd h 228 dX5_digest_227 rfl ?_
                          exact V_lret h rfl hQ (Nat.zero_le _) (Nat.zero_le _) ⟨rfl, rfl, rfl, rfl, _, rfl, ⟨D2, F, W1, W2, fun a h1 h2 => by rw [hFB a (by omega), hFA a (by omega)], would_lk wA hN2 (fun a h1 h2 => by rw [hFB a (by omega), hFA a (by omega)]) (fun a h1 h2 => hFB a (by omega)), would_lk wB hN3A (fun a h1 h2 => (hFB a (by omega)).symm) (fun a _ _ => rfl), hO, lkV_src hW1 (fun a h1 h2 => hFC a (by omega)), lkV_src hW2 (fun a h1 h2 => hFC a (by omega)), by rw [digR, er, er2, ec, ed4, ea, ed3, eb], fun a ha => by rw [hFE a (by omega), hFC a (by omega), hFB a (by omega), hFA a (by omega)], hN2E, fun i hi => by rw [hFE _ (by omega)]; exact hN3C i hi⟩⟩ dX5_digest_228
                        · skip
                          have hlt := mLt c160 (by omega)
                          refine V_iconst h 164 (v := 0) (by decide) dX5_digest_163 rfl ?_
                          refine V_istore h 166 [(4, .int 0), (0, .ref b), (1, .long x0), (3, .int (nI i))] (by decide) rfl dX5_digest_164 rfl ?_
                          have LP166 : ∀ (kk : Nat) (j : Nat) (x1 : Int64) (x4 : Int32), (j ≤ 3) → (x1 = digM (fun j => D2 (o + 19) (i * 4 + j)) x0 j) → (x4 = nI j) → 3 - j < kk → mV Γ Q 0 0 n sh P D2 E [(0, .ref b), (1, .long x1), (3, .int (nI i)), (4, .int x4)] [] 166 := by
                            intro jk
                            induction jk with
                            | zero =>
                              intro j x1 x4 _ _ _ hms
                              exact absurd hms (Nat.not_lt_zero _)
                            | succ jk jh =>
                              intro j x1 x4 hj e5 e6 hms
                              subst e6
                              refine V_iload h 168 3 rfl dX5_digest_166 rfl ?_
                              refine V_iconst h 169 (v := 2) (by decide) dX5_digest_168 rfl ?_
                              refine V_icmp_gt h 193 172 dX5_digest_169 (by decide) rfl (fun c169 => ?_) (fun c169 => ?_)
                              · skip
                                have hexj : j = 3 := by have := (nI_ltI (a := 2) (b := j) (by decide) (by omega)).mp c169; omega
                                subst hexj
                                refine V_iinc h 196 [(3, .int ((nI i) + 1)), (0, .ref b), (1, .long x1), (4, .int (nI 3))] 2 rfl (by rfl) (by decide) rfl dX5_digest_193 rfl ?_
                                refine V_goto h 149 dX5_digest_196 (by decide) ?_
                                refine V_lsub [(0, .ref b), (1, .long x1), (3, .int ((nI i) + 1))] [1, 2, 0] rfl ?_
                                exact ih (i + 1) _ _ (by omega) (by rw [lstDig, ← ec]; exact e5) (nI_1 i) (by omega)
                              · skip
                                have hltj : j < 3 := by have := (nI_leI (a := j) (b := 2) (by omega) (by decide)).mp (Int32.not_lt.mp c169); omega
                                refine V_lload_n h 173 1 rfl dX5_digest_172 rfl ?_
                                refine V_ldc2 h 176 qG_X5_191 dX5_digest_173 rfl ?_
                                refine V_lmul h 177 dX5_digest_176 rfl ?_
                                refine V_aload_n h 178 0 rfl dX5_digest_177 rfl ?_
                                refine V_iload_n h 179 2 rfl dX5_digest_178 rfl ?_
                                refine V_iload h 181 3 rfl dX5_digest_179 rfl ?_
                                refine CVI h 184 (As := [.int (nI i), .int (nI j)]) (n_ofSale hB hIB hlt (j := j) (by omega)) rfl hB.1 qL_X5_206 qI_X5_ofSale qS_X5_ofSale qZ_X5 qC_X5_ofSale hd_X5_ofSale ⟨Nat.le_of_ble_eq_true rfl, Nat.le_of_ble_eq_true rfl⟩ (Nat.le_of_ble_eq_true rfl) rfl rfl dX5_digest_181 (Nat.zero_le _) (Nat.zero_le _) (fun r8 D8 hq8 => ?_)
                                rw [hq8.1, hq8.2]
                                refine V_i2l h 185 dX5_digest_184 rfl ?_
                                refine V_ladd h 186 dX5_digest_185 rfl ?_
                                refine V_lstore_n h 187 [(1, .long ((x1 * (31 : Int64)) + ((D2 (o + 19) (i * 4 + j)).toInt64))), (0, .ref b), (3, .int (nI i)), (4, .int (nI j))] (by decide) rfl dX5_digest_186 rfl ?_
                                refine V_iinc h 190 [(4, .int ((nI j) + 1)), (1, .long ((x1 * (31 : Int64)) + ((D2 (o + 19) (i * 4 + j)).toInt64))), (0, .ref b), (3, .int (nI i))] 3 rfl (by rfl) (by decide) rfl dX5_digest_187 rfl ?_
                                refine V_goto h 166 dX5_digest_190 (by decide) ?_
                                refine V_lsub [(0, .ref b), (1, .long ((x1 * (31 : Int64)) + ((D2 (o + 19) (i * 4 + j)).toInt64))), (3, .int (nI i)), (4, .int ((nI j) + 1))] [2, 1, 3, 0] rfl ?_
                                exact jh (j + 1) _ _ (by omega) (by rw [digM, ← e5]) (nI_1 j) (by omega)
                          refine V_lsub [(0, .ref b), (1, .long x0), (3, .int (nI i)), (4, .int 0)] [1, 2, 3, 0] rfl ?_
                          exact LP166 _ 0 _ _ (Nat.zero_le _) rfl rfl (Nat.lt_succ_self _)
                    refine V_lsub [(0, .ref b), (1, .long d4), (3, .int 0)] [1, 2, 0] rfl ?_
                    exact LP149 _ 0 _ _ (Nat.zero_le _) rfl rfl (Nat.lt_succ_self _)
                  · skip
                    have hlt := mLt c108 (by omega)
                    refine V_iconst h 112 (v := 0) (by decide) dX5_digest_111 rfl ?_
                    refine V_istore h 114 [(4, .int 0), (0, .ref b), (1, .long x0), (3, .int (nI i))] (by decide) rfl dX5_digest_112 rfl ?_
                    have LP114 : ∀ (kk : Nat) (j : Nat) (x1 : Int64) (x4 : Int32), (j ≤ 4) → (x1 = digM (fun j => D2 (o + 17) (i * 4 + j)) x0 j) → (x4 = nI j) → 4 - j < kk → mV Γ Q 0 0 n sh P D2 E [(0, .ref b), (1, .long x1), (3, .int (nI i)), (4, .int x4)] [] 114 := by
                      intro jk
                      induction jk with
                      | zero =>
                        intro j x1 x4 _ _ _ hms
                        exact absurd hms (Nat.not_lt_zero _)
                      | succ jk jh =>
                        intro j x1 x4 hj e5 e6 hms
                        subst e6
                        refine V_iload h 116 3 rfl dX5_digest_114 rfl ?_
                        refine V_iconst h 117 (v := 3) (by decide) dX5_digest_116 rfl ?_
                        refine V_icmp_gt h 141 120 dX5_digest_117 (by decide) rfl (fun c117 => ?_) (fun c117 => ?_)
                        · skip
                          have hexj : j = 4 := by have := (nI_ltI (a := 3) (b := j) (by decide) (by omega)).mp c117; omega
                          subst hexj
                          refine V_iinc h 144 [(3, .int ((nI i) + 1)), (0, .ref b), (1, .long x1), (4, .int (nI 4))] 2 rfl (by rfl) (by decide) rfl dX5_digest_141 rfl ?_
                          refine V_goto h 97 dX5_digest_144 (by decide) ?_
                          refine V_lsub [(0, .ref b), (1, .long x1), (3, .int ((nI i) + 1))] [1, 2, 0] rfl ?_
                          exact ih (i + 1) _ _ (by omega) (by rw [lstDig, ← ea]; exact e5) (nI_1 i) (by omega)
                        · skip
                          have hltj : j < 4 := by have := (nI_leI (a := j) (b := 3) (by omega) (by decide)).mp (Int32.not_lt.mp c117); omega
                          refine V_lload_n h 121 1 rfl dX5_digest_120 rfl ?_
                          refine V_ldc2 h 124 qG_X5_191 dX5_digest_121 rfl ?_
                          refine V_lmul h 125 dX5_digest_124 rfl ?_
                          refine V_aload_n h 126 0 rfl dX5_digest_125 rfl ?_
                          refine V_iload_n h 127 2 rfl dX5_digest_126 rfl ?_
                          refine V_iload h 129 3 rfl dX5_digest_127 rfl ?_
                          refine CVI h 132 (As := [.int (nI i), .int (nI j)]) (n_ofLoan hB hIB hlt (j := j) (by omega)) rfl hB.1 qL_X5_203 qI_X5_ofLoan qS_X5_ofLoan qZ_X5 qC_X5_ofLoan hd_X5_ofLoan ⟨Nat.le_of_ble_eq_true rfl, Nat.le_of_ble_eq_true rfl⟩ (Nat.le_of_ble_eq_true rfl) rfl rfl dX5_digest_129 (Nat.zero_le _) (Nat.zero_le _) (fun r9 D9 hq9 => ?_)
                          rw [hq9.1, hq9.2]
                          refine V_i2l h 133 dX5_digest_132 rfl ?_
                          refine V_ladd h 134 dX5_digest_133 rfl ?_
                          refine V_lstore_n h 135 [(1, .long ((x1 * (31 : Int64)) + ((D2 (o + 17) (i * 4 + j)).toInt64))), (0, .ref b), (3, .int (nI i)), (4, .int (nI j))] (by decide) rfl dX5_digest_134 rfl ?_
                          refine V_iinc h 138 [(4, .int ((nI j) + 1)), (1, .long ((x1 * (31 : Int64)) + ((D2 (o + 17) (i * 4 + j)).toInt64))), (0, .ref b), (3, .int (nI i))] 3 rfl (by rfl) (by decide) rfl dX5_digest_135 rfl ?_
                          refine V_goto h 114 dX5_digest_138 (by decide) ?_
                          refine V_lsub [(0, .ref b), (1, .long ((x1 * (31 : Int64)) + ((D2 (o + 17) (i * 4 + j)).toInt64))), (3, .int (nI i)), (4, .int ((nI j) + 1))] [2, 1, 3, 0] rfl ?_
                          exact jh (j + 1) _ _ (by omega) (by rw [digM, ← e5]) (nI_1 j) (by omega)
                    refine V_lsub [(0, .ref b), (1, .long x0), (3, .int (nI i)), (4, .int 0)] [1, 2, 3, 0] rfl ?_
                    exact LP114 _ 0 _ _ (Nat.zero_le _) rfl rfl (Nat.lt_succ_self _)
              refine V_lsub [(0, .ref b), (1, .long d3), (3, .int 0)] [1, 2, 0] rfl ?_
              exact LP97 _ 0 _ _ (Nat.zero_le _) rfl rfl (Nat.lt_succ_self _)
            · skip
              have hlt : i < 7 := Nat.lt_of_not_le (fun z => c55 (nI_le (a := 5040) (b := 720 * i) (by omega) (by omega)))
              refine V_lload_n h 59 1 rfl dX5_digest_58 rfl ?_
              refine V_ldc2 h 62 qG_X5_191 dX5_digest_59 rfl ?_
              refine V_lmul h 63 dX5_digest_62 rfl ?_
              refine V_aload_n h 64 0 rfl dX5_digest_63 rfl ?_
              refine V_iload_n h 65 2 rfl dX5_digest_64 rfl ?_
              refine V_iconst h 66 (v := 0) (by decide) dX5_digest_65 rfl ?_
              refine CVI h 69 (As := [.int (nI (720 * i)), .int 0]) (n_ofBowl hB hIB (x := nI (720 * i)) (w := 0) (wP_n (a := 0) (b := 5039) (Nat.zero_le _) (by omega) (by decide)) (wP_i (by decide))) rfl hB.1 qL_X5_200 qI_X5_ofBowl qS_X5_ofBowl qZ_X5 qC_X5_ofBowl hd_X5_ofBowl ⟨Nat.le_of_ble_eq_true rfl, Nat.le_of_ble_eq_true rfl⟩ (Nat.le_of_ble_eq_true rfl) rfl rfl dX5_digest_66 (Nat.zero_le _) (Nat.zero_le _) (fun r10 D10 hq10 => ?_)
              rw [hq10.1, hq10.2]
              refine V_top (y := holdI (fun p => D2 (o + 6 + ρ p) 2) ρ (nI (720 * i)) L) (if_pos rfl) ?_
              refine V_i2l h 70 dX5_digest_69 rfl ?_
              refine V_ladd h 71 dX5_digest_70 rfl ?_
              refine V_lstore_n h 72 [(1, .long ((x1 * (31 : Int64)) + ((holdI (fun p => D2 (o + 6 + ρ p) 2) ρ (nI (720 * i)) L).toInt64))), (0, .ref b), (3, .int (nI (720 * i)))] (by decide) rfl dX5_digest_71 rfl ?_
              refine V_lload_n h 73 0 rfl dX5_digest_72 rfl ?_
              refine V_ldc2 h 76 qG_X5_191 dX5_digest_73 rfl ?_
              refine V_lmul h 77 dX5_digest_76 rfl ?_
              refine V_aload_n h 78 1 rfl dX5_digest_77 rfl ?_
              refine V_iload_n h 79 2 rfl dX5_digest_78 rfl ?_
              refine V_iconst h 80 (v := 1) (by decide) dX5_digest_79 rfl ?_
              refine CVI h 83 (As := [.int (nI (720 * i)), .int 1]) (n_ofBowl hB hIB (x := nI (720 * i)) (w := 1) (wP_n (a := 0) (b := 5039) (Nat.zero_le _) (by omega) (by decide)) (wP_i (by decide))) rfl hB.1 qL_X5_200 qI_X5_ofBowl qS_X5_ofBowl qZ_X5 qC_X5_ofBowl hd_X5_ofBowl ⟨Nat.le_of_ble_eq_true rfl, Nat.le_of_ble_eq_true rfl⟩ (Nat.le_of_ble_eq_true rfl) rfl rfl dX5_digest_80 (Nat.zero_le _) (Nat.zero_le _) (fun r11 D11 hq11 => ?_)
              rw [hq11.1, hq11.2]
              refine V_top (y := userI (fun p => D2 (o + 6 + ρ p) 2) ρ (D2 (o + 17)) m (nI (720 * i)) L) (if_neg (by decide)) ?_
              refine V_i2l h 84 dX5_digest_83 rfl ?_
              refine V_ladd h 85 dX5_digest_84 rfl ?_
              refine V_lstore_n h 86 [(1, .long ((((x1 * (31 : Int64)) + ((holdI (fun p => D2 (o + 6 + ρ p) 2) ρ (nI (720 * i)) L).toInt64)) * (31 : Int64)) + ((userI (fun p => D2 (o + 6 + ρ p) 2) ρ (D2 (o + 17)) m (nI (720 * i)) L).toInt64))), (0, .ref b), (3, .int (nI (720 * i)))] (by decide) rfl dX5_digest_85 rfl ?_
              refine V_iincW h 92 [(3, .int ((nI (720 * i)) + 720)), (1, .long ((((x1 * (31 : Int64)) + ((holdI (fun p => D2 (o + 6 + ρ p) 2) ρ (nI (720 * i)) L).toInt64)) * (31 : Int64)) + ((userI (fun p => D2 (o + 6 + ρ p) 2) ρ (D2 (o + 17)) m (nI (720 * i)) L).toInt64))), (0, .ref b)] 2 rfl (by rfl) (by decide) rfl dX5_digest_86 rfl ?_
              refine V_goto h 51 dX5_digest_92 (by decide) ?_
              refine V_lsub [(0, .ref b), (1, .long ((((x1 * (31 : Int64)) + ((holdI (fun p => D2 (o + 6 + ρ p) 2) ρ (nI (720 * i)) L).toInt64)) * (31 : Int64)) + ((userI (fun p => D2 (o + 6 + ρ p) 2) ρ (D2 (o + 17)) m (nI (720 * i)) L).toInt64))), (3, .int ((nI (720 * i)) + 720))] [2, 1, 0] rfl ?_
              exact ih (i + 1) _ _ (by omega) (by rw [bwlDig, ← eb]) (by rw [show (720 : Int32) = nI 720 from rfl, nI_add]; rfl) (by omega)
        refine V_lsub [(0, .ref b), (1, .long (ownDig o o2 o3 L ρ m D2 (digM (askA o L ρ D) 7803 16) 10)), (3, .int 0)] [2, 1, 0] rfl ?_
        exact LP51 _ 0 _ _ (Nat.zero_le _) rfl rfl (Nat.lt_succ_self _)
      · skip
        have hlt : i < 16 := by have := (nI_leI (a := i) (b := 15) (by omega) (by decide)).mp (Int32.not_lt.mp c9); omega
        refine V_lload_n h 13 1 rfl dX5_digest_12 rfl ?_
        refine V_ldc2 h 16 qG_X5_191 dX5_digest_13 rfl ?_
        refine V_lmul h 17 dX5_digest_16 rfl ?_
        refine V_aload_n h 18 0 rfl dX5_digest_17 rfl ?_
        refine V_iload_n h 19 2 rfl dX5_digest_18 rfl ?_
        refine CVI h 22 (As := [.int (nI i)]) (n_many hB hI (w := i) hlt) rfl hB.1 qL_X5_193 qI_X5_many qS_X5_many qZ_X5 qC_X5_many hd_X5_many ⟨Nat.le_of_ble_eq_true rfl, Nat.le_of_ble_eq_true rfl⟩ (Nat.le_of_ble_eq_true rfl) rfl rfl dX5_digest_19 (Nat.zero_le _) (Nat.zero_le _) (fun r12 D12 hq12 => ?_)
        rw [hq12.1, hq12.2]
        refine V_i2l h 23 dX5_digest_22 rfl ?_
        refine V_ladd h 24 dX5_digest_23 rfl ?_
        refine V_lstore_n h 25 [(1, .long (((digM (askA o L ρ D) 7803 i) * (31 : Int64)) + ((askA o L ρ D i).toInt64))), (0, .ref b), (3, .int (nI i))] (by decide) rfl dX5_digest_24 rfl ?_
        refine V_iinc h 28 [(3, .int ((nI i) + 1)), (1, .long (((digM (askA o L ρ D) 7803 i) * (31 : Int64)) + ((askA o L ρ D i).toInt64))), (0, .ref b)] 2 rfl (by rfl) (by decide) rfl dX5_digest_25 rfl ?_
        refine V_goto h 6 dX5_digest_28 (by decide) ?_
        refine V_lsub [(0, .ref b), (1, .long (((digM (askA o L ρ D) 7803 i) * (31 : Int64)) + ((askA o L ρ D i).toInt64))), (3, .int ((nI i) + 1))] [2, 1, 0] rfl ?_
        exact ih (i + 1) _ _ (by omega) rfl (nI_1 i) (by omega)
  refine V_lsub [(0, .ref b), (1, .long (7803 : Int64)), (3, .int 0)] [2, 1, 0] rfl ?_
  exact LP6 _ 0 _ _ (Nat.zero_le _) rfl rfl (Nat.lt_succ_self _)
