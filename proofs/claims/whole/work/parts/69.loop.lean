theorem and31 (x : Int32) : ∃ t, t < 32 ∧ x &&& 31 = nI t := by
  refine ⟨(x &&& 31).toBitVec.toNat, ?_, ?_⟩
  · rw [Int32.toBitVec_and, BitVec.toNat_and]
    exact Nat.lt_succ_of_le Nat.and_le_right
  · apply Int32.toBitVec_inj.1
    show (x &&& 31).toBitVec = BitVec.ofNat 32 (x &&& 31).toBitVec.toNat
    simp

set_option maxRecDepth 100000 in
set_option maxHeartbeats 4000000 in
theorem k_loop {Γ : mC} {κ : mKp} {Q : State → Prop} (h : mOk Γ κ RL cL_law 9 (Option.some Jvm.ClassFile.FieldType.boolean) { frames := 13, cells := 771262, slots := 6782320, locals := 468 }) (hT : mOkN Γ) (hst : κ.1.stackTraces = false) {bs Ls : Nat} {xs : Nat → Int32} (hX : mScr Γ bs Ls xs) (hLs : Ls ≤ 2560) {b K0 S0 : Nat} (hK0 : K0 ≤ 50000) (hS0 : S0 ≤ 1000000) (ret : ∀ kc ks n sh P D E lv, kc ≤ 771262 → ks ≤ 6782320 → mV Γ Q kc ks n sh P D E lv [] 1717) : ∀ (mm i cn kc ks n : Nat) (sh : mSh) (P : mPt) (D : mDt) (E : mEt), Ls + 5 - i < mm → i < 2600 → 5 * cn ≤ i → kc = K0 + 1400 * cn → ks = S0 + 10600 * cn → i < Ls + 5 → lI b cn n sh P D → mV Γ Q kc ks n sh P D E [(0, .ref bs), (1, .ref b), (2, .ref (b + 61)), (3, .ref (b + 94)), (4, .int (nI i))] [] 23 := by
  intro mm
  induction mm with
  | zero => intro i cn kc ks n sh P D E hms; exact absurd hms (Nat.not_lt_zero _)
  | succ mm ih =>
    intro i cn kc ks n sh P D E hms hi5 hcn hkc hks hiL hI
    have hLs2 : Ls < 2 ^ 31 := by omega
    refine V_iload h 25 4 rfl dL_law_23 rfl ?_
    refine V_aload_n h 26 0 rfl dL_law_25 rfl ?_
    refine V_slen h hX 27 dL_law_26 rfl ?_
    refine V_iconst h 28 (v := 5) (by decide) dL_law_27 rfl ?_
    refine V_isub h 29 dL_law_28 rfl ?_
    have e5 : (nI Ls - 5).toInt = (Ls : Int) - 5 := by
      rw [ti_sub] <;> rw [nI_toInt (by omega), show (5 : Int32).toInt = 5 from rfl] <;> omega
    have ei : (nI i).toInt = (i : Int) := nI_toInt (by omega)
    refine V_icmp_gt h 1717 32 dL_law_29 (by decide) rfl (fun _ => ret _ _ _ _ _ _ _ _ (by omega) (by omega)) (fun c29 => ?_)
    have hi : i + 5 ≤ Ls := by
      rw [Int32.lt_iff_toInt_lt, e5, ei] at c29
      omega
    have hinc : ∀ (kc2 ks2 n2 cn2 : Nat) (sh2 : mSh) (P2 : mPt) (D2 : mDt) (E2 : mEt), 5 * cn2 ≤ i + 5 → kc2 = K0 + 1400 * cn2 → ks2 = S0 + 10600 * cn2 → lI b cn2 n2 sh2 P2 D2 → mV Γ Q kc2 ks2 n2 sh2 P2 D2 E2 [(0, .ref bs), (1, .ref b), (2, .ref (b + 61)), (3, .ref (b + 94)), (4, .int (nI i))] [] 1711 := fun kc2 ks2 n2 cn2 sh2 P2 D2 E2 a1 a2 a3 a4 => by
      refine V_iinc h 1714 [(4, .int (nI (i + 5))), (0, .ref bs), (1, .ref b), (2, .ref (b + 61)), (3, .ref (b + 94))] 4 rfl (by exact nI_add i 5) (by decide) rfl dL_law_1711 rfl ?_
      refine V_goto h 23 dL_law_1714 (by decide) ?_
      refine V_lsub [(0, .ref bs), (1, .ref b), (2, .ref (b + 61)), (3, .ref (b + 94)), (4, .int (nI (i + 5)))] [1, 2, 3, 4, 0] rfl ?_
      exact ih (i + 5) cn2 kc2 ks2 n2 sh2 P2 D2 E2 (by omega) (by omega) a1 a2 a3 (by omega) a4
    refine V_aload_n h 33 0 rfl dL_law_32 rfl ?_
    refine V_iload h 35 4 rfl dL_law_33 rfl ?_
    refine V_sld h hX 36 i rfl (by omega) hLs2 dL_law_35 rfl ?_
    refine V_bipush h 38 (v := 31) (by decide) dL_law_36 rfl ?_
    refine V_iand h 39 dL_law_38 rfl ?_
    obtain ⟨t, ht, et⟩ := and31 (xs i)
    refine V_top et ?_
    have hkc2 : kc + 1400 ≤ 771262 := by omega
    have hks2 : ks + 10600 ≤ 6782320 := by omega
    have hgo : ∀ (n2 : Nat) (sh2 : mSh) (P2 : mPt) (D2 : mDt) (E2 : mEt), lI b (cn + 1) n2 sh2 P2 D2 → mV Γ Q (kc + 1400) (ks + 10600) n2 sh2 P2 D2 E2 [(0, .ref bs), (1, .ref b), (2, .ref (b + 61)), (3, .ref (b + 94)), (4, .int (nI i))] [] 1711 := fun n2 sh2 P2 D2 E2 a => hinc _ _ n2 (cn + 1) sh2 P2 D2 E2 (by omega) (by omega) (by omega) a
    obtain rfl | rfl | rfl | rfl | rfl | rfl | rfl | rfl | rfl | rfl | rfl | rfl | rfl | rfl | rfl | rfl | rfl | rfl | rfl | rfl | rfl | rfl | rfl | h23 : t = 0 ∨ t = 1 ∨ t = 2 ∨ t = 3 ∨ t = 4 ∨ t = 5 ∨ t = 6 ∨ t = 7 ∨ t = 8 ∨ t = 9 ∨ t = 10 ∨ t = 11 ∨ t = 12 ∨ t = 13 ∨ t = 14 ∨ t = 15 ∨ t = 16 ∨ t = 17 ∨ t = 18 ∨ t = 19 ∨ t = 20 ∨ t = 21 ∨ t = 22 ∨ 23 ≤ t := by omega
    · refine V_tabIn h 144 (off := 105) dL_law_39 (by decide) (by decide) (by decide) (by decide) ?_
      exact k_owner h hT hst hX hLs2 hi hI (by omega) hkc2 hks2 hgo
    · refine V_tabIn h 236 (off := 197) dL_law_39 (by decide) (by decide) (by decide) (by decide) ?_
      exact k_sell h hT hst hX hLs2 hi hI (by omega) hkc2 hks2 hgo
    · refine V_tabIn h 328 (off := 289) dL_law_39 (by decide) (by decide) (by decide) (by decide) ?_
      exact k_lend h hT hst hX hLs2 hi hI (by omega) hkc2 hks2 hgo
    · refine V_tabIn h 420 (off := 381) dL_law_39 (by decide) (by decide) (by decide) (by decide) ?_
      exact k_die h hT hst hX hLs2 hi hI (by omega) hkc2 hks2 hgo
    · refine V_tabIn h 500 (off := 461) dL_law_39 (by decide) (by decide) (by decide) (by decide) ?_
      exact k_dig h hT hst hX hLs2 hi hI (by omega) hkc2 hks2 hgo
    · refine V_tabIn h 556 (off := 517) dL_law_39 (by decide) (by decide) (by decide) (by decide) ?_
      exact k_clean h hT hst hX hLs2 hi hI (by omega) hkc2 hks2 hgo
    · refine V_tabIn h 612 (off := 573) dL_law_39 (by decide) (by decide) (by decide) (by decide) ?_
      exact k_fall h hT hst hX hLs2 hi hI (by omega) hkc2 hks2 hgo
    · refine V_tabIn h 668 (off := 629) dL_law_39 (by decide) (by decide) (by decide) (by decide) ?_
      exact k_pump h hT hst hX hLs2 hi hI (by omega) hkc2 hks2 hgo
    · refine V_tabIn h 724 (off := 685) dL_law_39 (by decide) (by decide) (by decide) (by decide) ?_
      exact k_pollinate h hT hst hX hLs2 hi hI (by omega) hkc2 hks2 hgo
    · refine V_tabIn h 792 (off := 753) dL_law_39 (by decide) (by decide) (by decide) (by decide) ?_
      exact k_pollen h hT hst hX hLs2 hi hI (by omega) hkc2 hks2 hgo
    · refine V_tabIn h 872 (off := 833) dL_law_39 (by decide) (by decide) (by decide) (by decide) ?_
      exact k_ahead h hT hst hX hLs2 hi hI (by omega) hkc2 hks2 hgo
    · refine V_tabIn h 964 (off := 925) dL_law_39 (by decide) (by decide) (by decide) (by decide) ?_
      exact k_pass h hT hst hX hLs2 hi hI (by omega) hkc2 hks2 hgo
    · refine V_tabIn h 1032 (off := 993) dL_law_39 (by decide) (by decide) (by decide) (by decide) ?_
      exact k_of h hT hst hX hLs2 hi hI (by omega) hkc2 hks2 hgo
    · refine V_tabIn h 1100 (off := 1061) dL_law_39 (by decide) (by decide) (by decide) (by decide) ?_
      exact k_ofBowl h hT hst hX hLs2 hi hI (by omega) hkc2 hks2 hgo
    · refine V_tabIn h 1168 (off := 1129) dL_law_39 (by decide) (by decide) (by decide) (by decide) ?_
      exact k_ofLoan h hT hst hX hLs2 hi hI (by omega) hkc2 hks2 hgo
    · refine V_tabIn h 1236 (off := 1197) dL_law_39 (by decide) (by decide) (by decide) (by decide) ?_
      exact k_ofSale h hT hst hX hLs2 hi hI (by omega) hkc2 hks2 hgo
    · refine V_tabIn h 1304 (off := 1265) dL_law_39 (by decide) (by decide) (by decide) (by decide) ?_
      exact k_many h hT hst hX hLs2 hi hI (by omega) hkc2 hks2 hgo
    · refine V_tabIn h 1360 (off := 1321) dL_law_39 (by decide) (by decide) (by decide) (by decide) ?_
      exact k_meanMoist h hT hst hX hLs2 hi hI (by omega) hkc2 hks2 hgo
    · refine V_tabIn h 1401 (off := 1362) dL_law_39 (by decide) (by decide) (by decide) (by decide) ?_
      exact k_wouldCome h hT hst hX hLs2 hi hI (by omega) hkc2 hks2 hgo
    · refine V_tabIn h 1481 (off := 1442) dL_law_39 (by decide) (by decide) (by decide) (by decide) ?_
      exact k_bestDig h hT hst hX hLs2 hi hI (by omega) hkc2 hks2 hgo
    · refine V_tabIn h 1549 (off := 1510) dL_law_39 (by decide) (by decide) (by decide) (by decide) ?_
      exact k_pumpTakes h hT hst hX hLs2 hi hI (by omega) hkc2 hks2 hgo
    · refine V_tabIn h 1629 (off := 1590) dL_law_39 (by decide) (by decide) (by decide) (by decide) ?_
      exact k_wouldReap h hT hst hX hLs2 hi hI (by omega) hkc2 hks2 hgo
    · refine V_tabIn h 1697 (off := 1658) dL_law_39 (by decide) (by decide) (by decide) (by decide) ?_
      exact k_digest h hT hst hX hLs2 hi hI (by omega) hkc2 hks2 hgo
    · refine V_tabOut h 1711 dL_law_39 (Or.inr (by rw [nI_toInt (by omega)]; omega)) (by decide) ?_
      exact hinc kc ks n cn sh P D E (by omega) hkc hks hI
