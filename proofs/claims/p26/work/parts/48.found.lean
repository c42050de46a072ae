/-! four owners are told, as they are drawn -/
def rhoN : Nat → Nat → Nat
  | 0 => fun _ => 0
  | i + 1 => rhoA (rhoN i) i i
theorem rhoN_at : ∀ i p, p < i → rhoN i p = p := by
  intro i
  induction i with
  | zero => intro p hp; omega
  | succ i ih =>
    intro p hp
    rw [rhoN]
    by_cases q : p = i
    · subst q; exact rhoA_eq
    · rw [rhoA_lt (by omega)]; exact ih p (by omega)
def tellD (o Ls : Nat) (xs : Nat → Int32) (dr : Nat) (D : mDt) : Nat → mDt
  | 0 => D
  | i + 1 => addD o i i (100 + drwI Ls xs (dr + 4 * i) (nI 1000)) (drwI Ls xs (dr + 4 * i + 1) (nI 200)) (drwI Ls xs (dr + 4 * i + 2) (nI 40)) (drwI Ls xs (dr + 4 * i + 3) (nI 4)) (tellD o Ls xs dr D i)
def fI (t bs dr Ls : Nat) (xs : Nat → Int32) (n : Nat) (sh : mSh) (P : mPt) (D : mDt) (i rw n1 : Nat) (S1 : mSh) (P1 : mPt) (D1 : mDt) : Prop := tI t bs (dr + 4 * i) i rw n1 S1 P1 D1 ∧ gI (t + 2) i i (rhoN i) 0 0 D1 0 i ∧ (∃ s, s ≤ 1099 * i ∧ rsum (fun p => D1 (t + 2 + 6 + rhoN i p) 2) i = nI s) ∧ (∀ a, t + 2 ≤ a → a < t + 22 → D1 a = tellD (t + 2) Ls xs dr D i a) ∧ n ≤ n1 ∧ (∀ a, a < n → S1 a = sh a) ∧ (∀ a, a < n → a ≠ t → a ≠ t + 62 → P1 a = P a) ∧ (∀ j, j ≠ 5 → P1 t j = P t j) ∧ ∀ a, a < n → a ≠ t → (a < t + 2 ∨ t + 22 ≤ a) → D1 a = D a
theorem tI_draw {t bs dr e rw n : Nat} {sh : mSh} {P : mPt} {D : mDt} (h : tI t bs dr e rw n sh P D) (x : Nat) : tI t bs x e rw n sh P (upd2 D t 2 (nI x)) := by
  obtain ⟨h1, h2, h3, h4, h5, h6, h7, h8, h9, h10, h11, h12, h13⟩ := h
  exact ⟨h1, h2, h3, h4, h5, h6, h7, h8, h9, h10, h11, upd2_eq, by rw [upd2_nk (by decide)]; exact h13⟩
/-- what is drawn for an owner -/
theorem drw_ok {Ls : Nat} {xs : Nat → Int32} {d : Nat} : ∃ W, W ≤ 1099 ∧ 100 + drwI Ls xs d (nI 1000) = nI W ∧ (wP (100 + drwI Ls xs d (nI 1000)) 0 5040 ∧ wP (drwI Ls xs (d + 1) (nI 200)) 0 9999 ∧ wP (drwI Ls xs (d + 2) (nI 40)) 0 200 ∧ wP (drwI Ls xs (d + 3) (nI 4)) 0 20) := by
  obtain ⟨a, a1, a2⟩ := drwI_lt (Ls := Ls) (xs := xs) (dr := d) (N := 1000) (by decide) (by decide)
  obtain ⟨b, b1, b2⟩ := drwI_lt (Ls := Ls) (xs := xs) (dr := d + 1) (N := 200) (by decide) (by decide)
  obtain ⟨c, c1, c2⟩ := drwI_lt (Ls := Ls) (xs := xs) (dr := d + 2) (N := 40) (by decide) (by decide)
  obtain ⟨e, e1, e2⟩ := drwI_lt (Ls := Ls) (xs := xs) (dr := d + 3) (N := 4) (by decide) (by decide)
  have h : 100 + drwI Ls xs d (nI 1000) = nI (100 + a) := by rw [a2, show (100 : Int32) = nI 100 from rfl, nI_add]
  refine ⟨100 + a, by omega, h, ?_, ?_, ?_, ?_⟩
  · rw [h]; exact wP_n (a := 0) (b := 5040) (by omega) (by omega) (by decide)
  · rw [b2]; exact wP_n (a := 0) (b := 9999) (by omega) (by omega) (by decide)
  · rw [c2]; exact wP_n (a := 0) (b := 200) (by omega) (by omega) (by decide)
  · rw [e2]; exact wP_n (a := 0) (b := 20) (by omega) (by omega) (by decide)
theorem room_w {s W i : Nat} {x y : Int32} (hs : s ≤ 1099 * i) (hi : i < 4) (hW : W ≤ 1099) (hx : x = nI W) (hy : y = nI s) : x ≤ 5040 - y := by
  rw [hx, hy, show (5040 : Int32) = nI 5040 from rfl, nI_sub (by omega)]
  exact nI_le (by omega) (by omega)
/-- the sum of the bowls, one owner more -/
theorem add_sum {o e : Nat} {ρ : Nat → Nat} {w c p m : Int32} {D : mDt} (he : e < 10) (hρ : ∀ p, p < e → ρ p < e) : rsum (fun q => addD o e e w c p m D (o + 6 + rhoA ρ e e q) 2) (e + 1) = rsum (fun q => D (o + 6 + ρ q) 2) e + w := by
  rw [rsum, rsum_c2 (F := fun q => D (o + 6 + ρ q) 2) (fun q hq => by
    show addD o e e w c p m D (o + 6 + rhoA ρ e e q) 2 = _
    have := hρ q hq
    rw [rhoA_lt hq, addD_ra (by omega) (by omega) (by omega)]), rhoA_eq, addD_e]
  congr 1
theorem fI_step {t bs dr Ls : Nat} {xs : Nat → Int32} {n : Nat} {sh : mSh} {P : mPt} {D : mDt} {i rw n1 : Nat} {S1 : mSh} {P1 : mPt} {D1 D2 : mDt} {n3 : Nat} {S3 : mSh} {P3 : mPt} {D3 : mDt} (h : fI t bs dr Ls xs n sh P D i rw n1 S1 P1 D1) (hi : i < 4) (htn : t + 78 ≤ n) (hT2 : tI t bs (dr + 4 * i + 4) i rw n1 S1 P1 D2) (h2 : ∀ a, a ≠ t → D2 a = D1 a)
    (ho : towOk t i n1 (100 + drwI Ls xs (dr + 4 * i) (nI 1000)) (drwI Ls xs (dr + 4 * i + 1) (nI 200)) (drwI Ls xs (dr + 4 * i + 2) (nI 40)) (drwI Ls xs (dr + 4 * i + 3) (nI 4)) S1 P1 D2 n3 S3 P3 D3) : fI t bs dr Ls xs n sh P D (i + 1) (n1 + 1) n3 S3 P3 D3 := by
  obtain ⟨hT, hG, ⟨s, hs, es⟩, hb, hn, f1, f2, f3, f4⟩ := h
  obtain ⟨q1, q2, q3, q4, q5, q6, q7, q8, q9, q10⟩ := ho
  obtain ⟨W, hW, eW, hg⟩ := drw_ok (Ls := Ls) (xs := xs) (d := dr + 4 * i)
  have hG2 : gI (t + 2) i i (rhoN i) 0 0 D2 0 i := gI_blk hG (fun a a1 a2 => h2 a (by omega))
  have es2 : rsum (fun p => D2 (t + 2 + 6 + rhoN i p) 2) i = nI s := by
    rw [← es]; exact rsum_c2 (fun p hp => by show D2 _ 2 = D1 _ 2; rw [h2 _ (by omega)])
  have hG3 := gI_owner hG2 hg (by omega) (room_w hs hi hW eW es2)
  have hG4 : gI (t + 2) (i + 1) (i + 1) (rhoN (i + 1)) 0 0 D3 0 (i + 1) := gI_blk hG3 (fun a a1 a2 => q9 a a1 (by omega))
  obtain ⟨t1, t2, t3, t4, t5, t6, t7, t8, t9, t10, t11, t12, t13⟩ := hT2
  refine ⟨⟨by omega, by omega, by omega, bLay_mv t4 (by omega) (fun a _ _ => q4 a (by omega)) (fun a _ _ => q5 a (by omega) (by omega) (by omega)), by rw [q4 t (by omega)]; exact t5, by rw [q6 0 (by decide)]; exact t6, by rw [q6 1 (by decide)]; exact t7, by rw [q6 3 (by decide)]; exact t8, q3, by rw [q4 _ (by omega)]; exact t10, q2, by rw [q7, t12]; rfl, q8⟩, hG4, ⟨s + W, by omega, ?_⟩, fun a a1 a2 => ?_, by omega, fun a ha => by rw [q4 a (by omega)]; exact f1 a ha, fun a ha hb hc => by rw [q5 a (by omega) hb hc]; exact f2 a ha hb hc, fun j hj => by rw [q6 j hj]; exact f3 j hj, fun a ha hb hc => by rw [q10 a (by omega) hb hc, h2 a hb]; exact f4 a ha hb hc⟩
  · have e1 : rsum (fun p => D3 (t + 2 + 6 + rhoN (i + 1) p) 2) (i + 1) = rsum (fun q => addD (t + 2) i i (100 + drwI Ls xs (dr + 4 * i) (nI 1000)) (drwI Ls xs (dr + 4 * i + 1) (nI 200)) (drwI Ls xs (dr + 4 * i + 2) (nI 40)) (drwI Ls xs (dr + 4 * i + 3) (nI 4)) D2 (t + 2 + 6 + rhoA (rhoN i) i i q) 2) (i + 1) := rsum_c2 (fun p hp => by
      show D3 (t + 2 + 6 + rhoN (i + 1) p) 2 = addD (t + 2) i i _ _ _ _ D2 (t + 2 + 6 + rhoN (i + 1) p) 2
      have := rhoN_at (i + 1) p hp
      rw [q9 _ (by omega) (by omega)])
    rw [e1, add_sum (by omega) (fun p hp => by rw [rhoN_at i p hp]; exact hp), es2, eW, nI_add]
  · rw [q9 a a1 a2, tellD]
    exact addD_pt (fun a a1 a2 => by rw [h2 a (by omega)]; exact hb a a1 (by omega)) (by omega) a1 (by omega)
set_option maxRecDepth 100000 in
set_option maxHeartbeats 4000000 in
theorem m_found {κ : mKp} {n : Nat} {sh : mSh} {P : mPt} {D : mDt} {E : mEt} {bs Ls : Nat} {xs : Nat → Int32} {t dr rw : Nat} (hst : κ.1.stackTraces = false) (hLs : Ls < 2 ^ 31) (hdr : dr < 2 ^ 30) (hT : tI t bs dr 0 rw n sh P D) (hG : gI (t + 2) 0 0 (fun _ => 0) 0 0 D 0 0) : mSMet κ yX6_found cX6_found 3 (Option.some Jvm.ClassFile.FieldType.boolean) { frames := 9, cells := 16, slots := 160, locals := 160 } [.ref t, .int 4] n sh P D E bs Ls xs (fun v n' sh' P' D' E' => v = some (.int 1) ∧ E' = E ∧ ∃ rw', fI t bs dr Ls xs n sh P D 4 rw' n' sh' P' D') := by
  refine mSMet_of (by decide) (Nat.le_of_ble_eq_true rfl) ?_
  intro Γ Q hQ h hX hin
  have h : mOk Γ κ RX6 cX6_found 3 (Option.some Jvm.ClassFile.FieldType.boolean) { frames := 9, cells := 16, slots := 160, locals := 160 } := h
  show mV Γ Q 0 0 n sh P D E [(0, .ref t), (1, .int 4)] [] 0
  have htn := hT.1
  refine V_iconst h 1 (v := 0) (by decide) dX6_found_0 rfl ?_
  refine V_istore_n h 2 [(2, .int 0), (0, .ref t), (1, .int 4)] (by decide) rfl dX6_found_1 rfl ?_
  have LP : ∀ (kk : Nat) (i : Nat) (x2 : Int32) (rw n1 : Nat) (S1 : mSh) (P1 : mPt) (D1 : mDt), i ≤ 4 → x2 = nI i → fI t bs dr Ls xs n sh P D i rw n1 S1 P1 D1 → 4 - i < kk → mV Γ Q (4 * i) (40 * i) n1 S1 P1 D1 E [(0, .ref t), (1, .int 4), (2, .int x2)] [] 2 := by
    intro kk
    induction kk with
    | zero => intro i x2 rw n1 S1 P1 D1 _ _ _ hm; exact absurd hm (Nat.not_lt_zero _)
    | succ kk ih =>
      intro i x2 rw n1 S1 P1 D1 hi e2 hJ hm
      subst e2
      refine V_iload_n h 3 2 rfl dX6_found_2 rfl ?_
      refine V_iload_n h 4 1 rfl dX6_found_3 rfl ?_
      refine V_icmp_ge h 50 7 dX6_found_4 (by decide) rfl (fun c4 => ?_) (fun c4 => ?_)
      · have hi4 : i = 4 := by have := mGeB (i := i) (m := 4) c4 (by omega) (by decide); omega
        subst hi4
        refine V_iconst h 51 (v := 1) (by decide) dX6_found_50 rfl ?_
        exact V_iret h rfl hQ (Nat.le_of_ble_eq_true rfl) (Nat.le_of_ble_eq_true rfl) ⟨rfl, rfl, rw, hJ⟩ dX6_found_51
      · have hi4 : i < 4 := mLtB (i := i) (m := 4) c4 (by omega)
        obtain ⟨hT1, hG1, ⟨s, hs, es⟩, hb1, hn1, -⟩ := id hJ
        have hht := hT1.2.2.2.2.1
        have hp1 := hT1.2.2.2.2.2.2.1
        have hd0 : D1 t 2 = nI (dr + 4 * i) := hT1.2.2.2.2.2.2.2.2.2.2.2.1
        refine V_aload_n h 8 0 rfl dX6_found_7 rfl ?_
        refine V_bipush h 10 (v := 100) (by decide) dX6_found_8 rfl ?_
        refine V_aload_n h 11 0 rfl dX6_found_10 rfl ?_
        refine V_sipush h 14 (v := 1000) (by decide) dX6_found_11 rfl ?_
        refine SVI h hX 17 (As := [.int (nI 1000)]) (c_draw (dr := dr + 4 * i + 0) (N := 1000) hht hp1 hd0 (by omega) hLs (by decide) (by decide)) rfl hht qL_X6_110 qI_X6_draw qS_X6_draw qZ_X6 qC_X6_draw hd_X6_draw ⟨Nat.le_of_ble_eq_true rfl, Nat.le_of_ble_eq_true rfl⟩ (Nat.le_of_ble_eq_true rfl) rfl rfl dX6_found_14 (by show 4 * i ≤ 16; omega) (by show 40 * i ≤ 160; omega) (fun r0 E0 hq0 => ?_)
        obtain ⟨eE0, er0⟩ := hq0
        rw [eE0]
        refine V_iadd h 18 dX6_found_17 rfl ?_
        refine V_aload_n h 19 0 rfl dX6_found_18 rfl ?_
        refine V_sipush h 22 (v := 200) (by decide) dX6_found_19 rfl ?_
        refine SVI h hX 25 (As := [.int (nI 200)]) (c_draw (dr := dr + 4 * i + 1) (N := 200) hht hp1 upd2_eq (by omega) hLs (by decide) (by decide)) rfl hht qL_X6_110 qI_X6_draw qS_X6_draw qZ_X6 qC_X6_draw hd_X6_draw ⟨Nat.le_of_ble_eq_true rfl, Nat.le_of_ble_eq_true rfl⟩ (Nat.le_of_ble_eq_true rfl) rfl rfl dX6_found_22 (by show 4 * i ≤ 16; omega) (by show 40 * i ≤ 160; omega) (fun r1 E1 hq1 => ?_)
        obtain ⟨eE1, er1⟩ := hq1
        rw [eE1]
        refine V_aload_n h 26 0 rfl dX6_found_25 rfl ?_
        refine V_bipush h 28 (v := 40) (by decide) dX6_found_26 rfl ?_
        refine SVI h hX 31 (As := [.int (nI 40)]) (c_draw (dr := dr + 4 * i + 2) (N := 40) hht hp1 upd2_eq (by omega) hLs (by decide) (by decide)) rfl hht qL_X6_110 qI_X6_draw qS_X6_draw qZ_X6 qC_X6_draw hd_X6_draw ⟨Nat.le_of_ble_eq_true rfl, Nat.le_of_ble_eq_true rfl⟩ (Nat.le_of_ble_eq_true rfl) rfl rfl dX6_found_28 (by show 4 * i ≤ 16; omega) (by show 40 * i ≤ 160; omega) (fun r2 E2 hq2 => ?_)
        obtain ⟨eE2, er2⟩ := hq2
        rw [eE2]
        refine V_aload_n h 32 0 rfl dX6_found_31 rfl ?_
        refine V_iconst h 33 (v := 4) (by decide) dX6_found_32 rfl ?_
        refine SVI h hX 36 (As := [.int (nI 4)]) (c_draw (dr := dr + 4 * i + 3) (N := 4) hht hp1 upd2_eq (by omega) hLs (by decide) (by decide)) rfl hht qL_X6_110 qI_X6_draw qS_X6_draw qZ_X6 qC_X6_draw hd_X6_draw ⟨Nat.le_of_ble_eq_true rfl, Nat.le_of_ble_eq_true rfl⟩ (Nat.le_of_ble_eq_true rfl) rfl rfl dX6_found_33 (by show 4 * i ≤ 16; omega) (by show 40 * i ≤ 160; omega) (fun r3 E3 hq3 => ?_)
        obtain ⟨eE3, er3⟩ := hq3
        rw [eE3]
        obtain ⟨D2, eD2⟩ : ∃ zz, zz = upd2 (upd2 (upd2 (upd2 D1 t 2 (nI (dr + 4 * i + 0 + 1))) t 2 (nI (dr + 4 * i + 1 + 1))) t 2 (nI (dr + 4 * i + 2 + 1))) t 2 (nI (dr + 4 * i + 3 + 1)) := ⟨_, rfl⟩
        rw [← eD2]
        have h2 : ∀ a, a ≠ t → D2 a = D1 a := fun a ha => by rw [eD2, upd2_ra ha, upd2_ra ha, upd2_ra ha, upd2_ra ha]
        have hT2 : tI t bs (dr + 4 * i + 4) i rw n1 S1 P1 D2 := by
          rw [eD2]
          exact tI_draw (tI_draw (tI_draw (tI_draw hT1 (dr + 4 * i + 0 + 1)) (dr + 4 * i + 1 + 1)) (dr + 4 * i + 2 + 1)) (dr + 4 * i + 3 + 1)
        obtain ⟨W, hW, eW, hg⟩ := drw_ok (Ls := Ls) (xs := xs) (d := dr + 4 * i)
        have es2 : rsum (fun p => D2 (t + 2 + 6 + rhoN i p) 2) i = nI s := by
          rw [← es]; exact rsum_c2 (fun p hp => by show D2 _ 2 = D1 _ 2; rw [h2 _ (by omega)])
        have hI2 : cI (t + 2) i i (rhoN i) 0 0 D2 := cI_blk hG1.1 (fun a a1 a2 => h2 a (by omega))
        rw [er0, er1, er2, er3]
        refine S_callV h hX 39 (rm := { frames := 8, cells := 4, slots := 40, locals := 133 }) (As := [.int (100 + drwI Ls xs (dr + 4 * i) (nI 1000)), .int (drwI Ls xs (dr + 4 * i + 1) (nI 200)), .int (drwI Ls xs (dr + 4 * i + 2) (nI 40)), .int (drwI Ls xs (dr + 4 * i + 3) (nI 4))]) (m_towner hst hT2 (by omega) hI2 _ _ _ _ hg (room_w hs hi4 hW eW es2)) rfl hht qL_X6_113 qI_X6_owner qS_X6_owner qZ_X6 qC_X6_owner hd_X6_owner ⟨Nat.le_of_ble_eq_true rfl, Nat.le_of_ble_eq_true rfl⟩ (Nat.le_of_ble_eq_true rfl) rfl rfl dX6_found_36 ⟨by show 4 * i + 4 ≤ 16; omega, by show 40 * i + 40 ≤ 160; omega⟩ (fun v3 n3 S3 P3 D3 E3 hq3 => ?_)
        obtain ⟨ev, eE, ho⟩ := hq3
        rw [ev, eE]
        have hJ2 := fI_step hJ hi4 htn hT2 h2 ho
        refine V_if_ne h 44 42 dX6_found_39 (by decide) rfl (fun c39 => ?_) (fun c39 => absurd c39 (by decide))
        refine V_iinc h 47 [(2, .int (nI i + 1)), (0, .ref t), (1, .int 4)] 2 rfl (by rfl) (by decide) rfl dX6_found_44 rfl ?_
        refine V_goto h 2 dX6_found_47 (by decide) ?_
        refine V_lsub [(0, .ref t), (1, .int 4), (2, .int (nI i + 1))] [1, 2, 0] rfl ?_
        exact ih (i + 1) _ _ _ _ _ _ (by omega) (nI_1 i) hJ2 (by omega)
  refine V_lsub [(0, .ref t), (1, .int 4), (2, .int (nI 0))] [1, 2, 0] rfl ?_
  exact LP _ 0 _ rw n sh P D (by omega) rfl ⟨hT, hG, ⟨0, by omega, rfl⟩, fun a _ _ => rfl, Nat.le_refl _, fun _ _ => rfl, fun _ _ _ _ => rfl, fun _ _ => rfl, fun _ _ _ _ => rfl⟩ (Nat.lt_succ_self _)
