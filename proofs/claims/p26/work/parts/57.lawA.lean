/-! the law: two are made, and told alike -/
theorem lg_cmp_0 {x : Int64} : lg_cmp x x = 0 := by simp [lg_cmp]
section LW0
variable {Γ : mC} {κ : mKp} {Q : State → Prop} {kc ks n : Nat} {sh : mSh} {P : mPt} {D : mDt} {E : mEt} {lv : List (Nat × Value)} {st : List Value} {pc : Nat} {own : String} {cc : ByteArray} {nL : Nat} {ret : Option FieldType} {R : Room}
theorem V_lload (h : mOk Γ κ own cc nL ret R) (pc' : Nat) {i : Nat} {x : Int64} (k0 : Nat) (hk : lv[k0]? = some (i, .long x)) (d : decode cc pc = .ok (.lload i, 2)) (hp : pc + 2 = pc') (k : mV Γ Q kc ks n sh P D E lv (.long x :: st) pc') : mV Γ Q kc ks n sh P D E lv (st) pc := by
  obtain ⟨⟨p, l, e, R0, s, m, args, below, meth, c⟩, G, Y, base⟩ := Γ
  obtain ⟨hx, hb, hml, hown, hts, hK, hlk, hrt, hR, hbs, -⟩ := h
  subst hp
  intro H locs ls hR1 hS hl
  exact lv_lload hx hb d (lv_at hl k0 hk) (k H locs ls hR1 hS hl)
theorem V_lstore (h : mOk Γ κ own cc nL ret R) (pc' : Nat) (lv' : List (Nat × Value)) {i : Nat} {x : Int64} (hi : i + 1 < nL) (he : (i, Value.long x) :: lv.filter (fun q => !(q.1 == i) && (!(q.1 == i + 1) && !(q.1 + 1 == i && q.2.category == 2))) = lv') (d : decode cc pc = .ok (.lstore i, 2)) (hp : pc + 2 = pc') (k : mV Γ Q kc ks n sh P D E lv' st pc') : mV Γ Q kc ks n sh P D E lv (.long x :: st) pc := by
  obtain ⟨⟨p, l, e, R0, s, m, args, below, meth, c⟩, G, Y, base⟩ := Γ
  obtain ⟨hx, hb, hml, hown, hts, hK, hlk, hrt, hR, hbs, -⟩ := h
  subst hp
  intro H locs ls hR1 hS hl
  exact lv_lstore hx hb d hl (by rw [hml]; exact hi) he (fun ls hl => k H locs ls hR1 hS hl)
end LW0
theorem tdI_mv {t bs dr m dd c n n' : Nat} {sh sh' : mSh} {P P' : mPt} {D D' : mDt} (h : tdI t bs dr m dd c n sh P D) (hn : n ≤ n') (h1 : ∀ a, t ≤ a → a < t + 62 → sh' a = sh a) (h2 : ∀ a, t ≤ a → a < t + 62 → P' a = P a) (h3 : ∀ a, t ≤ a → a < t + 62 → D' a = D a) : tdI t bs dr m dd c n' sh' P' D' := by
  obtain ⟨a1, a2, a3, a4, a5, b1, b2, b3, b4, b5⟩ := h
  exact ⟨by omega, by rw [h1 t (by omega) (by omega)]; exact a2, by rw [h2 t (by omega) (by omega)]; exact a3, by rw [h2 t (by omega) (by omega)]; exact a4, by rw [h3 t (by omega) (by omega)]; exact a5, by omega, bLay_mv b2 (by omega) (fun a _ _ => h1 a (by omega) (by omega)) (fun a _ _ => h2 a (by omega) (by omega)), gI_blk b3 (fun a _ _ => h3 a (by omega) (by omega)), fun i hi => by rw [h3 _ (by omega) (by omega)]; exact b4 i hi, fun i hi => by rw [h3 _ (by omega) (by omega)]; exact b5 i hi⟩
theorem tell_c3 {t Ls dr : Nat} {xs : Nat → Int32} {D : mDt} (h : isTell t Ls xs dr D) : D (t + 2 + 1) 3 = 0 := by
  obtain ⟨-, F, f1, f2⟩ := h
  rw [f2 _ (by omega) (by omega), tell_ch 4 (by omega), f1.2.1]
  rfl
section LWA
variable {Γ : mC} {κ : mKp} {Q : State → Prop} {kc ks n : Nat} {sh : mSh} {P : mPt} {D : mDt} {E : mEt} {bs Ls : Nat} {xs : Nat → Int32}
set_option maxRecDepth 100000 in
set_option maxHeartbeats 4000000 in
theorem law_A (h : mOk Γ κ RL cL_law 25 (Option.some Jvm.ClassFile.FieldType.boolean) { frames := 13, cells := 600104, slots := 7301313, locals := 486 }) (hX : mOkS Γ bs Ls xs) (hst : κ.1.stackTraces = false) (hLs : Ls < 2 ^ 31) {τ : Nat} (hτ : τ < 1000) (hkc : kc + 1000 ≤ 600104) (hks : ks + 60000 ≤ 7301313) (kk : ∀ u n' sh' P' D' E', prI n u bs (31 * τ + 7 + 16) (31 * τ + 7 + 16) 0 0 4 n' sh' P' D' → D' (n + 2 + 1) 3 = 0 → mV Γ Q (kc + 188) (ks + 22520) n' sh' P' D' E' [(0, .ref bs), (1, .int (nI τ)), (2, .ref n), (3, .ref u), (4, .ref (n + 1))] [] 63) : mV Γ Q kc ks n sh P D E [(0, .ref bs), (1, .int (nI τ))] [] 7 := by
  refine V_new (ci := 6) (C := RX6) (T := TX6) h 10 (n + 1) (kc + 1) (ks + 18) tyX6 tyX6_ok (by decide) qU_X6 rfl qK_L_9 qN_X6 qZ_X6 (by show kc + 1 ≤ 600104; omega) (by show ks + 18 ≤ 7301313; omega) dL_law_7 rfl rfl rfl rfl ?_
  obtain ⟨S1, eS1⟩ : ∃ zz, zz = updS sh n (.inl 6) := ⟨_, rfl⟩
  rw [← eS1]
  obtain ⟨P1, eP1⟩ : ∃ zz, zz = clrP P n := ⟨_, rfl⟩
  rw [← eP1]
  obtain ⟨D1, eD1⟩ : ∃ zz, zz = clrD D n := ⟨_, rfl⟩
  rw [← eD1]
  have ft1 : S1 n = some (.inl 6) := by rw [eS1]; exact updS_eq
  have fd1 : ∀ j, D1 n j = 0 := fun j => by rw [eD1, clrD_eq]
  refine V_dup h 11 rfl dL_law_10 rfl ?_
  refine V_aload_n h 12 0 rfl dL_law_11 rfl ?_
  refine V_bipush h 14 (v := 31) (by decide) dL_law_12 rfl ?_
  refine V_iload_n h 15 1 rfl dL_law_14 rfl ?_
  refine V_imul h 16 dL_law_15 rfl ?_
  refine V_bipush h 18 (v := 7) (by decide) dL_law_16 rfl ?_
  refine V_iadd h 19 dL_law_18 rfl ?_
  refine V_top (y := nI (31 * τ + 7)) (by rw [show (31 : Int32) = nI 31 from rfl, show (7 : Int32) = nI 7 from rfl, nI_mul, nI_add]) ?_
  refine V_callI h 22 (ret2 := none) (rm := { frames := 5, cells := 77, slots := 11082, locals := 102 }) (As := [.ref bs, .int (nI (31 * τ + 7))]) (m_toldInit (bs := bs) (dr := 31 * τ + 7) ft1 fd1) rfl qL_L_11 qI_X6_init qZ_X6 qC_X6_init hd_X6_init ⟨Nat.le_of_ble_eq_true rfl, Nat.le_of_ble_eq_true rfl⟩ (Nat.le_of_ble_eq_true rfl) rfl rfl dL_law_19 ⟨by show kc + 78 ≤ 600104; omega, by show ks + 11100 ≤ 7301313; omega⟩ (fun v2 n2 S2 P2 D2 E2 hq2 => ?_)
  obtain ⟨ev2, eE2, hK2⟩ := hq2
  have en2 : n2 = n + 78 := hK2.1
  rw [ev2, eE2]
  obtain ⟨hTa, hGa⟩ := told_tI hK2
  refine V_astore_n h 23 [(2, .ref n), (0, .ref bs), (1, .int (nI τ))] (by decide) rfl dL_law_22 rfl ?_
  refine V_new (ci := 6) (C := RX6) (T := TX6) h 26 (n2 + 1) (kc + 79) (ks + 11118) tyX6 tyX6_ok (by decide) qU_X6 rfl qK_L_9 qN_X6 qZ_X6 (by show kc + 79 ≤ 600104; omega) (by show ks + 11118 ≤ 7301313; omega) dL_law_23 rfl rfl rfl rfl ?_
  obtain ⟨S3, eS3⟩ : ∃ zz, zz = updS S2 n2 (.inl 6) := ⟨_, rfl⟩
  rw [← eS3]
  obtain ⟨P3, eP3⟩ : ∃ zz, zz = clrP P2 n2 := ⟨_, rfl⟩
  rw [← eP3]
  obtain ⟨D3, eD3⟩ : ∃ zz, zz = clrD D2 n2 := ⟨_, rfl⟩
  rw [← eD3]
  have ft3 : S3 n2 = some (.inl 6) := by rw [eS3]; exact updS_eq
  have fd3 : ∀ j, D3 n2 j = 0 := fun j => by rw [eD3, clrD_eq]
  refine V_dup h 27 rfl dL_law_26 rfl ?_
  refine V_aload_n h 28 1 rfl dL_law_27 rfl ?_
  refine V_bipush h 30 (v := 31) (by decide) dL_law_28 rfl ?_
  refine V_iload_n h 31 2 rfl dL_law_30 rfl ?_
  refine V_imul h 32 dL_law_31 rfl ?_
  refine V_bipush h 34 (v := 7) (by decide) dL_law_32 rfl ?_
  refine V_iadd h 35 dL_law_34 rfl ?_
  refine V_top (y := nI (31 * τ + 7)) (by rw [show (31 : Int32) = nI 31 from rfl, show (7 : Int32) = nI 7 from rfl, nI_mul, nI_add]) ?_
  refine V_callI h 38 (ret2 := none) (rm := { frames := 5, cells := 77, slots := 11082, locals := 102 }) (As := [.ref bs, .int (nI (31 * τ + 7))]) (m_toldInit (bs := bs) (dr := 31 * τ + 7) ft3 fd3) rfl qL_L_11 qI_X6_init qZ_X6 qC_X6_init hd_X6_init ⟨Nat.le_of_ble_eq_true rfl, Nat.le_of_ble_eq_true rfl⟩ (Nat.le_of_ble_eq_true rfl) rfl rfl dL_law_35 ⟨by show kc + 156 ≤ 600104; omega, by show ks + 22200 ≤ 7301313; omega⟩ (fun v4 n4 S4 P4 D4 E4 hq4 => ?_)
  obtain ⟨ev4, eE4, hK4⟩ := hq4
  have en4 : n4 = n2 + 78 := hK4.1
  rw [ev4, eE4]
  obtain ⟨hTb, hGb⟩ := told_tI hK4
  have fS : ∀ a, a < n2 → S4 a = S2 a := fun a ha => by rw [hK4.2.2.2.2.2.1 a ha, eS3, updS_ne (by omega)]
  have fP : ∀ a, a < n2 → P4 a = P2 a := fun a ha => by rw [hK4.2.2.2.2.2.2.1 a ha, eP3, clrP_ne (by omega)]
  have fD : ∀ a, a < n2 → D4 a = D2 a := fun a ha => by rw [hK4.2.2.2.2.2.2.2 a ha, eD3, clrD_ne (by omega)]
  have hTa2 := tI_mv (n' := n4) (sh' := S4) (P' := P4) (D' := D4) hTa (by omega) (fun a _ ha => fS a ha) (fun a _ ha => fP a ha) (fD _ (by omega))
  have hfa1 := freshD_of (D' := D4) hK2.2.2.1.1 (fun a a1 a2 => fD a (by omega))
  have hfa2 := freshD_of (D' := D4) hK2.2.2.1.2.1 (fun a a1 a2 => fD a (by omega))
  have hfa3 := freshD_of (D' := D4) hK2.2.2.1.2.2 (fun a a1 a2 => fD a (by omega))
  have hGa2 := gI_0 hfa1
  have hta := hTa2.2.2.2.2.1
  have hpa := hTa2.2.2.2.2.2.1
  have htb := hTb.2.2.2.2.1
  refine V_astore_n h 39 [(3, .ref n2), (2, .ref n), (0, .ref bs), (1, .int (nI τ))] (by decide) rfl dL_law_38 rfl ?_
  refine V_aload_n h 40 1 rfl dL_law_39 rfl ?_
  refine g_L_14 h 43 (b := n + 1) hta hpa dL_law_40 rfl ?_
  refine V_astore h 45 [(4, .ref (n + 1)), (3, .ref n2), (2, .ref n), (0, .ref bs), (1, .int (nI τ))] (by decide) rfl dL_law_43 rfl ?_
  refine V_aload_n h 46 2 rfl dL_law_45 rfl ?_
  refine V_iconst h 47 (v := 4) (by decide) dL_law_46 rfl ?_
  refine S_callV h hX 50 (rm := { frames := 9, cells := 16, slots := 160, locals := 160 }) (As := [.int 4]) (m_found hst hLs (by omega) hTa2 hGa2) rfl hta qL_L_18 qI_X6_found qS_X6_found qZ_X6 qC_X6_found hd_X6_found ⟨Nat.le_of_ble_eq_true rfl, Nat.le_of_ble_eq_true rfl⟩ (Nat.le_of_ble_eq_true rfl) rfl rfl dL_law_47 ⟨by show kc + 172 ≤ 600104; omega, by show ks + 22360 ≤ 7301313; omega⟩ (fun v5 n5 S5 P5 D5 E5 hq5 => ?_)
  obtain ⟨ev5, eE5, rwa, hFa⟩ := hq5
  rw [ev5, eE5]
  obtain ⟨hda, hBa⟩ := found_td (by omega) hFa hfa1 hfa2 hfa3
  obtain ⟨-, -, -, -, gn, g1, g2, g3, g4⟩ := hFa
  have hTb2 := tI_mv (n' := n5) (sh' := S5) (P' := P5) (D' := D5) hTb gn (fun a _ ha => g1 a ha) (fun a a1 ha => g2 a ha (by omega) (by omega)) (g4 _ (by omega) (by omega) (by omega))
  have hfb1 := freshD_of (D' := D5) hK4.2.2.1.1 (fun a a1 a2 => g4 a (by omega) (by omega) (by omega))
  have hfb2 := freshD_of (D' := D5) hK4.2.2.1.2.1 (fun a a1 a2 => g4 a (by omega) (by omega) (by omega))
  have hfb3 := freshD_of (D' := D5) hK4.2.2.1.2.2 (fun a a1 a2 => g4 a (by omega) (by omega) (by omega))
  have hGb2 := gI_0 hfb1
  have hta := hda.2.1
  have htb := hTb2.2.2.2.2.1
  refine V_if_eq h 61 53 dL_law_50 (by decide) rfl (fun c50 => absurd c50 (by decide)) (fun c50 => ?_)
  refine V_aload_n h 54 1 rfl dL_law_53 rfl ?_
  refine V_iconst h 55 (v := 4) (by decide) dL_law_54 rfl ?_
  refine S_callV h hX 58 (rm := { frames := 9, cells := 16, slots := 160, locals := 160 }) (As := [.int 4]) (m_found hst hLs (by omega) hTb2 hGb2) rfl htb qL_L_18 qI_X6_found qS_X6_found qZ_X6 qC_X6_found hd_X6_found ⟨Nat.le_of_ble_eq_true rfl, Nat.le_of_ble_eq_true rfl⟩ (Nat.le_of_ble_eq_true rfl) rfl rfl dL_law_55 ⟨by show kc + 188 ≤ 600104; omega, by show ks + 22520 ≤ 7301313; omega⟩ (fun v6 n6 S6 P6 D6 E6 hq6 => ?_)
  obtain ⟨ev6, eE6, rwb, hFb⟩ := hq6
  rw [ev6, eE6]
  obtain ⟨hdb, hBb⟩ := found_td (by omega) hFb hfb1 hfb2 hfb3
  obtain ⟨-, -, -, -, pn, p1, p2, p3, p4⟩ := hFb
  have hda2 := tdI_mv (n' := n6) (sh' := S6) (P' := P6) (D' := D6) hda pn (fun a a1 a2 => p1 a (by omega)) (fun a a1 a2 => p2 a (by omega) (by omega) (by omega)) (fun a a1 a2 => p4 a (by omega) (by omega) (by omega))
  have hBa2 := tell_blk (V := D6) hBa (fun a a1 a2 => p4 a (by omega) (by omega) (by omega))
  have hpr : prI n n2 bs (31 * τ + 7 + 16) (31 * τ + 7 + 16) 0 0 4 n6 S6 P6 D6 := ⟨by omega, hda2, hdb, tell_pair hBa2 hBb⟩
  refine V_if_ne h 63 61 dL_law_58 (by decide) rfl (fun c58 => ?_) (fun c58 => absurd c58 (by decide))
  refine V_lsub [(0, .ref bs), (1, .int (nI τ)), (2, .ref n), (3, .ref n2), (4, .ref (n + 1))] [3, 4, 2, 1, 0] rfl ?_
  exact kk _ _ _ _ _ _ hpr (tell_c3 hBa2)
set_option maxRecDepth 100000 in
set_option maxHeartbeats 4000000 in
theorem law_B1 (h : mOk Γ κ RL cL_law 25 (Option.some Jvm.ClassFile.FieldType.boolean) { frames := 13, cells := 600104, slots := 7301313, locals := 486 }) (hX : mOkS Γ bs Ls xs) (hst : κ.1.stackTraces = false) (hLs : Ls < 2 ^ 31) {τ t u dr dru m dd c : Nat} {y5 : Int32} (hdr : dr < 1000000) (hp : prI t u bs dr dru m dd c n sh P D) (hkc : kc ≤ 600104) (hks : ks ≤ 7301313) (kk : ∀ a b r d pm w D', a < 4 → b < 4 → a ≠ b → r < 60 → 1 ≤ d → d ≤ 9 → 1 ≤ pm → pm ≤ 20 → 1 ≤ w → w ≤ 200 → prI t u bs (dr + 6) dru m dd c n sh P D' → D' (t + 2 + 1) = D (t + 2 + 1) → mV Γ Q kc ks n sh P D' E [(0, .ref bs), (1, .int (nI τ)), (2, .ref t), (3, .ref u), (4, .ref (t + 1)), (5, .int y5), (6, .int (nI a)), (7, .int (nI b)), (8, .int (nI r)), (9, .int (nI d)), (10, .int (nI pm)), (11, .int (nI w))] [] 133) : mV Γ Q kc ks n sh P D E [(0, .ref bs), (1, .int (nI τ)), (2, .ref t), (3, .ref u), (4, .ref (t + 1)), (5, .int y5)] [] 73 := by
  have ht := hp.2.1.2.1
  refine V_aload_n h 74 2 rfl dL_law_73 rfl ?_
  refine V_iconst h 75 (v := 4) (by decide) dL_law_74 rfl ?_
  refine SVI h hX 78 (As := [.int (nI 4)]) (c_draw (dr := dr) (N := 4) ht hp.2.1.2.2.2.1 hp.2.1.2.2.2.2.1 (by omega) hLs (by decide) (by decide)) rfl ht qL_L_22 qI_X6_draw qS_X6_draw qZ_X6 qC_X6_draw hd_X6_draw ⟨Nat.le_of_ble_eq_true rfl, Nat.le_of_ble_eq_true rfl⟩ (Nat.le_of_ble_eq_true rfl) rfl rfl dL_law_75 (by show kc ≤ 600104; omega) (by show ks ≤ 7301313; omega) (fun r1 D1 hq1 => ?_)
  obtain ⟨eD1, er1⟩ := hq1
  obtain ⟨a, ha, ea⟩ := drwI_lt (Ls := Ls) (xs := xs) (dr := dr) (N := 4) (by decide) (by decide)
  have hp1 := pr_draw hp (dr + 1)
  rw [← eD1] at hp1
  rw [er1, ea]
  have ht := hp1.2.1.2.1
  refine V_istore h 80 [(6, .int (nI a)), (0, .ref bs), (1, .int (nI τ)), (2, .ref t), (3, .ref u), (4, .ref (t + 1)), (5, .int y5)] (by decide) rfl dL_law_78 rfl ?_
  refine V_iload h 82 0 rfl dL_law_80 rfl ?_
  refine V_iconst h 83 (v := 1) (by decide) dL_law_82 rfl ?_
  refine V_iadd h 84 dL_law_83 rfl ?_
  refine V_aload_n h 85 3 rfl dL_law_84 rfl ?_
  refine V_iconst h 86 (v := 3) (by decide) dL_law_85 rfl ?_
  refine SVI h hX 89 (As := [.int (nI 3)]) (c_draw (dr := dr + 1) (N := 3) ht hp1.2.1.2.2.2.1 hp1.2.1.2.2.2.2.1 (by omega) hLs (by decide) (by decide)) rfl ht qL_L_22 qI_X6_draw qS_X6_draw qZ_X6 qC_X6_draw hd_X6_draw ⟨Nat.le_of_ble_eq_true rfl, Nat.le_of_ble_eq_true rfl⟩ (Nat.le_of_ble_eq_true rfl) rfl rfl dL_law_86 (by show kc ≤ 600104; omega) (by show ks ≤ 7301313; omega) (fun r2 D2 hq2 => ?_)
  obtain ⟨eD2, er2⟩ := hq2
  obtain ⟨e, he, ee⟩ := drwI_lt (Ls := Ls) (xs := xs) (dr := dr + 1) (N := 3) (by decide) (by decide)
  have hp2 := pr_draw hp1 (dr + 1 + 1)
  rw [← eD2] at hp2
  rw [er2, ee]
  have ht := hp2.2.1.2.1
  refine V_iadd h 90 dL_law_89 rfl ?_
  refine V_iconst h 91 (v := 4) (by decide) dL_law_90 rfl ?_
  refine V_irem h 92 (by decide) dL_law_91 rfl ?_
  refine V_top (y := nI ((a + 1 + e) % 4)) (by rw [nI_1, nI_add]; exact rm_nI (b := 4) (by omega) (by decide)) ?_
  refine V_istore h 94 [(7, .int (nI ((a + 1 + e) % 4))), (6, .int (nI a)), (0, .ref bs), (1, .int (nI τ)), (2, .ref t), (3, .ref u), (4, .ref (t + 1)), (5, .int y5)] (by decide) rfl dL_law_92 rfl ?_
  refine V_aload_n h 95 4 rfl dL_law_94 rfl ?_
  refine V_bipush h 97 (v := 60) (by decide) dL_law_95 rfl ?_
  refine SVI h hX 100 (As := [.int (nI 60)]) (c_draw (dr := dr + 2) (N := 60) ht hp2.2.1.2.2.2.1 hp2.2.1.2.2.2.2.1 (by omega) hLs (by decide) (by decide)) rfl ht qL_L_22 qI_X6_draw qS_X6_draw qZ_X6 qC_X6_draw hd_X6_draw ⟨Nat.le_of_ble_eq_true rfl, Nat.le_of_ble_eq_true rfl⟩ (Nat.le_of_ble_eq_true rfl) rfl rfl dL_law_97 (by show kc ≤ 600104; omega) (by show ks ≤ 7301313; omega) (fun r3 D3 hq3 => ?_)
  obtain ⟨eD3, er3⟩ := hq3
  obtain ⟨r, hr, er⟩ := drwI_lt (Ls := Ls) (xs := xs) (dr := dr + 2) (N := 60) (by decide) (by decide)
  have hp3 := pr_draw hp2 (dr + 2 + 1)
  rw [← eD3] at hp3
  rw [er3, er]
  have ht := hp3.2.1.2.1
  refine V_istore h 102 [(8, .int (nI r)), (7, .int (nI ((a + 1 + e) % 4))), (6, .int (nI a)), (0, .ref bs), (1, .int (nI τ)), (2, .ref t), (3, .ref u), (4, .ref (t + 1)), (5, .int y5)] (by decide) rfl dL_law_100 rfl ?_
  refine V_iconst h 103 (v := 1) (by decide) dL_law_102 rfl ?_
  refine V_aload_n h 104 5 rfl dL_law_103 rfl ?_
  refine V_bipush h 106 (v := 9) (by decide) dL_law_104 rfl ?_
  refine SVI h hX 109 (As := [.int (nI 9)]) (c_draw (dr := dr + 3) (N := 9) ht hp3.2.1.2.2.2.1 hp3.2.1.2.2.2.2.1 (by omega) hLs (by decide) (by decide)) rfl ht qL_L_22 qI_X6_draw qS_X6_draw qZ_X6 qC_X6_draw hd_X6_draw ⟨Nat.le_of_ble_eq_true rfl, Nat.le_of_ble_eq_true rfl⟩ (Nat.le_of_ble_eq_true rfl) rfl rfl dL_law_106 (by show kc ≤ 600104; omega) (by show ks ≤ 7301313; omega) (fun r4 D4 hq4 => ?_)
  obtain ⟨eD4, er4⟩ := hq4
  obtain ⟨d0, hd0, ed0⟩ := drwI_lt (Ls := Ls) (xs := xs) (dr := dr + 3) (N := 9) (by decide) (by decide)
  have hp4 := pr_draw hp3 (dr + 3 + 1)
  rw [← eD4] at hp4
  rw [er4, ed0]
  have ht := hp4.2.1.2.1
  refine V_iadd h 110 dL_law_109 rfl ?_
  refine V_top (y := nI (d0 + 1)) (by rw [show (1 : Int32) = nI 1 from rfl, nI_add, Nat.add_comm]) ?_
  refine V_istore h 112 [(9, .int (nI (d0 + 1))), (8, .int (nI r)), (7, .int (nI ((a + 1 + e) % 4))), (6, .int (nI a)), (0, .ref bs), (1, .int (nI τ)), (2, .ref t), (3, .ref u), (4, .ref (t + 1)), (5, .int y5)] (by decide) rfl dL_law_110 rfl ?_
  refine V_iconst h 113 (v := 1) (by decide) dL_law_112 rfl ?_
  refine V_aload_n h 114 6 rfl dL_law_113 rfl ?_
  refine V_bipush h 116 (v := 20) (by decide) dL_law_114 rfl ?_
  refine SVI h hX 119 (As := [.int (nI 20)]) (c_draw (dr := dr + 4) (N := 20) ht hp4.2.1.2.2.2.1 hp4.2.1.2.2.2.2.1 (by omega) hLs (by decide) (by decide)) rfl ht qL_L_22 qI_X6_draw qS_X6_draw qZ_X6 qC_X6_draw hd_X6_draw ⟨Nat.le_of_ble_eq_true rfl, Nat.le_of_ble_eq_true rfl⟩ (Nat.le_of_ble_eq_true rfl) rfl rfl dL_law_116 (by show kc ≤ 600104; omega) (by show ks ≤ 7301313; omega) (fun r5 D5 hq5 => ?_)
  obtain ⟨eD5, er5⟩ := hq5
  obtain ⟨p0, hp0, ep0⟩ := drwI_lt (Ls := Ls) (xs := xs) (dr := dr + 4) (N := 20) (by decide) (by decide)
  have hp5 := pr_draw hp4 (dr + 4 + 1)
  rw [← eD5] at hp5
  rw [er5, ep0]
  have ht := hp5.2.1.2.1
  refine V_iadd h 120 dL_law_119 rfl ?_
  refine V_top (y := nI (p0 + 1)) (by rw [show (1 : Int32) = nI 1 from rfl, nI_add, Nat.add_comm]) ?_
  refine V_istore h 122 [(10, .int (nI (p0 + 1))), (9, .int (nI (d0 + 1))), (8, .int (nI r)), (7, .int (nI ((a + 1 + e) % 4))), (6, .int (nI a)), (0, .ref bs), (1, .int (nI τ)), (2, .ref t), (3, .ref u), (4, .ref (t + 1)), (5, .int y5)] (by decide) rfl dL_law_120 rfl ?_
  refine V_iconst h 123 (v := 1) (by decide) dL_law_122 rfl ?_
  refine V_aload_n h 124 7 rfl dL_law_123 rfl ?_
  refine V_sipush h 127 (v := 200) (by decide) dL_law_124 rfl ?_
  refine SVI h hX 130 (As := [.int (nI 200)]) (c_draw (dr := dr + 5) (N := 200) ht hp5.2.1.2.2.2.1 hp5.2.1.2.2.2.2.1 (by omega) hLs (by decide) (by decide)) rfl ht qL_L_22 qI_X6_draw qS_X6_draw qZ_X6 qC_X6_draw hd_X6_draw ⟨Nat.le_of_ble_eq_true rfl, Nat.le_of_ble_eq_true rfl⟩ (Nat.le_of_ble_eq_true rfl) rfl rfl dL_law_127 (by show kc ≤ 600104; omega) (by show ks ≤ 7301313; omega) (fun r6 D6 hq6 => ?_)
  obtain ⟨eD6, er6⟩ := hq6
  obtain ⟨w0, hw0, ew0⟩ := drwI_lt (Ls := Ls) (xs := xs) (dr := dr + 5) (N := 200) (by decide) (by decide)
  have hp6 := pr_draw hp5 (dr + 5 + 1)
  rw [← eD6] at hp6
  rw [er6, ew0]
  have ht := hp6.2.1.2.1
  refine V_iadd h 131 dL_law_130 rfl ?_
  refine V_top (y := nI (w0 + 1)) (by rw [show (1 : Int32) = nI 1 from rfl, nI_add, Nat.add_comm]) ?_
  refine V_istore h 133 [(11, .int (nI (w0 + 1))), (10, .int (nI (p0 + 1))), (9, .int (nI (d0 + 1))), (8, .int (nI r)), (7, .int (nI ((a + 1 + e) % 4))), (6, .int (nI a)), (0, .ref bs), (1, .int (nI τ)), (2, .ref t), (3, .ref u), (4, .ref (t + 1)), (5, .int y5)] (by decide) rfl dL_law_131 rfl ?_
  refine V_lsub [(0, .ref bs), (1, .int (nI τ)), (2, .ref t), (3, .ref u), (4, .ref (t + 1)), (5, .int y5), (6, .int (nI a)), (7, .int (nI ((a + 1 + e) % 4))), (8, .int (nI r)), (9, .int (nI (d0 + 1))), (10, .int (nI (p0 + 1))), (11, .int (nI (w0 + 1)))] [6, 7, 8, 9, 10, 11, 5, 4, 3, 2, 1, 0] rfl ?_
  exact kk a ((a + 1 + e) % 4) r (d0 + 1) (p0 + 1) (w0 + 1) _ ha (by omega) (by omega) hr (by omega) (by omega) (by omega) (by omega) (by omega) (by omega) hp6 (by rw [eD6, upd2_ra (by omega), eD5, upd2_ra (by omega), eD4, upd2_ra (by omega), eD3, upd2_ra (by omega), eD2, upd2_ra (by omega), eD1, upd2_ra (by omega)])
end LWA
