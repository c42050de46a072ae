/-! the law: what is told to both -/
section LWB
variable {Γ : mC} {κ : mKp} {Q : State → Prop} {kc ks n : Nat} {sh : mSh} {P : mPt} {D : mDt} {E : mEt} {bs Ls : Nat} {xs : Nat → Int32}
set_option maxRecDepth 100000 in
set_option maxHeartbeats 4000000 in
theorem law_B2 (h : mOk Γ κ RL cL_law 25 (Option.some Jvm.ClassFile.FieldType.boolean) { frames := 13, cells := 600104, slots := 7301313, locals := 486 }) (hX : mOkS Γ bs Ls xs) (hst : κ.1.stackTraces = false) (hLs : Ls < 2 ^ 31) {τ t u dr dru m dd c a b r d pm w : Nat} {y5 : Int32} (hp : prI t u bs dr dru m dd c n sh P D) (hc : c ≤ 500) (ha : a < 4) (hb : b < 4) (hab : a ≠ b) (h10 : 1 ≤ pm) (h11 : pm ≤ 200) (hw1 : 1 ≤ w) (hw2 : w ≤ 200) (hkc : kc + 18 ≤ 600104) (hks : ks + 108 ≤ 7301313) (kk : ∀ m' D', prI t u bs dr dru m' dd (c + 3) n sh P D' → D' (t + 2 + 1) = D (t + 2 + 1) → mV Γ Q (kc + 18) (ks + 108) n sh P D' E [(0, .ref bs), (1, .int (nI τ)), (2, .ref t), (3, .ref u), (4, .ref (t + 1)), (5, .int y5), (6, .int (nI a)), (7, .int (nI b)), (8, .int (nI r)), (9, .int (nI d)), (10, .int (nI pm)), (11, .int (nI w))] [] 228) : mV Γ Q kc ks n sh P D E [(0, .ref bs), (1, .int (nI τ)), (2, .ref t), (3, .ref u), (4, .ref (t + 1)), (5, .int y5), (6, .int (nI a)), (7, .int (nI b)), (8, .int (nI r)), (9, .int (nI d)), (10, .int (nI pm)), (11, .int (nI w))] [] 133 := by
  have ht := hp.2.1.2.1
  have hu := hp.2.2.1.2.1
  have hpt := hp.2.1.2.2.1
  have hpu := hp.2.2.1.2.2.1
  have hbt := hp.2.1.2.2.2.2.2.2.1.1
  have hbu := hp.2.2.1.2.2.2.2.2.2.1.1
  have htu := hp.1
  refine V_aload h 135 4 rfl dL_law_133 rfl ?_
  refine V_iload h 137 6 rfl dL_law_135 rfl ?_
  refine V_iload h 139 10 rfl dL_law_137 rfl ?_
  refine NVI h hX (kc + 2) (ks + 12) 142 (As := [.int (nI a), .int (nI pm)]) (o_poll hst hp.2.1.2.2.2.2.2 ha h10 h11) rfl hbt qL_L_26 qI_X5_pollinate qS_X5_pollinate qZ_X5 qC_X5_pollinate hd_X5_pollinate ⟨Nat.le_of_ble_eq_true rfl, Nat.le_of_ble_eq_true rfl⟩ (Nat.le_of_ble_eq_true rfl) rfl rfl dL_law_139 ⟨by show kc + 2 ≤ 600104; omega, by show ks + 12 ≤ 7301313; omega⟩ rfl rfl (fun X9 hk => hk) (fun r1 D1 hq1 => ?_)
  obtain ⟨hr1, hD1⟩ := hq1
  have f1 : ∀ x, (x < t + 2 ∨ t + 22 ≤ x) → D1 x = D x := fun x hx => by rw [hD1]; exact poll_out (by omega) (by omega)
  have hu1 := tdI_fr hp.2.2.1 (D' := D1) (fun x a1 a2 => f1 x (by omega))
  refine V_aload_n h 143 3 rfl dL_law_142 rfl ?_
  refine g_L_14 h 146 (b := u + 1) hu hpu dL_law_143 rfl ?_
  refine V_iload h 148 6 rfl dL_law_146 rfl ?_
  refine V_iload h 150 10 rfl dL_law_148 rfl ?_
  refine NVI h hX (kc + 4) (ks + 24) 153 (As := [.int (nI a), .int (nI pm)]) (o_poll hst hu1.2.2.2.2.2 ha h10 h11) rfl hbu qL_L_26 qI_X5_pollinate qS_X5_pollinate qZ_X5 qC_X5_pollinate hd_X5_pollinate ⟨Nat.le_of_ble_eq_true rfl, Nat.le_of_ble_eq_true rfl⟩ (Nat.le_of_ble_eq_true rfl) rfl rfl dL_law_150 ⟨by show kc + 4 ≤ 600104; omega, by show ks + 24 ≤ 7301313; omega⟩ rfl rfl (fun X9 hk => hk) (fun r2 D2 hq2 => ?_)
  obtain ⟨hr2, hD2⟩ := hq2
  obtain ⟨e1, hp1⟩ := pr_poll hp ha h10 h11
  rw [← hD1, ← hD2] at hp1
  rw [← hD1, ← hr2, ← hr1] at e1
  refine V_icmp_ne h 226 156 dL_law_153 (by decide) rfl (fun c153 => absurd e1.symm c153) (fun c153 => ?_)
  refine V_aload h 158 4 rfl dL_law_156 rfl ?_
  refine V_iload h 160 6 rfl dL_law_158 rfl ?_
  refine V_iload h 162 7 rfl dL_law_160 rfl ?_
  refine V_iload h 164 11 rfl dL_law_162 rfl ?_
  refine V_iconst h 165 (v := 0) (by decide) dL_law_164 rfl ?_
  refine NVI h hX (kc + 7) (ks + 42) 168 (As := [.int (nI a), .int (nI b), .int (nI w), .int 0]) (o_sell hst hp1.2.1.2.2.2.2.2 ha hb hab hw1 (show w ≤ 5040 by omega)) rfl hbt qL_L_32 qI_X5_sell qS_X5_sell qZ_X5 qC_X5_sell hd_X5_sell ⟨Nat.le_of_ble_eq_true rfl, Nat.le_of_ble_eq_true rfl⟩ (Nat.le_of_ble_eq_true rfl) rfl rfl dL_law_165 ⟨by show kc + 7 ≤ 600104; omega, by show ks + 42 ≤ 7301313; omega⟩ rfl rfl (fun X9 hk => hk) (fun r3 D3 hq3 => ?_)
  obtain ⟨hr3, hD3⟩ := hq3
  have f3 : ∀ x, (x < t + 2 ∨ t + 22 ≤ x) → D3 x = D2 x := fun x hx => by rw [hD3]; exact sell_out (by omega) (by omega) (by omega)
  have hu3 := tdI_fr hp1.2.2.1 (D' := D3) (fun x a1 a2 => f3 x (by omega))
  refine V_aload_n h 169 3 rfl dL_law_168 rfl ?_
  refine g_L_14 h 172 (b := u + 1) hu hpu dL_law_169 rfl ?_
  refine V_iload h 174 6 rfl dL_law_172 rfl ?_
  refine V_iload h 176 7 rfl dL_law_174 rfl ?_
  refine V_iload h 178 11 rfl dL_law_176 rfl ?_
  refine V_iconst h 179 (v := 0) (by decide) dL_law_178 rfl ?_
  refine NVI h hX (kc + 10) (ks + 60) 182 (As := [.int (nI a), .int (nI b), .int (nI w), .int 0]) (o_sell hst hu3.2.2.2.2.2 ha hb hab hw1 (show w ≤ 5040 by omega)) rfl hbu qL_L_32 qI_X5_sell qS_X5_sell qZ_X5 qC_X5_sell hd_X5_sell ⟨Nat.le_of_ble_eq_true rfl, Nat.le_of_ble_eq_true rfl⟩ (Nat.le_of_ble_eq_true rfl) rfl rfl dL_law_179 ⟨by show kc + 10 ≤ 600104; omega, by show ks + 60 ≤ 7301313; omega⟩ rfl rfl (fun X9 hk => hk) (fun r4 D4 hq4 => ?_)
  obtain ⟨hr4, hD4⟩ := hq4
  obtain ⟨e2, hp2⟩ := pr_sell hp1 (by omega) ha hb hab hw1 (show w ≤ 5040 by omega)
  rw [← hD3, ← hD4] at hp2
  rw [← hD3, ← hr4, ← hr3] at e2
  have z4 : D4 (t + 2 + 1) = D (t + 2 + 1) := by rw [hD4, sell_out (by omega) (by omega) (by omega), hD3, sell_out (by omega) (by omega) (by omega), hD2, poll_out (by omega) (by omega), hD1, poll_out (by omega) (by omega)]
  refine V_icmp_ne h 226 185 dL_law_182 (by decide) rfl (fun c182 => absurd e2.symm c182) (fun c182 => ?_)
  refine V_aload h 187 4 rfl dL_law_185 rfl ?_
  refine V_bipush h 189 (v := 10) (by decide) dL_law_187 rfl ?_
  refine CVI h 192 (As := [.int (nI 10)]) (n_many hp2.2.1.2.2.2.2.2.2.1 hp2.2.1.2.2.2.2.2.2.2.1.1 (w := 10) (by decide)) rfl hbt qL_L_36 qI_X5_many qS_X5_many qZ_X5 qC_X5_many hd_X5_many ⟨Nat.le_of_ble_eq_true rfl, Nat.le_of_ble_eq_true rfl⟩ (Nat.le_of_ble_eq_true rfl) rfl rfl dL_law_189 (by show kc + 10 ≤ 600104; omega) (by show ks + 60 ≤ 7301313; omega) (fun r5 D5 hq5 => ?_)
  obtain ⟨hD5, hr5⟩ := hq5
  have e5 : r5 = nI m := by rw [hr5]; exact hp2.2.1.2.2.2.2.2.2.2.1.1.1.2.2.1
  rw [hD5, e5]
  refine V_bipush h 194 (v := 8) (by decide) dL_law_192 rfl ?_
  refine V_icmp_ge h 228 197 dL_law_194 (by decide) rfl (fun c194 => ?_) (fun c194 => ?_)
  · exact V_widen _ _ (by omega) (by omega) (kk m D4 (pr_c hp2 (by omega)) z4)
  · have hm8 : m < 8 := mLtB (i := m) (m := 8) c194 (by have := hp2.2.1.2.2.2.2.2.2.2.1.1.1.2.2.2.1.1; omega)
    refine V_aload h 199 4 rfl dL_law_197 rfl ?_
    refine V_iload h 201 7 rfl dL_law_199 rfl ?_
    refine V_iload h 203 6 rfl dL_law_201 rfl ?_
    refine V_iload h 205 11 rfl dL_law_203 rfl ?_
    refine V_iconst h 206 (v := 2) (by decide) dL_law_205 rfl ?_
    refine NVI h hX (kc + 14) (ks + 84) 209 (As := [.int (nI b), .int (nI a), .int (nI w), .int 2]) (o_lend hst hp2.2.1.2.2.2.2.2 hb ha (Ne.symm hab) hw1 (show w ≤ 5040 by omega) hm8) rfl hbt qL_L_39 qI_X5_lend qS_X5_lend qZ_X5 qC_X5_lend hd_X5_lend ⟨Nat.le_of_ble_eq_true rfl, Nat.le_of_ble_eq_true rfl⟩ (Nat.le_of_ble_eq_true rfl) rfl rfl dL_law_206 ⟨by show kc + 14 ≤ 600104; omega, by show ks + 84 ≤ 7301313; omega⟩ rfl rfl (fun X9 hk => hk) (fun r6 D6 hq6 => ?_)
    have f6 : ∀ x, (x < t + 2 ∨ t + 22 ≤ x) → D6 x = D4 x := fun x hx => by
      rcases hq6 with ⟨-, -, z⟩ | ⟨-, -, z⟩
      · rw [z]; exact lendG_out (by omega)
      · rw [z]
    have hu6 := tdI_fr hp2.2.2.1 (D' := D6) (fun x a1 a2 => f6 x (by omega))
    have hl1 := hq6
    obtain ⟨rl1, erl1⟩ : ∃ z, z = r6 := ⟨_, rfl⟩
    rw [← erl1] at hl1
    rw [← erl1]
    refine V_aload_n h 210 3 rfl dL_law_209 rfl ?_
    refine g_L_14 h 213 (b := u + 1) hu hpu dL_law_210 rfl ?_
    refine V_iload h 215 7 rfl dL_law_213 rfl ?_
    refine V_iload h 217 6 rfl dL_law_215 rfl ?_
    refine V_iload h 219 11 rfl dL_law_217 rfl ?_
    refine V_iconst h 220 (v := 2) (by decide) dL_law_219 rfl ?_
    refine NVI h hX (kc + 18) (ks + 108) 223 (As := [.int (nI b), .int (nI a), .int (nI w), .int 2]) (o_lend hst hu6.2.2.2.2.2 hb ha (Ne.symm hab) hw1 (show w ≤ 5040 by omega) hm8) rfl hbu qL_L_39 qI_X5_lend qS_X5_lend qZ_X5 qC_X5_lend hd_X5_lend ⟨Nat.le_of_ble_eq_true rfl, Nat.le_of_ble_eq_true rfl⟩ (Nat.le_of_ble_eq_true rfl) rfl rfl dL_law_220 ⟨by show kc + 18 ≤ 600104; omega, by show ks + 108 ≤ 7301313; omega⟩ rfl rfl (fun X9 hk => hk) (fun r7 D7 hq7 => ?_)
    have hl2 := hq7
    have hcc := lendC_ev (pr_ev1 hp2 f6) (show b < 10 by omega) (nI w)
    rcases hl1 with ⟨k1, k2, k3⟩ | ⟨k1, k2, k3⟩
    · rcases hl2 with ⟨z1, z2, z3⟩ | ⟨z1, -, -⟩
      · refine V_icmp_eq h 228 226 dL_law_223 (by decide) rfl (fun _ => ?_) (fun z => absurd (k2.trans z2.symm) z)
        have hp3 := pr_lend hp2 hb ha hw1 (show w ≤ 5040 by omega) hm8
        rw [← k3, ← z3] at hp3
        exact V_widen _ _ (by omega) (by omega) (kk (m + 1) _ hp3 (by rw [z3, lendG_out (by omega), k3, lendG_out (by omega), z4]))
      · exact absurd (hcc.mpr k1) z1
    · rcases hl2 with ⟨z1, -, -⟩ | ⟨z1, z2, z3⟩
      · exact absurd (hcc.mp z1) k1
      · refine V_icmp_eq h 228 226 dL_law_223 (by decide) rfl (fun _ => ?_) (fun z => absurd (k2.trans z2.symm) z)
        rw [z3, k3]
        exact V_widen _ _ (by omega) (by omega) (kk m _ (pr_c hp2 (by omega)) z4)
end LWB
