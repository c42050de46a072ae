theorem rSim_q {o L e : Nat} {ρ : Nat → Nat} {m k : Nat} {V : mDt} {r : Nat} {lo : Nat → Nat} {t1 t2 t3 : Int32} {D D' : mDt} (h : rSim o L e ρ m k V r lo t1 t2 t3 D) (hm : m ≤ 8) (hk : k ≤ 8) (hlo : ∀ i, i < 8 → lo i < 8) {q : Nat} (hqr : q < r) (hD : ∀ a, a ≠ q → D' a = D a) : rSim o L e ρ m k V r lo t1 t2 t3 D' := rSim_fr h hm hk hlo (fun a h1 h2 => hD a (by omega))
/-- how a call of the reference ends: refused by the first, the second, the third rule, or done -/
def rOut (c2 c3 : Int32) (G1 G2 G3 : Prop) (th : Int32) (OK SAME : Prop) : Prop := (¬ G1 ∧ th = 1 ∧ SAME) ∨ (G1 ∧ ¬ G2 ∧ th = c2 ∧ SAME) ∨ (G1 ∧ G2 ∧ ¬ G3 ∧ th = c3 ∧ SAME) ∨ (G1 ∧ G2 ∧ G3 ∧ th = 0 ∧ OK)
theorem rO1 {c2 c3 : Int32} {G1 G2 G3 : Prop} {th : Int32} {OK SAME : Prop} (a : ¬ G1) (b : th = 1) (c : SAME) : rOut c2 c3 G1 G2 G3 th OK SAME := Or.inl ⟨a, b, c⟩
theorem rO2 {c2 c3 : Int32} {G1 G2 G3 : Prop} {th : Int32} {OK SAME : Prop} (g1 : G1) (a : ¬ G2) (b : th = c2) (c : SAME) : rOut c2 c3 G1 G2 G3 th OK SAME := Or.inr (Or.inl ⟨g1, a, b, c⟩)
theorem rO3 {c2 c3 : Int32} {G1 G2 G3 : Prop} {th : Int32} {OK SAME : Prop} (g1 : G1) (g2 : G2) (a : ¬ G3) (b : th = c3) (c : SAME) : rOut c2 c3 G1 G2 G3 th OK SAME := Or.inr (Or.inr (Or.inl ⟨g1, g2, a, b, c⟩))
theorem rO4 {c2 c3 : Int32} {G1 G2 G3 : Prop} {th : Int32} {OK SAME : Prop} (g1 : G1) (g2 : G2) (g3 : G3) (b : th = 0) (c : OK) : rOut c2 c3 G1 G2 G3 th OK SAME := Or.inr (Or.inr (Or.inr ⟨g1, g2, g3, b, c⟩))
theorem lv_n {r : Int32} {p : Prop} (h : (r = 1 ∧ p) ∨ (r = 0 ∧ ¬ p)) (c : r = 0) : ¬ p := by
  rcases h with h | h
  · rw [h.1] at c; exact absurd c (by decide)
  · exact h.2
theorem lv_y {r : Int32} {p : Prop} (h : (r = 1 ∧ p) ∨ (r = 0 ∧ ¬ p)) (c : ¬ r = 0) : p := by
  rcases h with h | h
  · exact h.2
  · exact absurd h.1 c
theorem wP_E {x : Int32} {m : Nat} (h : wP x 0 (nI m - 1)) (hm : m ≤ 10) : ∃ i, i < m ∧ x = nI i := by
  rcases m with _ | m
  · exact absurd (Int32.le_trans h.1 h.2) (by decide)
  · have e1 : nI (m + 1) - 1 = nI m := by rw [← nI_1]; exact Int32.add_sub_cancel _ _
    rw [e1] at h
    obtain ⟨d, -, h2, h3⟩ := wP_N (a := 0) (b := m) h (by decide) (by omega)
    exact ⟨d, by omega, h3⟩
theorem liv_e {o L e : Nat} {ρ : Nat → Nat} {m k : Nat} {V : mDt} (h : cI o L e ρ m k V) {x : Int32} (hx : ¬ wP x 0 (nI e - 1)) : ¬ livP L ρ x := by
  rintro ⟨p, hp, rfl⟩
  have h1 := h.2.2.2.2.2.1 p hp
  have h10 := h.2.2.2.1
  obtain ⟨d, rfl⟩ : ∃ d, e = d + 1 := ⟨e - 1, by omega⟩
  refine hx ⟨nI_pos' (by omega), ?_⟩
  rw [← nI_1, Int32.add_sub_cancel]
  exact nI_le (by omega) (by omega)
theorem liv_i {o L e : Nat} {ρ : Nat → Nat} {m k : Nat} {V : mDt} (h : cI o L e ρ m k V) {i : Nat} (hi : i < 10) : V (o + 6 + i) 1 = 1 ↔ livP L ρ (nI i) := by
  rcases h.2.2.2.2.2.2.1 i hi with ⟨h1, p, hp, e⟩ | ⟨h1, h2⟩
  · exact ⟨fun _ => ⟨p, hp, by rw [e]⟩, fun _ => h1⟩
  · refine ⟨fun q => by rw [h1] at q; exact absurd q (by decide), ?_⟩
    rintro ⟨p, hp, e⟩
    have := (h.1.1.2.2 p hp).1
    exact absurd ((nI_eq (by omega) (by omega)).mp e).symm (h2 p hp)

set_option maxRecDepth 100000 in
set_option maxHeartbeats 4000000 in
theorem q_thrown {κ : mKp} {n : Nat} {sh : mSh} {P : mPt} {D : mDt} {E : mEt} {q : Nat} (hmS : sh q = some (.inl 7)) : mFnI κ yX7_thrown cX7_thrown 1 (Option.some Jvm.ClassFile.FieldType.int) 0 0 [.ref q] n sh P D E (fun ans D' => D' = D ∧ ans = D q 0) := by
  refine mMet_of (by decide) (Nat.le_of_ble_eq_true rfl) ?_
  intro Γ Q hQ h hin
  have h : mOk Γ κ RX7 cX7_thrown 1 (Option.some Jvm.ClassFile.FieldType.int) { frames := 0, cells := 0, slots := 0, locals := 0 } := h
  show mV Γ Q 0 0 n sh P D E [(0, .ref q)] [] 0
  refine V_aload_n h 1 0 rfl dX7_thrown_0 rfl ?_
  refine g_X7_16 h 4 hmS dX7_thrown_1 rfl ?_
  exact V_iret h rfl hQ (Nat.zero_le _) (Nat.zero_le _) ⟨rfl, rfl, rfl, rfl, _, rfl, ⟨rfl, rfl⟩⟩ dX7_thrown_4

set_option maxRecDepth 100000 in
set_option maxHeartbeats 4000000 in
theorem q_no {κ : mKp} {n : Nat} {sh : mSh} {P : mPt} {D : mDt} {E : mEt} {q : Nat} (hmS : sh q = some (.inl 7)) (w : Int32) : mFnI κ yX7_no cX7_no 2 (Option.some Jvm.ClassFile.FieldType.int) 0 0 [.ref q, .int w] n sh P D E (fun ans D' => D' = upd2 D q 0 w ∧ ans = 0) := by
  refine mMet_of (by decide) (Nat.le_of_ble_eq_true rfl) ?_
  intro Γ Q hQ h hin
  have h : mOk Γ κ RX7 cX7_no 2 (Option.some Jvm.ClassFile.FieldType.int) { frames := 0, cells := 0, slots := 0, locals := 0 } := h
  show mV Γ Q 0 0 n sh P D E [(0, .ref q), (1, .int w)] [] 0
  refine V_aload_n h 1 0 rfl dX7_no_0 rfl ?_
  refine V_iload_n h 2 1 rfl dX7_no_1 rfl ?_
  refine p_X7_16 h 5 hmS dX7_no_2 rfl ?_
  obtain ⟨D1, eD1⟩ : ∃ zz, zz = upd2 D q 0 w := ⟨_, rfl⟩
  rw [← eD1]
  refine V_iconst h 6 (v := 0) (by decide) dX7_no_5 rfl ?_
  exact V_iret h rfl hQ (Nat.zero_le _) (Nat.zero_le _) ⟨rfl, rfl, rfl, rfl, _, rfl, ⟨by rw [eD1], rfl⟩⟩ dX7_no_6

set_option maxRecDepth 100000 in
set_option maxHeartbeats 4000000 in
theorem q_in {κ : mKp} {n : Nat} {sh : mSh} {P : mPt} {D : mDt} {E : mEt} (x y z : Int32) : mFnI κ yX7_in cX7_in 3 (Option.some Jvm.ClassFile.FieldType.boolean) 0 0 [.int x, .int y, .int z] n sh P D E (fun ans D' => D' = D ∧ ans = wI x y z) := by
  refine mMet_of (by decide) (Nat.le_of_ble_eq_true rfl) ?_
  intro Γ Q hQ h hin
  have h : mOk Γ κ RX7 cX7_in 3 (Option.some Jvm.ClassFile.FieldType.boolean) { frames := 0, cells := 0, slots := 0, locals := 0 } := h
  show mV Γ Q 0 0 n sh P D E [(0, .int x), (1, .int y), (2, .int z)] [] 0
  refine V_iload_n h 1 0 rfl dX7_in_0 rfl ?_
  refine V_iload_n h 2 1 rfl dX7_in_1 rfl ?_
  refine V_icmp_lt h 14 5 dX7_in_2 (by decide) rfl (fun c2 => ?_) (fun c2 => ?_)
  · skip
    refine V_iconst h 15 (v := 0) (by decide) dX7_in_14 rfl ?_
    exact V_iret h rfl hQ (Nat.zero_le _) (Nat.zero_le _) ⟨rfl, rfl, rfl, rfl, _, rfl, ⟨rfl, (if_pos c2).symm⟩⟩ dX7_in_15
  · skip
    refine V_iload_n h 6 0 rfl dX7_in_5 rfl ?_
    refine V_iload_n h 7 2 rfl dX7_in_6 rfl ?_
    refine V_icmp_gt h 14 10 dX7_in_7 (by decide) rfl (fun c7 => ?_) (fun c7 => ?_)
    · skip
      refine V_iconst h 15 (v := 0) (by decide) dX7_in_14 rfl ?_
      exact V_iret h rfl hQ (Nat.zero_le _) (Nat.zero_le _) ⟨rfl, rfl, rfl, rfl, _, rfl, ⟨rfl, ((if_neg c2).trans (if_pos c7)).symm⟩⟩ dX7_in_15
    · skip
      refine V_iconst h 11 (v := 1) (by decide) dX7_in_10 rfl ?_
      refine V_goto h 15 dX7_in_11 (by decide) ?_
      exact V_iret h rfl hQ (Nat.zero_le _) (Nat.zero_le _) ⟨rfl, rfl, rfl, rfl, _, rfl, ⟨rfl, ((if_neg c2).trans (if_neg c7)).symm⟩⟩ dX7_in_15

set_option maxRecDepth 100000 in
set_option maxHeartbeats 4000000 in
theorem q_lives {κ : mKp} {n : Nat} {sh : mSh} {P : mPt} {D : mDt} {E : mEt} {q r : Nat} {lo : Nat → Nat} (hmS : sh q = some (.inl 7)) (hmP : P q 1 = some r) (hqr : q < r) (hL : rLay r lo sh P) {o L e m k : Nat} {ρ : Nat → Nat} {V : mDt} {t1 t2 t3 : Int32} (hS : rSim o L e ρ m k V r lo t1 t2 t3 D) (hI : cI o L e ρ m k V) (x : Int32) : mFnI κ yX7_lives cX7_lives 2 (Option.some Jvm.ClassFile.FieldType.boolean) 1 22 [.ref q, .int x] n sh P D E (fun ans D' => D' = D ∧ ((ans = 1 ∧ livP L ρ x) ∨ (ans = 0 ∧ ¬ livP L ρ x))) := by
  refine mMet_of (by decide) (Nat.le_of_ble_eq_true rfl) ?_
  intro Γ Q hQ h hin
  have h : mOk Γ κ RX7 cX7_lives 2 (Option.some Jvm.ClassFile.FieldType.boolean) { frames := 1, cells := 0, slots := 0, locals := 22 } := h
  have hW := hI.1
  have hinj := hI.2.2.2.2.1
  have hρ : ∀ p, p < L → ρ p < 10 := fun p hp => (hW.1.2.2 p hp).1
  have hL10 := hW.1.2.1
  have hm8 := hW.2.2.2.1.1
  have hk8 := hW.2.2.2.2.2.1
  show mV Γ Q 0 0 n sh P D E [(0, .ref q), (1, .int x)] [] 0
  refine V_iload_n h 1 1 rfl dX7_lives_0 rfl ?_
  refine V_iconst h 2 (v := 0) (by decide) dX7_lives_1 rfl ?_
  refine V_aload_n h 3 0 rfl dX7_lives_2 rfl ?_
  refine g_X7_10 h 6 (b := r) hmS hmP dX7_lives_3 rfl ?_
  refine g_X7_20 h 9 (R_s0 hL) dX7_lives_6 rfl ?_
  refine V_top (y := nI e) hS.2.2.2.2.1.1 ?_
  refine V_iconst h 10 (v := 1) (by decide) dX7_lives_9 rfl ?_
  refine V_isub h 11 dX7_lives_10 rfl ?_
  refine CSI h 14 (As := [.int x, .int 0, .int ((nI e) - 1)]) (q_in x 0 ((nI e) - 1)) qL_X7_23 qT_X7_in qZ_X7 qC_X7_in hd_X7_in ⟨Nat.le_of_ble_eq_true rfl, Nat.le_of_ble_eq_true rfl⟩ (Nat.le_of_ble_eq_true rfl) rfl rfl dX7_lives_11 (Nat.zero_le _) (Nat.zero_le _) (fun r1 D1 hq1 => ?_)
  rw [hq1.1, hq1.2]
  refine V_if_eq h 37 17 dX7_lives_14 (by decide) rfl (fun c14 => ?_) (fun c14 => ?_)
  · skip
    refine V_iconst h 38 (v := 0) (by decide) dX7_lives_37 rfl ?_
    exact V_iret h rfl hQ (Nat.zero_le _) (Nat.zero_le _) ⟨rfl, rfl, rfl, rfl, _, rfl, ⟨rfl, Or.inr ⟨rfl, liv_e hI (wI_0 c14)⟩⟩⟩ dX7_lives_38
  · skip
    obtain ⟨i, hi, ex⟩ := wP_E (wI_1 c14) hI.2.2.2.1
    have hi10 : i < 10 := by have := hI.2.2.2.1; omega
    subst ex
    refine V_aload_n h 18 0 rfl dX7_lives_17 rfl ?_
    refine g_X7_10 h 21 (b := r) hmS hmP dX7_lives_18 rfl ?_
    refine g_X7_27 h 24 (b := r + 1) (R_s0 hL) (R_p0 hL) dX7_lives_21 rfl ?_
    refine V_iload_n h 25 1 rfl dX7_lives_24 rfl ?_
    refine V_aald h 26 (b := r + 2 + i) i (Or.inr rfl) (R_s1 hL) rfl hi10 (by decide) (R_pw hL hi10) dX7_lives_25 rfl ?_
    refine V_bipush h 28 (v := 11) (by decide) dX7_lives_26 rfl ?_
    refine V_iald h 29 11 (R_sw hL hi10) (by decide) (by decide) (by decide) dX7_lives_28 rfl ?_
    refine V_top (y := V (o + 6 + i) 1) (hS.1 i hi10 11 (by decide)) ?_
    refine V_iconst h 30 (v := 1) (by decide) dX7_lives_29 rfl ?_
    refine V_icmp_ne h 37 33 dX7_lives_30 (by decide) rfl (fun c30 => ?_) (fun c30 => ?_)
    · skip
      refine V_iconst h 38 (v := 0) (by decide) dX7_lives_37 rfl ?_
      exact V_iret h rfl hQ (Nat.zero_le _) (Nat.zero_le _) ⟨rfl, rfl, rfl, rfl, _, rfl, ⟨rfl, Or.inr ⟨rfl, fun z => c30 ((liv_i hI hi10).mpr z)⟩⟩⟩ dX7_lives_38
    · skip
      refine V_iconst h 34 (v := 1) (by decide) dX7_lives_33 rfl ?_
      refine V_goto h 38 dX7_lives_34 (by decide) ?_
      exact V_iret h rfl hQ (Nat.zero_le _) (Nat.zero_le _) ⟨rfl, rfl, rfl, rfl, _, rfl, ⟨rfl, Or.inl ⟨rfl, (liv_i hI hi10).mp c30⟩⟩⟩ dX7_lives_38

set_option maxRecDepth 100000 in
set_option maxHeartbeats 4000000 in
theorem q_at {κ : mKp} {n : Nat} {sh : mSh} {P : mPt} {D : mDt} {E : mEt} {q r : Nat} {lo : Nat → Nat} (hmS : sh q = some (.inl 7)) (hmP : P q 1 = some r) (hL : rLay r lo sh P) {t : Nat} (ht : t < 10) : mFnR κ yX7_at cX7_at 2 (Option.some (Jvm.ClassFile.FieldType.array Jvm.ClassFile.FieldType.int)) 0 0 [.ref q, .int (nI t)] n sh P D E (fun ans D' => D' = D ∧ ans = r + 2 + t) := by
  refine mMet_of (by decide) (Nat.le_of_ble_eq_true rfl) ?_
  intro Γ Q hQ h hin
  have h : mOk Γ κ RX7 cX7_at 2 (Option.some (Jvm.ClassFile.FieldType.array Jvm.ClassFile.FieldType.int)) { frames := 0, cells := 0, slots := 0, locals := 0 } := h
  show mV Γ Q 0 0 n sh P D E [(0, .ref q), (1, .int (nI t))] [] 0
  refine V_aload_n h 1 0 rfl dX7_at_0 rfl ?_
  refine g_X7_10 h 4 (b := r) hmS hmP dX7_at_1 rfl ?_
  refine g_X7_27 h 7 (b := r + 1) (R_s0 hL) (R_p0 hL) dX7_at_4 rfl ?_
  refine V_iload_n h 8 1 rfl dX7_at_7 rfl ?_
  refine V_aald h 9 (b := r + 2 + t) t (Or.inr rfl) (R_s1 hL) rfl ht (by decide) (R_pw hL ht) dX7_at_8 rfl ?_
  exact V_aret h (Or.inr ⟨_, rfl⟩) hQ (Nat.zero_le _) (Nat.zero_le _) ⟨rfl, rfl, rfl, rfl, _, rfl, ⟨rfl, rfl⟩⟩ dX7_at_9

set_option maxRecDepth 100000 in
set_option maxHeartbeats 4000000 in
theorem q_pollenOf {κ : mKp} {n : Nat} {sh : mSh} {P : mPt} {D : mDt} {E : mEt} {a : Nat} (ha : sh a = some (.inr (0, 12))) {g : Nat → Int32} (hg : rwq (D a) g) : mFnI κ yX7_pollenOf cX7_pollenOf 1 (Option.some Jvm.ClassFile.FieldType.int) 0 0 [.ref a] n sh P D E (fun ans D' => D' = D ∧ ans = g 5 * 20 + g 10) := by
  refine mMet_of (by decide) (Nat.le_of_ble_eq_true rfl) ?_
  intro Γ Q hQ h hin
  have h : mOk Γ κ RX7 cX7_pollenOf 1 (Option.some Jvm.ClassFile.FieldType.int) { frames := 0, cells := 0, slots := 0, locals := 0 } := h
  show mV Γ Q 0 0 n sh P D E [(0, .ref a)] [] 0
  refine V_bipush h 2 (v := 20) (by decide) dX7_pollenOf_0 rfl ?_
  refine V_aload_n h 3 0 rfl dX7_pollenOf_2 rfl ?_
  refine V_iconst h 4 (v := 3) (by decide) dX7_pollenOf_3 rfl ?_
  refine V_iald h 5 3 ha (by decide) (by decide) (by decide) dX7_pollenOf_4 rfl ?_
  refine V_top (y := g 5) (hg 3 (by decide)) ?_
  refine V_imul h 6 dX7_pollenOf_5 rfl ?_
  refine V_aload_n h 7 0 rfl dX7_pollenOf_6 rfl ?_
  refine V_bipush h 9 (v := 8) (by decide) dX7_pollenOf_7 rfl ?_
  refine V_iald h 10 8 ha (by decide) (by decide) (by decide) dX7_pollenOf_9 rfl ?_
  refine V_top (y := g 10) (hg 8 (by decide)) ?_
  refine V_iadd h 11 dX7_pollenOf_10 rfl ?_
  exact V_iret h rfl hQ (Nat.zero_le _) (Nat.zero_le _) ⟨rfl, rfl, rfl, rfl, _, rfl, ⟨rfl, by rw [Int32.mul_comm 20]⟩⟩ dX7_pollenOf_11

set_option maxRecDepth 100000 in
set_option maxHeartbeats 4000000 in
theorem q_isTime {κ : mKp} {n : Nat} {sh : mSh} {P : mPt} {D : mDt} {E : mEt} (x y z : Int32) : mFnI κ yX7_isTime cX7_isTime 3 (Option.some Jvm.ClassFile.FieldType.boolean) 1 22 [.int x, .int y, .int z] n sh P D E (fun ans D' => D' = D ∧ ((ans = 1 ∧ (wP x 0 99 ∧ wP y 1 z)) ∨ (ans = 0 ∧ ¬ (wP x 0 99 ∧ wP y 1 z)))) := by
  refine mMet_of (by decide) (Nat.le_of_ble_eq_true rfl) ?_
  intro Γ Q hQ h hin
  have h : mOk Γ κ RX7 cX7_isTime 3 (Option.some Jvm.ClassFile.FieldType.boolean) { frames := 1, cells := 0, slots := 0, locals := 22 } := h
  show mV Γ Q 0 0 n sh P D E [(0, .int x), (1, .int y), (2, .int z)] [] 0
  refine V_iload_n h 1 0 rfl dX7_isTime_0 rfl ?_
  refine V_iconst h 2 (v := 0) (by decide) dX7_isTime_1 rfl ?_
  refine V_bipush h 4 (v := 99) (by decide) dX7_isTime_2 rfl ?_
  refine CSI h 7 (As := [.int x, .int 0, .int 99]) (q_in x 0 99) qL_X7_23 qT_X7_in qZ_X7 qC_X7_in hd_X7_in ⟨Nat.le_of_ble_eq_true rfl, Nat.le_of_ble_eq_true rfl⟩ (Nat.le_of_ble_eq_true rfl) rfl rfl dX7_isTime_4 (Nat.zero_le _) (Nat.zero_le _) (fun r1 D1 hq1 => ?_)
  rw [hq1.1, hq1.2]
  refine V_if_eq h 23 10 dX7_isTime_7 (by decide) rfl (fun c7 => ?_) (fun c7 => ?_)
  · skip
    refine V_iconst h 24 (v := 0) (by decide) dX7_isTime_23 rfl ?_
    exact V_iret h rfl hQ (Nat.zero_le _) (Nat.zero_le _) ⟨rfl, rfl, rfl, rfl, _, rfl, ⟨rfl, Or.inr ⟨rfl, fun q => wI_0 c7 q.1⟩⟩⟩ dX7_isTime_24
  · skip
    refine V_iload_n h 11 1 rfl dX7_isTime_10 rfl ?_
    refine V_iconst h 12 (v := 1) (by decide) dX7_isTime_11 rfl ?_
    refine V_iload_n h 13 2 rfl dX7_isTime_12 rfl ?_
    refine CSI h 16 (As := [.int y, .int 1, .int z]) (q_in y 1 z) qL_X7_23 qT_X7_in qZ_X7 qC_X7_in hd_X7_in ⟨Nat.le_of_ble_eq_true rfl, Nat.le_of_ble_eq_true rfl⟩ (Nat.le_of_ble_eq_true rfl) rfl rfl dX7_isTime_13 (Nat.zero_le _) (Nat.zero_le _) (fun r2 D2 hq2 => ?_)
    rw [hq2.1, hq2.2]
    refine V_if_eq h 23 19 dX7_isTime_16 (by decide) rfl (fun c16 => ?_) (fun c16 => ?_)
    · skip
      refine V_iconst h 24 (v := 0) (by decide) dX7_isTime_23 rfl ?_
      exact V_iret h rfl hQ (Nat.zero_le _) (Nat.zero_le _) ⟨rfl, rfl, rfl, rfl, _, rfl, ⟨rfl, Or.inr ⟨rfl, fun q => wI_0 c16 q.2⟩⟩⟩ dX7_isTime_24
    · skip
      refine V_iconst h 20 (v := 1) (by decide) dX7_isTime_19 rfl ?_
      refine V_goto h 24 dX7_isTime_20 (by decide) ?_
      exact V_iret h rfl hQ (Nat.zero_le _) (Nat.zero_le _) ⟨rfl, rfl, rfl, rfl, _, rfl, ⟨rfl, Or.inl ⟨rfl, wI_1 c7, wI_1 c16⟩⟩⟩ dX7_isTime_24
