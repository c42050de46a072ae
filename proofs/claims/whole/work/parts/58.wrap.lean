/-- how the law's own method ends: with 0 and the answer laid into w, or with the number of what was thrown -/
def wQ (n : Nat) (sh : mSh) (P : mPt) (D : mDt) (E : mEt) (w : Nat) (ok : Int32 → mDt → Prop) (K : String → Prop) (cd : String → Int32) : mPost := fun v n' sh' P' D' E' => n ≤ n' ∧ sh' = sh ∧ P' = P ∧ ∃ kk : Int32, v = some (.int kk) ∧ ((kk = 0 ∧ ∃ r, ok r D' ∧ E' = updE E w 0 r.toInt64) ∨ (∃ X, K X ∧ kk = cd X ∧ D' = D ∧ E' = E))
def cdA (_ : String) : Int32 := 1
def cdAS (X : String) : Int32 := if X = xA then 1 else 2
def cdIA (X : String) : Int32 := if X = xI then 1 else 2
def cdIAS (X : String) : Int32 := if X = xI then 1 else if X = xA then 2 else 3

set_option maxRecDepth 100000 in
set_option maxHeartbeats 4000000 in
theorem l_owner {κ : mKp} {n : Nat} {sh : mSh} {P : mPt} {D : mDt} {E : mEt} {b w : Nat} (hb5 : sh b = some (.inl 5)) (hw : sh w = some (.inr (3, 1))) (x1 x2 x3 x4 : Int32) {ok : Int32 → mDt → Prop} {K : String → Prop} (hM : mXnI κ yX5_owner cX5_owner 5 (Option.some Jvm.ClassFile.FieldType.int) 7 109 2 12 [.ref b, .int x1, .int x2, .int x3, .int x4] n sh P D E ok K) (hK : ∀ X, K X → X = xA ∨ X = xS) : mWMet κ yL_owner cL_owner 7 (Option.some Jvm.ClassFile.FieldType.int) [((0 : Nat), (14 : Nat), (17 : Nat), (13 : Nat)), ((0 : Nat), (14 : Nat), (21 : Nat), (15 : Nat))] { frames := 8, cells := 2, slots := 12, locals := 133 } [.ref b, .int x1, .int x2, .int x3, .int x4, .ref w] n sh P D E (wQ n sh P D E w ok K cdAS) := by
  refine mWMet_of (by decide) (Nat.le_of_ble_eq_true rfl) ?_
  intro Γ Q hQ h hT
  have h : mOk Γ κ RL cL_owner 7 (Option.some Jvm.ClassFile.FieldType.int) { frames := 8, cells := 2, slots := 12, locals := 133 } := h
  show mV Γ Q 0 0 n sh P D E [(0, .ref b), (1, .int x1), (2, .int x2), (3, .int x3), (4, .int x4), (5, .ref w)] [] 0
  refine V_aload h 2 5 rfl dL_owner_0 rfl ?_
  refine V_iconst h 3 (v := 0) (by decide) dL_owner_2 rfl ?_
  refine V_aload_n h 4 0 rfl dL_owner_3 rfl ?_
  refine V_iload_n h 5 1 rfl dL_owner_4 rfl ?_
  refine V_iload_n h 6 2 rfl dL_owner_5 rfl ?_
  refine V_iload_n h 7 3 rfl dL_owner_6 rfl ?_
  refine V_iload h 9 4 rfl dL_owner_7 rfl ?_
  refine T_callV h hT 12 (rm := { frames := 7, cells := 2, slots := 12, locals := 109 }) (As := [.int x1, .int x2, .int x3, .int x4]) (st := [.int 0, .ref w]) hM rfl hb5 qL_L_7 qI_X5_owner qS_X5_owner qZ_X5 qC_X5_owner hd_X5_owner ⟨Nat.le_of_ble_eq_true rfl, Nat.le_of_ble_eq_true rfl⟩ (Nat.le_of_ble_eq_true rfl) rfl rfl dL_owner_9 ⟨Nat.le_of_ble_eq_true rfl, Nat.le_of_ble_eq_true rfl⟩ (by decide) ?_ ?_
  · intro v n' sh' P' D' E' hq
    obtain ⟨q1, q2, q3, q4, r, q5, hok⟩ := hq
    rw [q1, q2, q3, q4, q5]
    refine V_i2l h 13 dL_owner_12 rfl ?_
    refine V_last h 14 0 hw rfl (by decide) (by decide) dL_owner_13 rfl ?_
    refine V_goto h 25 dL_owner_14 (by decide) ?_
    refine V_iconst h 26 (v := 0) (by decide) dL_owner_25 rfl ?_
    exact V_iret h rfl hQ (Nat.le_of_ble_eq_true rfl) (Nat.le_of_ble_eq_true rfl) ⟨Nat.le_refl _, rfl, rfl, _, rfl, Or.inl ⟨rfl, r, hok, rfl⟩⟩ dL_owner_26
  · intro X n' sh' P' D' E' hq
    obtain ⟨hKX, q1, q2, q3, q4, q5⟩ := hq
    rw [q2, q3, q4, q5]
    have hX := hK X hKX
    rcases hX with rfl | rfl
    · refine ⟨13, 17, Or.inl rfl, rfl, rfl, fun q9 => ?_⟩
      refine V_astore h 19 [(6, .ref q9), (0, .ref b), (1, .int x1), (2, .int x2), (3, .int x3), (4, .int x4), (5, .ref w)] (by decide) rfl dL_owner_17 rfl ?_
      refine V_iconst h 20 (v := 1) (by decide) dL_owner_19 rfl ?_
      exact V_iret h rfl hQ (Nat.le_of_ble_eq_true rfl) (Nat.le_of_ble_eq_true rfl) ⟨q1, rfl, rfl, _, rfl, Or.inr ⟨_, hKX, by decide, rfl, rfl⟩⟩ dL_owner_20
    · refine ⟨15, 21, Or.inr (Or.inl rfl), rfl, rfl, fun q9 => ?_⟩
      refine V_astore h 23 [(6, .ref q9), (0, .ref b), (1, .int x1), (2, .int x2), (3, .int x3), (4, .int x4), (5, .ref w)] (by decide) rfl dL_owner_21 rfl ?_
      refine V_iconst h 24 (v := 2) (by decide) dL_owner_23 rfl ?_
      exact V_iret h rfl hQ (Nat.le_of_ble_eq_true rfl) (Nat.le_of_ble_eq_true rfl) ⟨q1, rfl, rfl, _, rfl, Or.inr ⟨_, hKX, by decide, rfl, rfl⟩⟩ dL_owner_24

set_option maxRecDepth 100000 in
set_option maxHeartbeats 4000000 in
theorem l_sell {κ : mKp} {n : Nat} {sh : mSh} {P : mPt} {D : mDt} {E : mEt} {b w : Nat} (hb5 : sh b = some (.inl 5)) (hw : sh w = some (.inr (3, 1))) (x1 x2 x3 x4 : Int32) {ok : Int32 → mDt → Prop} {K : String → Prop} (hM : mXnI κ yX5_sell cX5_sell 7 (Option.some Jvm.ClassFile.FieldType.int) 8 130 3 18 [.ref b, .int x1, .int x2, .int x3, .int x4] n sh P D E ok K) (hK : ∀ X, K X → X = xI ∨ X = xA) : mWMet κ yL_sell cL_sell 7 (Option.some Jvm.ClassFile.FieldType.int) [((0 : Nat), (14 : Nat), (17 : Nat), (20 : Nat)), ((0 : Nat), (14 : Nat), (21 : Nat), (13 : Nat))] { frames := 9, cells := 3, slots := 18, locals := 156 } [.ref b, .int x1, .int x2, .int x3, .int x4, .ref w] n sh P D E (wQ n sh P D E w ok K cdIA) := by
  refine mWMet_of (by decide) (Nat.le_of_ble_eq_true rfl) ?_
  intro Γ Q hQ h hT
  have h : mOk Γ κ RL cL_sell 7 (Option.some Jvm.ClassFile.FieldType.int) { frames := 9, cells := 3, slots := 18, locals := 156 } := h
  show mV Γ Q 0 0 n sh P D E [(0, .ref b), (1, .int x1), (2, .int x2), (3, .int x3), (4, .int x4), (5, .ref w)] [] 0
  refine V_aload h 2 5 rfl dL_sell_0 rfl ?_
  refine V_iconst h 3 (v := 0) (by decide) dL_sell_2 rfl ?_
  refine V_aload_n h 4 0 rfl dL_sell_3 rfl ?_
  refine V_iload_n h 5 1 rfl dL_sell_4 rfl ?_
  refine V_iload_n h 6 2 rfl dL_sell_5 rfl ?_
  refine V_iload_n h 7 3 rfl dL_sell_6 rfl ?_
  refine V_iload h 9 4 rfl dL_sell_7 rfl ?_
  refine T_callV h hT 12 (rm := { frames := 8, cells := 3, slots := 18, locals := 130 }) (As := [.int x1, .int x2, .int x3, .int x4]) (st := [.int 0, .ref w]) hM rfl hb5 qL_L_17 qI_X5_sell qS_X5_sell qZ_X5 qC_X5_sell hd_X5_sell ⟨Nat.le_of_ble_eq_true rfl, Nat.le_of_ble_eq_true rfl⟩ (Nat.le_of_ble_eq_true rfl) rfl rfl dL_sell_9 ⟨Nat.le_of_ble_eq_true rfl, Nat.le_of_ble_eq_true rfl⟩ (by decide) ?_ ?_
  · intro v n' sh' P' D' E' hq
    obtain ⟨q1, q2, q3, q4, r, q5, hok⟩ := hq
    rw [q1, q2, q3, q4, q5]
    refine V_i2l h 13 dL_sell_12 rfl ?_
    refine V_last h 14 0 hw rfl (by decide) (by decide) dL_sell_13 rfl ?_
    refine V_goto h 25 dL_sell_14 (by decide) ?_
    refine V_iconst h 26 (v := 0) (by decide) dL_sell_25 rfl ?_
    exact V_iret h rfl hQ (Nat.le_of_ble_eq_true rfl) (Nat.le_of_ble_eq_true rfl) ⟨Nat.le_refl _, rfl, rfl, _, rfl, Or.inl ⟨rfl, r, hok, rfl⟩⟩ dL_sell_26
  · intro X n' sh' P' D' E' hq
    obtain ⟨hKX, q1, q2, q3, q4, q5⟩ := hq
    rw [q2, q3, q4, q5]
    have hX := hK X hKX
    rcases hX with rfl | rfl
    · refine ⟨20, 17, Or.inr (Or.inr rfl), rfl, rfl, fun q9 => ?_⟩
      refine V_astore h 19 [(6, .ref q9), (0, .ref b), (1, .int x1), (2, .int x2), (3, .int x3), (4, .int x4), (5, .ref w)] (by decide) rfl dL_sell_17 rfl ?_
      refine V_iconst h 20 (v := 1) (by decide) dL_sell_19 rfl ?_
      exact V_iret h rfl hQ (Nat.le_of_ble_eq_true rfl) (Nat.le_of_ble_eq_true rfl) ⟨q1, rfl, rfl, _, rfl, Or.inr ⟨_, hKX, by decide, rfl, rfl⟩⟩ dL_sell_20
    · refine ⟨13, 21, Or.inl rfl, rfl, rfl, fun q9 => ?_⟩
      refine V_astore h 23 [(6, .ref q9), (0, .ref b), (1, .int x1), (2, .int x2), (3, .int x3), (4, .int x4), (5, .ref w)] (by decide) rfl dL_sell_21 rfl ?_
      refine V_iconst h 24 (v := 2) (by decide) dL_sell_23 rfl ?_
      exact V_iret h rfl hQ (Nat.le_of_ble_eq_true rfl) (Nat.le_of_ble_eq_true rfl) ⟨q1, rfl, rfl, _, rfl, Or.inr ⟨_, hKX, by decide, rfl, rfl⟩⟩ dL_sell_24

set_option maxRecDepth 100000 in
set_option maxHeartbeats 4000000 in
theorem l_lend {κ : mKp} {n : Nat} {sh : mSh} {P : mPt} {D : mDt} {E : mEt} {b w : Nat} (hb5 : sh b = some (.inl 5)) (hw : sh w = some (.inr (3, 1))) (x1 x2 x3 x4 : Int32) {ok : Int32 → mDt → Prop} {K : String → Prop} (hM : mXnI κ yX5_lend cX5_lend 5 (Option.some Jvm.ClassFile.FieldType.int) 8 130 4 24 [.ref b, .int x1, .int x2, .int x3, .int x4] n sh P D E ok K) (hK : ∀ X, K X → X = xI ∨ X = xA ∨ X = xS) : mWMet κ yL_lend cL_lend 7 (Option.some Jvm.ClassFile.FieldType.int) [((0 : Nat), (14 : Nat), (17 : Nat), (20 : Nat)), ((0 : Nat), (14 : Nat), (21 : Nat), (13 : Nat)), ((0 : Nat), (14 : Nat), (25 : Nat), (15 : Nat))] { frames := 9, cells := 4, slots := 24, locals := 154 } [.ref b, .int x1, .int x2, .int x3, .int x4, .ref w] n sh P D E (wQ n sh P D E w ok K cdIAS) := by
  refine mWMet_of (by decide) (Nat.le_of_ble_eq_true rfl) ?_
  intro Γ Q hQ h hT
  have h : mOk Γ κ RL cL_lend 7 (Option.some Jvm.ClassFile.FieldType.int) { frames := 9, cells := 4, slots := 24, locals := 154 } := h
  show mV Γ Q 0 0 n sh P D E [(0, .ref b), (1, .int x1), (2, .int x2), (3, .int x3), (4, .int x4), (5, .ref w)] [] 0
  refine V_aload h 2 5 rfl dL_lend_0 rfl ?_
  refine V_iconst h 3 (v := 0) (by decide) dL_lend_2 rfl ?_
  refine V_aload_n h 4 0 rfl dL_lend_3 rfl ?_
  refine V_iload_n h 5 1 rfl dL_lend_4 rfl ?_
  refine V_iload_n h 6 2 rfl dL_lend_5 rfl ?_
  refine V_iload_n h 7 3 rfl dL_lend_6 rfl ?_
  refine V_iload h 9 4 rfl dL_lend_7 rfl ?_
  refine T_callV h hT 12 (rm := { frames := 8, cells := 4, slots := 24, locals := 130 }) (As := [.int x1, .int x2, .int x3, .int x4]) (st := [.int 0, .ref w]) hM rfl hb5 qL_L_22 qI_X5_lend qS_X5_lend qZ_X5 qC_X5_lend hd_X5_lend ⟨Nat.le_of_ble_eq_true rfl, Nat.le_of_ble_eq_true rfl⟩ (Nat.le_of_ble_eq_true rfl) rfl rfl dL_lend_9 ⟨Nat.le_of_ble_eq_true rfl, Nat.le_of_ble_eq_true rfl⟩ (by decide) ?_ ?_
  · intro v n' sh' P' D' E' hq
    obtain ⟨q1, q2, q3, q4, r, q5, hok⟩ := hq
    rw [q1, q2, q3, q4, q5]
    refine V_i2l h 13 dL_lend_12 rfl ?_
    refine V_last h 14 0 hw rfl (by decide) (by decide) dL_lend_13 rfl ?_
    refine V_goto h 29 dL_lend_14 (by decide) ?_
    refine V_iconst h 30 (v := 0) (by decide) dL_lend_29 rfl ?_
    exact V_iret h rfl hQ (Nat.le_of_ble_eq_true rfl) (Nat.le_of_ble_eq_true rfl) ⟨Nat.le_refl _, rfl, rfl, _, rfl, Or.inl ⟨rfl, r, hok, rfl⟩⟩ dL_lend_30
  · intro X n' sh' P' D' E' hq
    obtain ⟨hKX, q1, q2, q3, q4, q5⟩ := hq
    rw [q2, q3, q4, q5]
    have hX := hK X hKX
    rcases hX with rfl | rfl | rfl
    · refine ⟨20, 17, Or.inr (Or.inr rfl), rfl, rfl, fun q9 => ?_⟩
      refine V_astore h 19 [(6, .ref q9), (0, .ref b), (1, .int x1), (2, .int x2), (3, .int x3), (4, .int x4), (5, .ref w)] (by decide) rfl dL_lend_17 rfl ?_
      refine V_iconst h 20 (v := 1) (by decide) dL_lend_19 rfl ?_
      exact V_iret h rfl hQ (Nat.le_of_ble_eq_true rfl) (Nat.le_of_ble_eq_true rfl) ⟨q1, rfl, rfl, _, rfl, Or.inr ⟨_, hKX, by decide, rfl, rfl⟩⟩ dL_lend_20
    · refine ⟨13, 21, Or.inl rfl, rfl, rfl, fun q9 => ?_⟩
      refine V_astore h 23 [(6, .ref q9), (0, .ref b), (1, .int x1), (2, .int x2), (3, .int x3), (4, .int x4), (5, .ref w)] (by decide) rfl dL_lend_21 rfl ?_
      refine V_iconst h 24 (v := 2) (by decide) dL_lend_23 rfl ?_
      exact V_iret h rfl hQ (Nat.le_of_ble_eq_true rfl) (Nat.le_of_ble_eq_true rfl) ⟨q1, rfl, rfl, _, rfl, Or.inr ⟨_, hKX, by decide, rfl, rfl⟩⟩ dL_lend_24
    · refine ⟨15, 25, Or.inr (Or.inl rfl), rfl, rfl, fun q9 => ?_⟩
      refine V_astore h 27 [(6, .ref q9), (0, .ref b), (1, .int x1), (2, .int x2), (3, .int x3), (4, .int x4), (5, .ref w)] (by decide) rfl dL_lend_25 rfl ?_
      refine V_iconst h 28 (v := 3) (by decide) dL_lend_27 rfl ?_
      exact V_iret h rfl hQ (Nat.le_of_ble_eq_true rfl) (Nat.le_of_ble_eq_true rfl) ⟨q1, rfl, rfl, _, rfl, Or.inr ⟨_, hKX, by decide, rfl, rfl⟩⟩ dL_lend_28

set_option maxRecDepth 100000 in
set_option maxHeartbeats 4000000 in
theorem l_die {κ : mKp} {n : Nat} {sh : mSh} {P : mPt} {D : mDt} {E : mEt} {b w : Nat} (hb5 : sh b = some (.inl 5)) (hw : sh w = some (.inr (3, 1))) (x1 x2 x3 : Int32) {ok : Int32 → mDt → Prop} {K : String → Prop} (hM : mXnI κ yX5_die cX5_die 4 (Option.some Jvm.ClassFile.FieldType.int) 8 130 3 18 [.ref b, .int x1, .int x2, .int x3] n sh P D E ok K) (hK : ∀ X, K X → X = xI ∨ X = xA ∨ X = xS) : mWMet κ yL_die cL_die 6 (Option.some Jvm.ClassFile.FieldType.int) [((0 : Nat), (12 : Nat), (15 : Nat), (20 : Nat)), ((0 : Nat), (12 : Nat), (19 : Nat), (13 : Nat)), ((0 : Nat), (12 : Nat), (23 : Nat), (15 : Nat))] { frames := 9, cells := 3, slots := 18, locals := 153 } [.ref b, .int x1, .int x2, .int x3, .ref w] n sh P D E (wQ n sh P D E w ok K cdIAS) := by
  refine mWMet_of (by decide) (Nat.le_of_ble_eq_true rfl) ?_
  intro Γ Q hQ h hT
  have h : mOk Γ κ RL cL_die 6 (Option.some Jvm.ClassFile.FieldType.int) { frames := 9, cells := 3, slots := 18, locals := 153 } := h
  show mV Γ Q 0 0 n sh P D E [(0, .ref b), (1, .int x1), (2, .int x2), (3, .int x3), (4, .ref w)] [] 0
  refine V_aload h 2 4 rfl dL_die_0 rfl ?_
  refine V_iconst h 3 (v := 0) (by decide) dL_die_2 rfl ?_
  refine V_aload_n h 4 0 rfl dL_die_3 rfl ?_
  refine V_iload_n h 5 1 rfl dL_die_4 rfl ?_
  refine V_iload_n h 6 2 rfl dL_die_5 rfl ?_
  refine V_iload_n h 7 3 rfl dL_die_6 rfl ?_
  refine T_callV h hT 10 (rm := { frames := 8, cells := 3, slots := 18, locals := 130 }) (As := [.int x1, .int x2, .int x3]) (st := [.int 0, .ref w]) hM rfl hb5 qL_L_25 qI_X5_die qS_X5_die qZ_X5 qC_X5_die hd_X5_die ⟨Nat.le_of_ble_eq_true rfl, Nat.le_of_ble_eq_true rfl⟩ (Nat.le_of_ble_eq_true rfl) rfl rfl dL_die_7 ⟨Nat.le_of_ble_eq_true rfl, Nat.le_of_ble_eq_true rfl⟩ (by decide) ?_ ?_
  · intro v n' sh' P' D' E' hq
    obtain ⟨q1, q2, q3, q4, r, q5, hok⟩ := hq
    rw [q1, q2, q3, q4, q5]
    refine V_i2l h 11 dL_die_10 rfl ?_
    refine V_last h 12 0 hw rfl (by decide) (by decide) dL_die_11 rfl ?_
    refine V_goto h 27 dL_die_12 (by decide) ?_
    refine V_iconst h 28 (v := 0) (by decide) dL_die_27 rfl ?_
    exact V_iret h rfl hQ (Nat.le_of_ble_eq_true rfl) (Nat.le_of_ble_eq_true rfl) ⟨Nat.le_refl _, rfl, rfl, _, rfl, Or.inl ⟨rfl, r, hok, rfl⟩⟩ dL_die_28
  · intro X n' sh' P' D' E' hq
    obtain ⟨hKX, q1, q2, q3, q4, q5⟩ := hq
    rw [q2, q3, q4, q5]
    have hX := hK X hKX
    rcases hX with rfl | rfl | rfl
    · refine ⟨20, 15, Or.inr (Or.inr rfl), rfl, rfl, fun q9 => ?_⟩
      refine V_astore h 17 [(5, .ref q9), (0, .ref b), (1, .int x1), (2, .int x2), (3, .int x3), (4, .ref w)] (by decide) rfl dL_die_15 rfl ?_
      refine V_iconst h 18 (v := 1) (by decide) dL_die_17 rfl ?_
      exact V_iret h rfl hQ (Nat.le_of_ble_eq_true rfl) (Nat.le_of_ble_eq_true rfl) ⟨q1, rfl, rfl, _, rfl, Or.inr ⟨_, hKX, by decide, rfl, rfl⟩⟩ dL_die_18
    · refine ⟨13, 19, Or.inl rfl, rfl, rfl, fun q9 => ?_⟩
      refine V_astore h 21 [(5, .ref q9), (0, .ref b), (1, .int x1), (2, .int x2), (3, .int x3), (4, .ref w)] (by decide) rfl dL_die_19 rfl ?_
      refine V_iconst h 22 (v := 2) (by decide) dL_die_21 rfl ?_
      exact V_iret h rfl hQ (Nat.le_of_ble_eq_true rfl) (Nat.le_of_ble_eq_true rfl) ⟨q1, rfl, rfl, _, rfl, Or.inr ⟨_, hKX, by decide, rfl, rfl⟩⟩ dL_die_22
    · refine ⟨15, 23, Or.inr (Or.inl rfl), rfl, rfl, fun q9 => ?_⟩
      refine V_astore h 25 [(5, .ref q9), (0, .ref b), (1, .int x1), (2, .int x2), (3, .int x3), (4, .ref w)] (by decide) rfl dL_die_23 rfl ?_
      refine V_iconst h 26 (v := 3) (by decide) dL_die_25 rfl ?_
      exact V_iret h rfl hQ (Nat.le_of_ble_eq_true rfl) (Nat.le_of_ble_eq_true rfl) ⟨q1, rfl, rfl, _, rfl, Or.inr ⟨_, hKX, by decide, rfl, rfl⟩⟩ dL_die_26

set_option maxRecDepth 100000 in
set_option maxHeartbeats 4000000 in
theorem l_dig {κ : mKp} {n : Nat} {sh : mSh} {P : mPt} {D : mDt} {E : mEt} {b w : Nat} (hb5 : sh b = some (.inl 5)) (hw : sh w = some (.inr (3, 1))) (x1 : Int32) {ok : Int32 → mDt → Prop} {K : String → Prop} (hM : mXnI κ yX5_dig cX5_dig 3 (Option.some Jvm.ClassFile.FieldType.int) 7 109 2 12 [.ref b, .int x1] n sh P D E ok K) (hK : ∀ X, K X → X = xA ∨ X = xS) : mWMet κ yL_dig cL_dig 4 (Option.some Jvm.ClassFile.FieldType.int) [((0 : Nat), (9 : Nat), (12 : Nat), (13 : Nat)), ((0 : Nat), (9 : Nat), (15 : Nat), (15 : Nat))] { frames := 8, cells := 2, slots := 12, locals := 131 } [.ref b, .int x1, .ref w] n sh P D E (wQ n sh P D E w ok K cdAS) := by
  refine mWMet_of (by decide) (Nat.le_of_ble_eq_true rfl) ?_
  intro Γ Q hQ h hT
  have h : mOk Γ κ RL cL_dig 4 (Option.some Jvm.ClassFile.FieldType.int) { frames := 8, cells := 2, slots := 12, locals := 131 } := h
  show mV Γ Q 0 0 n sh P D E [(0, .ref b), (1, .int x1), (2, .ref w)] [] 0
  refine V_aload_n h 1 2 rfl dL_dig_0 rfl ?_
  refine V_iconst h 2 (v := 0) (by decide) dL_dig_1 rfl ?_
  refine V_aload_n h 3 0 rfl dL_dig_2 rfl ?_
  refine V_iload_n h 4 1 rfl dL_dig_3 rfl ?_
  refine T_callV h hT 7 (rm := { frames := 7, cells := 2, slots := 12, locals := 109 }) (As := [.int x1]) (st := [.int 0, .ref w]) hM rfl hb5 qL_L_29 qI_X5_dig qS_X5_dig qZ_X5 qC_X5_dig hd_X5_dig ⟨Nat.le_of_ble_eq_true rfl, Nat.le_of_ble_eq_true rfl⟩ (Nat.le_of_ble_eq_true rfl) rfl rfl dL_dig_4 ⟨Nat.le_of_ble_eq_true rfl, Nat.le_of_ble_eq_true rfl⟩ (by decide) ?_ ?_
  · intro v n' sh' P' D' E' hq
    obtain ⟨q1, q2, q3, q4, r, q5, hok⟩ := hq
    rw [q1, q2, q3, q4, q5]
    refine V_i2l h 8 dL_dig_7 rfl ?_
    refine V_last h 9 0 hw rfl (by decide) (by decide) dL_dig_8 rfl ?_
    refine V_goto h 18 dL_dig_9 (by decide) ?_
    refine V_iconst h 19 (v := 0) (by decide) dL_dig_18 rfl ?_
    exact V_iret h rfl hQ (Nat.le_of_ble_eq_true rfl) (Nat.le_of_ble_eq_true rfl) ⟨Nat.le_refl _, rfl, rfl, _, rfl, Or.inl ⟨rfl, r, hok, rfl⟩⟩ dL_dig_19
  · intro X n' sh' P' D' E' hq
    obtain ⟨hKX, q1, q2, q3, q4, q5⟩ := hq
    rw [q2, q3, q4, q5]
    have hX := hK X hKX
    rcases hX with rfl | rfl
    · refine ⟨13, 12, Or.inl rfl, rfl, rfl, fun q9 => ?_⟩
      refine V_astore_n h 13 [(3, .ref q9), (0, .ref b), (1, .int x1), (2, .ref w)] (by decide) rfl dL_dig_12 rfl ?_
      refine V_iconst h 14 (v := 1) (by decide) dL_dig_13 rfl ?_
      exact V_iret h rfl hQ (Nat.le_of_ble_eq_true rfl) (Nat.le_of_ble_eq_true rfl) ⟨q1, rfl, rfl, _, rfl, Or.inr ⟨_, hKX, by decide, rfl, rfl⟩⟩ dL_dig_14
    · refine ⟨15, 15, Or.inr (Or.inl rfl), rfl, rfl, fun q9 => ?_⟩
      refine V_astore_n h 16 [(3, .ref q9), (0, .ref b), (1, .int x1), (2, .ref w)] (by decide) rfl dL_dig_15 rfl ?_
      refine V_iconst h 17 (v := 2) (by decide) dL_dig_16 rfl ?_
      exact V_iret h rfl hQ (Nat.le_of_ble_eq_true rfl) (Nat.le_of_ble_eq_true rfl) ⟨q1, rfl, rfl, _, rfl, Or.inr ⟨_, hKX, by decide, rfl, rfl⟩⟩ dL_dig_17

set_option maxRecDepth 100000 in
set_option maxHeartbeats 4000000 in
theorem l_clean {κ : mKp} {n : Nat} {sh : mSh} {P : mPt} {D : mDt} {E : mEt} {b w : Nat} (hb5 : sh b = some (.inl 5)) (hw : sh w = some (.inr (3, 1))) (x1 : Int32) {ok : Int32 → mDt → Prop} {K : String → Prop} (hM : mXnI κ yX5_clean cX5_clean 3 (Option.some Jvm.ClassFile.FieldType.int) 7 109 2 12 [.ref b, .int x1] n sh P D E ok K) (hK : ∀ X, K X → X = xA ∨ X = xS) : mWMet κ yL_clean cL_clean 4 (Option.some Jvm.ClassFile.FieldType.int) [((0 : Nat), (9 : Nat), (12 : Nat), (13 : Nat)), ((0 : Nat), (9 : Nat), (15 : Nat), (15 : Nat))] { frames := 8, cells := 2, slots := 12, locals := 131 } [.ref b, .int x1, .ref w] n sh P D E (wQ n sh P D E w ok K cdAS) := by
  refine mWMet_of (by decide) (Nat.le_of_ble_eq_true rfl) ?_
  intro Γ Q hQ h hT
  have h : mOk Γ κ RL cL_clean 4 (Option.some Jvm.ClassFile.FieldType.int) { frames := 8, cells := 2, slots := 12, locals := 131 } := h
  show mV Γ Q 0 0 n sh P D E [(0, .ref b), (1, .int x1), (2, .ref w)] [] 0
  refine V_aload_n h 1 2 rfl dL_clean_0 rfl ?_
  refine V_iconst h 2 (v := 0) (by decide) dL_clean_1 rfl ?_
  refine V_aload_n h 3 0 rfl dL_clean_2 rfl ?_
  refine V_iload_n h 4 1 rfl dL_clean_3 rfl ?_
  refine T_callV h hT 7 (rm := { frames := 7, cells := 2, slots := 12, locals := 109 }) (As := [.int x1]) (st := [.int 0, .ref w]) hM rfl hb5 qL_L_33 qI_X5_clean qS_X5_clean qZ_X5 qC_X5_clean hd_X5_clean ⟨Nat.le_of_ble_eq_true rfl, Nat.le_of_ble_eq_true rfl⟩ (Nat.le_of_ble_eq_true rfl) rfl rfl dL_clean_4 ⟨Nat.le_of_ble_eq_true rfl, Nat.le_of_ble_eq_true rfl⟩ (by decide) ?_ ?_
  · intro v n' sh' P' D' E' hq
    obtain ⟨q1, q2, q3, q4, r, q5, hok⟩ := hq
    rw [q1, q2, q3, q4, q5]
    refine V_i2l h 8 dL_clean_7 rfl ?_
    refine V_last h 9 0 hw rfl (by decide) (by decide) dL_clean_8 rfl ?_
    refine V_goto h 18 dL_clean_9 (by decide) ?_
    refine V_iconst h 19 (v := 0) (by decide) dL_clean_18 rfl ?_
    exact V_iret h rfl hQ (Nat.le_of_ble_eq_true rfl) (Nat.le_of_ble_eq_true rfl) ⟨Nat.le_refl _, rfl, rfl, _, rfl, Or.inl ⟨rfl, r, hok, rfl⟩⟩ dL_clean_19
  · intro X n' sh' P' D' E' hq
    obtain ⟨hKX, q1, q2, q3, q4, q5⟩ := hq
    rw [q2, q3, q4, q5]
    have hX := hK X hKX
    rcases hX with rfl | rfl
    · refine ⟨13, 12, Or.inl rfl, rfl, rfl, fun q9 => ?_⟩
      refine V_astore_n h 13 [(3, .ref q9), (0, .ref b), (1, .int x1), (2, .ref w)] (by decide) rfl dL_clean_12 rfl ?_
      refine V_iconst h 14 (v := 1) (by decide) dL_clean_13 rfl ?_
      exact V_iret h rfl hQ (Nat.le_of_ble_eq_true rfl) (Nat.le_of_ble_eq_true rfl) ⟨q1, rfl, rfl, _, rfl, Or.inr ⟨_, hKX, by decide, rfl, rfl⟩⟩ dL_clean_14
    · refine ⟨15, 15, Or.inr (Or.inl rfl), rfl, rfl, fun q9 => ?_⟩
      refine V_astore_n h 16 [(3, .ref q9), (0, .ref b), (1, .int x1), (2, .ref w)] (by decide) rfl dL_clean_15 rfl ?_
      refine V_iconst h 17 (v := 2) (by decide) dL_clean_16 rfl ?_
      exact V_iret h rfl hQ (Nat.le_of_ble_eq_true rfl) (Nat.le_of_ble_eq_true rfl) ⟨q1, rfl, rfl, _, rfl, Or.inr ⟨_, hKX, by decide, rfl, rfl⟩⟩ dL_clean_17

set_option maxRecDepth 100000 in
set_option maxHeartbeats 4000000 in
theorem l_fall {κ : mKp} {n : Nat} {sh : mSh} {P : mPt} {D : mDt} {E : mEt} {b w : Nat} (hb5 : sh b = some (.inl 5)) (hw : sh w = some (.inr (3, 1))) (x1 : Int32) {ok : Int32 → mDt → Prop} {K : String → Prop} (hM : mXnI κ yX5_fall cX5_fall 2 (Option.some Jvm.ClassFile.FieldType.int) 7 109 1 6 [.ref b, .int x1] n sh P D E ok K) (hK : ∀ X, K X → X = xA) : mWMet κ yL_fall cL_fall 4 (Option.some Jvm.ClassFile.FieldType.int) [((0 : Nat), (9 : Nat), (12 : Nat), (13 : Nat))] { frames := 8, cells := 1, slots := 6, locals := 130 } [.ref b, .int x1, .ref w] n sh P D E (wQ n sh P D E w ok K cdA) := by
  refine mWMet_of (by decide) (Nat.le_of_ble_eq_true rfl) ?_
  intro Γ Q hQ h hT
  have h : mOk Γ κ RL cL_fall 4 (Option.some Jvm.ClassFile.FieldType.int) { frames := 8, cells := 1, slots := 6, locals := 130 } := h
  show mV Γ Q 0 0 n sh P D E [(0, .ref b), (1, .int x1), (2, .ref w)] [] 0
  refine V_aload_n h 1 2 rfl dL_fall_0 rfl ?_
  refine V_iconst h 2 (v := 0) (by decide) dL_fall_1 rfl ?_
  refine V_aload_n h 3 0 rfl dL_fall_2 rfl ?_
  refine V_iload_n h 4 1 rfl dL_fall_3 rfl ?_
  refine T_callV h hT 7 (rm := { frames := 7, cells := 1, slots := 6, locals := 109 }) (As := [.int x1]) (st := [.int 0, .ref w]) hM rfl hb5 qL_L_36 qI_X5_fall qS_X5_fall qZ_X5 qC_X5_fall hd_X5_fall ⟨Nat.le_of_ble_eq_true rfl, Nat.le_of_ble_eq_true rfl⟩ (Nat.le_of_ble_eq_true rfl) rfl rfl dL_fall_4 ⟨Nat.le_of_ble_eq_true rfl, Nat.le_of_ble_eq_true rfl⟩ (by decide) ?_ ?_
  · intro v n' sh' P' D' E' hq
    obtain ⟨q1, q2, q3, q4, r, q5, hok⟩ := hq
    rw [q1, q2, q3, q4, q5]
    refine V_i2l h 8 dL_fall_7 rfl ?_
    refine V_last h 9 0 hw rfl (by decide) (by decide) dL_fall_8 rfl ?_
    refine V_goto h 15 dL_fall_9 (by decide) ?_
    refine V_iconst h 16 (v := 0) (by decide) dL_fall_15 rfl ?_
    exact V_iret h rfl hQ (Nat.le_of_ble_eq_true rfl) (Nat.le_of_ble_eq_true rfl) ⟨Nat.le_refl _, rfl, rfl, _, rfl, Or.inl ⟨rfl, r, hok, rfl⟩⟩ dL_fall_16
  · intro X n' sh' P' D' E' hq
    obtain ⟨hKX, q1, q2, q3, q4, q5⟩ := hq
    rw [q2, q3, q4, q5]
    have hX := hK X hKX
    subst hX
    refine ⟨13, 12, Or.inl rfl, rfl, rfl, fun q9 => ?_⟩
    refine V_astore_n h 13 [(3, .ref q9), (0, .ref b), (1, .int x1), (2, .ref w)] (by decide) rfl dL_fall_12 rfl ?_
    refine V_iconst h 14 (v := 1) (by decide) dL_fall_13 rfl ?_
    exact V_iret h rfl hQ (Nat.le_of_ble_eq_true rfl) (Nat.le_of_ble_eq_true rfl) ⟨q1, rfl, rfl, _, rfl, Or.inr ⟨_, hKX, by decide, rfl, rfl⟩⟩ dL_fall_14

set_option maxRecDepth 100000 in
set_option maxHeartbeats 4000000 in
theorem l_pump {κ : mKp} {n : Nat} {sh : mSh} {P : mPt} {D : mDt} {E : mEt} {b w : Nat} (hb5 : sh b = some (.inl 5)) (hw : sh w = some (.inr (3, 1))) (x1 : Int32) {ok : Int32 → mDt → Prop} {K : String → Prop} (hM : mXnI κ yX5_pump cX5_pump 3 (Option.some Jvm.ClassFile.FieldType.int) 7 109 1 6 [.ref b, .int x1] n sh P D E ok K) (hK : ∀ X, K X → X = xA) : mWMet κ yL_pump cL_pump 4 (Option.some Jvm.ClassFile.FieldType.int) [((0 : Nat), (9 : Nat), (12 : Nat), (13 : Nat))] { frames := 8, cells := 1, slots := 6, locals := 131 } [.ref b, .int x1, .ref w] n sh P D E (wQ n sh P D E w ok K cdA) := by
  refine mWMet_of (by decide) (Nat.le_of_ble_eq_true rfl) ?_
  intro Γ Q hQ h hT
  have h : mOk Γ κ RL cL_pump 4 (Option.some Jvm.ClassFile.FieldType.int) { frames := 8, cells := 1, slots := 6, locals := 131 } := h
  show mV Γ Q 0 0 n sh P D E [(0, .ref b), (1, .int x1), (2, .ref w)] [] 0
  refine V_aload_n h 1 2 rfl dL_pump_0 rfl ?_
  refine V_iconst h 2 (v := 0) (by decide) dL_pump_1 rfl ?_
  refine V_aload_n h 3 0 rfl dL_pump_2 rfl ?_
  refine V_iload_n h 4 1 rfl dL_pump_3 rfl ?_
  refine T_callV h hT 7 (rm := { frames := 7, cells := 1, slots := 6, locals := 109 }) (As := [.int x1]) (st := [.int 0, .ref w]) hM rfl hb5 qL_L_39 qI_X5_pump qS_X5_pump qZ_X5 qC_X5_pump hd_X5_pump ⟨Nat.le_of_ble_eq_true rfl, Nat.le_of_ble_eq_true rfl⟩ (Nat.le_of_ble_eq_true rfl) rfl rfl dL_pump_4 ⟨Nat.le_of_ble_eq_true rfl, Nat.le_of_ble_eq_true rfl⟩ (by decide) ?_ ?_
  · intro v n' sh' P' D' E' hq
    obtain ⟨q1, q2, q3, q4, r, q5, hok⟩ := hq
    rw [q1, q2, q3, q4, q5]
    refine V_i2l h 8 dL_pump_7 rfl ?_
    refine V_last h 9 0 hw rfl (by decide) (by decide) dL_pump_8 rfl ?_
    refine V_goto h 15 dL_pump_9 (by decide) ?_
    refine V_iconst h 16 (v := 0) (by decide) dL_pump_15 rfl ?_
    exact V_iret h rfl hQ (Nat.le_of_ble_eq_true rfl) (Nat.le_of_ble_eq_true rfl) ⟨Nat.le_refl _, rfl, rfl, _, rfl, Or.inl ⟨rfl, r, hok, rfl⟩⟩ dL_pump_16
  · intro X n' sh' P' D' E' hq
    obtain ⟨hKX, q1, q2, q3, q4, q5⟩ := hq
    rw [q2, q3, q4, q5]
    have hX := hK X hKX
    subst hX
    refine ⟨13, 12, Or.inl rfl, rfl, rfl, fun q9 => ?_⟩
    refine V_astore_n h 13 [(3, .ref q9), (0, .ref b), (1, .int x1), (2, .ref w)] (by decide) rfl dL_pump_12 rfl ?_
    refine V_iconst h 14 (v := 1) (by decide) dL_pump_13 rfl ?_
    exact V_iret h rfl hQ (Nat.le_of_ble_eq_true rfl) (Nat.le_of_ble_eq_true rfl) ⟨q1, rfl, rfl, _, rfl, Or.inr ⟨_, hKX, by decide, rfl, rfl⟩⟩ dL_pump_14

set_option maxRecDepth 100000 in
set_option maxHeartbeats 4000000 in
theorem l_pollinate {κ : mKp} {n : Nat} {sh : mSh} {P : mPt} {D : mDt} {E : mEt} {b w : Nat} (hb5 : sh b = some (.inl 5)) (hw : sh w = some (.inr (3, 1))) (x1 x2 : Int32) {ok : Int32 → mDt → Prop} {K : String → Prop} (hM : mXnI κ yX5_pollinate cX5_pollinate 5 (Option.some Jvm.ClassFile.FieldType.int) 8 130 2 12 [.ref b, .int x1, .int x2] n sh P D E ok K) (hK : ∀ X, K X → X = xI ∨ X = xA) : mWMet κ yL_pollinate cL_pollinate 5 (Option.some Jvm.ClassFile.FieldType.int) [((0 : Nat), (10 : Nat), (13 : Nat), (20 : Nat)), ((0 : Nat), (10 : Nat), (17 : Nat), (13 : Nat))] { frames := 9, cells := 2, slots := 12, locals := 154 } [.ref b, .int x1, .int x2, .ref w] n sh P D E (wQ n sh P D E w ok K cdIA) := by
  refine mWMet_of (by decide) (Nat.le_of_ble_eq_true rfl) ?_
  intro Γ Q hQ h hT
  have h : mOk Γ κ RL cL_pollinate 5 (Option.some Jvm.ClassFile.FieldType.int) { frames := 9, cells := 2, slots := 12, locals := 154 } := h
  show mV Γ Q 0 0 n sh P D E [(0, .ref b), (1, .int x1), (2, .int x2), (3, .ref w)] [] 0
  refine V_aload_n h 1 3 rfl dL_pollinate_0 rfl ?_
  refine V_iconst h 2 (v := 0) (by decide) dL_pollinate_1 rfl ?_
  refine V_aload_n h 3 0 rfl dL_pollinate_2 rfl ?_
  refine V_iload_n h 4 1 rfl dL_pollinate_3 rfl ?_
  refine V_iload_n h 5 2 rfl dL_pollinate_4 rfl ?_
  refine T_callV h hT 8 (rm := { frames := 8, cells := 2, slots := 12, locals := 130 }) (As := [.int x1, .int x2]) (st := [.int 0, .ref w]) hM rfl hb5 qL_L_42 qI_X5_pollinate qS_X5_pollinate qZ_X5 qC_X5_pollinate hd_X5_pollinate ⟨Nat.le_of_ble_eq_true rfl, Nat.le_of_ble_eq_true rfl⟩ (Nat.le_of_ble_eq_true rfl) rfl rfl dL_pollinate_5 ⟨Nat.le_of_ble_eq_true rfl, Nat.le_of_ble_eq_true rfl⟩ (by decide) ?_ ?_
  · intro v n' sh' P' D' E' hq
    obtain ⟨q1, q2, q3, q4, r, q5, hok⟩ := hq
    rw [q1, q2, q3, q4, q5]
    refine V_i2l h 9 dL_pollinate_8 rfl ?_
    refine V_last h 10 0 hw rfl (by decide) (by decide) dL_pollinate_9 rfl ?_
    refine V_goto h 21 dL_pollinate_10 (by decide) ?_
    refine V_iconst h 22 (v := 0) (by decide) dL_pollinate_21 rfl ?_
    exact V_iret h rfl hQ (Nat.le_of_ble_eq_true rfl) (Nat.le_of_ble_eq_true rfl) ⟨Nat.le_refl _, rfl, rfl, _, rfl, Or.inl ⟨rfl, r, hok, rfl⟩⟩ dL_pollinate_22
  · intro X n' sh' P' D' E' hq
    obtain ⟨hKX, q1, q2, q3, q4, q5⟩ := hq
    rw [q2, q3, q4, q5]
    have hX := hK X hKX
    rcases hX with rfl | rfl
    · refine ⟨20, 13, Or.inr (Or.inr rfl), rfl, rfl, fun q9 => ?_⟩
      refine V_astore h 15 [(4, .ref q9), (0, .ref b), (1, .int x1), (2, .int x2), (3, .ref w)] (by decide) rfl dL_pollinate_13 rfl ?_
      refine V_iconst h 16 (v := 1) (by decide) dL_pollinate_15 rfl ?_
      exact V_iret h rfl hQ (Nat.le_of_ble_eq_true rfl) (Nat.le_of_ble_eq_true rfl) ⟨q1, rfl, rfl, _, rfl, Or.inr ⟨_, hKX, by decide, rfl, rfl⟩⟩ dL_pollinate_16
    · refine ⟨13, 17, Or.inl rfl, rfl, rfl, fun q9 => ?_⟩
      refine V_astore h 19 [(4, .ref q9), (0, .ref b), (1, .int x1), (2, .int x2), (3, .ref w)] (by decide) rfl dL_pollinate_17 rfl ?_
      refine V_iconst h 20 (v := 2) (by decide) dL_pollinate_19 rfl ?_
      exact V_iret h rfl hQ (Nat.le_of_ble_eq_true rfl) (Nat.le_of_ble_eq_true rfl) ⟨q1, rfl, rfl, _, rfl, Or.inr ⟨_, hKX, by decide, rfl, rfl⟩⟩ dL_pollinate_20

set_option maxRecDepth 100000 in
set_option maxHeartbeats 4000000 in
theorem l_pollen {κ : mKp} {n : Nat} {sh : mSh} {P : mPt} {D : mDt} {E : mEt} {b w : Nat} (hb5 : sh b = some (.inl 5)) (hw : sh w = some (.inr (3, 1))) (x1 x2 x3 : Int32) {ok : Int32 → mDt → Prop} {K : String → Prop} (hM : mXnI κ yX5_pollen cX5_pollen 6 (Option.some Jvm.ClassFile.FieldType.int) 8 130 3 18 [.ref b, .int x1, .int x2, .int x3] n sh P D E ok K) (hK : ∀ X, K X → X = xI ∨ X = xA) : mWMet κ yL_pollen cL_pollen 6 (Option.some Jvm.ClassFile.FieldType.int) [((0 : Nat), (12 : Nat), (15 : Nat), (20 : Nat)), ((0 : Nat), (12 : Nat), (19 : Nat), (13 : Nat))] { frames := 9, cells := 3, slots := 18, locals := 155 } [.ref b, .int x1, .int x2, .int x3, .ref w] n sh P D E (wQ n sh P D E w ok K cdIA) := by
  refine mWMet_of (by decide) (Nat.le_of_ble_eq_true rfl) ?_
  intro Γ Q hQ h hT
  have h : mOk Γ κ RL cL_pollen 6 (Option.some Jvm.ClassFile.FieldType.int) { frames := 9, cells := 3, slots := 18, locals := 155 } := h
  show mV Γ Q 0 0 n sh P D E [(0, .ref b), (1, .int x1), (2, .int x2), (3, .int x3), (4, .ref w)] [] 0
  refine V_aload h 2 4 rfl dL_pollen_0 rfl ?_
  refine V_iconst h 3 (v := 0) (by decide) dL_pollen_2 rfl ?_
  refine V_aload_n h 4 0 rfl dL_pollen_3 rfl ?_
  refine V_iload_n h 5 1 rfl dL_pollen_4 rfl ?_
  refine V_iload_n h 6 2 rfl dL_pollen_5 rfl ?_
  refine V_iload_n h 7 3 rfl dL_pollen_6 rfl ?_
  refine T_callV h hT 10 (rm := { frames := 8, cells := 3, slots := 18, locals := 130 }) (As := [.int x1, .int x2, .int x3]) (st := [.int 0, .ref w]) hM rfl hb5 qL_L_46 qI_X5_pollen qS_X5_pollen qZ_X5 qC_X5_pollen hd_X5_pollen ⟨Nat.le_of_ble_eq_true rfl, Nat.le_of_ble_eq_true rfl⟩ (Nat.le_of_ble_eq_true rfl) rfl rfl dL_pollen_7 ⟨Nat.le_of_ble_eq_true rfl, Nat.le_of_ble_eq_true rfl⟩ (by decide) ?_ ?_
  · intro v n' sh' P' D' E' hq
    obtain ⟨q1, q2, q3, q4, r, q5, hok⟩ := hq
    rw [q1, q2, q3, q4, q5]
    refine V_i2l h 11 dL_pollen_10 rfl ?_
    refine V_last h 12 0 hw rfl (by decide) (by decide) dL_pollen_11 rfl ?_
    refine V_goto h 23 dL_pollen_12 (by decide) ?_
    refine V_iconst h 24 (v := 0) (by decide) dL_pollen_23 rfl ?_
    exact V_iret h rfl hQ (Nat.le_of_ble_eq_true rfl) (Nat.le_of_ble_eq_true rfl) ⟨Nat.le_refl _, rfl, rfl, _, rfl, Or.inl ⟨rfl, r, hok, rfl⟩⟩ dL_pollen_24
  · intro X n' sh' P' D' E' hq
    obtain ⟨hKX, q1, q2, q3, q4, q5⟩ := hq
    rw [q2, q3, q4, q5]
    have hX := hK X hKX
    rcases hX with rfl | rfl
    · refine ⟨20, 15, Or.inr (Or.inr rfl), rfl, rfl, fun q9 => ?_⟩
      refine V_astore h 17 [(5, .ref q9), (0, .ref b), (1, .int x1), (2, .int x2), (3, .int x3), (4, .ref w)] (by decide) rfl dL_pollen_15 rfl ?_
      refine V_iconst h 18 (v := 1) (by decide) dL_pollen_17 rfl ?_
      exact V_iret h rfl hQ (Nat.le_of_ble_eq_true rfl) (Nat.le_of_ble_eq_true rfl) ⟨q1, rfl, rfl, _, rfl, Or.inr ⟨_, hKX, by decide, rfl, rfl⟩⟩ dL_pollen_18
    · refine ⟨13, 19, Or.inl rfl, rfl, rfl, fun q9 => ?_⟩
      refine V_astore h 21 [(5, .ref q9), (0, .ref b), (1, .int x1), (2, .int x2), (3, .int x3), (4, .ref w)] (by decide) rfl dL_pollen_19 rfl ?_
      refine V_iconst h 22 (v := 2) (by decide) dL_pollen_21 rfl ?_
      exact V_iret h rfl hQ (Nat.le_of_ble_eq_true rfl) (Nat.le_of_ble_eq_true rfl) ⟨q1, rfl, rfl, _, rfl, Or.inr ⟨_, hKX, by decide, rfl, rfl⟩⟩ dL_pollen_22

set_option maxRecDepth 100000 in
set_option maxHeartbeats 4000000 in
theorem l_ahead {κ : mKp} {n : Nat} {sh : mSh} {P : mPt} {D : mDt} {E : mEt} {b w : Nat} (hb5 : sh b = some (.inl 5)) (hw : sh w = some (.inr (3, 1))) (x1 x2 x3 x4 : Int32) {ok : Int32 → mDt → Prop} {K : String → Prop} (hM : mXnI κ yX5_ahead cX5_ahead 6 (Option.some Jvm.ClassFile.FieldType.int) 8 130 4 24 [.ref b, .int x1, .int x2, .int x3, .int x4] n sh P D E ok K) (hK : ∀ X, K X → X = xI ∨ X = xA ∨ X = xS) : mWMet κ yL_ahead cL_ahead 7 (Option.some Jvm.ClassFile.FieldType.int) [((0 : Nat), (14 : Nat), (17 : Nat), (20 : Nat)), ((0 : Nat), (14 : Nat), (21 : Nat), (13 : Nat)), ((0 : Nat), (14 : Nat), (25 : Nat), (15 : Nat))] { frames := 9, cells := 4, slots := 24, locals := 155 } [.ref b, .int x1, .int x2, .int x3, .int x4, .ref w] n sh P D E (wQ n sh P D E w ok K cdIAS) := by
  refine mWMet_of (by decide) (Nat.le_of_ble_eq_true rfl) ?_
  intro Γ Q hQ h hT
  have h : mOk Γ κ RL cL_ahead 7 (Option.some Jvm.ClassFile.FieldType.int) { frames := 9, cells := 4, slots := 24, locals := 155 } := h
  show mV Γ Q 0 0 n sh P D E [(0, .ref b), (1, .int x1), (2, .int x2), (3, .int x3), (4, .int x4), (5, .ref w)] [] 0
  refine V_aload h 2 5 rfl dL_ahead_0 rfl ?_
  refine V_iconst h 3 (v := 0) (by decide) dL_ahead_2 rfl ?_
  refine V_aload_n h 4 0 rfl dL_ahead_3 rfl ?_
  refine V_iload_n h 5 1 rfl dL_ahead_4 rfl ?_
  refine V_iload_n h 6 2 rfl dL_ahead_5 rfl ?_
  refine V_iload_n h 7 3 rfl dL_ahead_6 rfl ?_
  refine V_iload h 9 4 rfl dL_ahead_7 rfl ?_
  refine T_callV h hT 12 (rm := { frames := 8, cells := 4, slots := 24, locals := 130 }) (As := [.int x1, .int x2, .int x3, .int x4]) (st := [.int 0, .ref w]) hM rfl hb5 qL_L_49 qI_X5_ahead qS_X5_ahead qZ_X5 qC_X5_ahead hd_X5_ahead ⟨Nat.le_of_ble_eq_true rfl, Nat.le_of_ble_eq_true rfl⟩ (Nat.le_of_ble_eq_true rfl) rfl rfl dL_ahead_9 ⟨Nat.le_of_ble_eq_true rfl, Nat.le_of_ble_eq_true rfl⟩ (by decide) ?_ ?_
  · intro v n' sh' P' D' E' hq
    obtain ⟨q1, q2, q3, q4, r, q5, hok⟩ := hq
    rw [q1, q2, q3, q4, q5]
    refine V_i2l h 13 dL_ahead_12 rfl ?_
    refine V_last h 14 0 hw rfl (by decide) (by decide) dL_ahead_13 rfl ?_
    refine V_goto h 29 dL_ahead_14 (by decide) ?_
    refine V_iconst h 30 (v := 0) (by decide) dL_ahead_29 rfl ?_
    exact V_iret h rfl hQ (Nat.le_of_ble_eq_true rfl) (Nat.le_of_ble_eq_true rfl) ⟨Nat.le_refl _, rfl, rfl, _, rfl, Or.inl ⟨rfl, r, hok, rfl⟩⟩ dL_ahead_30
  · intro X n' sh' P' D' E' hq
    obtain ⟨hKX, q1, q2, q3, q4, q5⟩ := hq
    rw [q2, q3, q4, q5]
    have hX := hK X hKX
    rcases hX with rfl | rfl | rfl
    · refine ⟨20, 17, Or.inr (Or.inr rfl), rfl, rfl, fun q9 => ?_⟩
      refine V_astore h 19 [(6, .ref q9), (0, .ref b), (1, .int x1), (2, .int x2), (3, .int x3), (4, .int x4), (5, .ref w)] (by decide) rfl dL_ahead_17 rfl ?_
      refine V_iconst h 20 (v := 1) (by decide) dL_ahead_19 rfl ?_
      exact V_iret h rfl hQ (Nat.le_of_ble_eq_true rfl) (Nat.le_of_ble_eq_true rfl) ⟨q1, rfl, rfl, _, rfl, Or.inr ⟨_, hKX, by decide, rfl, rfl⟩⟩ dL_ahead_20
    · refine ⟨13, 21, Or.inl rfl, rfl, rfl, fun q9 => ?_⟩
      refine V_astore h 23 [(6, .ref q9), (0, .ref b), (1, .int x1), (2, .int x2), (3, .int x3), (4, .int x4), (5, .ref w)] (by decide) rfl dL_ahead_21 rfl ?_
      refine V_iconst h 24 (v := 2) (by decide) dL_ahead_23 rfl ?_
      exact V_iret h rfl hQ (Nat.le_of_ble_eq_true rfl) (Nat.le_of_ble_eq_true rfl) ⟨q1, rfl, rfl, _, rfl, Or.inr ⟨_, hKX, by decide, rfl, rfl⟩⟩ dL_ahead_24
    · refine ⟨15, 25, Or.inr (Or.inl rfl), rfl, rfl, fun q9 => ?_⟩
      refine V_astore h 27 [(6, .ref q9), (0, .ref b), (1, .int x1), (2, .int x2), (3, .int x3), (4, .int x4), (5, .ref w)] (by decide) rfl dL_ahead_25 rfl ?_
      refine V_iconst h 28 (v := 3) (by decide) dL_ahead_27 rfl ?_
      exact V_iret h rfl hQ (Nat.le_of_ble_eq_true rfl) (Nat.le_of_ble_eq_true rfl) ⟨q1, rfl, rfl, _, rfl, Or.inr ⟨_, hKX, by decide, rfl, rfl⟩⟩ dL_ahead_28

set_option maxRecDepth 100000 in
set_option maxHeartbeats 4000000 in
theorem l_pass {κ : mKp} {n : Nat} {sh : mSh} {P : mPt} {D : mDt} {E : mEt} {b w : Nat} (hb5 : sh b = some (.inl 5)) (hw : sh w = some (.inr (3, 1))) (x1 x2 : Int32) {ok : Int32 → mDt → Prop} {K : String → Prop} (hM : mXnI κ yX5_pass cX5_pass 3 (Option.some Jvm.ClassFile.FieldType.int) 7 147 2 12 [.ref b, .int x1, .int x2] n sh P D E ok K) (hK : ∀ X, K X → X = xA ∨ X = xS) : mWMet κ yL_pass cL_pass 5 (Option.some Jvm.ClassFile.FieldType.int) [((0 : Nat), (10 : Nat), (13 : Nat), (13 : Nat)), ((0 : Nat), (10 : Nat), (17 : Nat), (15 : Nat))] { frames := 8, cells := 2, slots := 12, locals := 169 } [.ref b, .int x1, .int x2, .ref w] n sh P D E (wQ n sh P D E w ok K cdAS) := by
  refine mWMet_of (by decide) (Nat.le_of_ble_eq_true rfl) ?_
  intro Γ Q hQ h hT
  have h : mOk Γ κ RL cL_pass 5 (Option.some Jvm.ClassFile.FieldType.int) { frames := 8, cells := 2, slots := 12, locals := 169 } := h
  show mV Γ Q 0 0 n sh P D E [(0, .ref b), (1, .int x1), (2, .int x2), (3, .ref w)] [] 0
  refine V_aload_n h 1 3 rfl dL_pass_0 rfl ?_
  refine V_iconst h 2 (v := 0) (by decide) dL_pass_1 rfl ?_
  refine V_aload_n h 3 0 rfl dL_pass_2 rfl ?_
  refine V_iload_n h 4 1 rfl dL_pass_3 rfl ?_
  refine V_iload_n h 5 2 rfl dL_pass_4 rfl ?_
  refine T_callV h hT 8 (rm := { frames := 7, cells := 2, slots := 12, locals := 147 }) (As := [.int x1, .int x2]) (st := [.int 0, .ref w]) hM rfl hb5 qL_L_52 qI_X5_pass qS_X5_pass qZ_X5 qC_X5_pass hd_X5_pass ⟨Nat.le_of_ble_eq_true rfl, Nat.le_of_ble_eq_true rfl⟩ (Nat.le_of_ble_eq_true rfl) rfl rfl dL_pass_5 ⟨Nat.le_of_ble_eq_true rfl, Nat.le_of_ble_eq_true rfl⟩ (by decide) ?_ ?_
  · intro v n' sh' P' D' E' hq
    obtain ⟨q1, q2, q3, q4, r, q5, hok⟩ := hq
    rw [q1, q2, q3, q4, q5]
    refine V_i2l h 9 dL_pass_8 rfl ?_
    refine V_last h 10 0 hw rfl (by decide) (by decide) dL_pass_9 rfl ?_
    refine V_goto h 21 dL_pass_10 (by decide) ?_
    refine V_iconst h 22 (v := 0) (by decide) dL_pass_21 rfl ?_
    exact V_iret h rfl hQ (Nat.le_of_ble_eq_true rfl) (Nat.le_of_ble_eq_true rfl) ⟨Nat.le_refl _, rfl, rfl, _, rfl, Or.inl ⟨rfl, r, hok, rfl⟩⟩ dL_pass_22
  · intro X n' sh' P' D' E' hq
    obtain ⟨hKX, q1, q2, q3, q4, q5⟩ := hq
    rw [q2, q3, q4, q5]
    have hX := hK X hKX
    rcases hX with rfl | rfl
    · refine ⟨13, 13, Or.inl rfl, rfl, rfl, fun q9 => ?_⟩
      refine V_astore h 15 [(4, .ref q9), (0, .ref b), (1, .int x1), (2, .int x2), (3, .ref w)] (by decide) rfl dL_pass_13 rfl ?_
      refine V_iconst h 16 (v := 1) (by decide) dL_pass_15 rfl ?_
      exact V_iret h rfl hQ (Nat.le_of_ble_eq_true rfl) (Nat.le_of_ble_eq_true rfl) ⟨q1, rfl, rfl, _, rfl, Or.inr ⟨_, hKX, by decide, rfl, rfl⟩⟩ dL_pass_16
    · refine ⟨15, 17, Or.inr (Or.inl rfl), rfl, rfl, fun q9 => ?_⟩
      refine V_astore h 19 [(4, .ref q9), (0, .ref b), (1, .int x1), (2, .int x2), (3, .ref w)] (by decide) rfl dL_pass_17 rfl ?_
      refine V_iconst h 20 (v := 2) (by decide) dL_pass_19 rfl ?_
      exact V_iret h rfl hQ (Nat.le_of_ble_eq_true rfl) (Nat.le_of_ble_eq_true rfl) ⟨q1, rfl, rfl, _, rfl, Or.inr ⟨_, hKX, by decide, rfl, rfl⟩⟩ dL_pass_20

set_option maxRecDepth 100000 in
set_option maxHeartbeats 4000000 in
theorem l_of {κ : mKp} {n : Nat} {sh : mSh} {P : mPt} {D : mDt} {E : mEt} {b w : Nat} (hb5 : sh b = some (.inl 5)) (hw : sh w = some (.inr (3, 1))) (x1 x2 : Int32) {ok : Int32 → mDt → Prop} {K : String → Prop} (hM : mXnI κ yX5_of cX5_of 3 (Option.some Jvm.ClassFile.FieldType.int) 8 130 2 12 [.ref b, .int x1, .int x2] n sh P D E ok K) (hK : ∀ X, K X → X = xI ∨ X = xA) : mWMet κ yL_of cL_of 5 (Option.some Jvm.ClassFile.FieldType.int) [((0 : Nat), (10 : Nat), (13 : Nat), (20 : Nat)), ((0 : Nat), (10 : Nat), (17 : Nat), (13 : Nat))] { frames := 9, cells := 2, slots := 12, locals := 152 } [.ref b, .int x1, .int x2, .ref w] n sh P D E (wQ n sh P D E w ok K cdIA) := by
  refine mWMet_of (by decide) (Nat.le_of_ble_eq_true rfl) ?_
  intro Γ Q hQ h hT
  have h : mOk Γ κ RL cL_of 5 (Option.some Jvm.ClassFile.FieldType.int) { frames := 9, cells := 2, slots := 12, locals := 152 } := h
  show mV Γ Q 0 0 n sh P D E [(0, .ref b), (1, .int x1), (2, .int x2), (3, .ref w)] [] 0
  refine V_aload_n h 1 3 rfl dL_of_0 rfl ?_
  refine V_iconst h 2 (v := 0) (by decide) dL_of_1 rfl ?_
  refine V_aload_n h 3 0 rfl dL_of_2 rfl ?_
  refine V_iload_n h 4 1 rfl dL_of_3 rfl ?_
  refine V_iload_n h 5 2 rfl dL_of_4 rfl ?_
  refine T_callV h hT 8 (rm := { frames := 8, cells := 2, slots := 12, locals := 130 }) (As := [.int x1, .int x2]) (st := [.int 0, .ref w]) hM rfl hb5 qL_L_55 qI_X5_of qS_X5_of qZ_X5 qC_X5_of hd_X5_of ⟨Nat.le_of_ble_eq_true rfl, Nat.le_of_ble_eq_true rfl⟩ (Nat.le_of_ble_eq_true rfl) rfl rfl dL_of_5 ⟨Nat.le_of_ble_eq_true rfl, Nat.le_of_ble_eq_true rfl⟩ (by decide) ?_ ?_
  · intro v n' sh' P' D' E' hq
    obtain ⟨q1, q2, q3, q4, r, q5, hok⟩ := hq
    rw [q1, q2, q3, q4, q5]
    refine V_i2l h 9 dL_of_8 rfl ?_
    refine V_last h 10 0 hw rfl (by decide) (by decide) dL_of_9 rfl ?_
    refine V_goto h 21 dL_of_10 (by decide) ?_
    refine V_iconst h 22 (v := 0) (by decide) dL_of_21 rfl ?_
    exact V_iret h rfl hQ (Nat.le_of_ble_eq_true rfl) (Nat.le_of_ble_eq_true rfl) ⟨Nat.le_refl _, rfl, rfl, _, rfl, Or.inl ⟨rfl, r, hok, rfl⟩⟩ dL_of_22
  · intro X n' sh' P' D' E' hq
    obtain ⟨hKX, q1, q2, q3, q4, q5⟩ := hq
    rw [q2, q3, q4, q5]
    have hX := hK X hKX
    rcases hX with rfl | rfl
    · refine ⟨20, 13, Or.inr (Or.inr rfl), rfl, rfl, fun q9 => ?_⟩
      refine V_astore h 15 [(4, .ref q9), (0, .ref b), (1, .int x1), (2, .int x2), (3, .ref w)] (by decide) rfl dL_of_13 rfl ?_
      refine V_iconst h 16 (v := 1) (by decide) dL_of_15 rfl ?_
      exact V_iret h rfl hQ (Nat.le_of_ble_eq_true rfl) (Nat.le_of_ble_eq_true rfl) ⟨q1, rfl, rfl, _, rfl, Or.inr ⟨_, hKX, by decide, rfl, rfl⟩⟩ dL_of_16
    · refine ⟨13, 17, Or.inl rfl, rfl, rfl, fun q9 => ?_⟩
      refine V_astore h 19 [(4, .ref q9), (0, .ref b), (1, .int x1), (2, .int x2), (3, .ref w)] (by decide) rfl dL_of_17 rfl ?_
      refine V_iconst h 20 (v := 2) (by decide) dL_of_19 rfl ?_
      exact V_iret h rfl hQ (Nat.le_of_ble_eq_true rfl) (Nat.le_of_ble_eq_true rfl) ⟨q1, rfl, rfl, _, rfl, Or.inr ⟨_, hKX, by decide, rfl, rfl⟩⟩ dL_of_20

set_option maxRecDepth 100000 in
set_option maxHeartbeats 4000000 in
theorem l_ofBowl {κ : mKp} {n : Nat} {sh : mSh} {P : mPt} {D : mDt} {E : mEt} {b w : Nat} (hb5 : sh b = some (.inl 5)) (hw : sh w = some (.inr (3, 1))) (x1 x2 : Int32) {ok : Int32 → mDt → Prop} {K : String → Prop} (hM : mXnI κ yX5_ofBowl cX5_ofBowl 3 (Option.some Jvm.ClassFile.FieldType.int) 7 109 2 12 [.ref b, .int x1, .int x2] n sh P D E ok K) (hK : ∀ X, K X → X = xI ∨ X = xA) : mWMet κ yL_ofBowl cL_ofBowl 5 (Option.some Jvm.ClassFile.FieldType.int) [((0 : Nat), (10 : Nat), (13 : Nat), (20 : Nat)), ((0 : Nat), (10 : Nat), (17 : Nat), (13 : Nat))] { frames := 8, cells := 2, slots := 12, locals := 131 } [.ref b, .int x1, .int x2, .ref w] n sh P D E (wQ n sh P D E w ok K cdIA) := by
  refine mWMet_of (by decide) (Nat.le_of_ble_eq_true rfl) ?_
  intro Γ Q hQ h hT
  have h : mOk Γ κ RL cL_ofBowl 5 (Option.some Jvm.ClassFile.FieldType.int) { frames := 8, cells := 2, slots := 12, locals := 131 } := h
  show mV Γ Q 0 0 n sh P D E [(0, .ref b), (1, .int x1), (2, .int x2), (3, .ref w)] [] 0
  refine V_aload_n h 1 3 rfl dL_ofBowl_0 rfl ?_
  refine V_iconst h 2 (v := 0) (by decide) dL_ofBowl_1 rfl ?_
  refine V_aload_n h 3 0 rfl dL_ofBowl_2 rfl ?_
  refine V_iload_n h 4 1 rfl dL_ofBowl_3 rfl ?_
  refine V_iload_n h 5 2 rfl dL_ofBowl_4 rfl ?_
  refine T_callV h hT 8 (rm := { frames := 7, cells := 2, slots := 12, locals := 109 }) (As := [.int x1, .int x2]) (st := [.int 0, .ref w]) hM rfl hb5 qL_L_58 qI_X5_ofBowl qS_X5_ofBowl qZ_X5 qC_X5_ofBowl hd_X5_ofBowl ⟨Nat.le_of_ble_eq_true rfl, Nat.le_of_ble_eq_true rfl⟩ (Nat.le_of_ble_eq_true rfl) rfl rfl dL_ofBowl_5 ⟨Nat.le_of_ble_eq_true rfl, Nat.le_of_ble_eq_true rfl⟩ (by decide) ?_ ?_
  · intro v n' sh' P' D' E' hq
    obtain ⟨q1, q2, q3, q4, r, q5, hok⟩ := hq
    rw [q1, q2, q3, q4, q5]
    refine V_i2l h 9 dL_ofBowl_8 rfl ?_
    refine V_last h 10 0 hw rfl (by decide) (by decide) dL_ofBowl_9 rfl ?_
    refine V_goto h 21 dL_ofBowl_10 (by decide) ?_
    refine V_iconst h 22 (v := 0) (by decide) dL_ofBowl_21 rfl ?_
    exact V_iret h rfl hQ (Nat.le_of_ble_eq_true rfl) (Nat.le_of_ble_eq_true rfl) ⟨Nat.le_refl _, rfl, rfl, _, rfl, Or.inl ⟨rfl, r, hok, rfl⟩⟩ dL_ofBowl_22
  · intro X n' sh' P' D' E' hq
    obtain ⟨hKX, q1, q2, q3, q4, q5⟩ := hq
    rw [q2, q3, q4, q5]
    have hX := hK X hKX
    rcases hX with rfl | rfl
    · refine ⟨20, 13, Or.inr (Or.inr rfl), rfl, rfl, fun q9 => ?_⟩
      refine V_astore h 15 [(4, .ref q9), (0, .ref b), (1, .int x1), (2, .int x2), (3, .ref w)] (by decide) rfl dL_ofBowl_13 rfl ?_
      refine V_iconst h 16 (v := 1) (by decide) dL_ofBowl_15 rfl ?_
      exact V_iret h rfl hQ (Nat.le_of_ble_eq_true rfl) (Nat.le_of_ble_eq_true rfl) ⟨q1, rfl, rfl, _, rfl, Or.inr ⟨_, hKX, by decide, rfl, rfl⟩⟩ dL_ofBowl_16
    · refine ⟨13, 17, Or.inl rfl, rfl, rfl, fun q9 => ?_⟩
      refine V_astore h 19 [(4, .ref q9), (0, .ref b), (1, .int x1), (2, .int x2), (3, .ref w)] (by decide) rfl dL_ofBowl_17 rfl ?_
      refine V_iconst h 20 (v := 2) (by decide) dL_ofBowl_19 rfl ?_
      exact V_iret h rfl hQ (Nat.le_of_ble_eq_true rfl) (Nat.le_of_ble_eq_true rfl) ⟨q1, rfl, rfl, _, rfl, Or.inr ⟨_, hKX, by decide, rfl, rfl⟩⟩ dL_ofBowl_20

set_option maxRecDepth 100000 in
set_option maxHeartbeats 4000000 in
theorem l_ofLoan {κ : mKp} {n : Nat} {sh : mSh} {P : mPt} {D : mDt} {E : mEt} {b w : Nat} (hb5 : sh b = some (.inl 5)) (hw : sh w = some (.inr (3, 1))) (x1 x2 : Int32) {ok : Int32 → mDt → Prop} {K : String → Prop} (hM : mXnI κ yX5_ofLoan cX5_ofLoan 3 (Option.some Jvm.ClassFile.FieldType.int) 7 109 2 12 [.ref b, .int x1, .int x2] n sh P D E ok K) (hK : ∀ X, K X → X = xI ∨ X = xA) : mWMet κ yL_ofLoan cL_ofLoan 5 (Option.some Jvm.ClassFile.FieldType.int) [((0 : Nat), (10 : Nat), (13 : Nat), (20 : Nat)), ((0 : Nat), (10 : Nat), (17 : Nat), (13 : Nat))] { frames := 8, cells := 2, slots := 12, locals := 131 } [.ref b, .int x1, .int x2, .ref w] n sh P D E (wQ n sh P D E w ok K cdIA) := by
  refine mWMet_of (by decide) (Nat.le_of_ble_eq_true rfl) ?_
  intro Γ Q hQ h hT
  have h : mOk Γ κ RL cL_ofLoan 5 (Option.some Jvm.ClassFile.FieldType.int) { frames := 8, cells := 2, slots := 12, locals := 131 } := h
  show mV Γ Q 0 0 n sh P D E [(0, .ref b), (1, .int x1), (2, .int x2), (3, .ref w)] [] 0
  refine V_aload_n h 1 3 rfl dL_ofLoan_0 rfl ?_
  refine V_iconst h 2 (v := 0) (by decide) dL_ofLoan_1 rfl ?_
  refine V_aload_n h 3 0 rfl dL_ofLoan_2 rfl ?_
  refine V_iload_n h 4 1 rfl dL_ofLoan_3 rfl ?_
  refine V_iload_n h 5 2 rfl dL_ofLoan_4 rfl ?_
  refine T_callV h hT 8 (rm := { frames := 7, cells := 2, slots := 12, locals := 109 }) (As := [.int x1, .int x2]) (st := [.int 0, .ref w]) hM rfl hb5 qL_L_61 qI_X5_ofLoan qS_X5_ofLoan qZ_X5 qC_X5_ofLoan hd_X5_ofLoan ⟨Nat.le_of_ble_eq_true rfl, Nat.le_of_ble_eq_true rfl⟩ (Nat.le_of_ble_eq_true rfl) rfl rfl dL_ofLoan_5 ⟨Nat.le_of_ble_eq_true rfl, Nat.le_of_ble_eq_true rfl⟩ (by decide) ?_ ?_
  · intro v n' sh' P' D' E' hq
    obtain ⟨q1, q2, q3, q4, r, q5, hok⟩ := hq
    rw [q1, q2, q3, q4, q5]
    refine V_i2l h 9 dL_ofLoan_8 rfl ?_
    refine V_last h 10 0 hw rfl (by decide) (by decide) dL_ofLoan_9 rfl ?_
    refine V_goto h 21 dL_ofLoan_10 (by decide) ?_
    refine V_iconst h 22 (v := 0) (by decide) dL_ofLoan_21 rfl ?_
    exact V_iret h rfl hQ (Nat.le_of_ble_eq_true rfl) (Nat.le_of_ble_eq_true rfl) ⟨Nat.le_refl _, rfl, rfl, _, rfl, Or.inl ⟨rfl, r, hok, rfl⟩⟩ dL_ofLoan_22
  · intro X n' sh' P' D' E' hq
    obtain ⟨hKX, q1, q2, q3, q4, q5⟩ := hq
    rw [q2, q3, q4, q5]
    have hX := hK X hKX
    rcases hX with rfl | rfl
    · refine ⟨20, 13, Or.inr (Or.inr rfl), rfl, rfl, fun q9 => ?_⟩
      refine V_astore h 15 [(4, .ref q9), (0, .ref b), (1, .int x1), (2, .int x2), (3, .ref w)] (by decide) rfl dL_ofLoan_13 rfl ?_
      refine V_iconst h 16 (v := 1) (by decide) dL_ofLoan_15 rfl ?_
      exact V_iret h rfl hQ (Nat.le_of_ble_eq_true rfl) (Nat.le_of_ble_eq_true rfl) ⟨q1, rfl, rfl, _, rfl, Or.inr ⟨_, hKX, by decide, rfl, rfl⟩⟩ dL_ofLoan_16
    · refine ⟨13, 17, Or.inl rfl, rfl, rfl, fun q9 => ?_⟩
      refine V_astore h 19 [(4, .ref q9), (0, .ref b), (1, .int x1), (2, .int x2), (3, .ref w)] (by decide) rfl dL_ofLoan_17 rfl ?_
      refine V_iconst h 20 (v := 2) (by decide) dL_ofLoan_19 rfl ?_
      exact V_iret h rfl hQ (Nat.le_of_ble_eq_true rfl) (Nat.le_of_ble_eq_true rfl) ⟨q1, rfl, rfl, _, rfl, Or.inr ⟨_, hKX, by decide, rfl, rfl⟩⟩ dL_ofLoan_20

set_option maxRecDepth 100000 in
set_option maxHeartbeats 4000000 in
theorem l_ofSale {κ : mKp} {n : Nat} {sh : mSh} {P : mPt} {D : mDt} {E : mEt} {b w : Nat} (hb5 : sh b = some (.inl 5)) (hw : sh w = some (.inr (3, 1))) (x1 x2 : Int32) {ok : Int32 → mDt → Prop} {K : String → Prop} (hM : mXnI κ yX5_ofSale cX5_ofSale 3 (Option.some Jvm.ClassFile.FieldType.int) 7 109 2 12 [.ref b, .int x1, .int x2] n sh P D E ok K) (hK : ∀ X, K X → X = xI ∨ X = xA) : mWMet κ yL_ofSale cL_ofSale 5 (Option.some Jvm.ClassFile.FieldType.int) [((0 : Nat), (10 : Nat), (13 : Nat), (20 : Nat)), ((0 : Nat), (10 : Nat), (17 : Nat), (13 : Nat))] { frames := 8, cells := 2, slots := 12, locals := 131 } [.ref b, .int x1, .int x2, .ref w] n sh P D E (wQ n sh P D E w ok K cdIA) := by
  refine mWMet_of (by decide) (Nat.le_of_ble_eq_true rfl) ?_
  intro Γ Q hQ h hT
  have h : mOk Γ κ RL cL_ofSale 5 (Option.some Jvm.ClassFile.FieldType.int) { frames := 8, cells := 2, slots := 12, locals := 131 } := h
  show mV Γ Q 0 0 n sh P D E [(0, .ref b), (1, .int x1), (2, .int x2), (3, .ref w)] [] 0
  refine V_aload_n h 1 3 rfl dL_ofSale_0 rfl ?_
  refine V_iconst h 2 (v := 0) (by decide) dL_ofSale_1 rfl ?_
  refine V_aload_n h 3 0 rfl dL_ofSale_2 rfl ?_
  refine V_iload_n h 4 1 rfl dL_ofSale_3 rfl ?_
  refine V_iload_n h 5 2 rfl dL_ofSale_4 rfl ?_
  refine T_callV h hT 8 (rm := { frames := 7, cells := 2, slots := 12, locals := 109 }) (As := [.int x1, .int x2]) (st := [.int 0, .ref w]) hM rfl hb5 qL_L_64 qI_X5_ofSale qS_X5_ofSale qZ_X5 qC_X5_ofSale hd_X5_ofSale ⟨Nat.le_of_ble_eq_true rfl, Nat.le_of_ble_eq_true rfl⟩ (Nat.le_of_ble_eq_true rfl) rfl rfl dL_ofSale_5 ⟨Nat.le_of_ble_eq_true rfl, Nat.le_of_ble_eq_true rfl⟩ (by decide) ?_ ?_
  · intro v n' sh' P' D' E' hq
    obtain ⟨q1, q2, q3, q4, r, q5, hok⟩ := hq
    rw [q1, q2, q3, q4, q5]
    refine V_i2l h 9 dL_ofSale_8 rfl ?_
    refine V_last h 10 0 hw rfl (by decide) (by decide) dL_ofSale_9 rfl ?_
    refine V_goto h 21 dL_ofSale_10 (by decide) ?_
    refine V_iconst h 22 (v := 0) (by decide) dL_ofSale_21 rfl ?_
    exact V_iret h rfl hQ (Nat.le_of_ble_eq_true rfl) (Nat.le_of_ble_eq_true rfl) ⟨Nat.le_refl _, rfl, rfl, _, rfl, Or.inl ⟨rfl, r, hok, rfl⟩⟩ dL_ofSale_22
  · intro X n' sh' P' D' E' hq
    obtain ⟨hKX, q1, q2, q3, q4, q5⟩ := hq
    rw [q2, q3, q4, q5]
    have hX := hK X hKX
    rcases hX with rfl | rfl
    · refine ⟨20, 13, Or.inr (Or.inr rfl), rfl, rfl, fun q9 => ?_⟩
      refine V_astore h 15 [(4, .ref q9), (0, .ref b), (1, .int x1), (2, .int x2), (3, .ref w)] (by decide) rfl dL_ofSale_13 rfl ?_
      refine V_iconst h 16 (v := 1) (by decide) dL_ofSale_15 rfl ?_
      exact V_iret h rfl hQ (Nat.le_of_ble_eq_true rfl) (Nat.le_of_ble_eq_true rfl) ⟨q1, rfl, rfl, _, rfl, Or.inr ⟨_, hKX, by decide, rfl, rfl⟩⟩ dL_ofSale_16
    · refine ⟨13, 17, Or.inl rfl, rfl, rfl, fun q9 => ?_⟩
      refine V_astore h 19 [(4, .ref q9), (0, .ref b), (1, .int x1), (2, .int x2), (3, .ref w)] (by decide) rfl dL_ofSale_17 rfl ?_
      refine V_iconst h 20 (v := 2) (by decide) dL_ofSale_19 rfl ?_
      exact V_iret h rfl hQ (Nat.le_of_ble_eq_true rfl) (Nat.le_of_ble_eq_true rfl) ⟨q1, rfl, rfl, _, rfl, Or.inr ⟨_, hKX, by decide, rfl, rfl⟩⟩ dL_ofSale_20

set_option maxRecDepth 100000 in
set_option maxHeartbeats 4000000 in
theorem l_many {κ : mKp} {n : Nat} {sh : mSh} {P : mPt} {D : mDt} {E : mEt} {b w : Nat} (hb5 : sh b = some (.inl 5)) (hw : sh w = some (.inr (3, 1))) (x1 : Int32) {ok : Int32 → mDt → Prop} {K : String → Prop} (hM : mXnI κ yX5_many cX5_many 2 (Option.some Jvm.ClassFile.FieldType.int) 7 109 1 6 [.ref b, .int x1] n sh P D E ok K) (hK : ∀ X, K X → X = xA) : mWMet κ yL_many cL_many 4 (Option.some Jvm.ClassFile.FieldType.int) [((0 : Nat), (9 : Nat), (12 : Nat), (13 : Nat))] { frames := 8, cells := 1, slots := 6, locals := 130 } [.ref b, .int x1, .ref w] n sh P D E (wQ n sh P D E w ok K cdA) := by
  refine mWMet_of (by decide) (Nat.le_of_ble_eq_true rfl) ?_
  intro Γ Q hQ h hT
  have h : mOk Γ κ RL cL_many 4 (Option.some Jvm.ClassFile.FieldType.int) { frames := 8, cells := 1, slots := 6, locals := 130 } := h
  show mV Γ Q 0 0 n sh P D E [(0, .ref b), (1, .int x1), (2, .ref w)] [] 0
  refine V_aload_n h 1 2 rfl dL_many_0 rfl ?_
  refine V_iconst h 2 (v := 0) (by decide) dL_many_1 rfl ?_
  refine V_aload_n h 3 0 rfl dL_many_2 rfl ?_
  refine V_iload_n h 4 1 rfl dL_many_3 rfl ?_
  refine T_callV h hT 7 (rm := { frames := 7, cells := 1, slots := 6, locals := 109 }) (As := [.int x1]) (st := [.int 0, .ref w]) hM rfl hb5 qL_L_67 qI_X5_many qS_X5_many qZ_X5 qC_X5_many hd_X5_many ⟨Nat.le_of_ble_eq_true rfl, Nat.le_of_ble_eq_true rfl⟩ (Nat.le_of_ble_eq_true rfl) rfl rfl dL_many_4 ⟨Nat.le_of_ble_eq_true rfl, Nat.le_of_ble_eq_true rfl⟩ (by decide) ?_ ?_
  · intro v n' sh' P' D' E' hq
    obtain ⟨q1, q2, q3, q4, r, q5, hok⟩ := hq
    rw [q1, q2, q3, q4, q5]
    refine V_i2l h 8 dL_many_7 rfl ?_
    refine V_last h 9 0 hw rfl (by decide) (by decide) dL_many_8 rfl ?_
    refine V_goto h 15 dL_many_9 (by decide) ?_
    refine V_iconst h 16 (v := 0) (by decide) dL_many_15 rfl ?_
    exact V_iret h rfl hQ (Nat.le_of_ble_eq_true rfl) (Nat.le_of_ble_eq_true rfl) ⟨Nat.le_refl _, rfl, rfl, _, rfl, Or.inl ⟨rfl, r, hok, rfl⟩⟩ dL_many_16
  · intro X n' sh' P' D' E' hq
    obtain ⟨hKX, q1, q2, q3, q4, q5⟩ := hq
    rw [q2, q3, q4, q5]
    have hX := hK X hKX
    subst hX
    refine ⟨13, 12, Or.inl rfl, rfl, rfl, fun q9 => ?_⟩
    refine V_astore_n h 13 [(3, .ref q9), (0, .ref b), (1, .int x1), (2, .ref w)] (by decide) rfl dL_many_12 rfl ?_
    refine V_iconst h 14 (v := 1) (by decide) dL_many_13 rfl ?_
    exact V_iret h rfl hQ (Nat.le_of_ble_eq_true rfl) (Nat.le_of_ble_eq_true rfl) ⟨q1, rfl, rfl, _, rfl, Or.inr ⟨_, hKX, by decide, rfl, rfl⟩⟩ dL_many_14

set_option maxRecDepth 100000 in
set_option maxHeartbeats 4000000 in
theorem l_wouldCome {κ : mKp} {n : Nat} {sh : mSh} {P : mPt} {D : mDt} {E : mEt} {b w : Nat} (hb5 : sh b = some (.inl 5)) (hw : sh w = some (.inr (3, 1))) (x1 x2 x3 : Int32) {ok : Int32 → mDt → Prop} {K : String → Prop} (hM : mXnI κ yX5_wouldCome cX5_wouldCome 4 (Option.some Jvm.ClassFile.FieldType.int) 8 169 2 12 [.ref b, .int x1, .int x2, .int x3] n sh P D E ok K) (hK : ∀ X, K X → X = xI ∨ X = xA) : mWMet κ yL_wouldCome cL_wouldCome 6 (Option.some Jvm.ClassFile.FieldType.int) [((0 : Nat), (12 : Nat), (15 : Nat), (20 : Nat)), ((0 : Nat), (12 : Nat), (19 : Nat), (13 : Nat))] { frames := 9, cells := 2, slots := 12, locals := 192 } [.ref b, .int x1, .int x2, .int x3, .ref w] n sh P D E (wQ n sh P D E w ok K cdIA) := by
  refine mWMet_of (by decide) (Nat.le_of_ble_eq_true rfl) ?_
  intro Γ Q hQ h hT
  have h : mOk Γ κ RL cL_wouldCome 6 (Option.some Jvm.ClassFile.FieldType.int) { frames := 9, cells := 2, slots := 12, locals := 192 } := h
  show mV Γ Q 0 0 n sh P D E [(0, .ref b), (1, .int x1), (2, .int x2), (3, .int x3), (4, .ref w)] [] 0
  refine V_aload h 2 4 rfl dL_wouldCome_0 rfl ?_
  refine V_iconst h 3 (v := 0) (by decide) dL_wouldCome_2 rfl ?_
  refine V_aload_n h 4 0 rfl dL_wouldCome_3 rfl ?_
  refine V_iload_n h 5 1 rfl dL_wouldCome_4 rfl ?_
  refine V_iload_n h 6 2 rfl dL_wouldCome_5 rfl ?_
  refine V_iload_n h 7 3 rfl dL_wouldCome_6 rfl ?_
  refine T_callV h hT 10 (rm := { frames := 8, cells := 2, slots := 12, locals := 169 }) (As := [.int x1, .int x2, .int x3]) (st := [.int 0, .ref w]) hM rfl hb5 qL_L_70 qI_X5_wouldCome qS_X5_wouldCome qZ_X5 qC_X5_wouldCome hd_X5_wouldCome ⟨Nat.le_of_ble_eq_true rfl, Nat.le_of_ble_eq_true rfl⟩ (Nat.le_of_ble_eq_true rfl) rfl rfl dL_wouldCome_7 ⟨Nat.le_of_ble_eq_true rfl, Nat.le_of_ble_eq_true rfl⟩ (by decide) ?_ ?_
  · intro v n' sh' P' D' E' hq
    obtain ⟨q1, q2, q3, q4, r, q5, hok⟩ := hq
    rw [q1, q2, q3, q4, q5]
    refine V_i2l h 11 dL_wouldCome_10 rfl ?_
    refine V_last h 12 0 hw rfl (by decide) (by decide) dL_wouldCome_11 rfl ?_
    refine V_goto h 23 dL_wouldCome_12 (by decide) ?_
    refine V_iconst h 24 (v := 0) (by decide) dL_wouldCome_23 rfl ?_
    exact V_iret h rfl hQ (Nat.le_of_ble_eq_true rfl) (Nat.le_of_ble_eq_true rfl) ⟨Nat.le_refl _, rfl, rfl, _, rfl, Or.inl ⟨rfl, r, hok, rfl⟩⟩ dL_wouldCome_24
  · intro X n' sh' P' D' E' hq
    obtain ⟨hKX, q1, q2, q3, q4, q5⟩ := hq
    rw [q2, q3, q4, q5]
    have hX := hK X hKX
    rcases hX with rfl | rfl
    · refine ⟨20, 15, Or.inr (Or.inr rfl), rfl, rfl, fun q9 => ?_⟩
      refine V_astore h 17 [(5, .ref q9), (0, .ref b), (1, .int x1), (2, .int x2), (3, .int x3), (4, .ref w)] (by decide) rfl dL_wouldCome_15 rfl ?_
      refine V_iconst h 18 (v := 1) (by decide) dL_wouldCome_17 rfl ?_
      exact V_iret h rfl hQ (Nat.le_of_ble_eq_true rfl) (Nat.le_of_ble_eq_true rfl) ⟨q1, rfl, rfl, _, rfl, Or.inr ⟨_, hKX, by decide, rfl, rfl⟩⟩ dL_wouldCome_18
    · refine ⟨13, 19, Or.inl rfl, rfl, rfl, fun q9 => ?_⟩
      refine V_astore h 21 [(5, .ref q9), (0, .ref b), (1, .int x1), (2, .int x2), (3, .int x3), (4, .ref w)] (by decide) rfl dL_wouldCome_19 rfl ?_
      refine V_iconst h 22 (v := 2) (by decide) dL_wouldCome_21 rfl ?_
      exact V_iret h rfl hQ (Nat.le_of_ble_eq_true rfl) (Nat.le_of_ble_eq_true rfl) ⟨q1, rfl, rfl, _, rfl, Or.inr ⟨_, hKX, by decide, rfl, rfl⟩⟩ dL_wouldCome_22

set_option maxRecDepth 100000 in
set_option maxHeartbeats 4000000 in
theorem l_bestDig {κ : mKp} {n : Nat} {sh : mSh} {P : mPt} {D : mDt} {E : mEt} {b w : Nat} (hb5 : sh b = some (.inl 5)) (hw : sh w = some (.inr (3, 1))) (x1 x2 : Int32) {ok : Int32 → mDt → Prop} {K : String → Prop} (hM : mXnI κ yX5_bestDig cX5_bestDig 7 (Option.some Jvm.ClassFile.FieldType.int) 7 147 1 6 [.ref b, .int x1, .int x2] n sh P D E ok K) (hK : ∀ X, K X → X = xA) : mWMet κ yL_bestDig cL_bestDig 5 (Option.some Jvm.ClassFile.FieldType.int) [((0 : Nat), (10 : Nat), (13 : Nat), (13 : Nat))] { frames := 8, cells := 1, slots := 6, locals := 173 } [.ref b, .int x1, .int x2, .ref w] n sh P D E (wQ n sh P D E w ok K cdA) := by
  refine mWMet_of (by decide) (Nat.le_of_ble_eq_true rfl) ?_
  intro Γ Q hQ h hT
  have h : mOk Γ κ RL cL_bestDig 5 (Option.some Jvm.ClassFile.FieldType.int) { frames := 8, cells := 1, slots := 6, locals := 173 } := h
  show mV Γ Q 0 0 n sh P D E [(0, .ref b), (1, .int x1), (2, .int x2), (3, .ref w)] [] 0
  refine V_aload_n h 1 3 rfl dL_bestDig_0 rfl ?_
  refine V_iconst h 2 (v := 0) (by decide) dL_bestDig_1 rfl ?_
  refine V_aload_n h 3 0 rfl dL_bestDig_2 rfl ?_
  refine V_iload_n h 4 1 rfl dL_bestDig_3 rfl ?_
  refine V_iload_n h 5 2 rfl dL_bestDig_4 rfl ?_
  refine T_callV h hT 8 (rm := { frames := 7, cells := 1, slots := 6, locals := 147 }) (As := [.int x1, .int x2]) (st := [.int 0, .ref w]) hM rfl hb5 qL_L_73 qI_X5_bestDig qS_X5_bestDig qZ_X5 qC_X5_bestDig hd_X5_bestDig ⟨Nat.le_of_ble_eq_true rfl, Nat.le_of_ble_eq_true rfl⟩ (Nat.le_of_ble_eq_true rfl) rfl rfl dL_bestDig_5 ⟨Nat.le_of_ble_eq_true rfl, Nat.le_of_ble_eq_true rfl⟩ (by decide) ?_ ?_
  · intro v n' sh' P' D' E' hq
    obtain ⟨q1, q2, q3, q4, r, q5, hok⟩ := hq
    rw [q1, q2, q3, q4, q5]
    refine V_i2l h 9 dL_bestDig_8 rfl ?_
    refine V_last h 10 0 hw rfl (by decide) (by decide) dL_bestDig_9 rfl ?_
    refine V_goto h 17 dL_bestDig_10 (by decide) ?_
    refine V_iconst h 18 (v := 0) (by decide) dL_bestDig_17 rfl ?_
    exact V_iret h rfl hQ (Nat.le_of_ble_eq_true rfl) (Nat.le_of_ble_eq_true rfl) ⟨Nat.le_refl _, rfl, rfl, _, rfl, Or.inl ⟨rfl, r, hok, rfl⟩⟩ dL_bestDig_18
  · intro X n' sh' P' D' E' hq
    obtain ⟨hKX, q1, q2, q3, q4, q5⟩ := hq
    rw [q2, q3, q4, q5]
    have hX := hK X hKX
    subst hX
    refine ⟨13, 13, Or.inl rfl, rfl, rfl, fun q9 => ?_⟩
    refine V_astore h 15 [(4, .ref q9), (0, .ref b), (1, .int x1), (2, .int x2), (3, .ref w)] (by decide) rfl dL_bestDig_13 rfl ?_
    refine V_iconst h 16 (v := 1) (by decide) dL_bestDig_15 rfl ?_
    exact V_iret h rfl hQ (Nat.le_of_ble_eq_true rfl) (Nat.le_of_ble_eq_true rfl) ⟨q1, rfl, rfl, _, rfl, Or.inr ⟨_, hKX, by decide, rfl, rfl⟩⟩ dL_bestDig_16

set_option maxRecDepth 100000 in
set_option maxHeartbeats 4000000 in
theorem l_pumpTakes {κ : mKp} {n : Nat} {sh : mSh} {P : mPt} {D : mDt} {E : mEt} {b w : Nat} (hb5 : sh b = some (.inl 5)) (hw : sh w = some (.inr (3, 1))) (x1 x2 x3 : Int32) {ok : Int32 → mDt → Prop} {K : String → Prop} (hM : mXnI κ yX5_pumpTakes cX5_pumpTakes 5 (Option.some Jvm.ClassFile.FieldType.int) 7 147 1 6 [.ref b, .int x1, .int x2, .int x3] n sh P D E ok K) (hK : ∀ X, K X → X = xA) : mWMet κ yL_pumpTakes cL_pumpTakes 6 (Option.some Jvm.ClassFile.FieldType.int) [((0 : Nat), (12 : Nat), (15 : Nat), (13 : Nat))] { frames := 8, cells := 1, slots := 6, locals := 171 } [.ref b, .int x1, .int x2, .int x3, .ref w] n sh P D E (wQ n sh P D E w ok K cdA) := by
  refine mWMet_of (by decide) (Nat.le_of_ble_eq_true rfl) ?_
  intro Γ Q hQ h hT
  have h : mOk Γ κ RL cL_pumpTakes 6 (Option.some Jvm.ClassFile.FieldType.int) { frames := 8, cells := 1, slots := 6, locals := 171 } := h
  show mV Γ Q 0 0 n sh P D E [(0, .ref b), (1, .int x1), (2, .int x2), (3, .int x3), (4, .ref w)] [] 0
  refine V_aload h 2 4 rfl dL_pumpTakes_0 rfl ?_
  refine V_iconst h 3 (v := 0) (by decide) dL_pumpTakes_2 rfl ?_
  refine V_aload_n h 4 0 rfl dL_pumpTakes_3 rfl ?_
  refine V_iload_n h 5 1 rfl dL_pumpTakes_4 rfl ?_
  refine V_iload_n h 6 2 rfl dL_pumpTakes_5 rfl ?_
  refine V_iload_n h 7 3 rfl dL_pumpTakes_6 rfl ?_
  refine T_callV h hT 10 (rm := { frames := 7, cells := 1, slots := 6, locals := 147 }) (As := [.int x1, .int x2, .int x3]) (st := [.int 0, .ref w]) hM rfl hb5 qL_L_76 qI_X5_pumpTakes qS_X5_pumpTakes qZ_X5 qC_X5_pumpTakes hd_X5_pumpTakes ⟨Nat.le_of_ble_eq_true rfl, Nat.le_of_ble_eq_true rfl⟩ (Nat.le_of_ble_eq_true rfl) rfl rfl dL_pumpTakes_7 ⟨Nat.le_of_ble_eq_true rfl, Nat.le_of_ble_eq_true rfl⟩ (by decide) ?_ ?_
  · intro v n' sh' P' D' E' hq
    obtain ⟨q1, q2, q3, q4, r, q5, hok⟩ := hq
    rw [q1, q2, q3, q4, q5]
    refine V_i2l h 11 dL_pumpTakes_10 rfl ?_
    refine V_last h 12 0 hw rfl (by decide) (by decide) dL_pumpTakes_11 rfl ?_
    refine V_goto h 19 dL_pumpTakes_12 (by decide) ?_
    refine V_iconst h 20 (v := 0) (by decide) dL_pumpTakes_19 rfl ?_
    exact V_iret h rfl hQ (Nat.le_of_ble_eq_true rfl) (Nat.le_of_ble_eq_true rfl) ⟨Nat.le_refl _, rfl, rfl, _, rfl, Or.inl ⟨rfl, r, hok, rfl⟩⟩ dL_pumpTakes_20
  · intro X n' sh' P' D' E' hq
    obtain ⟨hKX, q1, q2, q3, q4, q5⟩ := hq
    rw [q2, q3, q4, q5]
    have hX := hK X hKX
    subst hX
    refine ⟨13, 15, Or.inl rfl, rfl, rfl, fun q9 => ?_⟩
    refine V_astore h 17 [(5, .ref q9), (0, .ref b), (1, .int x1), (2, .int x2), (3, .int x3), (4, .ref w)] (by decide) rfl dL_pumpTakes_15 rfl ?_
    refine V_iconst h 18 (v := 1) (by decide) dL_pumpTakes_17 rfl ?_
    exact V_iret h rfl hQ (Nat.le_of_ble_eq_true rfl) (Nat.le_of_ble_eq_true rfl) ⟨q1, rfl, rfl, _, rfl, Or.inr ⟨_, hKX, by decide, rfl, rfl⟩⟩ dL_pumpTakes_18

set_option maxRecDepth 100000 in
set_option maxHeartbeats 4000000 in
theorem l_wouldReap {κ : mKp} {n : Nat} {sh : mSh} {P : mPt} {D : mDt} {E : mEt} {b w : Nat} (hb5 : sh b = some (.inl 5)) (hw : sh w = some (.inr (3, 1))) (x1 x2 : Int32) {ok : Int32 → mDt → Prop} {K : String → Prop} (hM : mXnI κ yX5_wouldReap cX5_wouldReap 3 (Option.some Jvm.ClassFile.FieldType.int) 8 168 2 12 [.ref b, .int x1, .int x2] n sh P D E ok K) (hK : ∀ X, K X → X = xI ∨ X = xA) : mWMet κ yL_wouldReap cL_wouldReap 5 (Option.some Jvm.ClassFile.FieldType.int) [((0 : Nat), (10 : Nat), (13 : Nat), (20 : Nat)), ((0 : Nat), (10 : Nat), (17 : Nat), (13 : Nat))] { frames := 9, cells := 2, slots := 12, locals := 190 } [.ref b, .int x1, .int x2, .ref w] n sh P D E (wQ n sh P D E w ok K cdIA) := by
  refine mWMet_of (by decide) (Nat.le_of_ble_eq_true rfl) ?_
  intro Γ Q hQ h hT
  have h : mOk Γ κ RL cL_wouldReap 5 (Option.some Jvm.ClassFile.FieldType.int) { frames := 9, cells := 2, slots := 12, locals := 190 } := h
  show mV Γ Q 0 0 n sh P D E [(0, .ref b), (1, .int x1), (2, .int x2), (3, .ref w)] [] 0
  refine V_aload_n h 1 3 rfl dL_wouldReap_0 rfl ?_
  refine V_iconst h 2 (v := 0) (by decide) dL_wouldReap_1 rfl ?_
  refine V_aload_n h 3 0 rfl dL_wouldReap_2 rfl ?_
  refine V_iload_n h 4 1 rfl dL_wouldReap_3 rfl ?_
  refine V_iload_n h 5 2 rfl dL_wouldReap_4 rfl ?_
  refine T_callV h hT 8 (rm := { frames := 8, cells := 2, slots := 12, locals := 168 }) (As := [.int x1, .int x2]) (st := [.int 0, .ref w]) hM rfl hb5 qL_L_79 qI_X5_wouldReap qS_X5_wouldReap qZ_X5 qC_X5_wouldReap hd_X5_wouldReap ⟨Nat.le_of_ble_eq_true rfl, Nat.le_of_ble_eq_true rfl⟩ (Nat.le_of_ble_eq_true rfl) rfl rfl dL_wouldReap_5 ⟨Nat.le_of_ble_eq_true rfl, Nat.le_of_ble_eq_true rfl⟩ (by decide) ?_ ?_
  · intro v n' sh' P' D' E' hq
    obtain ⟨q1, q2, q3, q4, r, q5, hok⟩ := hq
    rw [q1, q2, q3, q4, q5]
    refine V_i2l h 9 dL_wouldReap_8 rfl ?_
    refine V_last h 10 0 hw rfl (by decide) (by decide) dL_wouldReap_9 rfl ?_
    refine V_goto h 21 dL_wouldReap_10 (by decide) ?_
    refine V_iconst h 22 (v := 0) (by decide) dL_wouldReap_21 rfl ?_
    exact V_iret h rfl hQ (Nat.le_of_ble_eq_true rfl) (Nat.le_of_ble_eq_true rfl) ⟨Nat.le_refl _, rfl, rfl, _, rfl, Or.inl ⟨rfl, r, hok, rfl⟩⟩ dL_wouldReap_22
  · intro X n' sh' P' D' E' hq
    obtain ⟨hKX, q1, q2, q3, q4, q5⟩ := hq
    rw [q2, q3, q4, q5]
    have hX := hK X hKX
    rcases hX with rfl | rfl
    · refine ⟨20, 13, Or.inr (Or.inr rfl), rfl, rfl, fun q9 => ?_⟩
      refine V_astore h 15 [(4, .ref q9), (0, .ref b), (1, .int x1), (2, .int x2), (3, .ref w)] (by decide) rfl dL_wouldReap_13 rfl ?_
      refine V_iconst h 16 (v := 1) (by decide) dL_wouldReap_15 rfl ?_
      exact V_iret h rfl hQ (Nat.le_of_ble_eq_true rfl) (Nat.le_of_ble_eq_true rfl) ⟨q1, rfl, rfl, _, rfl, Or.inr ⟨_, hKX, by decide, rfl, rfl⟩⟩ dL_wouldReap_16
    · refine ⟨13, 17, Or.inl rfl, rfl, rfl, fun q9 => ?_⟩
      refine V_astore h 19 [(4, .ref q9), (0, .ref b), (1, .int x1), (2, .int x2), (3, .ref w)] (by decide) rfl dL_wouldReap_17 rfl ?_
      refine V_iconst h 20 (v := 2) (by decide) dL_wouldReap_19 rfl ?_
      exact V_iret h rfl hQ (Nat.le_of_ble_eq_true rfl) (Nat.le_of_ble_eq_true rfl) ⟨q1, rfl, rfl, _, rfl, Or.inr ⟨_, hKX, by decide, rfl, rfl⟩⟩ dL_wouldReap_20
