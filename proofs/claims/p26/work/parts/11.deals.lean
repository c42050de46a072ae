theorem dealIx (i k : Nat) : nI i * 4 + nI k = nI (i * 4 + k) := by
  rw [show (4 : Int32) = nI 4 from rfl, pk_mul, nI_add]
abbrev dRow : Type := Int32 × Int32 × Int32 × Int32
def drow (f : Nat → Int32) (i : Nat) : dRow := (f (i * 4), f (i * 4 + 1), f (i * 4 + 2), f (i * 4 + 3))
def dls (f : Nat → Int32) (n : Nat) : List dRow := (List.range n).map (drow f)
theorem dls_len (f : Nat → Int32) (n : Nat) : (dls f n).length = n := by simp [dls]
theorem dls_succ (f : Nat → Int32) (n : Nat) : dls f (n + 1) = dls f n ++ [drow f n] := by simp [dls, List.range_succ]
theorem dls_congr {f g : Nat → Int32} {n : Nat} (h : ∀ x, x < n * 4 → g x = f x) : dls g n = dls f n := by
  unfold dls
  apply List.map_congr_left
  intro i hi
  have hi := List.mem_range.mp hi
  simp only [drow]
  rw [h _ (by omega), h _ (by omega), h _ (by omega), h _ (by omega)]
def mvF (f : Nat → Int32) (t i : Nat) : Nat → Int32 := fun x => if t * 4 ≤ x ∧ x < t * 4 + 4 then f (i * 4 + (x - t * 4)) else f x
theorem mvF_eq (f : Nat → Int32) (t i : Nat) : upd (upd (upd (upd f (t * 4 + 0) (f (i * 4 + 0))) (t * 4 + 1) (f (i * 4 + 1))) (t * 4 + 2) (f (i * 4 + 2))) (t * 4 + 3) (f (i * 4 + 3)) = mvF f t i := by
  funext x
  unfold upd mvF
  by_cases h3 : x = t * 4 + 3
  · rw [if_pos h3, if_pos (by omega)]; congr 1; omega
  · rw [if_neg h3]
    by_cases h2 : x = t * 4 + 2
    · rw [if_pos h2, if_pos (by omega)]; congr 1; omega
    · rw [if_neg h2]
      by_cases h1 : x = t * 4 + 1
      · rw [if_pos h1, if_pos (by omega)]; congr 1; omega
      · rw [if_neg h1]
        by_cases h0 : x = t * 4 + 0
        · rw [if_pos h0, if_pos (by omega)]; congr 1; omega
        · rw [if_neg h0, if_neg (by omega)]
theorem drow_mv (f : Nat → Int32) (t i : Nat) : drow (mvF f t i) t = drow f i := by
  simp only [drow, mvF]
  rw [if_pos (by omega), if_pos (by omega), if_pos (by omega), if_pos (by omega)]
  simp only [Nat.sub_self, Nat.add_zero, Nat.add_sub_cancel_left]
theorem dls_mv (f : Nat → Int32) (t i : Nat) : dls (mvF f t i) t = dls f t := dls_congr (fun x hx => by simp only [mvF]; rw [if_neg (by omega)])
theorem flt {φ : dRow → Option dRow} {g f : Nat → Int32} {k i : Nat} (h1 : dls g k = (dls f i).filterMap φ) (hr : φ (drow f i) = some (drow g i)) : dls (mvF g k i) (k + 1) = (dls f (i + 1)).filterMap φ := by
  rw [dls_succ, dls_succ, List.filterMap_append, dls_mv, drow_mv, h1]
  simp [hr]
theorem fltN {φ : dRow → Option dRow} {g f : Nat → Int32} {k i : Nat} (h1 : dls g k = (dls f i).filterMap φ) (hr : φ (drow f i) = none) : dls g k = (dls f (i + 1)).filterMap φ := by
  rw [dls_succ, List.filterMap_append, h1]
  simp [hr]
theorem dls_upd {g : Nat → Int32} {k y : Nat} {v : Int32} (h : k * 4 ≤ y) : dls (upd g y v) k = dls g k := dls_congr (fun x hx => by simp only [upd]; rw [if_neg (by omega)])
theorem drow_get {g f : Nat → Int32} {i : Nat} (h : ∀ x, i * 4 ≤ x → g x = f x) : drow g i = drow f i := by
  simp only [drow]
  rw [h _ (by omega), h _ (by omega), h _ (by omega), h _ (by omega)]
def ageR (r : dRow) : Option dRow := if r.2.2.2 - 1 ≤ 0 then none else some (r.1, r.2.1, r.2.2.1, r.2.2.2 - 1)
def endR (x : Int32) (r : dRow) : Option dRow := if r.1 = x then none else if r.2.1 = x then none else some r
def passR (x y : Int32) (r : dRow) : dRow := (if r.1 = x then y else r.1, if r.2.1 = x then y else r.2.1, r.2.2.1, r.2.2.2)
def amtF (f : Nat → Int32) (cl : Nat) (x : Int32) : Nat → Int32
  | 0 => 0
  | k + 1 => if f (k * 4 + cl) = x then amtF f cl x k + f (k * 4 + 2) else amtF f cl x k

set_option maxRecDepth 100000 in
set_option maxHeartbeats 4000000 in
theorem c_dget {κ : mKp} {n : Nat} {sh : mSh} {P : mPt} {D : mDt} {E : mEt} {d dc : Nat} (hd : sh d = some (.inl 1)) (hpc : P d 0 = some dc) (ha : sh dc = some (.inr (0, 32))) {x y : Int32} {j : Nat} (hx : x * 4 + y = nI j) (hj : j < 32) : mFnI κ yX1_get cX1_get 4 (Option.some Jvm.ClassFile.FieldType.int) 0 0 [.ref d, .int x, .int y] n sh P D E (fun r D' => D' = D ∧ r = D dc j) := by
  refine mMet_of (by decide) (Nat.le_of_ble_eq_true rfl) ?_
  intro Γ Q hQ h hin
  have h : mOk Γ κ RX1 cX1_get 4 (Option.some Jvm.ClassFile.FieldType.int) { frames := 0, cells := 0, slots := 0, locals := 0 } := h
  show mV Γ Q 0 0 n sh P D E [(0, .ref d), (1, .int x), (2, .int y)] [] 0
  refine V_iload_n h 1 1 rfl dX1_get_0 rfl ?_
  refine V_iconst h 2 (v := 4) (by decide) dX1_get_1 rfl ?_
  refine V_imul h 3 dX1_get_2 rfl ?_
  refine V_iload_n h 4 2 rfl dX1_get_3 rfl ?_
  refine V_iadd h 5 dX1_get_4 rfl ?_
  refine V_top (y := nI j) hx ?_
  refine V_istore_n h 6 [(3, .int (nI j)), (0, .ref d), (1, .int x), (2, .int y)] (by decide) rfl dX1_get_5 rfl ?_
  refine V_iload_n h 7 0 rfl dX1_get_6 rfl ?_
  refine V_if_lt h 28 10 dX1_get_7 (by decide) rfl (fun c7 => absurd c7 (nI_pos (by omega))) (fun c7 => ?_)
  refine V_iload_n h 11 0 rfl dX1_get_10 rfl ?_
  refine V_aload_n h 12 1 rfl dX1_get_11 rfl ?_
  refine g_X1_11 h 15 (b := dc) hd hpc dX1_get_12 rfl ?_
  refine V_alen h 16 0 (by decide) ha (v := 32) (by decide) dX1_get_15 rfl ?_
  refine V_icmp_ge h 28 19 dX1_get_16 (by decide) rfl (fun c16 => absurd c16 (nI_ge (b := 32) hj (by decide))) (fun c16 => ?_)
  refine V_aload_n h 20 1 rfl dX1_get_19 rfl ?_
  refine g_X1_11 h 23 (b := dc) hd hpc dX1_get_20 rfl ?_
  refine V_iload_n h 24 0 rfl dX1_get_23 rfl ?_
  refine V_iald h 25 j ha rfl hj (by decide) dX1_get_24 rfl ?_
  refine V_goto h 29 dX1_get_25 (by decide) ?_
  exact V_iret h rfl hQ (Nat.zero_le _) (Nat.zero_le _) ⟨rfl, rfl, rfl, rfl, _, rfl, ⟨rfl, rfl⟩⟩ dX1_get_29

set_option maxRecDepth 100000 in
set_option maxHeartbeats 4000000 in
theorem c_dset {κ : mKp} {n : Nat} {sh : mSh} {P : mPt} {D : mDt} {E : mEt} {d dc : Nat} (hd : sh d = some (.inl 1)) (hpc : P d 0 = some dc) (ha : sh dc = some (.inr (0, 32))) {x y : Int32} {j : Nat} (hx : x * 4 + y = nI j) (hj : j < 32) (v : Int32) : mFnV κ yX1_set cX1_set 5 0 0 [.ref d, .int x, .int y, .int v] n sh P D E (fun D' => D' = upd2 D dc j v) := by
  refine mMet_of (by decide) (Nat.le_of_ble_eq_true rfl) ?_
  intro Γ Q hQ h hin
  have h : mOk Γ κ RX1 cX1_set 5 (Option.none : Option Jvm.ClassFile.FieldType) { frames := 0, cells := 0, slots := 0, locals := 0 } := h
  show mV Γ Q 0 0 n sh P D E [(0, .ref d), (1, .int x), (2, .int y), (3, .int v)] [] 0
  refine V_iload_n h 1 1 rfl dX1_set_0 rfl ?_
  refine V_iconst h 2 (v := 4) (by decide) dX1_set_1 rfl ?_
  refine V_imul h 3 dX1_set_2 rfl ?_
  refine V_iload_n h 4 2 rfl dX1_set_3 rfl ?_
  refine V_iadd h 5 dX1_set_4 rfl ?_
  refine V_top (y := nI j) hx ?_
  refine V_istore h 7 [(4, .int (nI j)), (0, .ref d), (1, .int x), (2, .int y), (3, .int v)] (by decide) rfl dX1_set_5 rfl ?_
  refine V_iload h 9 0 rfl dX1_set_7 rfl ?_
  refine V_if_lt h 30 12 dX1_set_9 (by decide) rfl (fun c9 => absurd c9 (nI_pos (by omega))) (fun c9 => ?_)
  refine V_iload h 14 0 rfl dX1_set_12 rfl ?_
  refine V_aload_n h 15 1 rfl dX1_set_14 rfl ?_
  refine g_X1_11 h 18 (b := dc) hd hpc dX1_set_15 rfl ?_
  refine V_alen h 19 0 (by decide) ha (v := 32) (by decide) dX1_set_18 rfl ?_
  refine V_icmp_ge h 30 22 dX1_set_19 (by decide) rfl (fun c19 => absurd c19 (nI_ge (b := 32) hj (by decide))) (fun c19 => ?_)
  refine V_aload_n h 23 1 rfl dX1_set_22 rfl ?_
  refine g_X1_11 h 26 (b := dc) hd hpc dX1_set_23 rfl ?_
  refine V_iload h 28 0 rfl dX1_set_26 rfl ?_
  refine V_iload_n h 29 4 rfl dX1_set_28 rfl ?_
  refine V_iast h 30 j ha rfl hj (by decide) dX1_set_29 rfl ?_
  obtain ⟨D1, eD1⟩ : ∃ zz, zz = upd2 D dc j v := ⟨_, rfl⟩
  rw [← eD1]
  exact V_ret h  hQ (Nat.zero_le _) (Nat.zero_le _) ⟨rfl, rfl, rfl, rfl, rfl, eD1⟩ dX1_set_30

set_option maxRecDepth 100000 in
set_option maxHeartbeats 4000000 in
theorem c_dcount {κ : mKp} {n : Nat} {sh : mSh} {P : mPt} {D : mDt} {E : mEt} {d : Nat} (hd : sh d = some (.inl 1)) : mFnI κ yX1_count cX1_count 1 (Option.some Jvm.ClassFile.FieldType.int) 0 0 [.ref d] n sh P D E (fun r D' => D' = D ∧ r = D d 1) := by
  refine mMet_of (by decide) (Nat.le_of_ble_eq_true rfl) ?_
  intro Γ Q hQ h hin
  have h : mOk Γ κ RX1 cX1_count 1 (Option.some Jvm.ClassFile.FieldType.int) { frames := 0, cells := 0, slots := 0, locals := 0 } := h
  show mV Γ Q 0 0 n sh P D E [(0, .ref d)] [] 0
  refine V_aload_n h 1 0 rfl dX1_count_0 rfl ?_
  refine g_X1_15 h 4 hd dX1_count_1 rfl ?_
  exact V_iret h rfl hQ (Nat.zero_le _) (Nat.zero_le _) ⟨rfl, rfl, rfl, rfl, _, rfl, ⟨rfl, rfl⟩⟩ dX1_count_4

set_option maxRecDepth 100000 in
set_option maxHeartbeats 4000000 in
theorem c_isFull {κ : mKp} {n : Nat} {sh : mSh} {P : mPt} {D : mDt} {E : mEt} {d : Nat} (hd : sh d = some (.inl 1)) : mFnI κ yX1_isFull cX1_isFull 1 (Option.some Jvm.ClassFile.FieldType.boolean) 0 0 [.ref d] n sh P D E (fun r D' => D' = D ∧ r = if D d 1 < 8 then 0 else 1) := by
  refine mMet_of (by decide) (Nat.le_of_ble_eq_true rfl) ?_
  intro Γ Q hQ h hin
  have h : mOk Γ κ RX1 cX1_isFull 1 (Option.some Jvm.ClassFile.FieldType.boolean) { frames := 0, cells := 0, slots := 0, locals := 0 } := h
  show mV Γ Q 0 0 n sh P D E [(0, .ref d)] [] 0
  refine V_aload_n h 1 0 rfl dX1_isFull_0 rfl ?_
  refine g_X1_15 h 4 hd dX1_isFull_1 rfl ?_
  refine V_bipush h 6 (v := 8) (by decide) dX1_isFull_4 rfl ?_
  refine V_icmp_lt h 13 9 dX1_isFull_6 (by decide) rfl (fun c6 => ?_) (fun c6 => ?_)
  · skip
    refine V_iconst h 14 (v := 0) (by decide) dX1_isFull_13 rfl ?_
    exact V_iret h rfl hQ (Nat.zero_le _) (Nat.zero_le _) ⟨rfl, rfl, rfl, rfl, _, rfl, ⟨rfl, (if_pos c6).symm⟩⟩ dX1_isFull_14
  · skip
    refine V_iconst h 10 (v := 1) (by decide) dX1_isFull_9 rfl ?_
    refine V_goto h 14 dX1_isFull_10 (by decide) ?_
    exact V_iret h rfl hQ (Nat.zero_le _) (Nat.zero_le _) ⟨rfl, rfl, rfl, rfl, _, rfl, ⟨rfl, (if_neg c6).symm⟩⟩ dX1_isFull_14

set_option maxRecDepth 100000 in
set_option maxHeartbeats 4000000 in
theorem c_dclear {κ : mKp} {n : Nat} {sh : mSh} {P : mPt} {D : mDt} {E : mEt} {d : Nat} (hd : sh d = some (.inl 1)) : mFnV κ yX1_clear cX1_clear 1 0 0 [.ref d] n sh P D E (fun D' => D' = (upd2 D d 1 0)) := by
  refine mMet_of (by decide) (Nat.le_of_ble_eq_true rfl) ?_
  intro Γ Q hQ h hin
  have h : mOk Γ κ RX1 cX1_clear 1 (Option.none : Option Jvm.ClassFile.FieldType) { frames := 0, cells := 0, slots := 0, locals := 0 } := h
  show mV Γ Q 0 0 n sh P D E [(0, .ref d)] [] 0
  refine V_aload_n h 1 0 rfl dX1_clear_0 rfl ?_
  refine V_iconst h 2 (v := 0) (by decide) dX1_clear_1 rfl ?_
  refine p_X1_15 h 5 hd dX1_clear_2 rfl ?_
  obtain ⟨D1, eD1⟩ : ∃ zz, zz = upd2 D d 1 0 := ⟨_, rfl⟩
  rw [← eD1]
  exact V_ret h  hQ (Nat.zero_le _) (Nat.zero_le _) ⟨rfl, rfl, rfl, rfl, rfl, (by rw [eD1])⟩ dX1_clear_5

theorem mLt {i m : Nat} (h : ¬ nI m ≤ nI i) (hi : i ≤ 10) : i < m := Nat.lt_of_not_le (fun q => h (nI_le q (by omega)))
theorem mGe {i m : Nat} (h : nI m ≤ nI i) (hi : i ≤ 10) (hm : m ≤ 10) : m ≤ i := (nI_leI (by omega) (by omega)).mp h
theorem setRow_sr {D : mDt} {a : Nat} {f g : Nat → Int32} : setRow (setRow D a f) a g = setRow D a g := by
  funext b j
  by_cases h : b = a <;> simp [setRow, h]

set_option maxRecDepth 100000 in
set_option maxHeartbeats 4000000 in
theorem c_moveTo {κ : mKp} {n : Nat} {sh : mSh} {P : mPt} {D : mDt} {E : mEt} {d dc : Nat} (hd : sh d = some (.inl 1)) (hpc : P d 0 = some dc) (ha : sh dc = some (.inr (0, 32))) {t i : Nat} (hti : t ≤ i) (hi : i < 8) : mFnV κ yX1_moveTo cX1_moveTo 4 1 24 [.ref d, .int (nI t), .int (nI i)] n sh P D E (fun D' => D' = setRow D dc (mvF (D dc) t i)) := by
  refine mMet_of (by decide) (Nat.le_of_ble_eq_true rfl) ?_
  intro Γ Q hQ h hin
  have h : mOk Γ κ RX1 cX1_moveTo 4 (Option.none : Option Jvm.ClassFile.FieldType) { frames := 1, cells := 0, slots := 0, locals := 24 } := h
  show mV Γ Q 0 0 n sh P D E [(0, .ref d), (1, .int (nI t)), (2, .int (nI i))] [] 0
  refine V_iconst h 1 (v := 0) (by decide) dX1_moveTo_0 rfl ?_
  refine V_istore_n h 2 [(3, .int 0), (0, .ref d), (1, .int (nI t)), (2, .int (nI i))] (by decide) rfl dX1_moveTo_1 rfl ?_
  refine V_iload_n h 3 0 rfl dX1_moveTo_2 rfl ?_
  refine V_iconst h 4 (v := 4) (by decide) dX1_moveTo_3 rfl ?_
  refine V_icmp_ge h 25 7 dX1_moveTo_4 (by decide) rfl (fun c4 => absurd c4 (by decide)) (fun c4 => ?_)
  refine V_aload_n h 8 1 rfl dX1_moveTo_7 rfl ?_
  refine V_iload_n h 9 2 rfl dX1_moveTo_8 rfl ?_
  refine V_iload_n h 10 0 rfl dX1_moveTo_9 rfl ?_
  refine V_aload_n h 11 1 rfl dX1_moveTo_10 rfl ?_
  refine V_iload_n h 12 3 rfl dX1_moveTo_11 rfl ?_
  refine V_iload_n h 13 0 rfl dX1_moveTo_12 rfl ?_
  refine CVI h 16 (As := [.int (nI i), .int 0]) (c_dget hd hpc ha (j := i * 4 + 0) (dealIx i 0) (by omega)) rfl hd qL_X1_19 qI_X1_get qS_X1_get qZ_X1 qC_X1_get hd_X1_get ⟨Nat.le_of_ble_eq_true rfl, Nat.le_of_ble_eq_true rfl⟩ (Nat.le_of_ble_eq_true rfl) rfl rfl dX1_moveTo_13 (Nat.zero_le _) (Nat.zero_le _) (fun r1 D1 hq1 => ?_)
  rw [hq1.1, hq1.2]
  refine CVV h 19 (As := [.int (nI t), .int 0, .int (D dc (i * 4 + 0))]) (c_dset hd hpc ha (j := t * 4 + 0) (dealIx t 0) (by omega) (D dc (i * 4 + 0))) rfl hd qL_X1_23 qI_X1_set qS_X1_set qZ_X1 qC_X1_set hd_X1_set ⟨Nat.le_of_ble_eq_true rfl, Nat.le_of_ble_eq_true rfl⟩ (Nat.le_of_ble_eq_true rfl) rfl rfl dX1_moveTo_16 (Nat.zero_le _) (Nat.zero_le _) (fun D2 hq2 => ?_)
  have eD2 := hq2
  refine V_iinc h 22 [(3, .int 1), (0, .ref d), (1, .int (nI t)), (2, .int (nI i))] 0 rfl (by rfl) (by decide) rfl dX1_moveTo_19 rfl ?_
  refine V_goto h 2 dX1_moveTo_22 (by decide) ?_
  refine V_iload_n h 3 0 rfl dX1_moveTo_2 rfl ?_
  refine V_iconst h 4 (v := 4) (by decide) dX1_moveTo_3 rfl ?_
  refine V_icmp_ge h 25 7 dX1_moveTo_4 (by decide) rfl (fun c4 => absurd c4 (by decide)) (fun c4 => ?_)
  refine V_aload_n h 8 1 rfl dX1_moveTo_7 rfl ?_
  refine V_iload_n h 9 2 rfl dX1_moveTo_8 rfl ?_
  refine V_iload_n h 10 0 rfl dX1_moveTo_9 rfl ?_
  refine V_aload_n h 11 1 rfl dX1_moveTo_10 rfl ?_
  refine V_iload_n h 12 3 rfl dX1_moveTo_11 rfl ?_
  refine V_iload_n h 13 0 rfl dX1_moveTo_12 rfl ?_
  refine CVI h 16 (As := [.int (nI i), .int 1]) (c_dget hd hpc ha (j := i * 4 + 1) (dealIx i 1) (by omega)) rfl hd qL_X1_19 qI_X1_get qS_X1_get qZ_X1 qC_X1_get hd_X1_get ⟨Nat.le_of_ble_eq_true rfl, Nat.le_of_ble_eq_true rfl⟩ (Nat.le_of_ble_eq_true rfl) rfl rfl dX1_moveTo_13 (Nat.zero_le _) (Nat.zero_le _) (fun r3 D3 hq3 => ?_)
  rw [hq3.1, hq3.2]
  refine V_top (y := D dc (i * 4 + 1)) (by rw [eD2, upd2_nk (by omega)]) ?_
  refine CVV h 19 (As := [.int (nI t), .int 1, .int (D dc (i * 4 + 1))]) (c_dset hd hpc ha (j := t * 4 + 1) (dealIx t 1) (by omega) (D dc (i * 4 + 1))) rfl hd qL_X1_23 qI_X1_set qS_X1_set qZ_X1 qC_X1_set hd_X1_set ⟨Nat.le_of_ble_eq_true rfl, Nat.le_of_ble_eq_true rfl⟩ (Nat.le_of_ble_eq_true rfl) rfl rfl dX1_moveTo_16 (Nat.zero_le _) (Nat.zero_le _) (fun D4 hq4 => ?_)
  have eD4 := hq4
  refine V_iinc h 22 [(3, .int 2), (0, .ref d), (1, .int (nI t)), (2, .int (nI i))] 0 rfl (by rfl) (by decide) rfl dX1_moveTo_19 rfl ?_
  refine V_goto h 2 dX1_moveTo_22 (by decide) ?_
  refine V_iload_n h 3 0 rfl dX1_moveTo_2 rfl ?_
  refine V_iconst h 4 (v := 4) (by decide) dX1_moveTo_3 rfl ?_
  refine V_icmp_ge h 25 7 dX1_moveTo_4 (by decide) rfl (fun c4 => absurd c4 (by decide)) (fun c4 => ?_)
  refine V_aload_n h 8 1 rfl dX1_moveTo_7 rfl ?_
  refine V_iload_n h 9 2 rfl dX1_moveTo_8 rfl ?_
  refine V_iload_n h 10 0 rfl dX1_moveTo_9 rfl ?_
  refine V_aload_n h 11 1 rfl dX1_moveTo_10 rfl ?_
  refine V_iload_n h 12 3 rfl dX1_moveTo_11 rfl ?_
  refine V_iload_n h 13 0 rfl dX1_moveTo_12 rfl ?_
  refine CVI h 16 (As := [.int (nI i), .int 2]) (c_dget hd hpc ha (j := i * 4 + 2) (dealIx i 2) (by omega)) rfl hd qL_X1_19 qI_X1_get qS_X1_get qZ_X1 qC_X1_get hd_X1_get ⟨Nat.le_of_ble_eq_true rfl, Nat.le_of_ble_eq_true rfl⟩ (Nat.le_of_ble_eq_true rfl) rfl rfl dX1_moveTo_13 (Nat.zero_le _) (Nat.zero_le _) (fun r5 D5 hq5 => ?_)
  rw [hq5.1, hq5.2]
  refine V_top (y := D dc (i * 4 + 2)) (by rw [eD4, upd2_nk (by omega), eD2, upd2_nk (by omega)]) ?_
  refine CVV h 19 (As := [.int (nI t), .int 2, .int (D dc (i * 4 + 2))]) (c_dset hd hpc ha (j := t * 4 + 2) (dealIx t 2) (by omega) (D dc (i * 4 + 2))) rfl hd qL_X1_23 qI_X1_set qS_X1_set qZ_X1 qC_X1_set hd_X1_set ⟨Nat.le_of_ble_eq_true rfl, Nat.le_of_ble_eq_true rfl⟩ (Nat.le_of_ble_eq_true rfl) rfl rfl dX1_moveTo_16 (Nat.zero_le _) (Nat.zero_le _) (fun D6 hq6 => ?_)
  have eD6 := hq6
  refine V_iinc h 22 [(3, .int 3), (0, .ref d), (1, .int (nI t)), (2, .int (nI i))] 0 rfl (by rfl) (by decide) rfl dX1_moveTo_19 rfl ?_
  refine V_goto h 2 dX1_moveTo_22 (by decide) ?_
  refine V_iload_n h 3 0 rfl dX1_moveTo_2 rfl ?_
  refine V_iconst h 4 (v := 4) (by decide) dX1_moveTo_3 rfl ?_
  refine V_icmp_ge h 25 7 dX1_moveTo_4 (by decide) rfl (fun c4 => absurd c4 (by decide)) (fun c4 => ?_)
  refine V_aload_n h 8 1 rfl dX1_moveTo_7 rfl ?_
  refine V_iload_n h 9 2 rfl dX1_moveTo_8 rfl ?_
  refine V_iload_n h 10 0 rfl dX1_moveTo_9 rfl ?_
  refine V_aload_n h 11 1 rfl dX1_moveTo_10 rfl ?_
  refine V_iload_n h 12 3 rfl dX1_moveTo_11 rfl ?_
  refine V_iload_n h 13 0 rfl dX1_moveTo_12 rfl ?_
  refine CVI h 16 (As := [.int (nI i), .int 3]) (c_dget hd hpc ha (j := i * 4 + 3) (dealIx i 3) (by omega)) rfl hd qL_X1_19 qI_X1_get qS_X1_get qZ_X1 qC_X1_get hd_X1_get ⟨Nat.le_of_ble_eq_true rfl, Nat.le_of_ble_eq_true rfl⟩ (Nat.le_of_ble_eq_true rfl) rfl rfl dX1_moveTo_13 (Nat.zero_le _) (Nat.zero_le _) (fun r7 D7 hq7 => ?_)
  rw [hq7.1, hq7.2]
  refine V_top (y := D dc (i * 4 + 3)) (by rw [eD6, upd2_nk (by omega), eD4, upd2_nk (by omega), eD2, upd2_nk (by omega)]) ?_
  refine CVV h 19 (As := [.int (nI t), .int 3, .int (D dc (i * 4 + 3))]) (c_dset hd hpc ha (j := t * 4 + 3) (dealIx t 3) (by omega) (D dc (i * 4 + 3))) rfl hd qL_X1_23 qI_X1_set qS_X1_set qZ_X1 qC_X1_set hd_X1_set ⟨Nat.le_of_ble_eq_true rfl, Nat.le_of_ble_eq_true rfl⟩ (Nat.le_of_ble_eq_true rfl) rfl rfl dX1_moveTo_16 (Nat.zero_le _) (Nat.zero_le _) (fun D8 hq8 => ?_)
  have eD8 := hq8
  refine V_iinc h 22 [(3, .int 4), (0, .ref d), (1, .int (nI t)), (2, .int (nI i))] 0 rfl (by rfl) (by decide) rfl dX1_moveTo_19 rfl ?_
  refine V_goto h 2 dX1_moveTo_22 (by decide) ?_
  refine V_iload_n h 3 0 rfl dX1_moveTo_2 rfl ?_
  refine V_iconst h 4 (v := 4) (by decide) dX1_moveTo_3 rfl ?_
  refine V_icmp_ge h 25 7 dX1_moveTo_4 (by decide) rfl (fun c4 => ?_) (fun c4 => absurd c4 (by decide))
  exact V_ret h  hQ (Nat.zero_le _) (Nat.zero_le _) ⟨rfl, rfl, rfl, rfl, rfl, (by dsimp only; rw [upd2_sr] at eD2; rw [eD2, sr_upd2] at eD4; rw [eD4, sr_upd2] at eD6; rw [eD6, sr_upd2] at eD8; rw [eD8]; rw [mvF_eq])⟩ dX1_moveTo_25

set_option maxRecDepth 100000 in
set_option maxHeartbeats 4000000 in
theorem c_amountOf {κ : mKp} {n : Nat} {sh : mSh} {P : mPt} {D : mDt} {E : mEt} {d dc : Nat} (hd : sh d = some (.inl 1)) (hpc : P d 0 = some dc) (ha : sh dc = some (.inr (0, 32))) {m cl : Nat} (hcl : cl < 4) (hm : D d 1 = nI m) (hm8 : m ≤ 8) (x : Int32) : mFnI κ yX1_amountOf cX1_amountOf 5 (Option.some Jvm.ClassFile.FieldType.int) 1 23 [.ref d, .int (nI cl), .int x] n sh P D E (fun r D' => D' = D ∧ r = amtF (D dc) cl x m) := by
  refine mMet_of (by decide) (Nat.le_of_ble_eq_true rfl) ?_
  intro Γ Q hQ h hin
  have h : mOk Γ κ RX1 cX1_amountOf 5 (Option.some Jvm.ClassFile.FieldType.int) { frames := 1, cells := 0, slots := 0, locals := 23 } := h
  show mV Γ Q 0 0 n sh P D E [(0, .ref d), (1, .int (nI cl)), (2, .int x)] [] 0
  refine V_iconst h 1 (v := 0) (by decide) dX1_amountOf_0 rfl ?_
  refine V_istore_n h 2 [(3, .int 0), (0, .ref d), (1, .int (nI cl)), (2, .int x)] (by decide) rfl dX1_amountOf_1 rfl ?_
  refine V_iconst h 3 (v := 0) (by decide) dX1_amountOf_2 rfl ?_
  refine V_istore h 5 [(4, .int 0), (3, .int 0), (0, .ref d), (1, .int (nI cl)), (2, .int x)] (by decide) rfl dX1_amountOf_3 rfl ?_
  have LP5 : ∀ (kk : Nat) (i : Nat) (x3 x4 : Int32), (i ≤ m) → (x3 = amtF (D dc) cl x i) → (x4 = nI i) → m - i < kk → mV Γ Q 0 0 n sh P D E [(0, .ref d), (1, .int (nI cl)), (2, .int x), (3, .int x3), (4, .int x4)] [] 5 := by
    intro kk
    induction kk with
    | zero =>
      intro i x3 x4 _ _ _ hms
      exact absurd hms (Nat.not_lt_zero _)
    | succ kk ih =>
      intro i x3 x4 hi e3 e4 hms
      subst e3 e4
      refine V_iload h 7 4 rfl dX1_amountOf_5 rfl ?_
      refine V_aload_n h 8 0 rfl dX1_amountOf_7 rfl ?_
      refine g_X1_15 h 11 hd dX1_amountOf_8 rfl ?_
      refine V_top (y := nI m) hm ?_
      refine V_icmp_ge h 41 14 dX1_amountOf_11 (by decide) rfl (fun c11 => ?_) (fun c11 => ?_)
      · skip
        have hex : i = m := by have := mGe c11 (by omega) (by omega); omega
        refine V_iload_n h 42 3 rfl dX1_amountOf_41 rfl ?_
        exact V_iret h rfl hQ (Nat.zero_le _) (Nat.zero_le _) ⟨rfl, rfl, rfl, rfl, _, rfl, ⟨rfl, by rw [hex]⟩⟩ dX1_amountOf_42
      · skip
        have hlt := mLt c11 (by omega)
        refine V_aload_n h 15 0 rfl dX1_amountOf_14 rfl ?_
        refine V_iload h 17 4 rfl dX1_amountOf_15 rfl ?_
        refine V_iload_n h 18 1 rfl dX1_amountOf_17 rfl ?_
        refine CVI h 21 (As := [.int (nI i), .int (nI cl)]) (c_dget hd hpc ha (j := i * 4 + cl) (dealIx i cl) (by omega)) rfl hd qL_X1_19 qI_X1_get qS_X1_get qZ_X1 qC_X1_get hd_X1_get ⟨Nat.le_of_ble_eq_true rfl, Nat.le_of_ble_eq_true rfl⟩ (Nat.le_of_ble_eq_true rfl) rfl rfl dX1_amountOf_18 (Nat.zero_le _) (Nat.zero_le _) (fun r1 D1 hq1 => ?_)
        rw [hq1.1, hq1.2]
        refine V_iload_n h 22 2 rfl dX1_amountOf_21 rfl ?_
        refine V_icmp_ne h 35 25 dX1_amountOf_22 (by decide) rfl (fun c22 => ?_) (fun c22 => ?_)
        · skip
          refine V_iinc h 38 [(4, .int ((nI i) + 1)), (0, .ref d), (1, .int (nI cl)), (2, .int x), (3, .int (amtF (D dc) cl x i))] 4 rfl (by rfl) (by decide) rfl dX1_amountOf_35 rfl ?_
          refine V_goto h 5 dX1_amountOf_38 (by decide) ?_
          refine V_lsub [(0, .ref d), (1, .int (nI cl)), (2, .int x), (3, .int (amtF (D dc) cl x i)), (4, .int ((nI i) + 1))] [1, 2, 3, 4, 0] rfl ?_
          exact ih (i + 1) _ _ (by omega) (by simp only [amtF]; first | (rw [if_pos c22]; done) | (rw [if_neg c22])) (nI_1 i) (by omega)
        · skip
          refine V_iload_n h 26 3 rfl dX1_amountOf_25 rfl ?_
          refine V_aload_n h 27 0 rfl dX1_amountOf_26 rfl ?_
          refine V_iload h 29 4 rfl dX1_amountOf_27 rfl ?_
          refine V_iconst h 30 (v := 2) (by decide) dX1_amountOf_29 rfl ?_
          refine CVI h 33 (As := [.int (nI i), .int 2]) (c_dget hd hpc ha (j := i * 4 + 2) (dealIx i 2) (by omega)) rfl hd qL_X1_19 qI_X1_get qS_X1_get qZ_X1 qC_X1_get hd_X1_get ⟨Nat.le_of_ble_eq_true rfl, Nat.le_of_ble_eq_true rfl⟩ (Nat.le_of_ble_eq_true rfl) rfl rfl dX1_amountOf_30 (Nat.zero_le _) (Nat.zero_le _) (fun r2 D2 hq2 => ?_)
          rw [hq2.1, hq2.2]
          refine V_iadd h 34 dX1_amountOf_33 rfl ?_
          refine V_istore_n h 35 [(3, .int ((amtF (D dc) cl x i) + (D dc (i * 4 + 2)))), (0, .ref d), (1, .int (nI cl)), (2, .int x), (4, .int (nI i))] (by decide) rfl dX1_amountOf_34 rfl ?_
          refine V_iinc h 38 [(4, .int ((nI i) + 1)), (3, .int ((amtF (D dc) cl x i) + (D dc (i * 4 + 2)))), (0, .ref d), (1, .int (nI cl)), (2, .int x)] 4 rfl (by rfl) (by decide) rfl dX1_amountOf_35 rfl ?_
          refine V_goto h 5 dX1_amountOf_38 (by decide) ?_
          refine V_lsub [(0, .ref d), (1, .int (nI cl)), (2, .int x), (3, .int ((amtF (D dc) cl x i) + (D dc (i * 4 + 2)))), (4, .int ((nI i) + 1))] [2, 3, 4, 1, 0] rfl ?_
          exact ih (i + 1) _ _ (by omega) (by simp only [amtF]; first | (rw [if_pos c22]; done) | (rw [if_neg c22])) (nI_1 i) (by omega)
  refine V_lsub [(0, .ref d), (1, .int (nI cl)), (2, .int x), (3, .int 0), (4, .int 0)] [2, 3, 4, 1, 0] rfl ?_
  exact LP5 _ 0 _ _ (Nat.zero_le _) rfl rfl (Nat.lt_succ_self _)

theorem age_keep {g f : Nat → Int32} {i : Nat} (h : ∀ x, i * 4 ≤ x → g x = f x) (hc : ¬ f (i * 4 + 3) - 1 ≤ 0) : ageR (drow f i) = some (drow (upd g (i * 4 + 3) (f (i * 4 + 3) - 1)) i) := by
  have e2 : drow (upd g (i * 4 + 3) (f (i * 4 + 3) - 1)) i = (f (i * 4), f (i * 4 + 1), f (i * 4 + 2), f (i * 4 + 3) - 1) := by
    simp only [drow, upd]
    rw [if_neg (by omega), if_neg (by omega), if_neg (by omega), h _ (by omega), h _ (by omega), h _ (by omega)]
    simp
  rw [e2]
  exact if_neg hc
theorem age_drop {f : Nat → Int32} {i : Nat} (hc : f (i * 4 + 3) - 1 ≤ 0) : ageR (drow f i) = none := if_pos hc
theorem end_keep {g f : Nat → Int32} {i : Nat} {x : Int32} (h : ∀ x, i * 4 ≤ x → g x = f x) (h0 : ¬ f (i * 4 + 0) = x) (h1 : ¬ f (i * 4 + 1) = x) : endR x (drow f i) = some (drow g i) := by
  rw [drow_get h]
  exact (if_neg h0).trans (if_neg h1)
theorem end_drop0 {f : Nat → Int32} {i : Nat} {x : Int32} (h0 : f (i * 4 + 0) = x) : endR x (drow f i) = none := if_pos h0
theorem end_drop1 {f : Nat → Int32} {i : Nat} {x : Int32} (h0 : ¬ f (i * 4 + 0) = x) (h1 : f (i * 4 + 1) = x) : endR x (drow f i) = none := (if_neg h0).trans (if_pos h1)

/-- the rows behind i steps of shorten, and how many are kept -/
def ageG (f : Nat → Int32) : Nat → (Nat → Int32) × Nat
  | 0 => (f, 0)
  | i + 1 => if f (i * 4 + 3) - 1 ≤ 0 then (upd (ageG f i).1 (i * 4 + 3) (f (i * 4 + 3) - 1), (ageG f i).2) else (mvF (upd (ageG f i).1 (i * 4 + 3) (f (i * 4 + 3) - 1)) (ageG f i).2 i, (ageG f i).2 + 1)
theorem ageG_ok (f : Nat → Int32) (m : Nat) : (ageG f m).2 ≤ m ∧ dls (ageG f m).1 (ageG f m).2 = (dls f m).filterMap ageR ∧ ∀ x, m * 4 ≤ x → (ageG f m).1 x = f x := by
  induction m with
  | zero => exact ⟨Nat.le_refl _, rfl, fun _ _ => rfl⟩
  | succ i ih =>
    obtain ⟨hk, h1, h2⟩ := ih
    by_cases hc : f (i * 4 + 3) - 1 ≤ 0
    · rw [show ageG f (i + 1) = (upd (ageG f i).1 (i * 4 + 3) (f (i * 4 + 3) - 1), (ageG f i).2) from if_pos hc]
      exact ⟨by show (ageG f i).2 ≤ i + 1; omega, fltN (by show dls (upd _ _ _) _ = _; rw [dls_upd (by omega)]; exact h1) (age_drop hc), fun x hx => by simp only [upd]; rw [if_neg (by omega)]; exact h2 x (by omega)⟩
    · rw [show ageG f (i + 1) = (mvF (upd (ageG f i).1 (i * 4 + 3) (f (i * 4 + 3) - 1)) (ageG f i).2 i, (ageG f i).2 + 1) from if_neg hc]
      exact ⟨by show (ageG f i).2 + 1 ≤ i + 1; omega, flt (by rw [dls_upd (by omega)]; exact h1) (age_keep h2 hc), fun x hx => by simp only [mvF, upd]; rw [if_neg (by omega), if_neg (by omega)]; exact h2 x (by omega)⟩

set_option maxRecDepth 100000 in
set_option maxHeartbeats 4000000 in
theorem c_shorten {κ : mKp} {n : Nat} {sh : mSh} {P : mPt} {D : mDt} {E : mEt} {d dc : Nat} (hd : sh d = some (.inl 1)) (hpc : P d 0 = some dc) (ha : sh dc = some (.inr (0, 32))) {m : Nat} (hdd : d ≠ dc) (hm : D d 1 = nI m) (hm8 : m ≤ 8) : mFnV κ yX1_shorten cX1_shorten 4 2 47 [.ref d] n sh P D E (fun D' => D' = upd2 (setRow D dc (ageG (D dc) m).1) d 1 (nI (ageG (D dc) m).2)) := by
  refine mMet_of (by decide) (Nat.le_of_ble_eq_true rfl) ?_
  intro Γ Q hQ h hin
  have h : mOk Γ κ RX1 cX1_shorten 4 (Option.none : Option Jvm.ClassFile.FieldType) { frames := 2, cells := 0, slots := 0, locals := 47 } := h
  show mV Γ Q 0 0 n sh P D E [(0, .ref d)] [] 0
  refine V_iconst h 1 (v := 0) (by decide) dX1_shorten_0 rfl ?_
  refine V_istore_n h 2 [(1, .int 0), (0, .ref d)] (by decide) rfl dX1_shorten_1 rfl ?_
  refine V_iconst h 3 (v := 0) (by decide) dX1_shorten_2 rfl ?_
  refine V_istore_n h 4 [(2, .int 0), (1, .int 0), (0, .ref d)] (by decide) rfl dX1_shorten_3 rfl ?_
  have LP4 : ∀ (kk : Nat) (i : Nat) (x1 x2 : Int32), (i ≤ m) → (x1 = nI (ageG (D dc) i).2) → (x2 = nI i) → m - i < kk → mV Γ Q 0 0 n sh P (setRow D dc (ageG (D dc) i).1) E [(0, .ref d), (1, .int x1), (2, .int x2)] [] 4 := by
    intro kk
    induction kk with
    | zero =>
      intro i x1 x2 _ _ _ hms
      exact absurd hms (Nat.not_lt_zero _)
    | succ kk ih =>
      intro i x1 x2 hi e1 e2 hms
      subst e1 e2
      have hag := ageG_ok (D dc) i
      refine V_iload_n h 5 2 rfl dX1_shorten_4 rfl ?_
      refine V_aload_n h 6 0 rfl dX1_shorten_5 rfl ?_
      refine g_X1_15 h 9 hd dX1_shorten_6 rfl ?_
      refine V_top (y := nI m) (by rw [setRow_ne hdd]; exact hm) ?_
      refine V_icmp_ge h 47 12 dX1_shorten_9 (by decide) rfl (fun c9 => ?_) (fun c9 => ?_)
      · skip
        have hex : i = m := by have := mGe c9 (by omega) (by omega); omega
        refine V_aload_n h 48 0 rfl dX1_shorten_47 rfl ?_
        refine V_iload_n h 49 1 rfl dX1_shorten_48 rfl ?_
        refine p_X1_15 h 52 hd dX1_shorten_49 rfl ?_
        obtain ⟨D1, eD1⟩ : ∃ zz, zz = upd2 (setRow D dc (ageG (D dc) i).1) d 1 (nI (ageG (D dc) i).2) := ⟨_, rfl⟩
        rw [← eD1]
        exact V_ret h  hQ (Nat.zero_le _) (Nat.zero_le _) ⟨rfl, rfl, rfl, rfl, rfl, (by rw [eD1, hex])⟩ dX1_shorten_52
      · skip
        have hlt := mLt c9 (by omega)
        refine V_aload_n h 13 0 rfl dX1_shorten_12 rfl ?_
        refine V_iload_n h 14 2 rfl dX1_shorten_13 rfl ?_
        refine V_iconst h 15 (v := 3) (by decide) dX1_shorten_14 rfl ?_
        refine CVI h 18 (As := [.int (nI i), .int 3]) (c_dget hd hpc ha (j := i * 4 + 3) (dealIx i 3) (by omega)) rfl hd qL_X1_19 qI_X1_get qS_X1_get qZ_X1 qC_X1_get hd_X1_get ⟨Nat.le_of_ble_eq_true rfl, Nat.le_of_ble_eq_true rfl⟩ (Nat.le_of_ble_eq_true rfl) rfl rfl dX1_shorten_15 (Nat.zero_le _) (Nat.zero_le _) (fun r2 D2 hq2 => ?_)
        rw [hq2.1, hq2.2]
        refine V_top (y := D dc (i * 4 + 3)) (by rw [setRow_eq]; exact hag.2.2 _ (by omega)) ?_
        refine V_iconst h 19 (v := 1) (by decide) dX1_shorten_18 rfl ?_
        refine V_isub h 20 dX1_shorten_19 rfl ?_
        refine V_istore_n h 21 [(3, .int ((D dc (i * 4 + 3)) - 1)), (0, .ref d), (1, .int (nI (ageG (D dc) i).2)), (2, .int (nI i))] (by decide) rfl dX1_shorten_20 rfl ?_
        refine V_aload_n h 22 1 rfl dX1_shorten_21 rfl ?_
        refine V_iload_n h 23 3 rfl dX1_shorten_22 rfl ?_
        refine V_iconst h 24 (v := 3) (by decide) dX1_shorten_23 rfl ?_
        refine V_iload_n h 25 0 rfl dX1_shorten_24 rfl ?_
        refine CVV h 28 (As := [.int (nI i), .int 3, .int ((D dc (i * 4 + 3)) - 1)]) (c_dset hd hpc ha (j := i * 4 + 3) (dealIx i 3) (by omega) ((D dc (i * 4 + 3)) - 1)) rfl hd qL_X1_23 qI_X1_set qS_X1_set qZ_X1 qC_X1_set hd_X1_set ⟨Nat.le_of_ble_eq_true rfl, Nat.le_of_ble_eq_true rfl⟩ (Nat.le_of_ble_eq_true rfl) rfl rfl dX1_shorten_25 (Nat.zero_le _) (Nat.zero_le _) (fun D3 hq3 => ?_)
        rw [show D3 = (setRow D dc (upd ((ageG (D dc) i).1) (i * 4 + 3) ((D dc (i * 4 + 3)) - 1))) from (by rw [hq3, sr_upd2])]
        refine V_iload_n h 29 0 rfl dX1_shorten_28 rfl ?_
        refine V_if_le h 41 32 dX1_shorten_29 (by decide) rfl (fun c29 => ?_) (fun c29 => ?_)
        · skip
          refine V_iinc h 44 [(2, .int ((nI i) + 1)), (3, .int ((D dc (i * 4 + 3)) - 1)), (0, .ref d), (1, .int (nI (ageG (D dc) i).2))] 3 rfl (by rfl) (by decide) rfl dX1_shorten_41 rfl ?_
          refine V_goto h 4 dX1_shorten_44 (by decide) ?_
          refine V_lsub [(0, .ref d), (1, .int (nI (ageG (D dc) i).2)), (2, .int ((nI i) + 1))] [2, 3, 0] rfl ?_
          rw [show (setRow D dc (upd ((ageG (D dc) i).1) (i * 4 + 3) ((D dc (i * 4 + 3)) - 1))) = (setRow D dc (ageG (D dc) (i + 1)).1) from by rw [show ageG (D dc) (i + 1) = _ from if_pos c29]]
          exact ih (i + 1) _ _ (by omega) (by rw [show ageG (D dc) (i + 1) = _ from if_pos c29]) (nI_1 i) (by omega)
        · skip
          refine V_aload_n h 33 1 rfl dX1_shorten_32 rfl ?_
          refine V_iload_n h 34 2 rfl dX1_shorten_33 rfl ?_
          refine V_iload_n h 35 3 rfl dX1_shorten_34 rfl ?_
          refine CVV h 38 (As := [.int (nI (ageG (D dc) i).2), .int (nI i)]) (c_moveTo hd hpc ha (t := (ageG (D dc) i).2) (i := i) hag.1 (by omega)) rfl hd qL_X1_27 qI_X1_moveTo qS_X1_moveTo qZ_X1 qC_X1_moveTo hd_X1_moveTo ⟨Nat.le_of_ble_eq_true rfl, Nat.le_of_ble_eq_true rfl⟩ (Nat.le_of_ble_eq_true rfl) rfl rfl dX1_shorten_35 (Nat.zero_le _) (Nat.zero_le _) (fun D4 hq4 => ?_)
          rw [show D4 = (setRow D dc (mvF (upd ((ageG (D dc) i).1) (i * 4 + 3) ((D dc (i * 4 + 3)) - 1)) (ageG (D dc) i).2 i)) from (by rw [hq4, setRow_eq, setRow_sr])]
          refine V_iinc h 41 [(1, .int ((nI (ageG (D dc) i).2) + 1)), (3, .int ((D dc (i * 4 + 3)) - 1)), (0, .ref d), (2, .int (nI i))] 2 rfl (by rfl) (by decide) rfl dX1_shorten_38 rfl ?_
          refine V_iinc h 44 [(2, .int ((nI i) + 1)), (1, .int ((nI (ageG (D dc) i).2) + 1)), (3, .int ((D dc (i * 4 + 3)) - 1)), (0, .ref d)] 3 rfl (by rfl) (by decide) rfl dX1_shorten_41 rfl ?_
          refine V_goto h 4 dX1_shorten_44 (by decide) ?_
          refine V_lsub [(0, .ref d), (1, .int ((nI (ageG (D dc) i).2) + 1)), (2, .int ((nI i) + 1))] [3, 1, 0] rfl ?_
          rw [show (setRow D dc (mvF (upd ((ageG (D dc) i).1) (i * 4 + 3) ((D dc (i * 4 + 3)) - 1)) (ageG (D dc) i).2 i)) = (setRow D dc (ageG (D dc) (i + 1)).1) from by rw [show ageG (D dc) (i + 1) = _ from if_neg c29]]
          exact ih (i + 1) _ _ (by omega) (by rw [show ageG (D dc) (i + 1) = _ from if_neg c29]; exact nI_1 _) (nI_1 i) (by omega)
  rw [show mV Γ Q 0 0 n sh P D E = mV Γ Q 0 0 n sh P (setRow D dc (ageG (D dc) 0).1) E from by rw [show (ageG (D dc) 0).1 = D dc from rfl, setRow_self]]
  refine V_lsub [(0, .ref d), (1, .int 0), (2, .int 0)] [2, 1, 0] rfl ?_
  exact LP4 _ 0 _ _ (Nat.zero_le _) rfl rfl (Nat.lt_succ_self _)

def addF (f : Nat → Int32) (m : Nat) (a b c e : Int32) : Nat → Int32 := upd (upd (upd (upd f (m * 4 + 0) a) (m * 4 + 1) b) (m * 4 + 2) c) (m * 4 + 3) e
theorem dls_add (f : Nat → Int32) (m : Nat) (a b c e : Int32) : dls (addF f m a b c e) (m + 1) = dls f m ++ [(a, b, c, e)] := by
  rw [dls_succ, dls_congr (f := f) (fun x hx => by simp only [addF, upd]; rw [if_neg (by omega), if_neg (by omega), if_neg (by omega), if_neg (by omega)])]
  congr 2
  simp [drow, addF, upd]
theorem pass_row {X f : Nat → Int32} {i : Nat} {x y u0 u1 : Int32} (e0 : X (i * 4 + 0) = u0) (e1 : X (i * 4 + 1) = u1) (e2 : X (i * 4 + 2) = f (i * 4 + 2)) (e3 : X (i * 4 + 3) = f (i * 4 + 3)) (d0 : (if f (i * 4 + 0) = x then y else f (i * 4 + 0)) = u0) (d1 : (if f (i * 4 + 1) = x then y else f (i * 4 + 1)) = u1) : drow X i = passR x y (drow f i) := by
  subst d0
  subst d1
  show (X (i * 4 + 0), X (i * 4 + 1), X (i * 4 + 2), X (i * 4 + 3)) = _
  rw [e0, e1, e2, e3]
  rfl
theorem pass_step {X g f : Nat → Int32} {i : Nat} {x y : Int32} (h1 : dls g i = (dls f i).map (passR x y)) (hX : ∀ z, z < i * 4 → X z = g z) (hr : drow X i = passR x y (drow f i)) : dls X (i + 1) = (dls f (i + 1)).map (passR x y) := by
  rw [dls_succ, dls_succ, List.map_append, dls_congr hX, h1, hr]
  rfl

set_option maxRecDepth 100000 in
set_option maxHeartbeats 4000000 in
theorem c_dadd {κ : mKp} {n : Nat} {sh : mSh} {P : mPt} {D : mDt} {E : mEt} {d dc : Nat} (hd : sh d = some (.inl 1)) (hpc : P d 0 = some dc) (ha : sh dc = some (.inr (0, 32))) {m : Nat} (hdd : d ≠ dc) (hm : D d 1 = nI m) (hm8 : m < 8) (a b c e : Int32) : mFnV κ yX1_add cX1_add 5 1 24 [.ref d, .int a, .int b, .int c, .int e] n sh P D E (fun D' => D' = upd2 (setRow D dc (addF (D dc) m a b c e)) d 1 (nI (m + 1))) := by
  refine mMet_of (by decide) (Nat.le_of_ble_eq_true rfl) ?_
  intro Γ Q hQ h hin
  have h : mOk Γ κ RX1 cX1_add 5 (Option.none : Option Jvm.ClassFile.FieldType) { frames := 1, cells := 0, slots := 0, locals := 24 } := h
  show mV Γ Q 0 0 n sh P D E [(0, .ref d), (1, .int a), (2, .int b), (3, .int c), (4, .int e)] [] 0
  refine V_aload_n h 1 0 rfl dX1_add_0 rfl ?_
  refine V_aload_n h 2 0 rfl dX1_add_1 rfl ?_
  refine g_X1_15 h 5 hd dX1_add_2 rfl ?_
  refine V_top (y := nI m) hm ?_
  refine V_iconst h 6 (v := 0) (by decide) dX1_add_5 rfl ?_
  refine V_iload_n h 7 1 rfl dX1_add_6 rfl ?_
  refine CVV h 10 (As := [.int (nI m), .int 0, .int a]) (c_dset hd hpc ha (j := m * 4 + 0) (dealIx m 0) (by omega) a) rfl hd qL_X1_23 qI_X1_set qS_X1_set qZ_X1 qC_X1_set hd_X1_set ⟨Nat.le_of_ble_eq_true rfl, Nat.le_of_ble_eq_true rfl⟩ (Nat.le_of_ble_eq_true rfl) rfl rfl dX1_add_7 (Nat.zero_le _) (Nat.zero_le _) (fun D1 hq1 => ?_)
  have eD1 := hq1
  refine V_aload_n h 11 0 rfl dX1_add_10 rfl ?_
  refine V_aload_n h 12 0 rfl dX1_add_11 rfl ?_
  refine g_X1_15 h 15 hd dX1_add_12 rfl ?_
  refine V_top (y := nI m) (by rw [eD1, upd2_na hdd]; exact hm) ?_
  refine V_iconst h 16 (v := 1) (by decide) dX1_add_15 rfl ?_
  refine V_iload_n h 17 2 rfl dX1_add_16 rfl ?_
  refine CVV h 20 (As := [.int (nI m), .int 1, .int b]) (c_dset hd hpc ha (j := m * 4 + 1) (dealIx m 1) (by omega) b) rfl hd qL_X1_23 qI_X1_set qS_X1_set qZ_X1 qC_X1_set hd_X1_set ⟨Nat.le_of_ble_eq_true rfl, Nat.le_of_ble_eq_true rfl⟩ (Nat.le_of_ble_eq_true rfl) rfl rfl dX1_add_17 (Nat.zero_le _) (Nat.zero_le _) (fun D2 hq2 => ?_)
  have eD2 := hq2
  refine V_aload_n h 21 0 rfl dX1_add_20 rfl ?_
  refine V_aload_n h 22 0 rfl dX1_add_21 rfl ?_
  refine g_X1_15 h 25 hd dX1_add_22 rfl ?_
  refine V_top (y := nI m) (by rw [eD2, upd2_na hdd, eD1, upd2_na hdd]; exact hm) ?_
  refine V_iconst h 26 (v := 2) (by decide) dX1_add_25 rfl ?_
  refine V_iload_n h 27 3 rfl dX1_add_26 rfl ?_
  refine CVV h 30 (As := [.int (nI m), .int 2, .int c]) (c_dset hd hpc ha (j := m * 4 + 2) (dealIx m 2) (by omega) c) rfl hd qL_X1_23 qI_X1_set qS_X1_set qZ_X1 qC_X1_set hd_X1_set ⟨Nat.le_of_ble_eq_true rfl, Nat.le_of_ble_eq_true rfl⟩ (Nat.le_of_ble_eq_true rfl) rfl rfl dX1_add_27 (Nat.zero_le _) (Nat.zero_le _) (fun D3 hq3 => ?_)
  have eD3 := hq3
  refine V_aload_n h 31 0 rfl dX1_add_30 rfl ?_
  refine V_aload_n h 32 0 rfl dX1_add_31 rfl ?_
  refine g_X1_15 h 35 hd dX1_add_32 rfl ?_
  refine V_top (y := nI m) (by rw [eD3, upd2_na hdd, eD2, upd2_na hdd, eD1, upd2_na hdd]; exact hm) ?_
  refine V_iconst h 36 (v := 3) (by decide) dX1_add_35 rfl ?_
  refine V_iload h 38 4 rfl dX1_add_36 rfl ?_
  refine CVV h 41 (As := [.int (nI m), .int 3, .int e]) (c_dset hd hpc ha (j := m * 4 + 3) (dealIx m 3) (by omega) e) rfl hd qL_X1_23 qI_X1_set qS_X1_set qZ_X1 qC_X1_set hd_X1_set ⟨Nat.le_of_ble_eq_true rfl, Nat.le_of_ble_eq_true rfl⟩ (Nat.le_of_ble_eq_true rfl) rfl rfl dX1_add_38 (Nat.zero_le _) (Nat.zero_le _) (fun D4 hq4 => ?_)
  have eD4 := hq4
  refine V_aload_n h 42 0 rfl dX1_add_41 rfl ?_
  refine V_dup h 43 rfl dX1_add_42 rfl ?_
  refine g_X1_15 h 46 hd dX1_add_43 rfl ?_
  refine V_top (y := nI m) (by rw [eD4, upd2_na hdd, eD3, upd2_na hdd, eD2, upd2_na hdd, eD1, upd2_na hdd]; exact hm) ?_
  refine V_iconst h 47 (v := 1) (by decide) dX1_add_46 rfl ?_
  refine V_iadd h 48 dX1_add_47 rfl ?_
  refine p_X1_15 h 51 hd dX1_add_48 rfl ?_
  obtain ⟨D5, eD5⟩ : ∃ zz, zz = upd2 D4 d 1 ((nI m) + 1) := ⟨_, rfl⟩
  rw [← eD5]
  exact V_ret h  hQ (Nat.zero_le _) (Nat.zero_le _) ⟨rfl, rfl, rfl, rfl, rfl, (by dsimp only; rw [upd2_sr] at eD1; rw [eD1, sr_upd2] at eD2; rw [eD2, sr_upd2] at eD3; rw [eD3, sr_upd2] at eD4; rw [eD5, eD4, nI_1]; rfl)⟩ dX1_add_51

theorem like_step {g f : Nat → Int32} {i : Nat} (h : ∀ z, z < i * 4 → g z = f z) : ∀ z, z < (i + 1) * 4 → upd (upd (upd (upd g (i * 4 + 0) (f (i * 4 + 0))) (i * 4 + 1) (f (i * 4 + 1))) (i * 4 + 2) (f (i * 4 + 2))) (i * 4 + 3) (f (i * 4 + 3)) z = f z := by
  intro z hz
  simp only [upd]
  by_cases h3 : z = i * 4 + 3
  · rw [if_pos h3, h3]
  · rw [if_neg h3]
    by_cases h2 : z = i * 4 + 2
    · rw [if_pos h2, h2]
    · rw [if_neg h2]
      by_cases h1 : z = i * 4 + 1
      · rw [if_pos h1, h1]
      · rw [if_neg h1]
        by_cases h0 : z = i * 4 + 0
        · rw [if_pos h0, h0]
        · rw [if_neg h0]; exact h z (by omega)

set_option maxRecDepth 100000 in
set_option maxHeartbeats 4000000 in
theorem c_dealsLike {κ : mKp} {n : Nat} {sh : mSh} {P : mPt} {D : mDt} {E : mEt} {d dc : Nat} (hd : sh d = some (.inl 1)) (hpc : P d 0 = some dc) (ha : sh dc = some (.inr (0, 32))) {d2 dc2 : Nat} (hd2 : sh d2 = some (.inl 1)) (hpc2 : P d2 0 = some dc2) (ha2 : sh dc2 = some (.inr (0, 32))) {m : Nat} (hdd : d ≠ dc) (hn1 : d2 ≠ d) (hn2 : dc2 ≠ d) (hn3 : dc2 ≠ dc) (hm : D d2 1 = nI m) (hm8 : m ≤ 8) : mFnV κ yX1_becomeLike cX1_becomeLike 4 1 24 [.ref d, .ref d2] n sh P D E (fun D' => ∃ g : Nat → Int32, D' = setRow (upd2 D d 1 (nI m)) dc g ∧ ∀ z, z < m * 4 → g z = D dc2 z) := by
  refine mMet_of (by decide) (Nat.le_of_ble_eq_true rfl) ?_
  intro Γ Q hQ h hin
  have h : mOk Γ κ RX1 cX1_becomeLike 4 (Option.none : Option Jvm.ClassFile.FieldType) { frames := 1, cells := 0, slots := 0, locals := 24 } := h
  show mV Γ Q 0 0 n sh P D E [(0, .ref d), (1, .ref d2)] [] 0
  refine V_aload_n h 1 0 rfl dX1_becomeLike_0 rfl ?_
  refine V_aload_n h 2 1 rfl dX1_becomeLike_1 rfl ?_
  refine g_X1_15 h 5 hd2 dX1_becomeLike_2 rfl ?_
  refine V_top (y := nI m) hm ?_
  refine p_X1_15 h 8 hd dX1_becomeLike_5 rfl ?_
  obtain ⟨D1, eD1⟩ : ∃ zz, zz = upd2 D d 1 (nI m) := ⟨_, rfl⟩
  rw [← eD1]
  refine V_iconst h 9 (v := 0) (by decide) dX1_becomeLike_8 rfl ?_
  refine V_istore_n h 10 [(2, .int 0), (0, .ref d), (1, .ref d2)] (by decide) rfl dX1_becomeLike_9 rfl ?_
  have LP10 : ∀ (kk : Nat) (i : Nat) (x2 : Int32) (g : Nat → Int32), (i ≤ m) → (x2 = nI i) → (∀ z, z < i * 4 → g z = D dc2 z) → m - i < kk → mV Γ Q 0 0 n sh P (setRow D1 dc g) E [(0, .ref d), (1, .ref d2), (2, .int x2)] [] 10 := by
    intro kk
    induction kk with
    | zero =>
      intro i x2 g _ _ _ hms
      exact absurd hms (Nat.not_lt_zero _)
    | succ kk ih =>
      intro i x2 g hi e2 h1 hms
      subst e2
      refine V_iload_n h 11 2 rfl dX1_becomeLike_10 rfl ?_
      refine V_aload_n h 12 0 rfl dX1_becomeLike_11 rfl ?_
      refine g_X1_15 h 15 hd dX1_becomeLike_12 rfl ?_
      refine V_top (y := nI m) (by rw [setRow_ne hdd, eD1]; exact upd2_eq) ?_
      refine V_icmp_ge h 49 18 dX1_becomeLike_15 (by decide) rfl (fun c15 => ?_) (fun c15 => ?_)
      · skip
        have hex : i = m := by have := mGe c15 (by omega) (by omega); omega
        exact V_ret h  hQ (Nat.zero_le _) (Nat.zero_le _) ⟨rfl, rfl, rfl, rfl, rfl, ⟨g, by rw [eD1], by rw [hex] at h1; exact h1⟩⟩ dX1_becomeLike_49
      · skip
        have hlt := mLt c15 (by omega)
        refine V_iconst h 19 (v := 0) (by decide) dX1_becomeLike_18 rfl ?_
        refine V_istore_n h 20 [(3, .int 0), (0, .ref d), (1, .ref d2), (2, .int (nI i))] (by decide) rfl dX1_becomeLike_19 rfl ?_
        refine V_iload_n h 21 0 rfl dX1_becomeLike_20 rfl ?_
        refine V_iconst h 22 (v := 4) (by decide) dX1_becomeLike_21 rfl ?_
        refine V_icmp_ge h 43 25 dX1_becomeLike_22 (by decide) rfl (fun c22 => absurd c22 (by decide)) (fun c22 => ?_)
        refine V_aload_n h 26 1 rfl dX1_becomeLike_25 rfl ?_
        refine V_iload_n h 27 3 rfl dX1_becomeLike_26 rfl ?_
        refine V_iload_n h 28 0 rfl dX1_becomeLike_27 rfl ?_
        refine V_aload_n h 29 2 rfl dX1_becomeLike_28 rfl ?_
        refine V_iload_n h 30 3 rfl dX1_becomeLike_29 rfl ?_
        refine V_iload_n h 31 0 rfl dX1_becomeLike_30 rfl ?_
        refine CVI h 34 (As := [.int (nI i), .int 0]) (c_dget hd2 hpc2 ha2 (j := i * 4 + 0) (dealIx i 0) (by omega)) rfl hd2 qL_X1_19 qI_X1_get qS_X1_get qZ_X1 qC_X1_get hd_X1_get ⟨Nat.le_of_ble_eq_true rfl, Nat.le_of_ble_eq_true rfl⟩ (Nat.le_of_ble_eq_true rfl) rfl rfl dX1_becomeLike_31 (Nat.zero_le _) (Nat.zero_le _) (fun r2 D2 hq2 => ?_)
        rw [hq2.1, hq2.2]
        refine V_top (y := D dc2 (i * 4 + 0)) (by rw [setRow_ne hn3, eD1, upd2_na hn2]) ?_
        refine CVV h 37 (As := [.int (nI i), .int 0, .int (D dc2 (i * 4 + 0))]) (c_dset hd hpc ha (j := i * 4 + 0) (dealIx i 0) (by omega) (D dc2 (i * 4 + 0))) rfl hd qL_X1_23 qI_X1_set qS_X1_set qZ_X1 qC_X1_set hd_X1_set ⟨Nat.le_of_ble_eq_true rfl, Nat.le_of_ble_eq_true rfl⟩ (Nat.le_of_ble_eq_true rfl) rfl rfl dX1_becomeLike_34 (Nat.zero_le _) (Nat.zero_le _) (fun D3 hq3 => ?_)
        rw [show D3 = (setRow D1 dc (upd g (i * 4 + 0) (D dc2 (i * 4 + 0)))) from (by rw [hq3, sr_upd2])]
        refine V_iinc h 40 [(3, .int 1), (0, .ref d), (1, .ref d2), (2, .int (nI i))] 0 rfl (by rfl) (by decide) rfl dX1_becomeLike_37 rfl ?_
        refine V_goto h 20 dX1_becomeLike_40 (by decide) ?_
        refine V_iload_n h 21 0 rfl dX1_becomeLike_20 rfl ?_
        refine V_iconst h 22 (v := 4) (by decide) dX1_becomeLike_21 rfl ?_
        refine V_icmp_ge h 43 25 dX1_becomeLike_22 (by decide) rfl (fun c22 => absurd c22 (by decide)) (fun c22 => ?_)
        refine V_aload_n h 26 1 rfl dX1_becomeLike_25 rfl ?_
        refine V_iload_n h 27 3 rfl dX1_becomeLike_26 rfl ?_
        refine V_iload_n h 28 0 rfl dX1_becomeLike_27 rfl ?_
        refine V_aload_n h 29 2 rfl dX1_becomeLike_28 rfl ?_
        refine V_iload_n h 30 3 rfl dX1_becomeLike_29 rfl ?_
        refine V_iload_n h 31 0 rfl dX1_becomeLike_30 rfl ?_
        refine CVI h 34 (As := [.int (nI i), .int 1]) (c_dget hd2 hpc2 ha2 (j := i * 4 + 1) (dealIx i 1) (by omega)) rfl hd2 qL_X1_19 qI_X1_get qS_X1_get qZ_X1 qC_X1_get hd_X1_get ⟨Nat.le_of_ble_eq_true rfl, Nat.le_of_ble_eq_true rfl⟩ (Nat.le_of_ble_eq_true rfl) rfl rfl dX1_becomeLike_31 (Nat.zero_le _) (Nat.zero_le _) (fun r4 D4 hq4 => ?_)
        rw [hq4.1, hq4.2]
        refine V_top (y := D dc2 (i * 4 + 1)) (by rw [setRow_ne hn3, eD1, upd2_na hn2]) ?_
        refine CVV h 37 (As := [.int (nI i), .int 1, .int (D dc2 (i * 4 + 1))]) (c_dset hd hpc ha (j := i * 4 + 1) (dealIx i 1) (by omega) (D dc2 (i * 4 + 1))) rfl hd qL_X1_23 qI_X1_set qS_X1_set qZ_X1 qC_X1_set hd_X1_set ⟨Nat.le_of_ble_eq_true rfl, Nat.le_of_ble_eq_true rfl⟩ (Nat.le_of_ble_eq_true rfl) rfl rfl dX1_becomeLike_34 (Nat.zero_le _) (Nat.zero_le _) (fun D5 hq5 => ?_)
        rw [show D5 = (setRow D1 dc (upd (upd g (i * 4 + 0) (D dc2 (i * 4 + 0))) (i * 4 + 1) (D dc2 (i * 4 + 1)))) from (by rw [hq5, sr_upd2])]
        refine V_iinc h 40 [(3, .int 2), (0, .ref d), (1, .ref d2), (2, .int (nI i))] 0 rfl (by rfl) (by decide) rfl dX1_becomeLike_37 rfl ?_
        refine V_goto h 20 dX1_becomeLike_40 (by decide) ?_
        refine V_iload_n h 21 0 rfl dX1_becomeLike_20 rfl ?_
        refine V_iconst h 22 (v := 4) (by decide) dX1_becomeLike_21 rfl ?_
        refine V_icmp_ge h 43 25 dX1_becomeLike_22 (by decide) rfl (fun c22 => absurd c22 (by decide)) (fun c22 => ?_)
        refine V_aload_n h 26 1 rfl dX1_becomeLike_25 rfl ?_
        refine V_iload_n h 27 3 rfl dX1_becomeLike_26 rfl ?_
        refine V_iload_n h 28 0 rfl dX1_becomeLike_27 rfl ?_
        refine V_aload_n h 29 2 rfl dX1_becomeLike_28 rfl ?_
        refine V_iload_n h 30 3 rfl dX1_becomeLike_29 rfl ?_
        refine V_iload_n h 31 0 rfl dX1_becomeLike_30 rfl ?_
        refine CVI h 34 (As := [.int (nI i), .int 2]) (c_dget hd2 hpc2 ha2 (j := i * 4 + 2) (dealIx i 2) (by omega)) rfl hd2 qL_X1_19 qI_X1_get qS_X1_get qZ_X1 qC_X1_get hd_X1_get ⟨Nat.le_of_ble_eq_true rfl, Nat.le_of_ble_eq_true rfl⟩ (Nat.le_of_ble_eq_true rfl) rfl rfl dX1_becomeLike_31 (Nat.zero_le _) (Nat.zero_le _) (fun r6 D6 hq6 => ?_)
        rw [hq6.1, hq6.2]
        refine V_top (y := D dc2 (i * 4 + 2)) (by rw [setRow_ne hn3, eD1, upd2_na hn2]) ?_
        refine CVV h 37 (As := [.int (nI i), .int 2, .int (D dc2 (i * 4 + 2))]) (c_dset hd hpc ha (j := i * 4 + 2) (dealIx i 2) (by omega) (D dc2 (i * 4 + 2))) rfl hd qL_X1_23 qI_X1_set qS_X1_set qZ_X1 qC_X1_set hd_X1_set ⟨Nat.le_of_ble_eq_true rfl, Nat.le_of_ble_eq_true rfl⟩ (Nat.le_of_ble_eq_true rfl) rfl rfl dX1_becomeLike_34 (Nat.zero_le _) (Nat.zero_le _) (fun D7 hq7 => ?_)
        rw [show D7 = (setRow D1 dc (upd (upd (upd g (i * 4 + 0) (D dc2 (i * 4 + 0))) (i * 4 + 1) (D dc2 (i * 4 + 1))) (i * 4 + 2) (D dc2 (i * 4 + 2)))) from (by rw [hq7, sr_upd2])]
        refine V_iinc h 40 [(3, .int 3), (0, .ref d), (1, .ref d2), (2, .int (nI i))] 0 rfl (by rfl) (by decide) rfl dX1_becomeLike_37 rfl ?_
        refine V_goto h 20 dX1_becomeLike_40 (by decide) ?_
        refine V_iload_n h 21 0 rfl dX1_becomeLike_20 rfl ?_
        refine V_iconst h 22 (v := 4) (by decide) dX1_becomeLike_21 rfl ?_
        refine V_icmp_ge h 43 25 dX1_becomeLike_22 (by decide) rfl (fun c22 => absurd c22 (by decide)) (fun c22 => ?_)
        refine V_aload_n h 26 1 rfl dX1_becomeLike_25 rfl ?_
        refine V_iload_n h 27 3 rfl dX1_becomeLike_26 rfl ?_
        refine V_iload_n h 28 0 rfl dX1_becomeLike_27 rfl ?_
        refine V_aload_n h 29 2 rfl dX1_becomeLike_28 rfl ?_
        refine V_iload_n h 30 3 rfl dX1_becomeLike_29 rfl ?_
        refine V_iload_n h 31 0 rfl dX1_becomeLike_30 rfl ?_
        refine CVI h 34 (As := [.int (nI i), .int 3]) (c_dget hd2 hpc2 ha2 (j := i * 4 + 3) (dealIx i 3) (by omega)) rfl hd2 qL_X1_19 qI_X1_get qS_X1_get qZ_X1 qC_X1_get hd_X1_get ⟨Nat.le_of_ble_eq_true rfl, Nat.le_of_ble_eq_true rfl⟩ (Nat.le_of_ble_eq_true rfl) rfl rfl dX1_becomeLike_31 (Nat.zero_le _) (Nat.zero_le _) (fun r8 D8 hq8 => ?_)
        rw [hq8.1, hq8.2]
        refine V_top (y := D dc2 (i * 4 + 3)) (by rw [setRow_ne hn3, eD1, upd2_na hn2]) ?_
        refine CVV h 37 (As := [.int (nI i), .int 3, .int (D dc2 (i * 4 + 3))]) (c_dset hd hpc ha (j := i * 4 + 3) (dealIx i 3) (by omega) (D dc2 (i * 4 + 3))) rfl hd qL_X1_23 qI_X1_set qS_X1_set qZ_X1 qC_X1_set hd_X1_set ⟨Nat.le_of_ble_eq_true rfl, Nat.le_of_ble_eq_true rfl⟩ (Nat.le_of_ble_eq_true rfl) rfl rfl dX1_becomeLike_34 (Nat.zero_le _) (Nat.zero_le _) (fun D9 hq9 => ?_)
        rw [show D9 = (setRow D1 dc (upd (upd (upd (upd g (i * 4 + 0) (D dc2 (i * 4 + 0))) (i * 4 + 1) (D dc2 (i * 4 + 1))) (i * 4 + 2) (D dc2 (i * 4 + 2))) (i * 4 + 3) (D dc2 (i * 4 + 3)))) from (by rw [hq9, sr_upd2])]
        refine V_iinc h 40 [(3, .int 4), (0, .ref d), (1, .ref d2), (2, .int (nI i))] 0 rfl (by rfl) (by decide) rfl dX1_becomeLike_37 rfl ?_
        refine V_goto h 20 dX1_becomeLike_40 (by decide) ?_
        refine V_iload_n h 21 0 rfl dX1_becomeLike_20 rfl ?_
        refine V_iconst h 22 (v := 4) (by decide) dX1_becomeLike_21 rfl ?_
        refine V_icmp_ge h 43 25 dX1_becomeLike_22 (by decide) rfl (fun c22 => ?_) (fun c22 => absurd c22 (by decide))
        refine V_iinc h 46 [(2, .int ((nI i) + 1)), (3, .int 4), (0, .ref d), (1, .ref d2)] 3 rfl (by rfl) (by decide) rfl dX1_becomeLike_43 rfl ?_
        refine V_goto h 10 dX1_becomeLike_46 (by decide) ?_
        refine V_lsub [(0, .ref d), (1, .ref d2), (2, .int ((nI i) + 1))] [2, 3, 0] rfl ?_
        exact ih (i + 1) _ _ (by omega) (nI_1 i) (like_step h1) (by omega)
  rw [show mV Γ Q 0 0 n sh P D1 E = mV Γ Q 0 0 n sh P (setRow D1 dc (D1 dc)) E from by rw [setRow_self]]
  refine V_lsub [(0, .ref d), (1, .ref d2), (2, .int 0)] [1, 2, 0] rfl ?_
  exact LP10 _ 0 _ (D1 dc) (Nat.zero_le _) rfl (fun z hz => absurd hz (by omega)) (Nat.lt_succ_self _)
