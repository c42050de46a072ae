/-! what the law draws out of its script -/
theorem qc_L_8 : Cond.constant RL 8 (790386105 : Int32) ∈ mW := mWin 695 (by decide +kernel) (by decide +kernel)
theorem qc_L_7 : Cond.constant RL 7 (2147483647 : Int32) ∈ mW := mWin 699 (by decide +kernel) (by decide +kernel)
def cellI (Ls : Nat) (xs : Nat → Int32) (k : Nat) : Int32 := if k < Ls then xs k else 790386105 * (nI k + 3)
def belI (v n : Int32) : Int32 := (v &&& 2147483647) - (v &&& 2147483647) / n * n
def drwI (Ls : Nat) (xs : Nat → Int32) (dr : Nat) (n : Int32) : Int32 := belI (cellI Ls xs (dr % 24) >>> (nI (dr / 24 % 8) &&& 31) + 317 * nI dr) n
theorem belI_lt {v : Int32} {N : Nat} (h1 : 1 ≤ N) (h : N < 2 ^ 31) : ∃ w, w < N ∧ belI v (nI N) = nI w := by
  obtain ⟨j, hj, e⟩ := pk_andE v (m := 2147483647) 31 (by decide)
  refine ⟨j % N, Nat.mod_lt _ h1, ?_⟩
  unfold belI
  rw [e]
  exact rm_nI hj h
theorem drwI_lt {Ls : Nat} {xs : Nat → Int32} {dr N : Nat} (h1 : 1 ≤ N) (h : N < 2 ^ 31) : ∃ w, w < N ∧ drwI Ls xs dr (nI N) = nI w := belI_lt h1 h
def mSF (κ : mKp) (y : MethodName) (cc : ByteArray) (nL : Nat) (ret : Option FieldType) (fr lo : Nat) (As : List Value) (n : Nat) (sh : mSh) (P : mPt) (D : mDt) (E : mEt) (bs Ls : Nat) (xs : Nat → Int32) (post : Int32 → mDt → Prop) : Prop := mSMet κ y cc nL ret { frames := fr, cells := 0, slots := 0, locals := lo } As n sh P D E bs Ls xs (fun v n' sh' P' D' E' => n' = n ∧ sh' = sh ∧ P' = P ∧ E' = E ∧ ∃ r : Int32, v = some (.int r) ∧ post r D')
section MSF
variable {Γ : mC} {κ : mKp} {Q : State → Prop} {kc ks n : Nat} {sh : mSh} {P : mPt} {D : mDt} {E : mEt} {lv : List (Nat × Value)} {st : List Value} {pc : Nat} {own : String} {cc : ByteArray} {nL : Nat} {ret : Option FieldType} {R : Room} {bs Ls : Nat} {xs : Nat → Int32}
theorem SVI (h : mOk Γ κ own cc nL ret R) (hX : mOkS Γ bs Ls xs) (pc' : Nat) {y : MethodName} {cc2 : ByteArray} {nL2 : Nat} {ret2 : Option FieldType} {fr lo : Nat} {idx : Nat} {As stk : List Value} {post : Int32 → mDt → Prop} {ci b N : Nat} {T : u_T} (hM : mSF κ y cc2 nL2 ret2 fr lo (.ref b :: As) n sh P D E bs Ls xs post) (hC : vwCl[ci]? = some (y.cls, T, N)) (hs : sh b = some (.inl ci)) (w1 : Cond.methodLink own idx y ∈ mW) (w2 : Cond.instanceMethod y ∈ mW) (w3 : Cond.selects y.cls y y ∈ mW) (w4 : Cond.initialized y.cls ∈ mW) (w5 : Cond.code y cc2 nL2 ret2 ∈ mW) (hd : y.cls ≠ "java/lang/invoke/MethodHandle" ∧ y.cls ≠ "java/lang/invoke/VarHandle" ∧ (parseMethodDescriptor y.desc).map (fun d => d.parameters.length) = some As.length) (hR : fr + 1 ≤ R.frames ∧ 8 + (nL2 + 11) + lo ≤ R.locals) (hcat : (st.map fun v => v.category).sum ≤ 8) (hp : pc + 3 = pc') (hstk : stk = As.reverse ++ .ref b :: st) (d : decode cc pc = .ok (.invokevirtual idx, 3)) (hkc : kc ≤ R.cells) (hks : ks ≤ R.slots) (kk : ∀ (r : Int32) (D' : mDt), post r D' → mV Γ Q kc ks n sh P D' E lv (.int r :: st) pc') : mV Γ Q kc ks n sh P D E lv stk pc := by
  refine S_callV h hX pc' (rm := { frames := fr, cells := 0, slots := 0, locals := lo }) hM hC hs w1 w2 w3 w4 w5 hd hR hcat hp hstk d ⟨hkc, hks⟩ ?_
  · intro v n' sh' P' D' E' hq
    obtain ⟨rfl, rfl, rfl, rfl, r, rfl, hq⟩ := hq
    exact kk r D' hq
theorem SSNI (h : mOk Γ κ own cc nL ret R) (hX : mOkS Γ bs Ls xs) (pc' : Nat) {y : MethodName} {cc2 : ByteArray} {nL2 : Nat} {ret2 : Option FieldType} {fr lo : Nat} {idx : Nat} {As stk : List Value} {post : Int32 → mDt → Prop} {host : String} (hM : mSF κ y cc2 nL2 ret2 fr lo As n sh P D E bs Ls xs post) (w1 : Cond.methodLinkNest own idx y host ∈ mNest) (w2 : Cond.static y ∈ mW) (w4 : Cond.initialized y.cls ∈ mW) (w5 : Cond.code y cc2 nL2 ret2 ∈ mW) (hd : y.cls ≠ "java/lang/invoke/MethodHandle" ∧ y.cls ≠ "java/lang/invoke/VarHandle" ∧ (parseMethodDescriptor y.desc).map (fun d => d.parameters.length) = some As.length) (hR : fr + 1 ≤ R.frames ∧ 8 + (nL2 + 11) + lo ≤ R.locals) (hcat : (st.map fun v => v.category).sum ≤ 8) (hp : pc + 3 = pc') (hstk : stk = As.reverse ++ st) (d : decode cc pc = .ok (.invokestatic idx, 3)) (hkc : kc ≤ R.cells) (hks : ks ≤ R.slots) (kk : ∀ (r : Int32) (D' : mDt), post r D' → mV Γ Q kc ks n sh P D' E lv (.int r :: st) pc') : mV Γ Q kc ks n sh P D E lv stk pc := by
  refine S_callSN h hX pc' (rm := { frames := fr, cells := 0, slots := 0, locals := lo }) hM w1 w2 w4 w5 hd hR hcat hp hstk d ⟨hkc, hks⟩ ?_
  · intro v n' sh' P' D' E' hq
    obtain ⟨rfl, rfl, rfl, rfl, r, rfl, hq⟩ := hq
    exact kk r D' hq
end MSF
set_option maxRecDepth 100000 in
set_option maxHeartbeats 4000000 in
theorem c_cell {κ : mKp} {n : Nat} {sh : mSh} {P : mPt} {D : mDt} {E : mEt} {bs Ls : Nat} {xs : Nat → Int32} (hLs : Ls < 2 ^ 31) {k : Nat} (hk : k < 2 ^ 31) : mSF κ yL_cell cL_cell 2 (Option.some Jvm.ClassFile.FieldType.int) 0 0 [.ref bs, .int (nI k)] n sh P D E bs Ls xs (fun r D' => D' = D ∧ r = cellI Ls xs k) := by
  refine mSMet_of (by decide) (Nat.le_of_ble_eq_true rfl) ?_
  intro Γ Q hQ h hX hin
  have h : mOk Γ κ RL cL_cell 2 (Option.some Jvm.ClassFile.FieldType.int) { frames := 0, cells := 0, slots := 0, locals := 0 } := h
  show mV Γ Q 0 0 n sh P D E [(0, .ref bs), (1, .int (nI k))] [] 0
  refine V_iload_n h 1 1 rfl dL_cell_0 rfl ?_
  refine V_aload_n h 2 0 rfl dL_cell_1 rfl ?_
  refine V_slen h hX 3 dL_cell_2 rfl ?_
  refine V_icmp_ge h 12 6 dL_cell_3 (by decide) rfl (fun c3 => ?_) (fun c3 => ?_)
  · skip
    refine V_ldc h 14 (v := 790386105) qc_L_8 dL_cell_12 rfl ?_
    refine V_iload_n h 15 1 rfl dL_cell_14 rfl ?_
    refine V_iconst h 16 (v := 3) (by decide) dL_cell_15 rfl ?_
    refine V_iadd h 17 dL_cell_16 rfl ?_
    refine V_imul h 18 dL_cell_17 rfl ?_
    exact V_iret h rfl hQ (Nat.zero_le _) (Nat.zero_le _) ⟨rfl, rfl, rfl, rfl, _, rfl, ⟨rfl, by unfold cellI; rw [if_neg (Nat.not_lt.mpr (mGeB c3 hk hLs))]⟩⟩ dL_cell_18
  · skip
    refine V_aload_n h 7 0 rfl dL_cell_6 rfl ?_
    refine V_iload_n h 8 1 rfl dL_cell_7 rfl ?_
    refine V_sld h hX 9 k rfl (mLtB c3 hk) (by omega) dL_cell_8 rfl ?_
    refine V_goto h 18 dL_cell_9 (by decide) ?_
    exact V_iret h rfl hQ (Nat.zero_le _) (Nat.zero_le _) ⟨rfl, rfl, rfl, rfl, _, rfl, ⟨rfl, by unfold cellI; rw [if_pos (mLtB c3 hk)]⟩⟩ dL_cell_18

set_option maxRecDepth 100000 in
set_option maxHeartbeats 4000000 in
theorem c_below {κ : mKp} {n : Nat} {sh : mSh} {P : mPt} {D : mDt} {E : mEt} {bs Ls : Nat} {xs : Nat → Int32} (v : Int32) {N : Nat} (h1 : 1 ≤ N) (hN : N < 2 ^ 31) : mSF κ yL_below cL_below 2 (Option.some Jvm.ClassFile.FieldType.int) 0 0 [.int v, .int (nI N)] n sh P D E bs Ls xs (fun r D' => D' = D ∧ r = belI v (nI N)) := by
  refine mSMet_of (by decide) (Nat.le_of_ble_eq_true rfl) ?_
  intro Γ Q hQ h hX hin
  have h : mOk Γ κ RL cL_below 2 (Option.some Jvm.ClassFile.FieldType.int) { frames := 0, cells := 0, slots := 0, locals := 0 } := h
  show mV Γ Q 0 0 n sh P D E [(0, .int v), (1, .int (nI N))] [] 0
  refine V_iload_n h 1 0 rfl dL_below_0 rfl ?_
  refine V_ldc h 3 (v := 2147483647) qc_L_7 dL_below_1 rfl ?_
  refine V_iand h 4 dL_below_3 rfl ?_
  refine V_iload_n h 5 1 rfl dL_below_4 rfl ?_
  refine V_irem h 6 (nI_ne0 h1 hN) dL_below_5 rfl ?_
  exact V_iret h rfl hQ (Nat.zero_le _) (Nat.zero_le _) ⟨rfl, rfl, rfl, rfl, _, rfl, ⟨rfl, rfl⟩⟩ dL_below_6

set_option maxRecDepth 100000 in
set_option maxHeartbeats 4000000 in
theorem c_draw {κ : mKp} {n : Nat} {sh : mSh} {P : mPt} {D : mDt} {E : mEt} {bs Ls : Nat} {xs : Nat → Int32} {t dr N : Nat} (ht : sh t = some (.inl 6)) (hs1 : P t 1 = some bs) (h2 : D t 2 = nI dr) (hdr : dr < 2 ^ 31) (hLs : Ls < 2 ^ 31) (h1 : 1 ≤ N) (hN : N < 2 ^ 31) : mSF κ yX6_draw cX6_draw 3 (Option.some Jvm.ClassFile.FieldType.int) 1 21 [.ref t, .int (nI N)] n sh P D E bs Ls xs (fun r D' => D' = upd2 D t 2 (nI (dr + 1)) ∧ r = drwI Ls xs dr (nI N)) := by
  refine mSMet_of (by decide) (Nat.le_of_ble_eq_true rfl) ?_
  intro Γ Q hQ h hX hin
  have h : mOk Γ κ RX6 cX6_draw 3 (Option.some Jvm.ClassFile.FieldType.int) { frames := 1, cells := 0, slots := 0, locals := 21 } := h
  have hsh : nI dr / 24 - nI dr / 24 / 8 * 8 = nI (dr / 24 % 8) := by rw [show (24 : Int32) = nI 24 from rfl, nI_div hdr (by decide)]; exact rm_nI (b := 8) (by omega) (by decide)
  show mV Γ Q 0 0 n sh P D E [(0, .ref t), (1, .int (nI N))] [] 0
  refine V_aload_n h 1 0 rfl dX6_draw_0 rfl ?_
  refine g_X6_45 h 4 (b := bs) ht hs1 dX6_draw_1 rfl ?_
  refine V_aload_n h 5 0 rfl dX6_draw_4 rfl ?_
  refine g_X6_48 h 8 ht dX6_draw_5 rfl ?_
  refine V_top (y := nI dr) h2 ?_
  refine V_bipush h 10 (v := 24) (by decide) dX6_draw_8 rfl ?_
  refine V_irem h 11 (by decide) dX6_draw_10 rfl ?_
  refine V_top (y := nI (dr % 24)) (show (nI dr) - (nI dr) / 24 * 24 = _ from rm_nI (b := 24) hdr (by decide)) ?_
  refine SSNI h hX 14 (host := "OasisBooksLaw") (As := [.ref bs, .int (nI (dr % 24))]) (c_cell hLs (k := dr % 24) (by omega)) (List.mem_of_getElem? (i := 37) (by decide +kernel)) qT_L_cell qZ_L qC_L_cell hd_L_cell ⟨Nat.le_of_ble_eq_true rfl, Nat.le_of_ble_eq_true rfl⟩ (Nat.le_of_ble_eq_true rfl) rfl rfl dX6_draw_11 (Nat.zero_le _) (Nat.zero_le _) (fun r1 D9 hq1 => ?_)
  obtain ⟨e9, hr1⟩ := hq1
  rw [e9]
  refine V_aload_n h 15 0 rfl dX6_draw_14 rfl ?_
  refine g_X6_48 h 18 ht dX6_draw_15 rfl ?_
  refine V_top (y := nI dr) h2 ?_
  refine V_bipush h 20 (v := 24) (by decide) dX6_draw_18 rfl ?_
  refine V_idiv h 21 (by decide) dX6_draw_20 rfl ?_
  refine V_bipush h 23 (v := 8) (by decide) dX6_draw_21 rfl ?_
  refine V_irem h 24 (by decide) dX6_draw_23 rfl ?_
  refine V_ishr h 25 dX6_draw_24 rfl ?_
  refine V_sipush h 28 (v := 317) (by decide) dX6_draw_25 rfl ?_
  refine V_aload_n h 29 0 rfl dX6_draw_28 rfl ?_
  refine g_X6_48 h 32 ht dX6_draw_29 rfl ?_
  refine V_top (y := nI dr) h2 ?_
  refine V_imul h 33 dX6_draw_32 rfl ?_
  refine V_iadd h 34 dX6_draw_33 rfl ?_
  refine V_iload_n h 35 1 rfl dX6_draw_34 rfl ?_
  skip
  refine SSNI h hX 38 (host := "OasisBooksLaw") (As := [.int ((r1 >>> ((((nI dr) / 24) - ((nI dr) / 24) / 8 * 8) &&& 31)) + (317 * (nI dr))), .int (nI N)]) (c_below ((r1 >>> ((((nI dr) / 24) - ((nI dr) / 24) / 8 * 8) &&& 31)) + (317 * (nI dr))) h1 hN) (List.mem_of_getElem? (i := 38) (by decide +kernel)) qT_L_below qZ_L qC_L_below hd_L_below ⟨Nat.le_of_ble_eq_true rfl, Nat.le_of_ble_eq_true rfl⟩ (Nat.le_of_ble_eq_true rfl) rfl rfl dX6_draw_35 (Nat.zero_le _) (Nat.zero_le _) (fun r2 D8 hq2 => ?_)
  obtain ⟨e8, hr2⟩ := hq2
  rw [e8]
  rw [hr1, hsh] at hr2
  refine V_istore_n h 39 [(2, .int r2), (0, .ref t), (1, .int (nI N))] (by decide) rfl dX6_draw_38 rfl ?_
  refine V_aload_n h 40 1 rfl dX6_draw_39 rfl ?_
  refine V_dup h 41 rfl dX6_draw_40 rfl ?_
  refine g_X6_48 h 44 ht dX6_draw_41 rfl ?_
  refine V_top (y := nI dr) h2 ?_
  refine V_iconst h 45 (v := 1) (by decide) dX6_draw_44 rfl ?_
  refine V_iadd h 46 dX6_draw_45 rfl ?_
  refine p_X6_48 h 49 ht dX6_draw_46 rfl ?_
  obtain ⟨D1, eD1⟩ : ∃ zz, zz = upd2 D t 2 ((nI dr) + 1) := ⟨_, rfl⟩
  rw [← eD1]
  refine V_iload_n h 50 0 rfl dX6_draw_49 rfl ?_
  exact V_iret h rfl hQ (Nat.zero_le _) (Nat.zero_le _) ⟨rfl, rfl, rfl, rfl, _, rfl, ⟨by rw [eD1, nI_1], hr2⟩⟩ dX6_draw_50

