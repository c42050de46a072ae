def chFlow (x : Nat → Int32) : Int32 := imax 0 ((x 0 + x 1 - 120 - 2 * x 2) / 10)
def chTab (x : Nat → Int32) (rain : Int32) : Int32 := imax 0 (imin 400 (x 0 + rain / 3 - chFlow x - x 3))
def chMud (x : Nat → Int32) (more : Int32) : Int32 := imin 30 (x 2 + more)
def palmReap (x : Nat → Int32) : Int32 := x 9 * x 6 * (100 - x 7) / 1000
def fdivI (x y : Int32) : Int32 := if 0 ≤ x ^^^ y then x / y else if x / y * y = x then x / y else x / y - 1
def setRow (D : mDt) (a : Nat) (f : Nat → Int32) : mDt := fun b j => if b = a then f j else D b j
theorem upd2_sr {D : mDt} {a k : Nat} {v : Int32} : upd2 D a k v = setRow D a (upd (D a) k v) := by
  funext b j
  by_cases h : b = a
  · subst h; simp [upd2, setRow, upd]
  · simp [upd2, setRow, h]
theorem sr_upd2 {D : mDt} {a k : Nat} {v : Int32} {f : Nat → Int32} : upd2 (setRow D a f) a k v = setRow D a (upd f k v) := by
  funext b j
  by_cases h : b = a
  · subst h; simp [upd2, setRow, upd]
  · simp [upd2, setRow, h]
theorem setRow_eq {D : mDt} {a : Nat} {f : Nat → Int32} : setRow D a f a = f := by funext j; simp [setRow]
theorem setRow_ne {D : mDt} {a b : Nat} {f : Nat → Int32} (h : b ≠ a) : setRow D a f b = D b := by funext j; simp [setRow, h]
theorem setRow_self {D : mDt} {a : Nat} : setRow D a (D a) = D := by funext b j; by_cases h : b = a <;> simp [setRow, h]
def takeX (pl : Int32) (x : Nat → Int32) : Nat → Int32 := upd (upd (upd x 12 (x 11 * (100 - 2 * pl) / 100)) 13 (x 13 + x 11 * (100 - 2 * pl) / 100)) 11 0
def reapX (x : Nat → Int32) : Nat → Int32 := upd (upd (upd (upd x 14 (palmReap x)) 8 (x 8 + palmReap x)) 9 0) 10 0
def settleX (w c p m : Int32) (x : Nat → Int32) : Nat → Int32 := upd (upd (upd (upd (upd x 2 w) 3 c) 4 p) 5 m) 6 50
def likeX (y x : Nat → Int32) : Nat → Int32 := upd (upd (upd (upd (upd (upd (upd (upd (upd (upd (upd (upd (upd (upd x 1 (y 1)) 2 (y 2)) 3 (y 3)) 4 (y 4)) 5 (y 5)) 6 (y 6)) 7 (y 7)) 8 (y 8)) 9 (y 9)) 10 (y 10)) 11 (y 11)) 12 (y 12)) 13 (y 13)) 14 (y 14)
def moistX (nd : Int32) (x : Nat → Int32) : Nat → Int32 := upd x 6 (imax 0 (imin 99 (x 6 + imin 40 (x 12 * 30 / nd)) - 6))
def witherX (z : Int32) (x : Nat → Int32) : Nat → Int32 := if z = 0 then x else if 15 ≤ x 6 then x else upd (upd x 4 (x 4 - (x 4 / 10 + 1))) 9 (imin (x 9) (x 4 - (x 4 / 10 + 1)))
def growX (z : Int32) (x : Nat → Int32) : Nat → Int32 := if 1 ≤ x 4 * 20 then (if x 12 ≤ 2 * (x 4 * 20) then witherX z (moistX (x 4 * 20) x) else witherX z (upd (moistX (x 4 * 20) x) 7 (imin 99 (x 7 + 1)))) else x
def partF (w s d h : Int32) : Int32 := if 1 ≤ 2 * s + d then (if h < s then fdivI (2 * w) (2 * s + d) else fdivI w (2 * s + d)) + (if h < w - s * fdivI (2 * w) (2 * s + d) - d * fdivI w (2 * s + d) then 1 else 0) else 0
def inhX (y : Nat → Int32) (s d h : Int32) (x : Nat → Int32) : Nat → Int32 := upd (upd (upd (upd (upd (upd (upd x 2 (partF (y 2) s d h)) 3 (partF (y 3) s d h)) 4 (partF (y 4) s d h)) 5 (partF (y 5) s d h)) 8 (partF (y 8) s d h)) 6 (y 6)) 7 (y 7)
section MX
variable {Γ : mC} {κ : mKp} {Q : State → Prop} {kc ks n : Nat} {sh : mSh} {P : mPt} {D : mDt} {E : mEt} {lv : List (Nat × Value)} {st : List Value} {pc : Nat} {own : String} {cc : ByteArray} {nL : Nat} {ret : Option FieldType} {R : Room}
theorem V_ixor (h : mOk Γ κ own cc nL ret R) (pc' : Nat) {x y : Int32} (d : decode cc pc = .ok (.ixor, 1)) (hp : pc + 1 = pc') (k : mV Γ Q kc ks n sh P D E lv (.int (x ^^^ y) :: st) pc') : mV Γ Q kc ks n sh P D E lv (.int y :: .int x :: st) pc := by
  obtain ⟨⟨p, l, e, R0, s, m, args, below, meth, c⟩, G, Y, base⟩ := Γ
  obtain ⟨hx, hb, hml, hown, hts, hK, hlk, hrt, hR, hbs, -⟩ := h
  subst hp
  intro H locs ls hR1 hS hl
  exact lv_ixor hx hb d (k H locs ls hR1 hS hl)
theorem V_if_ge (h : mOk Γ κ own cc nL ret R) (tgt pc' : Nat) {x : Int32} {off : Int} (d : decode cc pc = .ok (.ifCond .ge off, 3)) (ht : (pc : Int) + off = (tgt : Int)) (hp : pc + 3 = pc') (kt : 0 ≤ x → mV Γ Q kc ks n sh P D E lv st tgt) (kf : ¬ (0 ≤ x) → mV Γ Q kc ks n sh P D E lv st pc') : mV Γ Q kc ks n sh P D E lv (.int x :: st) pc := by
  obtain ⟨⟨p, l, e, R0, s, m, args, below, meth, c⟩, G, Y, base⟩ := Γ
  obtain ⟨hx, hb, hml, hown, hts, hK, hlk, hrt, hR, hbs, -⟩ := h
  subst hp
  intro H locs ls hR1 hS hl
  exact lv_if_ge hx hb d ht (fun q => kt q H locs ls hR1 hS hl) (fun q => kf q H locs ls hR1 hS hl)
end MX

theorem metOfWF {l : Launch} {y : MethodName} {ws ws' : List Cond} {rm : Room} {Pc : Array Value → State → Prop} {Qc : Array Value → State → Outcome → State → Prop} {mc ms : Nat} {free : Addr → Prop} {cc : ByteArray} {maxL : Nat} {ret : Option FieldType}
    (hy : plainFor y = true) (hw : ws = Cond.code y cc maxL ret :: ws')
    (body : ∀ p e s m args below meth c s₁, BodyLoose p l y (headSpec ws rm) cc maxL ret e s m args below meth c s₁ → c.maxLocals = maxL → Pc args s →
      W p l e (headSpec ws rm).room s m args below meth c s.heap [] 0 0 (MQ below Qc args s mc ms free) (entryFrame m args maxL)) : Met l y ws rm Pc Qc mc ms free := by
  refine MetFree.of_bodySF (code := cc) (maxLocals := maxL) (ret := ret) hy ?_ ?_
  · intro args s m h hn
    obtain ⟨meth, c, h1, h2, h3, h4, h5, h6, -, -⟩ := Cond.code_spec hn (atoms_spec (ws := ws) h _ (by rw [hw]; exact List.mem_cons_self))
    exact ⟨meth, c, h1, h2, h3, h4, h5, h6⟩
  · intro p e s m args below meth c s₁ B hml hP _
    have hh0 : s₁.heap = s.heap := by rw [B.state]; rfl
    obtain ⟨t, a1, o, b1, b2, b3⟩ := body p e s m args below meth c s₁ B hml hP s₁ hh0 (Stand.of_body B)
    exact ⟨t, o, a1, b1, b2, ⟨b3.1, b3.2⟩⟩
theorem mMet_ofF {κ : mKp} {y : MethodName} {cc : ByteArray} {nL : Nat} {ret : Option FieldType} {rm : Room} {As : List Value} {n : Nat} {sh : mSh} {P : mPt} {D : mDt} {E : mEt} {post : mPost} (hy : plainFor y = true) (hlen : (lg_sl As).length ≤ nL)
    (body : ∀ (Γ : mC) (Q : State → Prop), Q = mEnd Γ post rm.cells rm.slots → mOk Γ κ y.cls cc nL ret rm → (y.name = "<init>" → mInit Γ) → mV Γ Q 0 0 n sh P D E (lv_args 0 As) [] 0) : mMet κ y cc nL ret rm As n sh P D E post := by
  obtain ⟨l, G, Y, base⟩ := κ
  refine metOfWF (cc := cc) (maxL := nL) (ret := ret) hy rfl ?_
  intro p e s m args below meth c s₁ B hml hv
  obtain ⟨rfl, hK, hbn, hR⟩ := hv
  have hts := atoms_spec (ws := Cond.code y cc nL ret :: mW) B.pre
  have hown : s.vm.findClass y.cls = some m.cls := findClass_of_methodNamed B.named
  have hbs : base ≤ s.heap.size := by rw [hR.1]; exact hbn
  have hok : mOk ((p, l, e, (headSpec (Cond.code y cc nL ret :: mW) rm).room, s, m, As.toArray, below, meth, c), (G, Y, base)) (l, G, Y, base) y.cls cc nL ret rm := ⟨B.exec, B.bytes, hml, hown, fun w hw => hts w (List.mem_cons_of_mem _ hw), hK, B.notSynchronized, B.returns, rfl, hbs, rfl⟩
  have hin : y.name = "<init>" → meth.name = "<init>" := fun h => by rw [(name_of_methodNamed B.named B.method).1]; exact h
  have hl := lv_entry As (n := nL) hlen
  rw [lg_entry_eq]
  have hb0 := body _ _ rfl hok hin s.heap [] _ hR va_S.rf (show lv_has _ c.maxLocals _ by rw [hml]; exact hl)
  exact hb0
theorem fdNat : (Jvm.natives.all fun r => !(r.cls == "java/lang/Math" && r.name == "floorDiv")) = true := by decide +kernel
set_option maxRecDepth 100000 in
set_option maxHeartbeats 4000000 in
theorem c_flow {κ : mKp} {n : Nat} {sh : mSh} {P : mPt} {D : mDt} {E : mEt} {c : Nat} (hs : sh c = some (.inl 0)) : mFnI κ yX0_flow cX0_flow 1 (Option.some Jvm.ClassFile.FieldType.int) 1 21 [.ref c] n sh P D E (fun r D' => D' = D ∧ r = chFlow (D c)) := by
  refine mMet_of (by decide) (Nat.le_of_ble_eq_true rfl) ?_
  intro Γ Q hQ h hin
  have h : mOk Γ κ RX0 cX0_flow 1 (Option.some Jvm.ClassFile.FieldType.int) { frames := 1, cells := 0, slots := 0, locals := 21 } := h
  show mV Γ Q 0 0 n sh P D E [(0, .ref c)] [] 0
  refine V_iconst h 1 (v := 0) (by decide) dX0_flow_0 rfl ?_
  refine V_aload_n h 2 0 rfl dX0_flow_1 rfl ?_
  refine g_X0_9 h 5 hs dX0_flow_2 rfl ?_
  refine V_aload_n h 6 0 rfl dX0_flow_5 rfl ?_
  refine g_X0_15 h 9 hs dX0_flow_6 rfl ?_
  refine V_iadd h 10 dX0_flow_9 rfl ?_
  refine V_bipush h 12 (v := 120) (by decide) dX0_flow_10 rfl ?_
  refine V_isub h 13 dX0_flow_12 rfl ?_
  refine V_iconst h 14 (v := 2) (by decide) dX0_flow_13 rfl ?_
  refine V_aload_n h 15 0 rfl dX0_flow_14 rfl ?_
  refine g_X0_18 h 18 hs dX0_flow_15 rfl ?_
  refine V_imul h 19 dX0_flow_18 rfl ?_
  refine V_isub h 20 dX0_flow_19 rfl ?_
  refine V_bipush h 22 (v := 10) (by decide) dX0_flow_20 rfl ?_
  refine V_idiv h 23 (by decide) dX0_flow_22 rfl ?_
  refine V_mmax h 26 qL_X0_24 (Nat.le_of_ble_eq_true rfl) (Nat.le_of_ble_eq_true rfl) (Nat.zero_le _) (Nat.zero_le _) dX0_flow_23 rfl ?_
  exact V_iret h rfl hQ (Nat.zero_le _) (Nat.zero_le _) ⟨rfl, rfl, rfl, rfl, _, rfl, ⟨rfl, rfl⟩⟩ dX0_flow_26

set_option maxRecDepth 100000 in
set_option maxHeartbeats 4000000 in
theorem c_addMud {κ : mKp} {n : Nat} {sh : mSh} {P : mPt} {D : mDt} {E : mEt} {c : Nat} (hs : sh c = some (.inl 0)) (x : Int32) : mFnV κ yX0_addMud cX0_addMud 2 1 21 [.ref c, .int x] n sh P D E (fun D' => D' = upd2 D c 2 (chMud (D c) x)) := by
  refine mMet_of (by decide) (Nat.le_of_ble_eq_true rfl) ?_
  intro Γ Q hQ h hin
  have h : mOk Γ κ RX0 cX0_addMud 2 (Option.none : Option Jvm.ClassFile.FieldType) { frames := 1, cells := 0, slots := 0, locals := 21 } := h
  show mV Γ Q 0 0 n sh P D E [(0, .ref c), (1, .int x)] [] 0
  refine V_aload_n h 1 0 rfl dX0_addMud_0 rfl ?_
  refine V_bipush h 3 (v := 30) (by decide) dX0_addMud_1 rfl ?_
  refine V_aload_n h 4 0 rfl dX0_addMud_3 rfl ?_
  refine g_X0_18 h 7 hs dX0_addMud_4 rfl ?_
  refine V_iload_n h 8 1 rfl dX0_addMud_7 rfl ?_
  refine V_iadd h 9 dX0_addMud_8 rfl ?_
  refine V_mmin h 12 qL_X0_34 (Nat.le_of_ble_eq_true rfl) (Nat.le_of_ble_eq_true rfl) (Nat.zero_le _) (Nat.zero_le _) dX0_addMud_9 rfl ?_
  refine p_X0_18 h 15 hs dX0_addMud_12 rfl ?_
  obtain ⟨D1, eD1⟩ : ∃ zz, zz = upd2 D c 2 (imin 30 ((D c 2) + x)) := ⟨_, rfl⟩
  rw [← eD1]
  exact V_ret h  hQ (Nat.zero_le _) (Nat.zero_le _) ⟨rfl, rfl, rfl, rfl, rfl, eD1⟩ dX0_addMud_15

set_option maxRecDepth 100000 in
set_option maxHeartbeats 4000000 in
theorem c_chDay {κ : mKp} {n : Nat} {sh : mSh} {P : mPt} {D : mDt} {E : mEt} {c : Nat} (hs : sh c = some (.inl 0)) (x z : Int32) : mFnV κ yX0_letDayGoBy cX0_letDayGoBy 3 2 42 [.ref c, .int x, .int z] n sh P D E (fun D' => D' = if z = 0 then upd2 D c 0 (chTab (D c) x) else upd2 (upd2 D c 0 (chTab (D c) x)) c 2 (chMud (D c) 1)) := by
  refine mMet_of (by decide) (Nat.le_of_ble_eq_true rfl) ?_
  intro Γ Q hQ h hin
  have h : mOk Γ κ RX0 cX0_letDayGoBy 3 (Option.none : Option Jvm.ClassFile.FieldType) { frames := 2, cells := 0, slots := 0, locals := 42 } := h
  show mV Γ Q 0 0 n sh P D E [(0, .ref c), (1, .int x), (2, .int z)] [] 0
  refine V_aload_n h 1 0 rfl dX0_letDayGoBy_0 rfl ?_
  refine V_iconst h 2 (v := 0) (by decide) dX0_letDayGoBy_1 rfl ?_
  refine V_sipush h 5 (v := 400) (by decide) dX0_letDayGoBy_2 rfl ?_
  refine V_aload_n h 6 0 rfl dX0_letDayGoBy_5 rfl ?_
  refine g_X0_9 h 9 hs dX0_letDayGoBy_6 rfl ?_
  refine V_iload_n h 10 1 rfl dX0_letDayGoBy_9 rfl ?_
  refine V_iconst h 11 (v := 3) (by decide) dX0_letDayGoBy_10 rfl ?_
  refine V_idiv h 12 (by decide) dX0_letDayGoBy_11 rfl ?_
  refine V_iadd h 13 dX0_letDayGoBy_12 rfl ?_
  refine V_aload_n h 14 0 rfl dX0_letDayGoBy_13 rfl ?_
  refine CVI h 17 (As := []) (c_flow hs) rfl hs qL_X0_30 qI_X0_flow qS_X0_flow qZ_X0 qC_X0_flow hd_X0_flow ⟨Nat.le_of_ble_eq_true rfl, Nat.le_of_ble_eq_true rfl⟩ (Nat.le_of_ble_eq_true rfl) rfl rfl dX0_letDayGoBy_14 (Nat.zero_le _) (Nat.zero_le _) (fun r1 D1 hq1 => ?_)
  rw [hq1.1, hq1.2]
  refine V_isub h 18 dX0_letDayGoBy_17 rfl ?_
  refine V_aload_n h 19 0 rfl dX0_letDayGoBy_18 rfl ?_
  refine g_X0_21 h 22 hs dX0_letDayGoBy_19 rfl ?_
  refine V_isub h 23 dX0_letDayGoBy_22 rfl ?_
  refine V_mmin h 26 qL_X0_34 (Nat.le_of_ble_eq_true rfl) (Nat.le_of_ble_eq_true rfl) (Nat.zero_le _) (Nat.zero_le _) dX0_letDayGoBy_23 rfl ?_
  refine V_mmax h 29 qL_X0_24 (Nat.le_of_ble_eq_true rfl) (Nat.le_of_ble_eq_true rfl) (Nat.zero_le _) (Nat.zero_le _) dX0_letDayGoBy_26 rfl ?_
  refine p_X0_9 h 32 hs dX0_letDayGoBy_29 rfl ?_
  obtain ⟨D2, eD2⟩ : ∃ zz, zz = upd2 D c 0 (imax 0 (imin 400 ((((D c 0) + (x / 3)) - (chFlow (D c))) - (D c 3)))) := ⟨_, rfl⟩
  rw [← eD2]
  refine V_iload_n h 33 2 rfl dX0_letDayGoBy_32 rfl ?_
  refine V_if_eq h 41 36 dX0_letDayGoBy_33 (by decide) rfl (fun c33 => ?_) (fun c33 => ?_)
  · skip
    exact V_ret h  hQ (Nat.zero_le _) (Nat.zero_le _) ⟨rfl, rfl, rfl, rfl, rfl, by dsimp only; first | (rw [if_pos c33]; exact eD2) | (rw [if_neg c33, eD3, eD2]; simp only [chMud, upd2, Nat.reduceEqDiff, and_false, if_false]; rfl)⟩ dX0_letDayGoBy_41
  · skip
    refine V_aload_n h 37 0 rfl dX0_letDayGoBy_36 rfl ?_
    refine V_iconst h 38 (v := 1) (by decide) dX0_letDayGoBy_37 rfl ?_
    refine CVV h 41 (As := [.int 1]) (c_addMud hs 1) rfl hs qL_X0_37 qI_X0_addMud qS_X0_addMud qZ_X0 qC_X0_addMud hd_X0_addMud ⟨Nat.le_of_ble_eq_true rfl, Nat.le_of_ble_eq_true rfl⟩ (Nat.le_of_ble_eq_true rfl) rfl rfl dX0_letDayGoBy_38 (Nat.zero_le _) (Nat.zero_le _) (fun D3 hq3 => ?_)
    have eD3 := hq3
    exact V_ret h  hQ (Nat.zero_le _) (Nat.zero_le _) ⟨rfl, rfl, rfl, rfl, rfl, by dsimp only; first | (rw [if_pos c33]; exact eD2) | (rw [if_neg c33, eD3, eD2]; simp only [chMud, upd2, Nat.reduceEqDiff, and_false, if_false]; rfl)⟩ dX0_letDayGoBy_41

set_option maxRecDepth 100000 in
set_option maxHeartbeats 4000000 in
theorem c_chLike {κ : mKp} {n : Nat} {sh : mSh} {P : mPt} {D : mDt} {E : mEt} {c c2 : Nat} (hs : sh c = some (.inl 0)) (hs2 : sh c2 = some (.inl 0)) (hne : c2 ≠ c) : mFnV κ yX0_becomeLike cX0_becomeLike 2 0 0 [.ref c, .ref c2] n sh P D E (fun D' => D' = (upd2 (upd2 (upd2 (upd2 D c 0 (D c2 0)) c 1 (D c2 1)) c 2 (D c2 2)) c 3 (D c2 3))) := by
  refine mMet_of (by decide) (Nat.le_of_ble_eq_true rfl) ?_
  intro Γ Q hQ h hin
  have h : mOk Γ κ RX0 cX0_becomeLike 2 (Option.none : Option Jvm.ClassFile.FieldType) { frames := 0, cells := 0, slots := 0, locals := 0 } := h
  show mV Γ Q 0 0 n sh P D E [(0, .ref c), (1, .ref c2)] [] 0
  refine V_aload_n h 1 0 rfl dX0_becomeLike_0 rfl ?_
  refine V_aload_n h 2 1 rfl dX0_becomeLike_1 rfl ?_
  refine g_X0_9 h 5 hs2 dX0_becomeLike_2 rfl ?_
  refine p_X0_9 h 8 hs dX0_becomeLike_5 rfl ?_
  obtain ⟨D1, eD1⟩ : ∃ zz, zz = upd2 D c 0 (D c2 0) := ⟨_, rfl⟩
  rw [← eD1]
  refine V_aload_n h 9 0 rfl dX0_becomeLike_8 rfl ?_
  refine V_aload_n h 10 1 rfl dX0_becomeLike_9 rfl ?_
  refine g_X0_15 h 13 hs2 dX0_becomeLike_10 rfl ?_
  refine V_top (y := D c2 1) (by rw [eD1, upd2_nk (by decide)]) ?_
  refine p_X0_15 h 16 hs dX0_becomeLike_13 rfl ?_
  obtain ⟨D2, eD2⟩ : ∃ zz, zz = upd2 D1 c 1 (D c2 1) := ⟨_, rfl⟩
  rw [← eD2]
  refine V_aload_n h 17 0 rfl dX0_becomeLike_16 rfl ?_
  refine V_aload_n h 18 1 rfl dX0_becomeLike_17 rfl ?_
  refine g_X0_18 h 21 hs2 dX0_becomeLike_18 rfl ?_
  refine V_top (y := D c2 2) (by rw [eD2, upd2_nk (by decide), eD1, upd2_nk (by decide)]) ?_
  refine p_X0_18 h 24 hs dX0_becomeLike_21 rfl ?_
  obtain ⟨D3, eD3⟩ : ∃ zz, zz = upd2 D2 c 2 (D c2 2) := ⟨_, rfl⟩
  rw [← eD3]
  refine V_aload_n h 25 0 rfl dX0_becomeLike_24 rfl ?_
  refine V_aload_n h 26 1 rfl dX0_becomeLike_25 rfl ?_
  refine g_X0_21 h 29 hs2 dX0_becomeLike_26 rfl ?_
  refine V_top (y := D c2 3) (by rw [eD3, upd2_nk (by decide), eD2, upd2_nk (by decide), eD1, upd2_nk (by decide)]) ?_
  refine p_X0_21 h 32 hs dX0_becomeLike_29 rfl ?_
  obtain ⟨D4, eD4⟩ : ∃ zz, zz = upd2 D3 c 3 (D c2 3) := ⟨_, rfl⟩
  rw [← eD4]
  exact V_ret h  hQ (Nat.zero_le _) (Nat.zero_le _) ⟨rfl, rfl, rfl, rfl, rfl, (by rw [eD4, eD3, eD2, eD1])⟩ dX0_becomeLike_32

set_option maxRecDepth 100000 in
set_option maxHeartbeats 4000000 in
theorem c_chInit {κ : mKp} {n : Nat} {sh : mSh} {P : mPt} {D : mDt} {E : mEt} {c : Nat} (hs : sh c = some (.inl 0)) : mFnV κ yX0_init cX0_init 1 1 20 [.ref c] n sh P D E (fun D' => D' = (upd2 (upd2 D c 0 200) c 1 40)) := by
  refine mMet_of (by decide) (Nat.le_of_ble_eq_true rfl) ?_
  intro Γ Q hQ h hin
  have h : mOk Γ κ RX0 cX0_init 1 (Option.none : Option Jvm.ClassFile.FieldType) { frames := 1, cells := 0, slots := 0, locals := 20 } := h
  show mV Γ Q 0 0 n sh P D E [(0, .ref c)] [] 0
  refine V_aload_n h 1 0 rfl dX0_init_0 rfl ?_
  refine V_objInit h 4 qL_X0_3 (Nat.le_of_ble_eq_true rfl) (Nat.le_of_ble_eq_true rfl) dX0_init_1 rfl ?_
  refine V_aload_n h 5 0 rfl dX0_init_4 rfl ?_
  refine V_sipush h 8 (v := 200) (by decide) dX0_init_5 rfl ?_
  refine p_X0_9 h 11 hs dX0_init_8 rfl ?_
  obtain ⟨D1, eD1⟩ : ∃ zz, zz = upd2 D c 0 200 := ⟨_, rfl⟩
  rw [← eD1]
  refine V_aload_n h 12 0 rfl dX0_init_11 rfl ?_
  refine V_bipush h 14 (v := 40) (by decide) dX0_init_12 rfl ?_
  refine p_X0_15 h 17 hs dX0_init_14 rfl ?_
  obtain ⟨D2, eD2⟩ : ∃ zz, zz = upd2 D1 c 1 40 := ⟨_, rfl⟩
  rw [← eD2]
  exact V_ret h  hQ (Nat.zero_le _) (Nat.zero_le _) ⟨rfl, rfl, rfl, rfl, rfl, (by rw [eD2, eD1])⟩ dX0_init_17

set_option maxRecDepth 100000 in
set_option maxHeartbeats 4000000 in
theorem c_owInit {κ : mKp} {n : Nat} {sh : mSh} {P : mPt} {D : mDt} {E : mEt} {a : Nat} (hs : sh a = some (.inl 3)) (x : Int32) : mFnV κ yX3_init cX3_init 2 1 20 [.ref a, .int x] n sh P D E (fun D' => D' = (upd2 D a 0 x)) := by
  refine mMet_of (by decide) (Nat.le_of_ble_eq_true rfl) ?_
  intro Γ Q hQ h hin
  have h : mOk Γ κ RX3 cX3_init 2 (Option.none : Option Jvm.ClassFile.FieldType) { frames := 1, cells := 0, slots := 0, locals := 20 } := h
  show mV Γ Q 0 0 n sh P D E [(0, .ref a), (1, .int x)] [] 0
  refine V_aload_n h 1 0 rfl dX3_init_0 rfl ?_
  refine V_objInit h 4 qL_X3_3 (Nat.le_of_ble_eq_true rfl) (Nat.le_of_ble_eq_true rfl) dX3_init_1 rfl ?_
  refine V_aload_n h 5 0 rfl dX3_init_4 rfl ?_
  refine V_iload_n h 6 1 rfl dX3_init_5 rfl ?_
  refine p_X3_9 h 9 (hin rfl) hs dX3_init_6 rfl ?_
  obtain ⟨D1, eD1⟩ : ∃ zz, zz = upd2 D a 0 x := ⟨_, rfl⟩
  rw [← eD1]
  exact V_ret h  hQ (Nat.zero_le _) (Nat.zero_le _) ⟨rfl, rfl, rfl, rfl, rfl, (by rw [eD1])⟩ dX3_init_9

set_option maxRecDepth 100000 in
set_option maxHeartbeats 4000000 in
theorem c_owLike {κ : mKp} {n : Nat} {sh : mSh} {P : mPt} {D : mDt} {E : mEt} {a b : Nat} (hs : sh a = some (.inl 3)) (hs2 : sh b = some (.inl 3)) (hne : b ≠ a) (hb : D b 1 = 0 ∨ D b 1 = 1) : mFnV κ yX3_becomeLike cX3_becomeLike 2 0 0 [.ref a, .ref b] n sh P D E (fun D' => D' = setRow D a (likeX (D b) (D a))) := by
  refine mMet_of (by decide) (Nat.le_of_ble_eq_true rfl) ?_
  intro Γ Q hQ h hin
  have h : mOk Γ κ RX3 cX3_becomeLike 2 (Option.none : Option Jvm.ClassFile.FieldType) { frames := 0, cells := 0, slots := 0, locals := 0 } := h
  show mV Γ Q 0 0 n sh P D E [(0, .ref a), (1, .ref b)] [] 0
  refine V_aload_n h 1 0 rfl dX3_becomeLike_0 rfl ?_
  refine V_aload_n h 2 1 rfl dX3_becomeLike_1 rfl ?_
  refine g_X3_15 h 5 hs2 dX3_becomeLike_2 rfl ?_
  refine p_X3_15 h 8 hb hs dX3_becomeLike_5 rfl ?_
  obtain ⟨D1, eD1⟩ : ∃ zz, zz = upd2 D a 1 (D b 1) := ⟨_, rfl⟩
  rw [← eD1]
  refine V_aload_n h 9 0 rfl dX3_becomeLike_8 rfl ?_
  refine V_aload_n h 10 1 rfl dX3_becomeLike_9 rfl ?_
  refine g_X3_19 h 13 hs2 dX3_becomeLike_10 rfl ?_
  refine V_top (y := D b 2) (by rw [eD1, upd2_nk (by decide)]) ?_
  refine p_X3_19 h 16 hs dX3_becomeLike_13 rfl ?_
  obtain ⟨D2, eD2⟩ : ∃ zz, zz = upd2 D1 a 2 (D b 2) := ⟨_, rfl⟩
  rw [← eD2]
  refine V_aload_n h 17 0 rfl dX3_becomeLike_16 rfl ?_
  refine V_aload_n h 18 1 rfl dX3_becomeLike_17 rfl ?_
  refine g_X3_22 h 21 hs2 dX3_becomeLike_18 rfl ?_
  refine V_top (y := D b 3) (by rw [eD2, upd2_nk (by decide), eD1, upd2_nk (by decide)]) ?_
  refine p_X3_22 h 24 hs dX3_becomeLike_21 rfl ?_
  obtain ⟨D3, eD3⟩ : ∃ zz, zz = upd2 D2 a 3 (D b 3) := ⟨_, rfl⟩
  rw [← eD3]
  refine V_aload_n h 25 0 rfl dX3_becomeLike_24 rfl ?_
  refine V_aload_n h 26 1 rfl dX3_becomeLike_25 rfl ?_
  refine g_X3_25 h 29 hs2 dX3_becomeLike_26 rfl ?_
  refine V_top (y := D b 4) (by rw [eD3, upd2_nk (by decide), eD2, upd2_nk (by decide), eD1, upd2_nk (by decide)]) ?_
  refine p_X3_25 h 32 hs dX3_becomeLike_29 rfl ?_
  obtain ⟨D4, eD4⟩ : ∃ zz, zz = upd2 D3 a 4 (D b 4) := ⟨_, rfl⟩
  rw [← eD4]
  refine V_aload_n h 33 0 rfl dX3_becomeLike_32 rfl ?_
  refine V_aload_n h 34 1 rfl dX3_becomeLike_33 rfl ?_
  refine g_X3_28 h 37 hs2 dX3_becomeLike_34 rfl ?_
  refine V_top (y := D b 5) (by rw [eD4, upd2_nk (by decide), eD3, upd2_nk (by decide), eD2, upd2_nk (by decide), eD1, upd2_nk (by decide)]) ?_
  refine p_X3_28 h 40 hs dX3_becomeLike_37 rfl ?_
  obtain ⟨D5, eD5⟩ : ∃ zz, zz = upd2 D4 a 5 (D b 5) := ⟨_, rfl⟩
  rw [← eD5]
  refine V_aload_n h 41 0 rfl dX3_becomeLike_40 rfl ?_
  refine V_aload_n h 42 1 rfl dX3_becomeLike_41 rfl ?_
  refine g_X3_31 h 45 hs2 dX3_becomeLike_42 rfl ?_
  refine V_top (y := D b 6) (by rw [eD5, upd2_nk (by decide), eD4, upd2_nk (by decide), eD3, upd2_nk (by decide), eD2, upd2_nk (by decide), eD1, upd2_nk (by decide)]) ?_
  refine p_X3_31 h 48 hs dX3_becomeLike_45 rfl ?_
  obtain ⟨D6, eD6⟩ : ∃ zz, zz = upd2 D5 a 6 (D b 6) := ⟨_, rfl⟩
  rw [← eD6]
  refine V_aload_n h 49 0 rfl dX3_becomeLike_48 rfl ?_
  refine V_aload_n h 50 1 rfl dX3_becomeLike_49 rfl ?_
  refine g_X3_34 h 53 hs2 dX3_becomeLike_50 rfl ?_
  refine V_top (y := D b 7) (by rw [eD6, upd2_nk (by decide), eD5, upd2_nk (by decide), eD4, upd2_nk (by decide), eD3, upd2_nk (by decide), eD2, upd2_nk (by decide), eD1, upd2_nk (by decide)]) ?_
  refine p_X3_34 h 56 hs dX3_becomeLike_53 rfl ?_
  obtain ⟨D7, eD7⟩ : ∃ zz, zz = upd2 D6 a 7 (D b 7) := ⟨_, rfl⟩
  rw [← eD7]
  refine V_aload_n h 57 0 rfl dX3_becomeLike_56 rfl ?_
  refine V_aload_n h 58 1 rfl dX3_becomeLike_57 rfl ?_
  refine g_X3_37 h 61 hs2 dX3_becomeLike_58 rfl ?_
  refine V_top (y := D b 8) (by rw [eD7, upd2_nk (by decide), eD6, upd2_nk (by decide), eD5, upd2_nk (by decide), eD4, upd2_nk (by decide), eD3, upd2_nk (by decide), eD2, upd2_nk (by decide), eD1, upd2_nk (by decide)]) ?_
  refine p_X3_37 h 64 hs dX3_becomeLike_61 rfl ?_
  obtain ⟨D8, eD8⟩ : ∃ zz, zz = upd2 D7 a 8 (D b 8) := ⟨_, rfl⟩
  rw [← eD8]
  refine V_aload_n h 65 0 rfl dX3_becomeLike_64 rfl ?_
  refine V_aload_n h 66 1 rfl dX3_becomeLike_65 rfl ?_
  refine g_X3_40 h 69 hs2 dX3_becomeLike_66 rfl ?_
  refine V_top (y := D b 9) (by rw [eD8, upd2_nk (by decide), eD7, upd2_nk (by decide), eD6, upd2_nk (by decide), eD5, upd2_nk (by decide), eD4, upd2_nk (by decide), eD3, upd2_nk (by decide), eD2, upd2_nk (by decide), eD1, upd2_nk (by decide)]) ?_
  refine p_X3_40 h 72 hs dX3_becomeLike_69 rfl ?_
  obtain ⟨D9, eD9⟩ : ∃ zz, zz = upd2 D8 a 9 (D b 9) := ⟨_, rfl⟩
  rw [← eD9]
  refine V_aload_n h 73 0 rfl dX3_becomeLike_72 rfl ?_
  refine V_aload_n h 74 1 rfl dX3_becomeLike_73 rfl ?_
  refine g_X3_43 h 77 hs2 dX3_becomeLike_74 rfl ?_
  refine V_top (y := D b 10) (by rw [eD9, upd2_nk (by decide), eD8, upd2_nk (by decide), eD7, upd2_nk (by decide), eD6, upd2_nk (by decide), eD5, upd2_nk (by decide), eD4, upd2_nk (by decide), eD3, upd2_nk (by decide), eD2, upd2_nk (by decide), eD1, upd2_nk (by decide)]) ?_
  refine p_X3_43 h 80 hs dX3_becomeLike_77 rfl ?_
  obtain ⟨D10, eD10⟩ : ∃ zz, zz = upd2 D9 a 10 (D b 10) := ⟨_, rfl⟩
  rw [← eD10]
  refine V_aload_n h 81 0 rfl dX3_becomeLike_80 rfl ?_
  refine V_aload_n h 82 1 rfl dX3_becomeLike_81 rfl ?_
  refine g_X3_46 h 85 hs2 dX3_becomeLike_82 rfl ?_
  refine V_top (y := D b 11) (by rw [eD10, upd2_nk (by decide), eD9, upd2_nk (by decide), eD8, upd2_nk (by decide), eD7, upd2_nk (by decide), eD6, upd2_nk (by decide), eD5, upd2_nk (by decide), eD4, upd2_nk (by decide), eD3, upd2_nk (by decide), eD2, upd2_nk (by decide), eD1, upd2_nk (by decide)]) ?_
  refine p_X3_46 h 88 hs dX3_becomeLike_85 rfl ?_
  obtain ⟨D11, eD11⟩ : ∃ zz, zz = upd2 D10 a 11 (D b 11) := ⟨_, rfl⟩
  rw [← eD11]
  refine V_aload_n h 89 0 rfl dX3_becomeLike_88 rfl ?_
  refine V_aload_n h 90 1 rfl dX3_becomeLike_89 rfl ?_
  refine g_X3_49 h 93 hs2 dX3_becomeLike_90 rfl ?_
  refine V_top (y := D b 12) (by rw [eD11, upd2_nk (by decide), eD10, upd2_nk (by decide), eD9, upd2_nk (by decide), eD8, upd2_nk (by decide), eD7, upd2_nk (by decide), eD6, upd2_nk (by decide), eD5, upd2_nk (by decide), eD4, upd2_nk (by decide), eD3, upd2_nk (by decide), eD2, upd2_nk (by decide), eD1, upd2_nk (by decide)]) ?_
  refine p_X3_49 h 96 hs dX3_becomeLike_93 rfl ?_
  obtain ⟨D12, eD12⟩ : ∃ zz, zz = upd2 D11 a 12 (D b 12) := ⟨_, rfl⟩
  rw [← eD12]
  refine V_aload_n h 97 0 rfl dX3_becomeLike_96 rfl ?_
  refine V_aload_n h 98 1 rfl dX3_becomeLike_97 rfl ?_
  refine g_X3_52 h 101 hs2 dX3_becomeLike_98 rfl ?_
  refine V_top (y := D b 13) (by rw [eD12, upd2_nk (by decide), eD11, upd2_nk (by decide), eD10, upd2_nk (by decide), eD9, upd2_nk (by decide), eD8, upd2_nk (by decide), eD7, upd2_nk (by decide), eD6, upd2_nk (by decide), eD5, upd2_nk (by decide), eD4, upd2_nk (by decide), eD3, upd2_nk (by decide), eD2, upd2_nk (by decide), eD1, upd2_nk (by decide)]) ?_
  refine p_X3_52 h 104 hs dX3_becomeLike_101 rfl ?_
  obtain ⟨D13, eD13⟩ : ∃ zz, zz = upd2 D12 a 13 (D b 13) := ⟨_, rfl⟩
  rw [← eD13]
  refine V_aload_n h 105 0 rfl dX3_becomeLike_104 rfl ?_
  refine V_aload_n h 106 1 rfl dX3_becomeLike_105 rfl ?_
  refine g_X3_55 h 109 hs2 dX3_becomeLike_106 rfl ?_
  refine V_top (y := D b 14) (by rw [eD13, upd2_nk (by decide), eD12, upd2_nk (by decide), eD11, upd2_nk (by decide), eD10, upd2_nk (by decide), eD9, upd2_nk (by decide), eD8, upd2_nk (by decide), eD7, upd2_nk (by decide), eD6, upd2_nk (by decide), eD5, upd2_nk (by decide), eD4, upd2_nk (by decide), eD3, upd2_nk (by decide), eD2, upd2_nk (by decide), eD1, upd2_nk (by decide)]) ?_
  refine p_X3_55 h 112 hs dX3_becomeLike_109 rfl ?_
  obtain ⟨D14, eD14⟩ : ∃ zz, zz = upd2 D13 a 14 (D b 14) := ⟨_, rfl⟩
  rw [← eD14]
  exact V_ret h  hQ (Nat.zero_le _) (Nat.zero_le _) ⟨rfl, rfl, rfl, rfl, rfl, (by dsimp only; rw [upd2_sr] at eD1; rw [eD1, sr_upd2] at eD2; rw [eD2, sr_upd2] at eD3; rw [eD3, sr_upd2] at eD4; rw [eD4, sr_upd2] at eD5; rw [eD5, sr_upd2] at eD6; rw [eD6, sr_upd2] at eD7; rw [eD7, sr_upd2] at eD8; rw [eD8, sr_upd2] at eD9; rw [eD9, sr_upd2] at eD10; rw [eD10, sr_upd2] at eD11; rw [eD11, sr_upd2] at eD12; rw [eD12, sr_upd2] at eD13; rw [eD13, sr_upd2] at eD14; rw [eD14]; rfl)⟩ dX3_becomeLike_112

set_option maxRecDepth 100000 in
set_option maxHeartbeats 4000000 in
theorem c_settle {κ : mKp} {n : Nat} {sh : mSh} {P : mPt} {D : mDt} {E : mEt} {a : Nat} (hs : sh a = some (.inl 3)) (x y z w : Int32) : mFnV κ yX3_settle cX3_settle 5 0 0 [.ref a, .int x, .int y, .int z, .int w] n sh P D E (fun D' => D' = setRow D a (settleX x y z w (D a))) := by
  refine mMet_of (by decide) (Nat.le_of_ble_eq_true rfl) ?_
  intro Γ Q hQ h hin
  have h : mOk Γ κ RX3 cX3_settle 5 (Option.none : Option Jvm.ClassFile.FieldType) { frames := 0, cells := 0, slots := 0, locals := 0 } := h
  show mV Γ Q 0 0 n sh P D E [(0, .ref a), (1, .int x), (2, .int y), (3, .int z), (4, .int w)] [] 0
  refine V_aload_n h 1 0 rfl dX3_settle_0 rfl ?_
  refine V_iload_n h 2 1 rfl dX3_settle_1 rfl ?_
  refine p_X3_19 h 5 hs dX3_settle_2 rfl ?_
  obtain ⟨D1, eD1⟩ : ∃ zz, zz = upd2 D a 2 x := ⟨_, rfl⟩
  rw [← eD1]
  refine V_aload_n h 6 0 rfl dX3_settle_5 rfl ?_
  refine V_iload_n h 7 2 rfl dX3_settle_6 rfl ?_
  refine p_X3_22 h 10 hs dX3_settle_7 rfl ?_
  obtain ⟨D2, eD2⟩ : ∃ zz, zz = upd2 D1 a 3 y := ⟨_, rfl⟩
  rw [← eD2]
  refine V_aload_n h 11 0 rfl dX3_settle_10 rfl ?_
  refine V_iload_n h 12 3 rfl dX3_settle_11 rfl ?_
  refine p_X3_25 h 15 hs dX3_settle_12 rfl ?_
  obtain ⟨D3, eD3⟩ : ∃ zz, zz = upd2 D2 a 4 z := ⟨_, rfl⟩
  rw [← eD3]
  refine V_aload_n h 16 0 rfl dX3_settle_15 rfl ?_
  refine V_iload h 18 4 rfl dX3_settle_16 rfl ?_
  refine p_X3_28 h 21 hs dX3_settle_18 rfl ?_
  obtain ⟨D4, eD4⟩ : ∃ zz, zz = upd2 D3 a 5 w := ⟨_, rfl⟩
  rw [← eD4]
  refine V_aload_n h 22 0 rfl dX3_settle_21 rfl ?_
  refine V_bipush h 24 (v := 50) (by decide) dX3_settle_22 rfl ?_
  refine p_X3_31 h 27 hs dX3_settle_24 rfl ?_
  obtain ⟨D5, eD5⟩ : ∃ zz, zz = upd2 D4 a 6 50 := ⟨_, rfl⟩
  rw [← eD5]
  exact V_ret h  hQ (Nat.zero_le _) (Nat.zero_le _) ⟨rfl, rfl, rfl, rfl, rfl, (by dsimp only; rw [upd2_sr] at eD1; rw [eD1, sr_upd2] at eD2; rw [eD2, sr_upd2] at eD3; rw [eD3, sr_upd2] at eD4; rw [eD4, sr_upd2] at eD5; rw [eD5]; rfl)⟩ dX3_settle_27

set_option maxRecDepth 100000 in
set_option maxHeartbeats 4000000 in
theorem c_payTo {κ : mKp} {n : Nat} {sh : mSh} {P : mPt} {D : mDt} {E : mEt} {a b : Nat} (hs : sh a = some (.inl 3)) (hs2 : sh b = some (.inl 3)) (x : Int32) : mFnV κ yX3_payTo cX3_payTo 3 0 0 [.ref a, .ref b, .int x] n sh P D E (fun D' => D' = (upd2 (upd2 D a 3 ((D a 3) - x)) b 3 (((upd2 D a 3 ((D a 3) - x)) b 3) + x))) := by
  refine mMet_of (by decide) (Nat.le_of_ble_eq_true rfl) ?_
  intro Γ Q hQ h hin
  have h : mOk Γ κ RX3 cX3_payTo 3 (Option.none : Option Jvm.ClassFile.FieldType) { frames := 0, cells := 0, slots := 0, locals := 0 } := h
  show mV Γ Q 0 0 n sh P D E [(0, .ref a), (1, .ref b), (2, .int x)] [] 0
  refine V_aload_n h 1 0 rfl dX3_payTo_0 rfl ?_
  refine V_dup h 2 rfl dX3_payTo_1 rfl ?_
  refine g_X3_22 h 5 hs dX3_payTo_2 rfl ?_
  refine V_iload_n h 6 2 rfl dX3_payTo_5 rfl ?_
  refine V_isub h 7 dX3_payTo_6 rfl ?_
  refine p_X3_22 h 10 hs dX3_payTo_7 rfl ?_
  obtain ⟨D1, eD1⟩ : ∃ zz, zz = upd2 D a 3 ((D a 3) - x) := ⟨_, rfl⟩
  rw [← eD1]
  refine V_aload_n h 11 1 rfl dX3_payTo_10 rfl ?_
  refine V_dup h 12 rfl dX3_payTo_11 rfl ?_
  refine g_X3_22 h 15 hs2 dX3_payTo_12 rfl ?_
  refine V_iload_n h 16 2 rfl dX3_payTo_15 rfl ?_
  refine V_iadd h 17 dX3_payTo_16 rfl ?_
  refine p_X3_22 h 20 hs2 dX3_payTo_17 rfl ?_
  obtain ⟨D2, eD2⟩ : ∃ zz, zz = upd2 D1 b 3 ((D1 b 3) + x) := ⟨_, rfl⟩
  rw [← eD2]
  exact V_ret h  hQ (Nat.zero_le _) (Nat.zero_le _) ⟨rfl, rfl, rfl, rfl, rfl, (by rw [eD2, eD1])⟩ dX3_payTo_20

set_option maxRecDepth 100000 in
set_option maxHeartbeats 4000000 in
theorem c_pollenPalms {κ : mKp} {n : Nat} {sh : mSh} {P : mPt} {D : mDt} {E : mEt} {a : Nat} (hs : sh a = some (.inl 3)) : mFnI κ yX3_pollenPalms cX3_pollenPalms 1 (Option.some Jvm.ClassFile.FieldType.int) 0 0 [.ref a] n sh P D E (fun r D' => D' = D ∧ r = D a 5 * 20 + D a 10) := by
  refine mMet_of (by decide) (Nat.le_of_ble_eq_true rfl) ?_
  intro Γ Q hQ h hin
  have h : mOk Γ κ RX3 cX3_pollenPalms 1 (Option.some Jvm.ClassFile.FieldType.int) { frames := 0, cells := 0, slots := 0, locals := 0 } := h
  show mV Γ Q 0 0 n sh P D E [(0, .ref a)] [] 0
  refine V_aload_n h 1 0 rfl dX3_pollenPalms_0 rfl ?_
  refine g_X3_28 h 4 hs dX3_pollenPalms_1 rfl ?_
  refine V_bipush h 6 (v := 20) (by decide) dX3_pollenPalms_4 rfl ?_
  refine V_imul h 7 dX3_pollenPalms_6 rfl ?_
  refine V_aload_n h 8 0 rfl dX3_pollenPalms_7 rfl ?_
  refine g_X3_43 h 11 hs dX3_pollenPalms_8 rfl ?_
  refine V_iadd h 12 dX3_pollenPalms_11 rfl ?_
  exact V_iret h rfl hQ (Nat.zero_le _) (Nat.zero_le _) ⟨rfl, rfl, rfl, rfl, _, rfl, ⟨rfl, rfl⟩⟩ dX3_pollenPalms_12

set_option maxRecDepth 100000 in
set_option maxHeartbeats 4000000 in
theorem c_takeFlowing {κ : mKp} {n : Nat} {sh : mSh} {P : mPt} {D : mDt} {E : mEt} {a : Nat} (hs : sh a = some (.inl 3)) (x : Int32) : mFnV κ yX3_takeFlowing cX3_takeFlowing 2 0 0 [.ref a, .int x] n sh P D E (fun D' => D' = setRow D a (takeX x (D a))) := by
  refine mMet_of (by decide) (Nat.le_of_ble_eq_true rfl) ?_
  intro Γ Q hQ h hin
  have h : mOk Γ κ RX3 cX3_takeFlowing 2 (Option.none : Option Jvm.ClassFile.FieldType) { frames := 0, cells := 0, slots := 0, locals := 0 } := h
  show mV Γ Q 0 0 n sh P D E [(0, .ref a), (1, .int x)] [] 0
  refine V_aload_n h 1 0 rfl dX3_takeFlowing_0 rfl ?_
  refine V_aload_n h 2 0 rfl dX3_takeFlowing_1 rfl ?_
  refine g_X3_46 h 5 hs dX3_takeFlowing_2 rfl ?_
  refine V_bipush h 7 (v := 100) (by decide) dX3_takeFlowing_5 rfl ?_
  refine V_iconst h 8 (v := 2) (by decide) dX3_takeFlowing_7 rfl ?_
  refine V_iload_n h 9 1 rfl dX3_takeFlowing_8 rfl ?_
  refine V_imul h 10 dX3_takeFlowing_9 rfl ?_
  refine V_isub h 11 dX3_takeFlowing_10 rfl ?_
  refine V_imul h 12 dX3_takeFlowing_11 rfl ?_
  refine V_bipush h 14 (v := 100) (by decide) dX3_takeFlowing_12 rfl ?_
  refine V_idiv h 15 (by decide) dX3_takeFlowing_14 rfl ?_
  refine p_X3_49 h 18 hs dX3_takeFlowing_15 rfl ?_
  obtain ⟨D1, eD1⟩ : ∃ zz, zz = upd2 D a 12 (((D a 11) * (100 - (2 * x))) / 100) := ⟨_, rfl⟩
  rw [← eD1]
  refine V_aload_n h 19 0 rfl dX3_takeFlowing_18 rfl ?_
  refine V_dup h 20 rfl dX3_takeFlowing_19 rfl ?_
  refine g_X3_52 h 23 hs dX3_takeFlowing_20 rfl ?_
  refine V_top (y := D a 13) (by rw [eD1, upd2_nk (by decide)]) ?_
  refine V_aload_n h 24 0 rfl dX3_takeFlowing_23 rfl ?_
  refine g_X3_49 h 27 hs dX3_takeFlowing_24 rfl ?_
  refine V_top (y := ((D a 11) * (100 - (2 * x))) / 100) (by rw [eD1, upd2_eq]) ?_
  refine V_iadd h 28 dX3_takeFlowing_27 rfl ?_
  refine p_X3_52 h 31 hs dX3_takeFlowing_28 rfl ?_
  obtain ⟨D2, eD2⟩ : ∃ zz, zz = upd2 D1 a 13 ((D a 13) + (((D a 11) * (100 - (2 * x))) / 100)) := ⟨_, rfl⟩
  rw [← eD2]
  refine V_aload_n h 32 0 rfl dX3_takeFlowing_31 rfl ?_
  refine V_iconst h 33 (v := 0) (by decide) dX3_takeFlowing_32 rfl ?_
  refine p_X3_46 h 36 hs dX3_takeFlowing_33 rfl ?_
  obtain ⟨D3, eD3⟩ : ∃ zz, zz = upd2 D2 a 11 0 := ⟨_, rfl⟩
  rw [← eD3]
  exact V_ret h  hQ (Nat.zero_le _) (Nat.zero_le _) ⟨rfl, rfl, rfl, rfl, rfl, (by dsimp only; rw [upd2_sr] at eD1; rw [eD1, sr_upd2] at eD2; rw [eD2, sr_upd2] at eD3; rw [eD3]; rfl)⟩ dX3_takeFlowing_36

set_option maxRecDepth 100000 in
set_option maxHeartbeats 4000000 in
theorem c_owReap {κ : mKp} {n : Nat} {sh : mSh} {P : mPt} {D : mDt} {E : mEt} {a : Nat} (hs : sh a = some (.inl 3)) : mFnV κ yX3_reap cX3_reap 1 0 0 [.ref a] n sh P D E (fun D' => D' = setRow D a (reapX (D a))) := by
  refine mMet_of (by decide) (Nat.le_of_ble_eq_true rfl) ?_
  intro Γ Q hQ h hin
  have h : mOk Γ κ RX3 cX3_reap 1 (Option.none : Option Jvm.ClassFile.FieldType) { frames := 0, cells := 0, slots := 0, locals := 0 } := h
  show mV Γ Q 0 0 n sh P D E [(0, .ref a)] [] 0
  refine V_aload_n h 1 0 rfl dX3_reap_0 rfl ?_
  refine V_aload_n h 2 0 rfl dX3_reap_1 rfl ?_
  refine g_X3_40 h 5 hs dX3_reap_2 rfl ?_
  refine V_aload_n h 6 0 rfl dX3_reap_5 rfl ?_
  refine g_X3_31 h 9 hs dX3_reap_6 rfl ?_
  refine V_imul h 10 dX3_reap_9 rfl ?_
  refine V_bipush h 12 (v := 100) (by decide) dX3_reap_10 rfl ?_
  refine V_aload_n h 13 0 rfl dX3_reap_12 rfl ?_
  refine g_X3_34 h 16 hs dX3_reap_13 rfl ?_
  refine V_isub h 17 dX3_reap_16 rfl ?_
  refine V_imul h 18 dX3_reap_17 rfl ?_
  refine V_sipush h 21 (v := 1000) (by decide) dX3_reap_18 rfl ?_
  refine V_idiv h 22 (by decide) dX3_reap_21 rfl ?_
  refine p_X3_55 h 25 hs dX3_reap_22 rfl ?_
  obtain ⟨D1, eD1⟩ : ∃ zz, zz = upd2 D a 14 ((((D a 9) * (D a 6)) * (100 - (D a 7))) / 1000) := ⟨_, rfl⟩
  rw [← eD1]
  refine V_aload_n h 26 0 rfl dX3_reap_25 rfl ?_
  refine V_dup h 27 rfl dX3_reap_26 rfl ?_
  refine g_X3_37 h 30 hs dX3_reap_27 rfl ?_
  refine V_top (y := D a 8) (by rw [eD1, upd2_nk (by decide)]) ?_
  refine V_aload_n h 31 0 rfl dX3_reap_30 rfl ?_
  refine g_X3_55 h 34 hs dX3_reap_31 rfl ?_
  refine V_top (y := (((D a 9) * (D a 6)) * (100 - (D a 7))) / 1000) (by rw [eD1, upd2_eq]) ?_
  refine V_iadd h 35 dX3_reap_34 rfl ?_
  refine p_X3_37 h 38 hs dX3_reap_35 rfl ?_
  obtain ⟨D2, eD2⟩ : ∃ zz, zz = upd2 D1 a 8 ((D a 8) + ((((D a 9) * (D a 6)) * (100 - (D a 7))) / 1000)) := ⟨_, rfl⟩
  rw [← eD2]
  refine V_aload_n h 39 0 rfl dX3_reap_38 rfl ?_
  refine V_iconst h 40 (v := 0) (by decide) dX3_reap_39 rfl ?_
  refine p_X3_40 h 43 hs dX3_reap_40 rfl ?_
  obtain ⟨D3, eD3⟩ : ∃ zz, zz = upd2 D2 a 9 0 := ⟨_, rfl⟩
  rw [← eD3]
  refine V_aload_n h 44 0 rfl dX3_reap_43 rfl ?_
  refine V_iconst h 45 (v := 0) (by decide) dX3_reap_44 rfl ?_
  refine p_X3_43 h 48 hs dX3_reap_45 rfl ?_
  obtain ⟨D4, eD4⟩ : ∃ zz, zz = upd2 D3 a 10 0 := ⟨_, rfl⟩
  rw [← eD4]
  exact V_ret h  hQ (Nat.zero_le _) (Nat.zero_le _) ⟨rfl, rfl, rfl, rfl, rfl, (by dsimp only; rw [upd2_sr] at eD1; rw [eD1, sr_upd2] at eD2; rw [eD2, sr_upd2] at eD3; rw [eD3, sr_upd2] at eD4; rw [eD4]; rfl)⟩ dX3_reap_48

set_option maxRecDepth 100000 in
set_option maxHeartbeats 4000000 in
theorem c_owGrow {κ : mKp} {n : Nat} {sh : mSh} {P : mPt} {D : mDt} {E : mEt} {a : Nat} (hs : sh a = some (.inl 3)) (x : Int32) : mFnV κ yX3_growPalms cX3_growPalms 4 1 21 [.ref a, .int x] n sh P D E (fun D' => D' = setRow D a (growX x (D a))) := by
  refine mMet_of (by decide) (Nat.le_of_ble_eq_true rfl) ?_
  intro Γ Q hQ h hin
  have h : mOk Γ κ RX3 cX3_growPalms 4 (Option.none : Option Jvm.ClassFile.FieldType) { frames := 1, cells := 0, slots := 0, locals := 21 } := h
  show mV Γ Q 0 0 n sh P D E [(0, .ref a), (1, .int x)] [] 0
  refine V_aload_n h 1 0 rfl dX3_growPalms_0 rfl ?_
  refine g_X3_25 h 4 hs dX3_growPalms_1 rfl ?_
  refine V_bipush h 6 (v := 20) (by decide) dX3_growPalms_4 rfl ?_
  refine V_imul h 7 dX3_growPalms_6 rfl ?_
  refine V_istore_n h 8 [(2, .int ((D a 4) * 20)), (0, .ref a), (1, .int x)] (by decide) rfl dX3_growPalms_7 rfl ?_
  refine V_iload_n h 9 0 rfl dX3_growPalms_8 rfl ?_
  refine V_iconst h 10 (v := 1) (by decide) dX3_growPalms_9 rfl ?_
  refine V_icmp_ge h 14 13 dX3_growPalms_10 (by decide) rfl (fun c10 => ?_) (fun c10 => ?_)
  · skip
    refine V_bipush h 16 (v := 40) (by decide) dX3_growPalms_14 rfl ?_
    refine V_aload_n h 17 1 rfl dX3_growPalms_16 rfl ?_
    refine g_X3_49 h 20 hs dX3_growPalms_17 rfl ?_
    refine V_bipush h 22 (v := 30) (by decide) dX3_growPalms_20 rfl ?_
    refine V_imul h 23 dX3_growPalms_22 rfl ?_
    refine V_iload_n h 24 0 rfl dX3_growPalms_23 rfl ?_
    refine V_idiv h 25 (fun q => absurd (q ▸ c10) (by decide)) dX3_growPalms_24 rfl ?_
    refine V_mmin h 28 qL_X3_68 (Nat.le_of_ble_eq_true rfl) (Nat.le_of_ble_eq_true rfl) (Nat.zero_le _) (Nat.zero_le _) dX3_growPalms_25 rfl ?_
    refine V_istore_n h 29 [(3, .int (imin 40 (((D a 12) * 30) / ((D a 4) * 20)))), (2, .int ((D a 4) * 20)), (0, .ref a), (1, .int x)] (by decide) rfl dX3_growPalms_28 rfl ?_
    refine V_aload_n h 30 2 rfl dX3_growPalms_29 rfl ?_
    refine V_iconst h 31 (v := 0) (by decide) dX3_growPalms_30 rfl ?_
    refine V_bipush h 33 (v := 99) (by decide) dX3_growPalms_31 rfl ?_
    refine V_aload_n h 34 2 rfl dX3_growPalms_33 rfl ?_
    refine g_X3_31 h 37 hs dX3_growPalms_34 rfl ?_
    refine V_iload_n h 38 0 rfl dX3_growPalms_37 rfl ?_
    refine V_iadd h 39 dX3_growPalms_38 rfl ?_
    refine V_mmin h 42 qL_X3_68 (Nat.le_of_ble_eq_true rfl) (Nat.le_of_ble_eq_true rfl) (Nat.zero_le _) (Nat.zero_le _) dX3_growPalms_39 rfl ?_
    refine V_bipush h 44 (v := 6) (by decide) dX3_growPalms_42 rfl ?_
    refine V_isub h 45 dX3_growPalms_44 rfl ?_
    refine V_mmax h 48 qL_X3_71 (Nat.le_of_ble_eq_true rfl) (Nat.le_of_ble_eq_true rfl) (Nat.zero_le _) (Nat.zero_le _) dX3_growPalms_45 rfl ?_
    refine p_X3_31 h 51 hs dX3_growPalms_48 rfl ?_
    obtain ⟨D1, eD1⟩ : ∃ zz, zz = upd2 D a 6 (imax 0 ((imin 99 ((D a 6) + (imin 40 (((D a 12) * 30) / ((D a 4) * 20))))) - 6)) := ⟨_, rfl⟩
    rw [← eD1]
    refine V_aload_n h 52 2 rfl dX3_growPalms_51 rfl ?_
    refine g_X3_49 h 55 hs dX3_growPalms_52 rfl ?_
    refine V_top (y := D a 12) (by rw [eD1, upd2_nk (by decide)]) ?_
    refine V_iconst h 56 (v := 2) (by decide) dX3_growPalms_55 rfl ?_
    refine V_iload_n h 57 1 rfl dX3_growPalms_56 rfl ?_
    refine V_imul h 58 dX3_growPalms_57 rfl ?_
    refine V_icmp_le h 76 61 dX3_growPalms_58 (by decide) rfl (fun c58 => ?_) (fun c58 => ?_)
    · skip
      refine V_iload_n h 77 3 rfl dX3_growPalms_76 rfl ?_
      refine V_if_eq h 122 80 dX3_growPalms_77 (by decide) rfl (fun c77 => ?_) (fun c77 => ?_)
      · skip
        exact V_ret h  hQ (Nat.zero_le _) (Nat.zero_le _) ⟨rfl, rfl, rfl, rfl, rfl, (by dsimp only; rw [upd2_sr] at eD1; rw [eD1]; exact congrArg (setRow D a) (Eq.symm ((if_pos c10).trans ((if_pos c58).trans (if_pos c77)))))⟩ dX3_growPalms_122
      · skip
        refine V_aload_n h 81 2 rfl dX3_growPalms_80 rfl ?_
        refine g_X3_31 h 84 hs dX3_growPalms_81 rfl ?_
        refine V_top (y := imax 0 ((imin 99 ((D a 6) + (imin 40 (((D a 12) * 30) / ((D a 4) * 20))))) - 6)) (by rw [eD1, upd2_eq]) ?_
        refine V_bipush h 86 (v := 15) (by decide) dX3_growPalms_84 rfl ?_
        refine V_icmp_ge h 122 89 dX3_growPalms_86 (by decide) rfl (fun c86 => ?_) (fun c86 => ?_)
        · skip
          exact V_ret h  hQ (Nat.zero_le _) (Nat.zero_le _) ⟨rfl, rfl, rfl, rfl, rfl, (by dsimp only; rw [upd2_sr] at eD1; rw [eD1]; exact congrArg (setRow D a) (Eq.symm ((if_pos c10).trans ((if_pos c58).trans ((if_neg c77).trans (if_pos c86))))))⟩ dX3_growPalms_122
        · skip
          refine V_aload_n h 90 2 rfl dX3_growPalms_89 rfl ?_
          refine V_dup h 91 rfl dX3_growPalms_90 rfl ?_
          refine g_X3_25 h 94 hs dX3_growPalms_91 rfl ?_
          refine V_top (y := D a 4) (by rw [eD1, upd2_nk (by decide)]) ?_
          refine V_aload_n h 95 2 rfl dX3_growPalms_94 rfl ?_
          refine g_X3_25 h 98 hs dX3_growPalms_95 rfl ?_
          refine V_top (y := D a 4) (by rw [eD1, upd2_nk (by decide)]) ?_
          refine V_bipush h 100 (v := 10) (by decide) dX3_growPalms_98 rfl ?_
          refine V_idiv h 101 (by decide) dX3_growPalms_100 rfl ?_
          refine V_iconst h 102 (v := 1) (by decide) dX3_growPalms_101 rfl ?_
          refine V_iadd h 103 dX3_growPalms_102 rfl ?_
          refine V_isub h 104 dX3_growPalms_103 rfl ?_
          refine p_X3_25 h 107 hs dX3_growPalms_104 rfl ?_
          obtain ⟨D2, eD2⟩ : ∃ zz, zz = upd2 D1 a 4 ((D a 4) - (((D a 4) / 10) + 1)) := ⟨_, rfl⟩
          rw [← eD2]
          refine V_aload_n h 108 2 rfl dX3_growPalms_107 rfl ?_
          refine V_aload_n h 109 2 rfl dX3_growPalms_108 rfl ?_
          refine g_X3_40 h 112 hs dX3_growPalms_109 rfl ?_
          refine V_top (y := D a 9) (by rw [eD2, upd2_nk (by decide), eD1, upd2_nk (by decide)]) ?_
          refine V_aload_n h 113 2 rfl dX3_growPalms_112 rfl ?_
          refine g_X3_25 h 116 hs dX3_growPalms_113 rfl ?_
          refine V_top (y := (D a 4) - (((D a 4) / 10) + 1)) (by rw [eD2, upd2_eq]) ?_
          refine V_mmin h 119 qL_X3_68 (Nat.le_of_ble_eq_true rfl) (Nat.le_of_ble_eq_true rfl) (Nat.zero_le _) (Nat.zero_le _) dX3_growPalms_116 rfl ?_
          refine p_X3_40 h 122 hs dX3_growPalms_119 rfl ?_
          obtain ⟨D3, eD3⟩ : ∃ zz, zz = upd2 D2 a 9 (imin (D a 9) ((D a 4) - (((D a 4) / 10) + 1))) := ⟨_, rfl⟩
          rw [← eD3]
          exact V_ret h  hQ (Nat.zero_le _) (Nat.zero_le _) ⟨rfl, rfl, rfl, rfl, rfl, (by dsimp only; rw [upd2_sr] at eD1; rw [eD1, sr_upd2] at eD2; rw [eD2, sr_upd2] at eD3; rw [eD3]; exact congrArg (setRow D a) (Eq.symm ((if_pos c10).trans ((if_pos c58).trans ((if_neg c77).trans (if_neg c86))))))⟩ dX3_growPalms_122
    · skip
      refine V_aload_n h 62 2 rfl dX3_growPalms_61 rfl ?_
      refine V_bipush h 64 (v := 99) (by decide) dX3_growPalms_62 rfl ?_
      refine V_aload_n h 65 2 rfl dX3_growPalms_64 rfl ?_
      refine g_X3_34 h 68 hs dX3_growPalms_65 rfl ?_
      refine V_top (y := D a 7) (by rw [eD1, upd2_nk (by decide)]) ?_
      refine V_iconst h 69 (v := 1) (by decide) dX3_growPalms_68 rfl ?_
      refine V_iadd h 70 dX3_growPalms_69 rfl ?_
      refine V_mmin h 73 qL_X3_68 (Nat.le_of_ble_eq_true rfl) (Nat.le_of_ble_eq_true rfl) (Nat.zero_le _) (Nat.zero_le _) dX3_growPalms_70 rfl ?_
      refine p_X3_34 h 76 hs dX3_growPalms_73 rfl ?_
      obtain ⟨D4, eD4⟩ : ∃ zz, zz = upd2 D1 a 7 (imin 99 ((D a 7) + 1)) := ⟨_, rfl⟩
      rw [← eD4]
      refine V_iload_n h 77 3 rfl dX3_growPalms_76 rfl ?_
      refine V_if_eq h 122 80 dX3_growPalms_77 (by decide) rfl (fun c77 => ?_) (fun c77 => ?_)
      · skip
        exact V_ret h  hQ (Nat.zero_le _) (Nat.zero_le _) ⟨rfl, rfl, rfl, rfl, rfl, (by dsimp only; rw [upd2_sr] at eD1; rw [eD1, sr_upd2] at eD4; rw [eD4]; exact congrArg (setRow D a) (Eq.symm ((if_pos c10).trans ((if_neg c58).trans (if_pos c77)))))⟩ dX3_growPalms_122
      · skip
        refine V_aload_n h 81 2 rfl dX3_growPalms_80 rfl ?_
        refine g_X3_31 h 84 hs dX3_growPalms_81 rfl ?_
        refine V_top (y := imax 0 ((imin 99 ((D a 6) + (imin 40 (((D a 12) * 30) / ((D a 4) * 20))))) - 6)) (by rw [eD4, upd2_nk (by decide), eD1, upd2_eq]) ?_
        refine V_bipush h 86 (v := 15) (by decide) dX3_growPalms_84 rfl ?_
        refine V_icmp_ge h 122 89 dX3_growPalms_86 (by decide) rfl (fun c86 => ?_) (fun c86 => ?_)
        · skip
          exact V_ret h  hQ (Nat.zero_le _) (Nat.zero_le _) ⟨rfl, rfl, rfl, rfl, rfl, (by dsimp only; rw [upd2_sr] at eD1; rw [eD1, sr_upd2] at eD4; rw [eD4]; exact congrArg (setRow D a) (Eq.symm ((if_pos c10).trans ((if_neg c58).trans ((if_neg c77).trans (if_pos c86))))))⟩ dX3_growPalms_122
        · skip
          refine V_aload_n h 90 2 rfl dX3_growPalms_89 rfl ?_
          refine V_dup h 91 rfl dX3_growPalms_90 rfl ?_
          refine g_X3_25 h 94 hs dX3_growPalms_91 rfl ?_
          refine V_top (y := D a 4) (by rw [eD4, upd2_nk (by decide), eD1, upd2_nk (by decide)]) ?_
          refine V_aload_n h 95 2 rfl dX3_growPalms_94 rfl ?_
          refine g_X3_25 h 98 hs dX3_growPalms_95 rfl ?_
          refine V_top (y := D a 4) (by rw [eD4, upd2_nk (by decide), eD1, upd2_nk (by decide)]) ?_
          refine V_bipush h 100 (v := 10) (by decide) dX3_growPalms_98 rfl ?_
          refine V_idiv h 101 (by decide) dX3_growPalms_100 rfl ?_
          refine V_iconst h 102 (v := 1) (by decide) dX3_growPalms_101 rfl ?_
          refine V_iadd h 103 dX3_growPalms_102 rfl ?_
          refine V_isub h 104 dX3_growPalms_103 rfl ?_
          refine p_X3_25 h 107 hs dX3_growPalms_104 rfl ?_
          obtain ⟨D5, eD5⟩ : ∃ zz, zz = upd2 D4 a 4 ((D a 4) - (((D a 4) / 10) + 1)) := ⟨_, rfl⟩
          rw [← eD5]
          refine V_aload_n h 108 2 rfl dX3_growPalms_107 rfl ?_
          refine V_aload_n h 109 2 rfl dX3_growPalms_108 rfl ?_
          refine g_X3_40 h 112 hs dX3_growPalms_109 rfl ?_
          refine V_top (y := D a 9) (by rw [eD5, upd2_nk (by decide), eD4, upd2_nk (by decide), eD1, upd2_nk (by decide)]) ?_
          refine V_aload_n h 113 2 rfl dX3_growPalms_112 rfl ?_
          refine g_X3_25 h 116 hs dX3_growPalms_113 rfl ?_
          refine V_top (y := (D a 4) - (((D a 4) / 10) + 1)) (by rw [eD5, upd2_eq]) ?_
          refine V_mmin h 119 qL_X3_68 (Nat.le_of_ble_eq_true rfl) (Nat.le_of_ble_eq_true rfl) (Nat.zero_le _) (Nat.zero_le _) dX3_growPalms_116 rfl ?_
          refine p_X3_40 h 122 hs dX3_growPalms_119 rfl ?_
          obtain ⟨D6, eD6⟩ : ∃ zz, zz = upd2 D5 a 9 (imin (D a 9) ((D a 4) - (((D a 4) / 10) + 1))) := ⟨_, rfl⟩
          rw [← eD6]
          exact V_ret h  hQ (Nat.zero_le _) (Nat.zero_le _) ⟨rfl, rfl, rfl, rfl, rfl, (by dsimp only; rw [upd2_sr] at eD1; rw [eD1, sr_upd2] at eD4; rw [eD4, sr_upd2] at eD5; rw [eD5, sr_upd2] at eD6; rw [eD6]; exact congrArg (setRow D a) (Eq.symm ((if_pos c10).trans ((if_neg c58).trans ((if_neg c77).trans (if_neg c86))))))⟩ dX3_growPalms_122
  · skip
    exact V_ret h  hQ (Nat.zero_le _) (Nat.zero_le _) ⟨rfl, rfl, rfl, rfl, rfl, (by dsimp only; rw [show growX x (D a) = D a from if_neg c10, setRow_self])⟩ dX3_growPalms_13
