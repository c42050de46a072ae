/-! the law: three times -/
section LWG
variable {Γ : mC} {κ : mKp} {Q : State → Prop} {kc ks n : Nat} {sh : mSh} {P : mPt} {D : mDt} {E : mEt} {bs Ls : Nat} {xs : Nat → Int32}
set_option maxRecDepth 100000 in
set_option maxHeartbeats 4000000 in
theorem law_T (h : mOk Γ κ RL cL_law 25 (Option.some Jvm.ClassFile.FieldType.boolean) { frames := 13, cells := 600104, slots := 7301313, locals := 486 }) (hX : mOkS Γ bs Ls xs) (hst : κ.1.stackTraces = false) (hLs : Ls < 2 ^ 31) (ret : ∀ kc ks n sh P D E lv, kc ≤ 600104 → ks ≤ 7301313 → mV Γ Q kc ks n sh P D E lv [] 696) : mV Γ Q 0 0 n sh P D E [(0, .ref bs)] [] 0 := by
  refine V_iconst h 1 (v := 0) (by decide) dL_law_0 rfl ?_
  refine V_istore_n h 2 [(1, .int 0), (0, .ref bs)] (by decide) rfl dL_law_1 rfl ?_
  have LP : ∀ (kk0 τ : Nat) (y1 : Int32) (n : Nat) (sh : mSh) (P : mPt) (D : mDt) (E : mEt), τ ≤ 3 → y1 = nI τ → 3 - τ < kk0 → mV Γ Q (1000 * τ) (60000 * τ) n sh P D E [(0, .ref bs), (1, .int y1)] [] 2 := by
    intro kk0
    induction kk0 with
    | zero => intro τ y1 n sh P D E _ _ hm; exact absurd hm (Nat.not_lt_zero _)
    | succ kk0 ih =>
      intro τ y1 n sh P D E hi e1 hm
      subst e1
      refine V_iload_n h 3 1 rfl dL_law_2 rfl ?_
      refine V_iconst h 4 (v := 3) (by decide) dL_law_3 rfl ?_
      refine V_icmp_ge h 696 7 dL_law_4 (by decide) rfl (fun c4 => ?_) (fun c4 => ?_)
      · exact ret _ _ _ _ _ _ _ _ (by omega) (by omega)
      · have hτ : τ < 3 := mLtB (i := τ) (m := 3) c4 (by omega)
        refine law_A h hX hst hLs (τ := τ) (by omega) (by omega) (by omega) (fun u n1 sh1 P1 D1 E1 hp1 hz1 => ?_)
        refine law_K h hX hst hLs (dr0 := 31 * τ + 7 + 16) (c0 := 4) (by omega) (by omega) (by omega) (by omega) (fun m dd c D2 hdd hc hp2 => ?_) hp1 hz1
        refine law_C1 h hX hst hLs hp2 (by omega) (by omega) (by omega) (by omega) (by omega) (fun R W n3 sh3 P3 D3 E3 hR hW hs1 hs2 hA hB hp3 => ?_)
        refine law_C2 h hX hst hLs (by omega) hp3 (by omega) (by omega) hR hW hs1 hs2 hA hB (by omega) (by omega) (fun n4 sh4 P4 D4 E4 => ?_)
        refine V_iinc h 693 [(1, .int (nI τ + 1)), (0, .ref bs)] 1 rfl (by rfl) (by decide) rfl dL_law_690 rfl ?_
        refine V_goto h 2 dL_law_693 (by decide) ?_
        refine V_lsub [(0, .ref bs), (1, .int (nI τ + 1))] [1, 0] rfl ?_
        refine V_widen (1000 * (τ + 1)) (60000 * (τ + 1)) (by omega) (by omega) ?_
        exact ih (τ + 1) _ _ _ _ _ _ (by omega) (nI_1 τ) (by omega)
  refine V_lsub [(0, .ref bs), (1, .int (nI 0))] [1, 0] rfl ?_
  exact LP _ 0 _ _ _ _ _ _ (by omega) rfl (Nat.lt_succ_self _)
end LWG
