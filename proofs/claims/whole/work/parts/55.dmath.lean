/-! what is divided among heirs: both ways of rounding down are one -/
theorem bm32 {x : Int} (h1 : -2147483648 ≤ x) (h2 : x ≤ 2147483647) : x.bmod (2 ^ 32) = x := Int.bmod_eq_of_le (by omega) (by omega)
theorem ti_add {a b : Int32} (h1 : -2147483648 ≤ a.toInt + b.toInt) (h2 : a.toInt + b.toInt ≤ 2147483647) : (a + b).toInt = a.toInt + b.toInt := by rw [Int32.toInt_add]; exact bm32 h1 h2
theorem ti_sub {a b : Int32} (h1 : -2147483648 ≤ a.toInt - b.toInt) (h2 : a.toInt - b.toInt ≤ 2147483647) : (a - b).toInt = a.toInt - b.toInt := by rw [Int32.toInt_sub]; exact bm32 h1 h2
theorem ti_mul {a b : Int32} (h1 : -2147483648 ≤ a.toInt * b.toInt) (h2 : a.toInt * b.toInt ≤ 2147483647) : (a * b).toInt = a.toInt * b.toInt := by rw [Int32.toInt_mul]; exact bm32 h1 h2
theorem ti_neg {a : Int32} (h1 : -2147483647 ≤ a.toInt) : (-a).toInt = -a.toInt := by have := a.toInt_lt; rw [Int32.toInt_neg]; exact bm32 (by omega) (by omega)
def lowI (x y : Int32) : Int32 := if x < 0 then -((y - 1 - x) / y) else x / y
theorem div_ti {x : Int32} {b : Nat} (hb : 1 ≤ b) (hb8 : b ≤ 8) : (x / nI b).toInt = x.toInt.tdiv b := by
  rw [Int32.toInt_div_of_ne_right, nI_toInt (by omega)]
  intro h
  have h1 : (nI b).toInt = (-1 : Int32).toInt := by rw [h]
  rw [nI_toInt (by omega), show (-1 : Int32).toInt = -1 from rfl] at h1
  omega
theorem xor_sg {x : Int32} {b : Nat} (hb : 1 ≤ b) (hb8 : b ≤ 8) : 0 ≤ x ^^^ nI b ↔ 0 ≤ x.toInt := by
  have key : ∀ z : Int32, 0 ≤ z ↔ z.toBitVec.msb = false := fun z => by
    rw [Int32.le_iff_toInt_le, Int32.toInt_zero, BitVec.msb_eq_toInt, Int32.toInt_toBitVec]
    simp
  have hm : (nI b).toBitVec.msb = false := (key _).mp (nI_pos' (by omega))
  rw [key, show (x ^^^ nI b).toBitVec = x.toBitVec ^^^ (nI b).toBitVec from rfl, BitVec.msb_xor, hm, Bool.xor_false, ← key, Int32.le_iff_toInt_le, Int32.toInt_zero]
theorem fd_ti {x : Int32} {b : Nat} (hb : 1 ≤ b) (hb8 : b ≤ 8) (h1 : -1073741824 ≤ x.toInt) (h2 : x.toInt ≤ 1073741824) : (fdivI x (nI b)).toInt = x.toInt / b := by
  have hd := div_ti (x := x) hb hb8
  have hbi : (nI b).toInt = b := nI_toInt (by omega)
  unfold fdivI
  by_cases h0 : 0 ≤ x.toInt
  · rw [if_pos ((xor_sg hb hb8).mpr h0), hd, Int.tdiv_eq_ediv_of_nonneg h0]
  · rw [if_neg (fun z => h0 ((xor_sg hb hb8).mp z))]
    have ht := @Int.tdiv_eq_ediv x.toInt (b : Int)
    have hq1 : x.toInt / (b : Int) * b ≤ x.toInt := Int.ediv_mul_le _ (by omega)
    have hq2 : x.toInt < (x.toInt / (b : Int) + 1) * b := Int.lt_ediv_add_one_mul_self _ (by omega)
    have hmul : (x / nI b * nI b).toInt = x.toInt.tdiv b * b := by
      rw [ti_mul, hd, hbi]
      · rw [hd, hbi, ht]
        split
        · have : x.toInt / (b : Int) * b ≤ x.toInt := hq1
          rw [Int.add_zero]
          have : (x.toInt / (b : Int) + 1) * b = x.toInt / (b : Int) * b + b := by rw [Int.add_mul, Int.one_mul]
          omega
        · rw [Int.sign_eq_one_of_pos (by omega)]
          have : (x.toInt / (b : Int) + 1) * b = x.toInt / (b : Int) * b + b := by rw [Int.add_mul, Int.one_mul]
          omega
      · rw [hd, hbi, ht]
        split
        · rw [Int.add_zero]; omega
        · rw [Int.sign_eq_one_of_pos (by omega)]
          have : (x.toInt / (b : Int) + 1) * b = x.toInt / (b : Int) * b + b := by rw [Int.add_mul, Int.one_mul]
          omega
    by_cases hdv : (b : Int) ∣ x.toInt
    · have hx : x / nI b * nI b = x := Int32.toInt_inj.1 (by rw [hmul, Int.tdiv_mul_cancel hdv])
      rw [if_pos hx, hd, Int.tdiv_eq_ediv_of_dvd hdv]
    · have hx : ¬ x / nI b * nI b = x := fun z => hdv ⟨x.toInt.tdiv b, by rw [Int.mul_comm, ← hmul, z]⟩
      rw [if_neg hx]
      have ht2 : x.toInt.tdiv b = x.toInt / (b : Int) + 1 := by
        rw [ht, if_neg (by intro z; rcases z with z | z; exact h0 z; exact hdv z), Int.sign_eq_one_of_pos (by omega)]
      have hlo : -1073741824 ≤ x.toInt / (b : Int) := Int.le_ediv_of_mul_le (by omega) (by
        have : (-1073741824 : Int) * b ≤ -1073741824 * 1 := Int.mul_le_mul_of_nonpos_left (by omega) (by omega)
        omega)
      have hhi : x.toInt / (b : Int) ≤ 0 := by
        have := Int.ediv_le_ediv (c := (b : Int)) (by omega) (show x.toInt ≤ 0 by omega)
        simpa using this
      rw [ti_sub, hd, ht2]
      · show x.toInt / (b : Int) + 1 - (1 : Int32).toInt = _
        rw [show (1 : Int32).toInt = 1 from rfl]; omega
      · rw [hd, ht2, show (1 : Int32).toInt = 1 from rfl]; omega
      · rw [hd, ht2, show (1 : Int32).toInt = 1 from rfl]; omega
theorem low_ti {x : Int32} {b : Nat} (hb : 1 ≤ b) (hb8 : b ≤ 8) (h1 : -1073741824 ≤ x.toInt) (h2 : x.toInt ≤ 1073741824) : (lowI x (nI b)).toInt = x.toInt / b := by
  have hbi : (nI b).toInt = b := nI_toInt (by omega)
  unfold lowI
  by_cases h0 : x < 0
  · rw [if_pos h0]
    have h0' : x.toInt < 0 := by rw [Int32.lt_iff_toInt_lt, Int32.toInt_zero] at h0; exact h0
    have e1 : (nI b - 1).toInt = b - 1 := by rw [ti_sub] <;> rw [hbi, show (1 : Int32).toInt = 1 from rfl] <;> omega
    have e2 : (nI b - 1 - x).toInt = b - 1 - x.toInt := by rw [ti_sub] <;> rw [e1] <;> omega
    have e3 : ((nI b - 1 - x) / nI b).toInt = (b - 1 - x.toInt) / b := by rw [div_ti hb hb8, e2, Int.tdiv_eq_ediv_of_nonneg (by omega)]
    have hlo : 0 ≤ ((b : Int) - 1 - x.toInt) / b := Int.ediv_nonneg (by omega) (by omega)
    rw [ti_neg (by rw [e3]; omega), e3]
    obtain rfl | rfl | rfl | rfl | rfl | rfl | rfl | rfl : b = 1 ∨ b = 2 ∨ b = 3 ∨ b = 4 ∨ b = 5 ∨ b = 6 ∨ b = 7 ∨ b = 8 := by omega
    all_goals omega
  · rw [if_neg h0, div_ti hb hb8]
    have h0' : 0 ≤ x.toInt := by rw [Int32.lt_iff_toInt_lt, Int32.toInt_zero] at h0; omega
    rw [Int.tdiv_eq_ediv_of_nonneg h0']
theorem low_fd {x : Int32} {b : Nat} (hb : 1 ≤ b) (hb8 : b ≤ 8) (h1 : -1073741824 ≤ x.toInt) (h2 : x.toInt ≤ 1073741824) : lowI x (nI b) = fdivI x (nI b) := Int32.toInt_inj.1 (by rw [low_ti hb hb8 h1 h2, fd_ti hb hb8 h1 h2])
/-- the share of the heir i ahead of what is left over -/
def baseF (dv : Int32) (s d i : Nat) : Int32 := if i < s then fdivI (2 * dv) (nI (2 * s + d)) else fdivI dv (nI (2 * s + d))
theorem ti_2 {dv : Int32} (hb1 : -536870912 ≤ dv.toInt) (hb2 : dv.toInt ≤ 536870912) : (2 * dv).toInt = 2 * dv.toInt := by
  rw [ti_mul] <;> rw [show (2 : Int32).toInt = 2 from rfl] <;> omega
theorem base_low {dv : Int32} {s d i : Nat} (h4 : s + d ≤ 4) (h1 : 1 ≤ s + d) (hb1 : -536870912 ≤ dv.toInt) (hb2 : dv.toInt ≤ 536870912) : (i < s → lowI (dv * 2) (nI (2 * s + d)) = baseF dv s d i) ∧ (¬ i < s → lowI (dv * 1) (nI (2 * s + d)) = baseF dv s d i) := by
  have e2 := ti_2 hb1 hb2
  refine ⟨fun h => ?_, fun h => ?_⟩
  · rw [baseF, if_pos h, Int32.mul_comm dv 2]
    exact low_fd (by omega) (by omega) (by omega) (by omega)
  · rw [baseF, if_neg h, Int32.mul_one]
    exact low_fd (by omega) (by omega) (by omega) (by omega)
theorem lsub_base {dv : Int32} {s d : Nat} : ∀ i, lsub dv (baseF dv s d) i = if i ≤ s then dv - nI i * fdivI (2 * dv) (nI (2 * s + d)) else dv - nI s * fdivI (2 * dv) (nI (2 * s + d)) - nI (i - s) * fdivI dv (nI (2 * s + d)) := by
  intro i
  induction i with
  | zero =>
    rw [if_pos (Nat.zero_le _), lsub, show nI 0 = 0 from rfl, Int32.zero_mul, Int32.sub_zero]
  | succ i ih =>
    rw [lsub, ih, baseF]
    have hss : ∀ a b c : Int32, a - b - c = a - (b + c) := fun a b c => by rw [Int32.sub_eq_add_neg, Int32.sub_eq_add_neg, Int32.sub_eq_add_neg, Int32.neg_add, Int32.add_assoc, ← Int32.sub_eq_add_neg (-b) c]
    by_cases h : i < s
    · rw [if_pos (by omega), if_pos h, if_pos (by omega), hss, ← nI_1, Int32.add_mul, Int32.one_mul]
    · rw [if_neg h, if_neg (show ¬ i + 1 ≤ s by omega)]
      by_cases h2 : i = s
      · subst h2
        rw [if_pos (Nat.le_refl _), show i + 1 - i = 1 by omega, show nI 1 = 1 from rfl, Int32.one_mul]
      · rw [if_neg (by omega), hss _ (nI (i - s) * _), show i + 1 - s = i - s + 1 by omega, ← nI_1 (i - s), Int32.add_mul, Int32.one_mul]
theorem left_ti {dv X Y : Int32} {s d : Nat} (h4 : s + d ≤ 4) (h1 : 1 ≤ s + d) (hb1 : -536870912 ≤ dv.toInt) (hb2 : dv.toInt ≤ 536870912) (eA : X.toInt = 2 * dv.toInt / ((2 * s + d : Nat) : Int)) (eB : Y.toInt = dv.toInt / ((2 * s + d : Nat) : Int)) : (dv - nI s * X - nI d * Y).toInt = dv.toInt - s * X.toInt - d * Y.toInt ∧ 0 ≤ dv.toInt - s * X.toInt - d * Y.toInt ∧ dv.toInt - s * X.toInt - d * Y.toInt < s + d ∧ -536870912 ≤ Y.toInt ∧ Y.toInt ≤ 536870912 ∧ (1 ≤ s → -536870912 ≤ X.toInt ∧ X.toInt ≤ 536870912) ∧ (0 ≤ dv.toInt → 0 ≤ X.toInt ∧ 0 ≤ Y.toInt ∧ (1 ≤ s → X.toInt ≤ dv.toInt) ∧ Y.toInt ≤ dv.toInt ∧ (1 ≤ dv.toInt - s * X.toInt - d * Y.toInt → (1 ≤ s → X.toInt < dv.toInt) ∧ (1 ≤ d → Y.toInt < dv.toInt))) ∧ (dv.toInt < 0 → (1 ≤ s → dv.toInt ≤ X.toInt ∧ X.toInt < 0) ∧ dv.toInt ≤ Y.toInt ∧ Y.toInt < 0) := by
  have hs : s = 0 ∨ s = 1 ∨ s = 2 ∨ s = 3 ∨ s = 4 := by omega
  have hd : d = 0 ∨ d = 1 ∨ d = 2 ∨ d = 3 ∨ d = 4 := by omega
  have es : (nI s).toInt = s := nI_toInt (by omega)
  have ed : (nI d).toInt = d := nI_toInt (by omega)
  have lin : 0 ≤ dv.toInt - s * X.toInt - d * Y.toInt ∧ dv.toInt - s * X.toInt - d * Y.toInt < s + d ∧ -536870912 ≤ Y.toInt ∧ Y.toInt ≤ 536870912 ∧ (1 ≤ s → -536870912 ≤ X.toInt ∧ X.toInt ≤ 536870912) ∧ (-2147483648 ≤ (s : Int) * X.toInt ∧ (s : Int) * X.toInt ≤ 2147483647) ∧ (-2147483648 ≤ (d : Int) * Y.toInt ∧ (d : Int) * Y.toInt ≤ 2147483647) ∧ (-2147483648 ≤ dv.toInt - (s : Int) * X.toInt ∧ dv.toInt - (s : Int) * X.toInt ≤ 2147483647) ∧ (0 ≤ dv.toInt → 0 ≤ X.toInt ∧ 0 ≤ Y.toInt ∧ (1 ≤ s → X.toInt ≤ dv.toInt) ∧ Y.toInt ≤ dv.toInt) ∧ (dv.toInt < 0 → (1 ≤ s → dv.toInt ≤ X.toInt ∧ X.toInt < 0) ∧ dv.toInt ≤ Y.toInt ∧ Y.toInt < 0) := by
    generalize dv.toInt = v at *
    generalize X.toInt = A at *
    generalize Y.toInt = B at *
    rcases hs with rfl | rfl | rfl | rfl | rfl <;> rcases hd with rfl | rfl | rfl | rfl | rfl
    all_goals first
      | omega
      | (simp at eA eB ⊢; omega)
  obtain ⟨l1, l2, l3, l4, l5, ⟨l6, l7⟩, ⟨l8, l9⟩, ⟨l10, l11⟩, l12, l13⟩ := lin
  have l14 : 0 ≤ dv.toInt → 1 ≤ dv.toInt - s * X.toInt - d * Y.toInt → (1 ≤ s → X.toInt < dv.toInt) ∧ (1 ≤ d → Y.toInt < dv.toInt) := fun h0 h9 => by
    obtain ⟨n1, n2, -, -⟩ := l12 h0
    clear eA eB l1 l2 l3 l4 l5 l6 l7 l8 l9 l10 l11 l12 l13
    generalize dv.toInt = v at *
    generalize X.toInt = A at *
    generalize Y.toInt = B at *
    rcases hs with rfl | rfl | rfl | rfl | rfl <;> rcases hd with rfl | rfl | rfl | rfl | rfl
    all_goals first
      | omega
      | (simp at h9 ⊢; omega)
  refine ⟨?_, l1, l2, l3, l4, l5, fun h0 => ⟨(l12 h0).1, (l12 h0).2.1, (l12 h0).2.2.1, (l12 h0).2.2.2, l14 h0⟩, l13⟩
  have m1 : (nI s * X).toInt = s * X.toInt := by rw [ti_mul] <;> rw [es] <;> assumption
  have m2 : (nI d * Y).toInt = d * Y.toInt := by rw [ti_mul] <;> rw [ed] <;> assumption
  have m3 : (dv - nI s * X).toInt = dv.toInt - s * X.toInt := by rw [ti_sub] <;> rw [m1] <;> assumption
  rw [ti_sub] <;> rw [m3, m2] <;> omega
theorem left_ok {dv : Int32} {s d : Nat} (h4 : s + d ≤ 4) (h1 : 1 ≤ s + d) (hb1 : -536870912 ≤ dv.toInt) (hb2 : dv.toInt ≤ 536870912) : ∃ t, t < s + d ∧ dv - nI s * fdivI (2 * dv) (nI (2 * s + d)) - nI d * fdivI dv (nI (2 * s + d)) = nI t := by
  have e2 := ti_2 hb1 hb2
  have eA := fd_ti (x := 2 * dv) (b := 2 * s + d) (by omega) (by omega) (by omega) (by omega)
  rw [e2] at eA
  have eB := fd_ti (x := dv) (b := 2 * s + d) (by omega) (by omega) (by omega) (by omega)
  obtain ⟨l0, l1, l2, -⟩ := left_ti h4 h1 hb1 hb2 eA eB
  refine ⟨(dv.toInt - s * (fdivI (2 * dv) (nI (2 * s + d))).toInt - d * (fdivI dv (nI (2 * s + d))).toInt).toNat, by omega, ?_⟩
  apply Int32.toInt_inj.1
  rw [l0, nI_toInt (by omega)]
  omega
theorem lsub_left {dv : Int32} {s d t : Nat} (h1 : 1 ≤ s + d) (ht : dv - nI s * fdivI (2 * dv) (nI (2 * s + d)) - nI d * fdivI dv (nI (2 * s + d)) = nI t) : lsub dv (baseF dv s d) (s + d) = nI t := by
  rw [lsub_base]
  by_cases h : d = 0
  · subst h
    rw [if_pos (by omega), ← ht, show nI 0 = 0 from rfl, Int32.zero_mul, Int32.sub_zero]; rfl
  · rw [if_neg (by omega), ← ht, show s + d - s = d by omega]
theorem part_eq {dv : Int32} {s d t i : Nat} (h4 : s + d ≤ 4) (h1 : 1 ≤ s + d) (hi : i < s + d) (htl : t < s + d) (ht : dv - nI s * fdivI (2 * dv) (nI (2 * s + d)) - nI d * fdivI dv (nI (2 * s + d)) = nI t) : partF dv (nI s) (nI d) (nI i) = baseF dv s d i + (if i < t then 1 else 0) := by
  have ep : 2 * nI s + nI d = nI (2 * s + d) := by rw [show (2 : Int32) = nI 2 from rfl, nI_mul, nI_add]
  have c1 : ∀ b, b < 100 → (nI i < nI b ↔ i < b) := fun b hb => nI_ltI (by omega) (by omega)
  unfold partF
  rw [ep, if_pos (show (1 : Int32) ≤ nI (2 * s + d) from nI_le (a := 1) (by omega) (by omega)), ht, baseF]
  simp only [c1 s (by omega), c1 t (by omega)]
/-- the shares of all heirs are the whole -/
theorem part_sum {dv : Int32} {s d : Nat} (h4 : s + d ≤ 4) (h1 : 1 ≤ s + d) (hb1 : -536870912 ≤ dv.toInt) (hb2 : dv.toInt ≤ 536870912) : rsum (fun i => partF dv (nI s) (nI d) (nI i)) (s + d) = dv := by
  obtain ⟨t, htl, ht⟩ := left_ok h4 h1 hb1 hb2
  have hl := lsub_left h1 ht
  have key : ∀ n, n ≤ s + d → rsum (fun i => partF dv (nI s) (nI d) (nI i)) n + lsub dv (baseF dv s d) n = dv + nI (if n < t then n else t) := by
    intro n
    induction n with
    | zero =>
      intro _
      rw [rsum, lsub, Int32.zero_add]
      split
      · exact (Int32.add_zero _).symm
      · rename_i q
        have : t = 0 := by omega
        subst this; exact (Int32.add_zero _).symm
    | succ n ih =>
      intro hn
      have hp := part_eq h4 h1 (show n < s + d by omega) htl ht
      rw [rsum, lsub, hp]
      have e : rsum (fun i => partF dv (nI s) (nI d) (nI i)) n + (baseF dv s d n + (if n < t then 1 else 0)) + (lsub dv (baseF dv s d) n - baseF dv s d n) = (rsum (fun i => partF dv (nI s) (nI d) (nI i)) n + lsub dv (baseF dv s d) n) + (if n < t then 1 else 0) := by
        generalize rsum (fun i => partF dv (nI s) (nI d) (nI i)) n = a
        generalize baseF dv s d n = b
        generalize lsub dv (baseF dv s d) n = c
        generalize (if n < t then (1 : Int32) else 0) = z
        rw [Int32.sub_eq_add_neg, Int32.add_assoc, Int32.add_assoc b z, ← Int32.add_assoc z c, Int32.add_comm b, Int32.add_assoc (z + c), Int32.add_left_neg, Int32.add_zero, Int32.add_assoc a c, Int32.add_comm z c]
      rw [e, ih (by omega), Int32.add_assoc]
      congr 1
      by_cases q : n < t
      · rw [if_pos q, if_pos q]
        by_cases q2 : n + 1 < t
        · rw [if_pos q2, nI_1]
        · rw [if_neg q2, nI_1, show n + 1 = t by omega]
      · rw [if_neg q, if_neg q, if_neg (by omega), Int32.add_zero]
  have h := key (s + d) (Nat.le_refl _)
  rw [hl, if_neg (by omega)] at h
  have := congrArg (fun z => z - nI t) h
  simp only [Int32.add_sub_cancel] at this
  exact this
theorem part_bd {dv : Int32} {s d i : Nat} (h4 : s + d ≤ 4) (h1 : 1 ≤ s + d) (hi : i < s + d) (hb1 : -536870912 ≤ dv.toInt) (hb2 : dv.toInt ≤ 536870912) : (0 ≤ dv.toInt → 0 ≤ (partF dv (nI s) (nI d) (nI i)).toInt ∧ (partF dv (nI s) (nI d) (nI i)).toInt ≤ dv.toInt) ∧ (dv.toInt < 0 → dv.toInt ≤ (partF dv (nI s) (nI d) (nI i)).toInt ∧ (partF dv (nI s) (nI d) (nI i)).toInt ≤ 0) := by
  have e2 := ti_2 hb1 hb2
  have eA := fd_ti (x := 2 * dv) (b := 2 * s + d) (by omega) (by omega) (by omega) (by omega)
  rw [e2] at eA
  have eB := fd_ti (x := dv) (b := 2 * s + d) (by omega) (by omega) (by omega) (by omega)
  obtain ⟨l0, l1, l2, l3, l4, l5, l6, l7⟩ := left_ti h4 h1 hb1 hb2 eA eB
  obtain ⟨t, htl, ht⟩ := left_ok h4 h1 hb1 hb2
  have htt : (t : Int) = dv.toInt - s * (fdivI (2 * dv) (nI (2 * s + d))).toInt - d * (fdivI dv (nI (2 * s + d))).toInt := by
    rw [← l0, ht, nI_toInt (by omega)]
  rw [part_eq h4 h1 hi htl ht, baseF]
  rw [← htt] at l6
  generalize (fdivI (2 * dv) (nI (2 * s + d))) = X at *
  generalize (fdivI dv (nI (2 * s + d))) = Y at *
  have hone : (if i < t then (1 : Int32) else 0).toInt = if i < t then 1 else 0 := by split <;> rfl
  have hsum : ((if i < s then X else Y) + (if i < t then (1 : Int32) else 0)).toInt = (if i < s then X.toInt else Y.toInt) + (if i < t then 1 else 0) := by
    have hXY : (if i < s then X else Y).toInt = if i < s then X.toInt else Y.toInt := by split <;> rfl
    by_cases q : i < s
    · have := l5 (by omega)
      rw [ti_add] <;> rw [hXY, hone] <;> rw [if_pos q] <;> split <;> omega
    · rw [ti_add] <;> rw [hXY, hone] <;> rw [if_neg q] <;> split <;> omega
  rw [hsum]
  refine ⟨fun h0 => ?_, fun h0 => ?_⟩
  · obtain ⟨a1, a2, a3, a4, a5⟩ := l6 h0
    by_cases q : i < s
    · rw [if_pos q]
      by_cases q2 : i < t
      · rw [if_pos q2]
        have := (a5 (by omega)).1 (by omega)
        omega
      · rw [if_neg q2]; have := a3 (by omega); omega
    · rw [if_neg q]
      by_cases q2 : i < t
      · rw [if_pos q2]
        have := (a5 (by omega)).2 (by omega)
        omega
      · rw [if_neg q2]; omega
  · obtain ⟨b1, b2, b3⟩ := l7 h0
    by_cases q : i < s
    · rw [if_pos q]
      have := b1 (by omega)
      split <;> omega
    · rw [if_neg q]
      split <;> omega
