/-! numbers, as the walker wants them -/
theorem cv_le {a b : Nat} (ha : a < 2 ^ 31) (hb : b < 2 ^ 31) (h : nI a ≤ nI b) : a ≤ b := (nI_leI ha hb).mp h
theorem cv_nle {a b : Nat} (ha : a < 2 ^ 31) (hb : b < 2 ^ 31) (h : ¬ nI a ≤ nI b) : b < a := Nat.lt_of_not_le (fun q => h ((nI_leI ha hb).mpr q))
theorem cv_lt {a b : Nat} (ha : a < 2 ^ 31) (hb : b < 2 ^ 31) (h : nI a < nI b) : a < b := (nI_ltI ha hb).mp h
theorem cv_nlt {a b : Nat} (ha : a < 2 ^ 31) (hb : b < 2 ^ 31) (h : ¬ nI a < nI b) : b ≤ a := Nat.le_of_not_lt (fun q => h ((nI_ltI ha hb).mpr q))
theorem cv_eq {a b : Nat} (ha : a < 2 ^ 31) (hb : b < 2 ^ 31) (h : nI a = nI b) : a = b := (nI_eq ha hb).mp h
theorem cv_ne {a b : Nat} (ha : a < 2 ^ 31) (hb : b < 2 ^ 31) (h : ¬ nI a = nI b) : a ≠ b := fun q => h ((nI_eq ha hb).mpr q)
theorem cv_z {a : Nat} (ha : a < 2 ^ 31) (h : nI a = 0) : a = 0 := (nI_eq ha (by omega)).mp (h.trans nI_0.symm)
theorem cv_nz {a : Nat} (ha : a < 2 ^ 31) (h : ¬ nI a = 0) : a ≠ 0 := fun q => h (by rw [q]; exact nI_0)
theorem nI_m1 {a : Nat} (ha : a < 2 ^ 31) : ¬ nI a = (-1) := by
  intro h
  have h1 := nI_toInt ha
  rw [h] at h1
  have h2 : (-1 : Int32).toInt = -1 := rfl
  omega
def bI (b : Bool) : Int32 := if b then 1 else 0
theorem cv_b0 {b : Bool} (h : bI b = 0) : b = false := by cases b with | false => rfl | true => exact absurd h (by decide)
theorem cv_b1 {b : Bool} (h : ¬ bI b = 0) : b = true := by cases b with | true => rfl | false => exact absurd rfl h
theorem bI_ok (b : Bool) : bI b = 0 ∨ bI b = 1 := by cases b <;> simp [bI]
theorem r_1 {b : Bool} (h : b = true) : some (Value.int (nI 1)) = some (Value.int (bI b)) := by rw [h]; rfl
theorem r_0 {b : Bool} (h : b = false) : some (Value.int (nI 0)) = some (Value.int (bI b)) := by rw [h]; rfl
theorem bI_t : bI true = 1 := rfl
theorem bI_f : bI false = 0 := rfl
/-- an index, or -1 -/
def oI (o : Option Nat) : Int32 := match o with
  | none => -1
  | some a => nI a
def oB (o : Option Nat) : Prop := ∀ a, o = some a → a < 2 ^ 31
theorem cv_on {o : Option Nat} (h : oI o = (-1)) (ho : oB o := by assumption) : o = none := by
  cases o with
  | none => rfl
  | some a => exact absurd h (nI_m1 (ho a rfl))
theorem cv_os {o : Option Nat} (h : ¬ oI o = (-1)) : ∃ a, o = some a := by
  cases o with
  | none => exact absurd rfl h
  | some a => exact ⟨a, rfl⟩
theorem oI_inj {o q : Option Nat} (ho : oB o) (hq : oB q) : oI o = oI q ↔ o = q := by
  refine ⟨fun h => ?_, fun h => by rw [h]⟩
  cases o with
  | none => cases q with
    | none => rfl
    | some b => exact absurd h.symm (nI_m1 (hq b rfl))
  | some a => cases q with
    | none => exact absurd h (nI_m1 (ho a rfl))
    | some b => rw [(nI_eq (ho a rfl) (hq b rfl)).mp h]
theorem cv_oo {o q : Option Nat} (ho : oB o) (hq : oB q) (h : oI o = oI q) : o = q := (oI_inj ho hq).mp h
theorem cv_oon {o q : Option Nat} (ho : oB o) (hq : oB q) (h : ¬ oI o = oI q) : o ≠ q := fun e => h (by rw [e])
theorem lcA (x y : Int64) : (lg_cmp x y = 0 ↔ x = y) ∧ (lg_cmp x y < 0 ↔ x < y) ∧ (0 < lg_cmp x y ↔ y < x) := by
  unfold lg_cmp
  simp only [gt_iff_lt, Int64.lt_iff_toInt_lt, ← Int64.toInt_inj]
  by_cases h : y.toInt < x.toInt
  · simp [h]; omega
  · simp only [h, if_false]
    by_cases h2 : x.toInt = y.toInt
    · simp [h2]
    · simp [h2]; omega
theorem lc_eq {x y : Int64} (h : lg_cmp x y = 0) : x = y := (lcA x y).1.mp h
theorem lc_eqn {x y : Int64} (h : lg_cmp x y = 0) : x = y := (lcA x y).1.mp h
theorem lc_ne {x y : Int64} (h : ¬ lg_cmp x y = 0) : x ≠ y := fun q => h ((lcA x y).1.mpr q)
theorem lc_nen {x y : Int64} (h : ¬ lg_cmp x y = 0) : x ≠ y := fun q => h ((lcA x y).1.mpr q)
theorem lc_lt {x y : Int64} (h : lg_cmp x y < 0) : x < y := (lcA x y).2.1.mp h
theorem lc_gt {x y : Int64} (h : 0 < lg_cmp x y) : y < x := (lcA x y).2.2.mp h
theorem i32_le0 {z : Int32} (h : z ≤ 0) : z = 0 ∨ z < 0 := by
  rw [Int32.le_iff_toInt_le] at h
  rcases Int.lt_or_eq_of_le h with q | q
  · exact Or.inr (Int32.lt_iff_toInt_lt.mpr q)
  · exact Or.inl (Int32.toInt_inj.mp q)
theorem i32_nlt {z w : Int32} (h : ¬ z < w) : w ≤ z := by
  rw [Int32.lt_iff_toInt_lt] at h; rw [Int32.le_iff_toInt_le]; omega
theorem i32_nle {z w : Int32} (h : ¬ z ≤ w) : w < z := by
  rw [Int32.le_iff_toInt_le] at h; rw [Int32.lt_iff_toInt_lt]; omega
theorem i64_nlt {z w : Int64} (h : ¬ z < w) : w ≤ z := by
  rw [Int64.lt_iff_toInt_lt] at h; rw [Int64.le_iff_toInt_le]; omega
theorem i64_nle {z w : Int64} (h : ¬ z ≤ w) : w < z := by
  rw [Int64.le_iff_toInt_le] at h; rw [Int64.lt_iff_toInt_lt]; omega
theorem i64_lt_ne {z w : Int64} (h : z < w) : ¬ w ≤ z := by
  rw [Int64.lt_iff_toInt_lt] at h; rw [Int64.le_iff_toInt_le]; omega
theorem lc_le {x y : Int64} (h : lg_cmp x y ≤ 0) : x ≤ y := i64_nlt (fun q => by
  have := (lcA x y).2.2.mpr q
  rw [Int32.lt_iff_toInt_lt] at this; rw [Int32.le_iff_toInt_le] at h; omega)
theorem lc_ge {x y : Int64} (h : 0 ≤ lg_cmp x y) : y ≤ x := i64_nlt (fun q => by
  have := (lcA x y).2.1.mpr q
  rw [Int32.lt_iff_toInt_lt] at this; rw [Int32.le_iff_toInt_le] at h; omega)
theorem lc_ltn {x y : Int64} (h : ¬ 0 ≤ lg_cmp x y) : x < y := lc_lt (i32_nle h)
theorem lc_gtn {x y : Int64} (h : ¬ lg_cmp x y ≤ 0) : y < x := lc_gt (i32_nle h)
theorem lc_gen {x y : Int64} (h : ¬ lg_cmp x y < 0) : y ≤ x := lc_ge (i32_nlt h)
theorem lc_len {x y : Int64} (h : ¬ 0 < lg_cmp x y) : x ≤ y := lc_le (i32_nlt h)
theorem cvl_eq {a b : Nat} (ha : a < 2 ^ 63) (hb : b < 2 ^ 63) (h : lN a = lN b) : a = b := (pk_lEQ ha hb).mp h
theorem cvl_ne {a b : Nat} (ha : a < 2 ^ 63) (hb : b < 2 ^ 63) (h : lN a ≠ lN b) : a ≠ b := fun q => h ((pk_lEQ ha hb).mpr q)
/-! letters, words -/
def isL (x : Nat) : Bool := decide (97 ≤ x) && decide (x ≤ 122)
def isD (x : Nat) : Bool := decide (48 ≤ x) && decide (x ≤ 57)
def weF (b : Nat → Nat) (n : Nat) : Nat → Nat → Nat
  | 0, p => p
  | f + 1, p => if p < n ∧ isL (b p) = true then weF b n f (p + 1) else p
/-- the place behind the letters -/
def we (b : Nat → Nat) (n p : Nat) : Nat := weF b n (n - p) p
theorem we_out {b : Nat → Nat} {n p : Nat} (h : n ≤ p) : we b n p = p := by
  unfold we; rw [show n - p = 0 by omega]; rfl
theorem we_stop {b : Nat → Nat} {n p : Nat} (h : isL (b p) = false) : we b n p = p := by
  unfold we
  cases hk : n - p with
  | zero => rfl
  | succ f => simp [weF, h]
theorem we_go {b : Nat → Nat} {n p : Nat} (h1 : p < n) (h : isL (b p) = true) : we b n p = we b n (p + 1) := by
  unfold we
  rw [show n - p = (n - (p + 1)) + 1 by omega]
  simp [weF, h1, h]
theorem we_le (b : Nat → Nat) (n : Nat) : ∀ (k p : Nat), n - p = k → p ≤ we b n p ∧ (p ≤ n → we b n p ≤ n) := by
  intro k
  induction k with
  | zero => intro p h; rw [we_out (by omega)]; omega
  | succ k ih =>
    intro p h
    cases hb : isL (b p) with
    | false => rw [we_stop hb]; omega
    | true => rw [we_go (by omega) hb]; have := ih (p + 1) (by omega); omega
theorem we_ge (b : Nat → Nat) (n p : Nat) : p ≤ we b n p := (we_le b n _ p rfl).1
theorem we_n {b : Nat → Nat} {n p : Nat} (h : p ≤ n) : we b n p ≤ n := (we_le b n _ p rfl).2 h
theorem we_pos {b : Nat → Nat} {n p : Nat} (h1 : p < n) (h : isL (b p) = true) : p < we b n p := by rw [we_go h1 h]; have := we_ge b n (p + 1); omega
theorem we_zero {b : Nat → Nat} {n p : Nat} (h : we b n p = p) : p < n → isL (b p) = false := by
  intro h1
  cases hb : isL (b p) with
  | false => rfl
  | true => have := we_pos (n := n) h1 hb; omega
/-- the word's number: k letters from p on, behind v -/
def wcF (b : Nat → Nat) : Nat → Nat → Nat → Nat
  | 0, _, v => v
  | k + 1, p, v => wcF b k (p + 1) (27 * v + (b p - 96))
def wc (b : Nat → Nat) (p e : Nat) : Nat := wcF b (e - p) p 0
theorem wcF_succ (b : Nat → Nat) : ∀ (k p v : Nat), wcF b (k + 1) p v = 27 * wcF b k p v + (b (p + k) - 96) := by
  intro k
  induction k with
  | zero => intro p v; rfl
  | succ k ih => intro p v; show wcF b (k + 1) (p + 1) _ = _; rw [ih]; rw [show p + 1 + k = p + (k + 1) by omega]; rfl
theorem wcF_lt {b : Nat → Nat} (hb : ∀ j, isL (b j) = true → b j ≤ 122) : True := trivial
theorem wc_step {b : Nat → Nat} {p e : Nat} (h : p ≤ e) : wc b p (e + 1) = 27 * wc b p e + (b e - 96) := by
  unfold wc
  rw [show e + 1 - p = (e - p) + 1 by omega, wcF_succ, show p + (e - p) = e by omega]
theorem wc_self (b : Nat → Nat) (p : Nat) : wc b p p = 0 := by unfold wc; rw [Nat.sub_self]; rfl
theorem isL_le {x : Nat} (h : isL x = true) : 97 ≤ x ∧ x ≤ 122 := by simpa [isL] using h
/-- below 27 to the k -/
theorem wc_lt {b : Nat → Nat} {p : Nat} : ∀ (k : Nat), (∀ j, p ≤ j → j < p + k → isL (b j) = true) → wc b p (p + k) < 27 ^ k := by
  intro k
  induction k with
  | zero => intro _; rw [Nat.add_zero, wc_self]; exact Nat.one_pos
  | succ k ih =>
    intro h
    have h1 := ih (fun j a c => h j a (by omega))
    have h2 := isL_le (h (p + k) (by omega) (by omega))
    rw [show p + (k + 1) = (p + k) + 1 by omega, wc_step (by omega), Nat.pow_succ]
    omega
theorem we_letters {b : Nat → Nat} {n : Nat} : ∀ (k p : Nat), n - p = k → ∀ j, p ≤ j → j < we b n p → isL (b j) = true := by
  intro k
  induction k with
  | zero => intro p h j h1 h2; rw [we_out (by omega)] at h2; omega
  | succ k ih =>
    intro p h j h1 h2
    cases hb : isL (b p) with
    | false => rw [we_stop hb] at h2; omega
    | true =>
      rw [we_go (by omega) hb] at h2
      rcases Nat.eq_or_lt_of_le h1 with q | q
      · rw [← q]; exact hb
      · exact ih (p + 1) (by omega) j q h2
theorem we_end {b : Nat → Nat} {n : Nat} : ∀ (k p : Nat), n - p = k → we b n p < n → isL (b (we b n p)) = false := by
  intro k
  induction k with
  | zero => intro p h h1; rw [we_out (by omega)] at h1; omega
  | succ k ih =>
    intro p h h1
    cases hb : isL (b p) with
    | false => rw [we_stop hb]; exact hb
    | true => rw [we_go (by omega) hb] at h1 ⊢; exact ih (p + 1) (by omega) h1

set_option maxHeartbeats 4000000 in
theorem c_X8_isLetter (d : Nat) (T : TH) {x : Nat} (hx : x < 2 ^ 31) : Xe m_X8_isLetter d 0 [(0, .int (nI x))] [] T (fun r T1 => r = some (.int (bI (isL x))) ∧ T1 = T) := by
  refine xe (fun _ _ kK => x_iload_n dX8_isLetter_0 rfl 0 rfl kK) ?_
  refine xe (fun _ _ kK => x_bipush dX8_isLetter_1 (show _ = nI 97 by decide) kK) ?_
  refine xe_icmp_lt (tgt := 16) dX8_isLetter_3 (by decide) (fun h3 => ?_) (fun h3 => ?_)
  · -- pc 16
    have h3 := cv_lt (by omega) (by omega) h3
    refine xe (fun _ _ kK => x_iconst dX8_isLetter_16 (show _ = nI 0 by decide) kK) ?_
    exact xe_retz dX8_isLetter_17 rfl (by first | exact Or.inl rfl | exact Or.inr rfl) (⟨r_0 (by simp [isL]; omega), rfl⟩)
  · -- pc 6
    have h3 := cv_nlt (by omega) (by omega) h3
    refine xe (fun _ _ kK => x_iload_n dX8_isLetter_6 rfl 0 rfl kK) ?_
    refine xe (fun _ _ kK => x_bipush dX8_isLetter_7 (show _ = nI 122 by decide) kK) ?_
    refine xe_icmp_gt (tgt := 16) dX8_isLetter_9 (by decide) (fun h9 => ?_) (fun h9 => ?_)
    · -- pc 16
      have h9 := cv_lt (by omega) (by omega) h9
      refine xe (fun _ _ kK => x_iconst dX8_isLetter_16 (show _ = nI 0 by decide) kK) ?_
      exact xe_retz dX8_isLetter_17 rfl (by first | exact Or.inl rfl | exact Or.inr rfl) (⟨r_0 (by simp [isL]; omega), rfl⟩)
    · -- pc 12
      have h9 := cv_nlt (by omega) (by omega) h9
      refine xe (fun _ _ kK => x_iconst dX8_isLetter_12 (show _ = nI 1 by decide) kK) ?_
      refine xe (fun _ _ kK => x_goto (tgt := 17) dX8_isLetter_13 (by decide) kK) ?_
      exact xe_retz dX8_isLetter_17 rfl (by first | exact Or.inl rfl | exact Or.inr rfl) (⟨r_1 (by simp [isL]; omega), rfl⟩)

set_option maxHeartbeats 4000000 in
theorem c_X8_isLetter_m (d : Nat) (T : TH) : Xe m_X8_isLetter d 0 [(0, .int (-1))] [] T (fun r T1 => r = some (.int (nI 0)) ∧ T1 = T) := by
  refine xe (fun _ _ kK => x_iload_n dX8_isLetter_0 rfl 0 rfl kK) ?_
  refine xe (fun _ _ kK => x_bipush dX8_isLetter_1 (show _ = nI 97 by decide) kK) ?_
  refine xe (fun _ _ kK => x_icmp_ltT (tgt := 16) dX8_isLetter_3 (by decide) (by decide) kK) ?_
  refine xe (fun _ _ kK => x_iconst dX8_isLetter_16 (show _ = nI 0 by decide) kK) ?_
  exact xe_retz dX8_isLetter_17 rfl (by first | exact Or.inl rfl | exact Or.inr rfl) (⟨rfl, rfl⟩)

set_option maxHeartbeats 4000000 in
theorem c_X7_isLetter (d : Nat) (T : TH) {x : Nat} (hx : x < 2 ^ 31) : Xe m_X7_isLetter d 0 [(0, .int (nI x))] [] T (fun r T1 => r = some (.int (bI (isL x))) ∧ T1 = T) := by
  refine xe (fun _ _ kK => x_iload_n dX7_isLetter_0 rfl 0 rfl kK) ?_
  refine xe (fun _ _ kK => x_bipush dX7_isLetter_1 (show _ = nI 97 by decide) kK) ?_
  refine xe_icmp_lt (tgt := 16) dX7_isLetter_3 (by decide) (fun h3 => ?_) (fun h3 => ?_)
  · -- pc 16
    have h3 := cv_lt (by omega) (by omega) h3
    refine xe (fun _ _ kK => x_iconst dX7_isLetter_16 (show _ = nI 0 by decide) kK) ?_
    exact xe_retz dX7_isLetter_17 rfl (by first | exact Or.inl rfl | exact Or.inr rfl) (⟨r_0 (by simp [isL]; omega), rfl⟩)
  · -- pc 6
    have h3 := cv_nlt (by omega) (by omega) h3
    refine xe (fun _ _ kK => x_iload_n dX7_isLetter_6 rfl 0 rfl kK) ?_
    refine xe (fun _ _ kK => x_bipush dX7_isLetter_7 (show _ = nI 122 by decide) kK) ?_
    refine xe_icmp_gt (tgt := 16) dX7_isLetter_9 (by decide) (fun h9 => ?_) (fun h9 => ?_)
    · -- pc 16
      have h9 := cv_lt (by omega) (by omega) h9
      refine xe (fun _ _ kK => x_iconst dX7_isLetter_16 (show _ = nI 0 by decide) kK) ?_
      exact xe_retz dX7_isLetter_17 rfl (by first | exact Or.inl rfl | exact Or.inr rfl) (⟨r_0 (by simp [isL]; omega), rfl⟩)
    · -- pc 12
      have h9 := cv_nlt (by omega) (by omega) h9
      refine xe (fun _ _ kK => x_iconst dX7_isLetter_12 (show _ = nI 1 by decide) kK) ?_
      refine xe (fun _ _ kK => x_goto (tgt := 17) dX7_isLetter_13 (by decide) kK) ?_
      exact xe_retz dX7_isLetter_17 rfl (by first | exact Or.inl rfl | exact Or.inr rfl) (⟨r_1 (by simp [isL]; omega), rfl⟩)

set_option maxHeartbeats 4000000 in
theorem c_X7_isLetter_m (d : Nat) (T : TH) : Xe m_X7_isLetter d 0 [(0, .int (-1))] [] T (fun r T1 => r = some (.int (nI 0)) ∧ T1 = T) := by
  refine xe (fun _ _ kK => x_iload_n dX7_isLetter_0 rfl 0 rfl kK) ?_
  refine xe (fun _ _ kK => x_bipush dX7_isLetter_1 (show _ = nI 97 by decide) kK) ?_
  refine xe (fun _ _ kK => x_icmp_ltT (tgt := 16) dX7_isLetter_3 (by decide) (by decide) kK) ?_
  refine xe (fun _ _ kK => x_iconst dX7_isLetter_16 (show _ = nI 0 by decide) kK) ?_
  exact xe_retz dX7_isLetter_17 rfl (by first | exact Or.inl rfl | exact Or.inr rfl) (⟨rfl, rfl⟩)

set_option maxHeartbeats 4000000 in
theorem c_X8_isDigit (d : Nat) (T : TH) {x : Nat} (hx : x < 2 ^ 31) : Xe m_X8_isDigit d 0 [(0, .int (nI x))] [] T (fun r T1 => r = some (.int (bI (isD x))) ∧ T1 = T) := by
  refine xe (fun _ _ kK => x_iload_n dX8_isDigit_0 rfl 0 rfl kK) ?_
  refine xe (fun _ _ kK => x_bipush dX8_isDigit_1 (show _ = nI 48 by decide) kK) ?_
  refine xe_icmp_lt (tgt := 16) dX8_isDigit_3 (by decide) (fun h3 => ?_) (fun h3 => ?_)
  · -- pc 16
    have h3 := cv_lt (by omega) (by omega) h3
    refine xe (fun _ _ kK => x_iconst dX8_isDigit_16 (show _ = nI 0 by decide) kK) ?_
    exact xe_retz dX8_isDigit_17 rfl (by first | exact Or.inl rfl | exact Or.inr rfl) (⟨r_0 (by simp [isD]; omega), rfl⟩)
  · -- pc 6
    have h3 := cv_nlt (by omega) (by omega) h3
    refine xe (fun _ _ kK => x_iload_n dX8_isDigit_6 rfl 0 rfl kK) ?_
    refine xe (fun _ _ kK => x_bipush dX8_isDigit_7 (show _ = nI 57 by decide) kK) ?_
    refine xe_icmp_gt (tgt := 16) dX8_isDigit_9 (by decide) (fun h9 => ?_) (fun h9 => ?_)
    · -- pc 16
      have h9 := cv_lt (by omega) (by omega) h9
      refine xe (fun _ _ kK => x_iconst dX8_isDigit_16 (show _ = nI 0 by decide) kK) ?_
      exact xe_retz dX8_isDigit_17 rfl (by first | exact Or.inl rfl | exact Or.inr rfl) (⟨r_0 (by simp [isD]; omega), rfl⟩)
    · -- pc 12
      have h9 := cv_nlt (by omega) (by omega) h9
      refine xe (fun _ _ kK => x_iconst dX8_isDigit_12 (show _ = nI 1 by decide) kK) ?_
      refine xe (fun _ _ kK => x_goto (tgt := 17) dX8_isDigit_13 (by decide) kK) ?_
      exact xe_retz dX8_isDigit_17 rfl (by first | exact Or.inl rfl | exact Or.inr rfl) (⟨r_1 (by simp [isD]; omega), rfl⟩)

set_option maxHeartbeats 4000000 in
theorem c_X8_isDigit_m (d : Nat) (T : TH) : Xe m_X8_isDigit d 0 [(0, .int (-1))] [] T (fun r T1 => r = some (.int (nI 0)) ∧ T1 = T) := by
  refine xe (fun _ _ kK => x_iload_n dX8_isDigit_0 rfl 0 rfl kK) ?_
  refine xe (fun _ _ kK => x_bipush dX8_isDigit_1 (show _ = nI 48 by decide) kK) ?_
  refine xe (fun _ _ kK => x_icmp_ltT (tgt := 16) dX8_isDigit_3 (by decide) (by decide) kK) ?_
  refine xe (fun _ _ kK => x_iconst dX8_isDigit_16 (show _ = nI 0 by decide) kK) ?_
  exact xe_retz dX8_isDigit_17 rfl (by first | exact Or.inl rfl | exact Or.inr rfl) (⟨rfl, rfl⟩)

set_option maxHeartbeats 4000000 in
theorem c_X7_isDigit (d : Nat) (T : TH) {x : Nat} (hx : x < 2 ^ 31) : Xe m_X7_isDigit d 0 [(0, .int (nI x))] [] T (fun r T1 => r = some (.int (bI (isD x))) ∧ T1 = T) := by
  refine xe (fun _ _ kK => x_iload_n dX7_isDigit_0 rfl 0 rfl kK) ?_
  refine xe (fun _ _ kK => x_bipush dX7_isDigit_1 (show _ = nI 48 by decide) kK) ?_
  refine xe_icmp_lt (tgt := 16) dX7_isDigit_3 (by decide) (fun h3 => ?_) (fun h3 => ?_)
  · -- pc 16
    have h3 := cv_lt (by omega) (by omega) h3
    refine xe (fun _ _ kK => x_iconst dX7_isDigit_16 (show _ = nI 0 by decide) kK) ?_
    exact xe_retz dX7_isDigit_17 rfl (by first | exact Or.inl rfl | exact Or.inr rfl) (⟨r_0 (by simp [isD]; omega), rfl⟩)
  · -- pc 6
    have h3 := cv_nlt (by omega) (by omega) h3
    refine xe (fun _ _ kK => x_iload_n dX7_isDigit_6 rfl 0 rfl kK) ?_
    refine xe (fun _ _ kK => x_bipush dX7_isDigit_7 (show _ = nI 57 by decide) kK) ?_
    refine xe_icmp_gt (tgt := 16) dX7_isDigit_9 (by decide) (fun h9 => ?_) (fun h9 => ?_)
    · -- pc 16
      have h9 := cv_lt (by omega) (by omega) h9
      refine xe (fun _ _ kK => x_iconst dX7_isDigit_16 (show _ = nI 0 by decide) kK) ?_
      exact xe_retz dX7_isDigit_17 rfl (by first | exact Or.inl rfl | exact Or.inr rfl) (⟨r_0 (by simp [isD]; omega), rfl⟩)
    · -- pc 12
      have h9 := cv_nlt (by omega) (by omega) h9
      refine xe (fun _ _ kK => x_iconst dX7_isDigit_12 (show _ = nI 1 by decide) kK) ?_
      refine xe (fun _ _ kK => x_goto (tgt := 17) dX7_isDigit_13 (by decide) kK) ?_
      exact xe_retz dX7_isDigit_17 rfl (by first | exact Or.inl rfl | exact Or.inr rfl) (⟨r_1 (by simp [isD]; omega), rfl⟩)

set_option maxHeartbeats 4000000 in
theorem c_X7_isDigit_m (d : Nat) (T : TH) : Xe m_X7_isDigit d 0 [(0, .int (-1))] [] T (fun r T1 => r = some (.int (nI 0)) ∧ T1 = T) := by
  refine xe (fun _ _ kK => x_iload_n dX7_isDigit_0 rfl 0 rfl kK) ?_
  refine xe (fun _ _ kK => x_bipush dX7_isDigit_1 (show _ = nI 48 by decide) kK) ?_
  refine xe (fun _ _ kK => x_icmp_ltT (tgt := 16) dX7_isDigit_3 (by decide) (by decide) kK) ?_
  refine xe (fun _ _ kK => x_iconst dX7_isDigit_16 (show _ = nI 0 by decide) kK) ?_
  exact xe_retz dX7_isDigit_17 rfl (by first | exact Or.inl rfl | exact Or.inr rfl) (⟨rfl, rfl⟩)

set_option maxHeartbeats 4000000 in
theorem c_X8_fail (d : Nat) {T : TH} (hM : MI T) (hb : e_i T 516 88 = nI 0) (k q : Int32) : Xe m_X8_fail d 0 [(0, .ref 88), (1, .int k), (2, .int q)] [] T (fun r T1 => r = none ∧ T1 = s_i (s_i T 516 88 k) 517 88 q) := by
  refine xe (fun _ _ kK => x_aload_n dX8_fail_0 rfl 0 rfl kK) ?_
  refine xe (fun _ _ kK => x_get dX8_fail_1 fl_X8_132 hM.1 (gvl_i fz_8_4.2.2 (show e_i T 516 88 = nI 0 from hb)) kK) ?_
  refine xe_if_eq (tgt := 8) dX8_fail_4 (by decide) (fun h4 => ?_) (fun h4 => ?_)
  · -- pc 8
    have h4 := cv_z (by omega) h4
    refine xe (fun _ _ kK => x_aload_n dX8_fail_8 rfl 0 rfl kK) ?_
    refine xe (fun _ _ kK => x_iload_n dX8_fail_9 rfl 1 rfl kK) ?_
    refine xe (fun _ _ kK => x_puti dX8_fail_10 ⟨fl_X8_132, fz_8_4.1, fz_8_4.2.1⟩ (Or.inl fz_8_4.2.2) rfl rfl hM.1 kK) ?_
    refine xe (fun _ _ kK => x_aload_n dX8_fail_13 rfl 0 rfl kK) ?_
    refine xe (fun _ _ kK => x_iload_n dX8_fail_14 rfl 2 rfl kK) ?_
    refine xe (fun _ _ kK => x_puti dX8_fail_15 ⟨fl_X8_135, fz_8_5.1, fz_8_5.2.1⟩ (Or.inl fz_8_5.2.2) rfl rfl (wK_i hM.1) kK) ?_
    exact xe_retv dX8_fail_18 rfl (⟨rfl, rfl⟩)
  · -- pc 7
    have h4 := cv_nz (by omega) h4
    exact absurd rfl h4
