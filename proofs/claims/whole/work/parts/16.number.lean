def deF (b : Nat → Nat) (n : Nat) : Nat → Nat → Nat
  | 0, p => p
  | f + 1, p => if p < n ∧ isD (b p) = true then deF b n f (p + 1) else p
/-- the place behind the digits -/
def de (b : Nat → Nat) (n p : Nat) : Nat := deF b n (n - p) p
theorem de_out {b : Nat → Nat} {n p : Nat} (h : n ≤ p) : de b n p = p := by
  unfold de; rw [show n - p = 0 by omega]; rfl
theorem de_stop {b : Nat → Nat} {n p : Nat} (h : isD (b p) = false) : de b n p = p := by
  unfold de
  cases hk : n - p with
  | zero => rfl
  | succ f => simp [deF, h]
theorem de_go {b : Nat → Nat} {n p : Nat} (h1 : p < n) (h : isD (b p) = true) : de b n p = de b n (p + 1) := by
  unfold de
  rw [show n - p = (n - (p + 1)) + 1 by omega]
  simp [deF, h1, h]
theorem de_le (b : Nat → Nat) (n : Nat) : ∀ (k p : Nat), n - p = k → p ≤ de b n p ∧ (p ≤ n → de b n p ≤ n) := by
  intro k
  induction k with
  | zero => intro p h; rw [de_out (by omega)]; omega
  | succ k ih =>
    intro p h
    cases hb : isD (b p) with
    | false => rw [de_stop hb]; omega
    | true => rw [de_go (by omega) hb]; have := ih (p + 1) (by omega); omega
theorem de_ge (b : Nat → Nat) (n p : Nat) : p ≤ de b n p := (de_le b n _ p rfl).1
theorem de_n {b : Nat → Nat} {n p : Nat} (h : p ≤ n) : de b n p ≤ n := (de_le b n _ p rfl).2 h
theorem de_pos {b : Nat → Nat} {n p : Nat} (h1 : p < n) (h : isD (b p) = true) : p < de b n p := by rw [de_go h1 h]; have := de_ge b n (p + 1); omega
theorem de_zero {b : Nat → Nat} {n p : Nat} (h : de b n p = p) : p < n → isD (b p) = false := by
  intro h1
  cases hb : isD (b p) with
  | false => rfl
  | true => have := de_pos (n := n) h1 hb; omega
theorem de_letters {b : Nat → Nat} {n : Nat} : ∀ (k p : Nat), n - p = k → ∀ j, p ≤ j → j < de b n p → isD (b j) = true := by
  intro k
  induction k with
  | zero => intro p h j h1 h2; rw [de_out (by omega)] at h2; omega
  | succ k ih =>
    intro p h j h1 h2
    cases hb : isD (b p) with
    | false => rw [de_stop hb] at h2; omega
    | true =>
      rw [de_go (by omega) hb] at h2
      rcases Nat.eq_or_lt_of_le h1 with q | q
      · rw [← q]; exact hb
      · exact ih (p + 1) (by omega) j q h2
theorem de_end {b : Nat → Nat} {n : Nat} : ∀ (k p : Nat), n - p = k → de b n p < n → isD (b (de b n p)) = false := by
  intro k
  induction k with
  | zero => intro p h h1; rw [de_out (by omega)] at h1; omega
  | succ k ih =>
    intro p h h1
    cases hb : isD (b p) with
    | false => rw [de_stop hb]; exact hb
    | true => rw [de_go (by omega) hb] at h1 ⊢; exact ih (p + 1) (by omega) h1
theorem de_mid {b : Nat → Nat} {n : Nat} : ∀ (k q : Nat), q + k ≤ de b n q → de b n (q + k) = de b n q := by
  intro k
  induction k with
  | zero => intro q _; rfl
  | succ k ih =>
    intro q h
    have h1 : isD (b q) = true := de_letters (n := n) _ q rfl q (Nat.le_refl _) (by omega)
    have h2 : q < n := by
      rcases Nat.lt_or_ge q n with z | z
      · exact z
      · rw [de_out z] at h; omega
    rw [de_go h2 h1] at h ⊢
    rw [show q + (k + 1) = q + 1 + k by omega]
    exact ih (q + 1) (by omega)

theorem isD_le {x : Nat} (h : isD x = true) : 48 ≤ x ∧ x ≤ 57 := by simpa [isD] using h
def dvF (b : Nat → Nat) : Nat → Nat → Nat → Nat
  | 0, _, v => v
  | k + 1, p, v => dvF b k (p + 1) (10 * v + (b p - 48))
def dv (b : Nat → Nat) (p e : Nat) : Nat := dvF b (e - p) p 0
theorem dvF_succ (b : Nat → Nat) : ∀ (k p v : Nat), dvF b (k + 1) p v = 10 * dvF b k p v + (b (p + k) - 48) := by
  intro k
  induction k with
  | zero => intro p v; rfl
  | succ k ih => intro p v; show dvF b (k + 1) (p + 1) _ = _; rw [ih]; rw [show p + 1 + k = p + (k + 1) by omega]; rfl
theorem dv_step {b : Nat → Nat} {p e : Nat} (h : p ≤ e) : dv b p (e + 1) = 10 * dv b p e + (b e - 48) := by
  unfold dv
  rw [show e + 1 - p = (e - p) + 1 by omega, dvF_succ, show p + (e - p) = e by omega]
theorem dv_self (b : Nat → Nat) (p : Nat) : dv b p p = 0 := by unfold dv; rw [Nat.sub_self]; rfl
/-- where a number's digits begin, and its value -/
def nst (b : Nat → Nat) (q : Nat) : Nat := if b q = 45 then q + 1 else q
def nvl (b : Nat → Nat) (q e : Nat) : Int64 := if b q = 45 then -(lN (dv b (nst b q) e)) else lN (dv b (nst b q) e)

set_option maxHeartbeats 4000000 in
theorem l_X8_number1 (d : Nat) {T : TH} {n p : Nat} {b : Nat → Nat} (h : LX T n b p) {f : Nat} (hq1 : f ≤ n) : ∀ (m k : Nat), n - (f + k) = m → k ≤ 6 → f + k ≤ de b n f → Xe m_X8_number (d + 1) 41 [(3, .long (lN (dv b f (f + k)))), (2, .int (nI f)), (1, .int (nI 1)), (0, .ref 88)] [] (mv T (f + k)) (fun r T1 => ∃ v, r = some (.long v) ∧ ((de b n f = f ∧ T1 = flk (mv T f) 1 f) ∨ (f + 6 < de b n f ∧ T1 = flk (mv T (f + 6)) 1 (f + 6)) ∨ (f < de b n f ∧ de b n f ≤ f + 6 ∧ v = -(lN (dv b f (de b n f))) ∧ T1 = mv T (de b n f)))) := by
  intro m
  induction m using Nat.strongRecOn with
  | ind m ih =>
    intro k hk hk6 hkw
    subst hk
    have hm := de_mid (b := b) (n := n) k f hkw
    have hn4 := h.2.2.2.2.2.1
    have hwn := de_n (b := b) hq1
    have hB := h.2.1
    refine xe (fun _ _ kK => x_aload_n dX8_number_41 rfl 3 rfl kK) ?_
    refine xe (fun _ _ kK => x_get dX8_number_42 fl_X8_138 (wK_i h.1.1) (gvl_i fz_8_2.2.2 (show e_i (mv T (f + k)) 514 88 = nI (f + k) from rfl)) kK) ?_
    refine xe (fun _ _ kK => x_aload_n dX8_number_45 rfl 3 rfl kK) ?_
    refine xe (fun _ _ kK => x_get dX8_number_46 fl_X8_141 (wK_i h.1.1) (gvl_i fz_8_3.2.2 (show e_i (mv T (f + k)) 515 88 = nI n from (wi_i (fun q => absurd q.1 (by decide)) h.2.2.2.1))) kK) ?_
    refine xe_icmp_ge (tgt := 123) dX8_number_49 (by decide) (fun h49 => ?_) (fun h49 => ?_)
    · -- pc 123
      have h49 := cv_le (by omega) (by omega) h49
      have he : de b n f = f + k := by rw [← hm]; exact de_out h49
      refine xe (fun _ _ kK => x_aload_n dX8_number_123 rfl 3 rfl kK) ?_
      refine xe (fun _ _ kK => x_get dX8_number_124 fl_X8_138 (wK_i h.1.1) (gvl_i fz_8_2.2.2 (show e_i (mv T (f + k)) 514 88 = nI (f + k) from rfl)) kK) ?_
      refine xe (fun _ _ kK => x_iload_n dX8_number_127 rfl 1 rfl kK) ?_
      refine xe_icmp_ne (tgt := 140) dX8_number_128 (by decide) (fun h128 => ?_) (fun h128 => ?_)
      · -- pc 140
        have h128 := cv_ne (by omega) (by omega) h128
        refine xe (fun _ _ kK => x_iload_n dX8_number_140 rfl 2 rfl kK) ?_
        refine xe (fun _ _ kK => x_if_eqF (tgt := 149) dX8_number_141 (by decide) (by decide) kK) ?_
        refine xe (fun _ _ kK => x_lload_n dX8_number_144 rfl 0 rfl kK) ?_
        refine xe (fun _ _ kK => x_lneg dX8_number_145 kK) ?_
        refine xe (fun _ _ kK => x_goto (tgt := 150) dX8_number_146 (by decide) kK) ?_
        exact xe_retl dX8_number_150 rfl (⟨_, rfl, Or.inr (Or.inr ⟨by omega, by omega, by rw [he], by rw [he]⟩)⟩)
      · -- pc 131
        have h128 := cv_eq (by omega) (by omega) h128
        refine xe (fun _ _ kK => x_aload_n dX8_number_131 rfl 3 rfl kK) ?_
        refine xe (fun _ _ kK => x_iconst dX8_number_132 (show _ = nI 1 by decide) kK) ?_
        refine xe (fun _ _ kK => x_aload_n dX8_number_133 rfl 3 rfl kK) ?_
        refine xe (fun _ _ kK => x_get dX8_number_134 fl_X8_138 (wK_i h.1.1) (gvl_i fz_8_2.2.2 (show e_i (mv T (f + k)) 514 88 = nI (f + k) from rfl)) kK) ?_
        refine xe_callV (a := 88) [.int (nI 1), .int (nI (f + k))] dX8_number_137 ml_X8_148 mf_X8_fail (wK_i h.1.1) (c_X8_fail d (T := (mv T (f + k))) ((show FrM fsL asL T (mv T (f + k)) from (FrM.si FrM.rf (by decide) _)).mi h.1) (wi_i (fun q => absurd q.1 (by decide)) h.2.2.2.2.2.2) (nI 1) (nI (f + k))) rfl rfl (Nat.le_of_ble_eq_true rfl) (Nat.le_of_ble_eq_true rfl) ?_
        rintro _ _ ⟨rfl, rfl⟩
        refine xe (fun _ _ kK => x_iload_n dX8_number_140 rfl 2 rfl kK) ?_
        refine xe (fun _ _ kK => x_if_eqF (tgt := 149) dX8_number_141 (by decide) (by decide) kK) ?_
        refine xe (fun _ _ kK => x_lload_n dX8_number_144 rfl 0 rfl kK) ?_
        refine xe (fun _ _ kK => x_lneg dX8_number_145 kK) ?_
        refine xe (fun _ _ kK => x_goto (tgt := 150) dX8_number_146 (by decide) kK) ?_
        exact xe_retl dX8_number_150 rfl (⟨_, rfl, Or.inl ⟨by omega, by rw [show f + k = f by omega]⟩⟩)
    · -- pc 52
      have h49 := cv_nle (by omega) (by omega) h49
      refine xe (fun _ _ kK => x_aload_n dX8_number_52 rfl 3 rfl kK) ?_
      refine xe (fun _ _ kK => x_get dX8_number_53 fl_X8_7 (wK_i h.1.1) (gvl_r1 fz_8_0.2.2 (show e_r (mv T (f + k)) 512 88 = some 89 from (wr_i (h.1.2.1 0)))) kK) ?_
      refine xe (fun _ _ kK => x_aload_n dX8_number_56 rfl 3 rfl kK) ?_
      refine xe (fun _ _ kK => x_get dX8_number_57 fl_X8_138 (wK_i h.1.1) (gvl_i fz_8_2.2.2 (show e_i (mv T (f + k)) 514 88 = nI (f + k) from rfl)) kK) ?_
      refine xe (fun _ _ kK => x_iald dX8_number_60 (wK_i (h.1.2.2.1 0 (by decide))) (show (nI (f + k)) = nI (f + k) from rfl) (wN_i (mi_len h.1 0 (by decide) (show f + k < 400 by omega))) (show e_ai (mv T (f + k)) 89 (f + k) = nI (b (f + k)) from (wai_i (hB (f + k) h49).1)) kK) ?_
      have hbk := (hB (f + k) h49).2
      refine xe_callS [.int (nI (b (f + k)))] dX8_number_61 ml_X8_224 mf_X8_isDigit (c_X8_isDigit d (mv T (f + k)) (x := b (f + k)) (by omega)) rfl rfl (Nat.le_of_ble_eq_true rfl) (Nat.le_of_ble_eq_true rfl) ?_
      rintro _ T9 ⟨rfl, h9⟩
      refine xe_T h9 ?_
      refine xe_if_eq (tgt := 123) dX8_number_64 (by decide) (fun h64 => ?_) (fun h64 => ?_)
      · -- pc 123
        have h64 := cv_b0 h64
        have he : de b n f = f + k := by rw [← hm]; exact de_stop h64
        refine xe (fun _ _ kK => x_aload_n dX8_number_123 rfl 3 rfl kK) ?_
        refine xe (fun _ _ kK => x_get dX8_number_124 fl_X8_138 (wK_i h.1.1) (gvl_i fz_8_2.2.2 (show e_i (mv T (f + k)) 514 88 = nI (f + k) from rfl)) kK) ?_
        refine xe (fun _ _ kK => x_iload_n dX8_number_127 rfl 1 rfl kK) ?_
        refine xe_icmp_ne (tgt := 140) dX8_number_128 (by decide) (fun h128 => ?_) (fun h128 => ?_)
        · -- pc 140
          have h128 := cv_ne (by omega) (by omega) h128
          refine xe (fun _ _ kK => x_iload_n dX8_number_140 rfl 2 rfl kK) ?_
          refine xe (fun _ _ kK => x_if_eqF (tgt := 149) dX8_number_141 (by decide) (by decide) kK) ?_
          refine xe (fun _ _ kK => x_lload_n dX8_number_144 rfl 0 rfl kK) ?_
          refine xe (fun _ _ kK => x_lneg dX8_number_145 kK) ?_
          refine xe (fun _ _ kK => x_goto (tgt := 150) dX8_number_146 (by decide) kK) ?_
          exact xe_retl dX8_number_150 rfl (⟨_, rfl, Or.inr (Or.inr ⟨by omega, by omega, by rw [he], by rw [he]⟩)⟩)
        · -- pc 131
          have h128 := cv_eq (by omega) (by omega) h128
          refine xe (fun _ _ kK => x_aload_n dX8_number_131 rfl 3 rfl kK) ?_
          refine xe (fun _ _ kK => x_iconst dX8_number_132 (show _ = nI 1 by decide) kK) ?_
          refine xe (fun _ _ kK => x_aload_n dX8_number_133 rfl 3 rfl kK) ?_
          refine xe (fun _ _ kK => x_get dX8_number_134 fl_X8_138 (wK_i h.1.1) (gvl_i fz_8_2.2.2 (show e_i (mv T (f + k)) 514 88 = nI (f + k) from rfl)) kK) ?_
          refine xe_callV (a := 88) [.int (nI 1), .int (nI (f + k))] dX8_number_137 ml_X8_148 mf_X8_fail (wK_i h.1.1) (c_X8_fail d (T := (mv T (f + k))) ((show FrM fsL asL T (mv T (f + k)) from (FrM.si FrM.rf (by decide) _)).mi h.1) (wi_i (fun q => absurd q.1 (by decide)) h.2.2.2.2.2.2) (nI 1) (nI (f + k))) rfl rfl (Nat.le_of_ble_eq_true rfl) (Nat.le_of_ble_eq_true rfl) ?_
          rintro _ _ ⟨rfl, rfl⟩
          refine xe (fun _ _ kK => x_iload_n dX8_number_140 rfl 2 rfl kK) ?_
          refine xe (fun _ _ kK => x_if_eqF (tgt := 149) dX8_number_141 (by decide) (by decide) kK) ?_
          refine xe (fun _ _ kK => x_lload_n dX8_number_144 rfl 0 rfl kK) ?_
          refine xe (fun _ _ kK => x_lneg dX8_number_145 kK) ?_
          refine xe (fun _ _ kK => x_goto (tgt := 150) dX8_number_146 (by decide) kK) ?_
          exact xe_retl dX8_number_150 rfl (⟨_, rfl, Or.inl ⟨by omega, by rw [show f + k = f by omega]⟩⟩)
      · -- pc 67
        have h64 := cv_b1 h64
        have hw := de_pos (n := n) h49 h64
        rw [hm] at hw
        have hl := isD_le h64
        refine xe (fun _ _ kK => x_aload_n dX8_number_67 rfl 3 rfl kK) ?_
        refine xe (fun _ _ kK => x_get dX8_number_68 fl_X8_138 (wK_i h.1.1) (gvl_i fz_8_2.2.2 (show e_i (mv T (f + k)) 514 88 = nI (f + k) from rfl)) kK) ?_
        refine xe (fun _ _ kK => x_iload_n dX8_number_71 rfl 1 rfl kK) ?_
        refine xe (fun _ _ kK => x_isub dX8_number_72 kK) ?_
        refine xe_ti (show _ = nI ((f + k) - f) from pk_sub (by omega)) ?_
        refine xe (fun _ _ kK => x_bipush dX8_number_73 (show _ = nI 6 by decide) kK) ?_
        refine xe_icmp_ne (tgt := 89) dX8_number_75 (by decide) (fun h75 => ?_) (fun h75 => ?_)
        · -- pc 89
          have h75 := cv_ne (by omega) (by omega) h75
          refine xe (fun _ _ kK => x_ldc2 dX8_number_89 kl_X8_227 kK) ?_
          refine xe_tl (show _ = lN 10 from by decide) ?_
          refine xe (fun _ _ kK => x_lload_n dX8_number_92 rfl 0 rfl kK) ?_
          refine xe (fun _ _ kK => x_lmul dX8_number_93 kK) ?_
          refine xe_tl (show _ = lN (10 * (dv b f (f + k))) from lN_mul 10 (dv b f (f + k))) ?_
          refine xe (fun _ _ kK => x_aload_n dX8_number_94 rfl 3 rfl kK) ?_
          refine xe (fun _ _ kK => x_get dX8_number_95 fl_X8_7 (wK_i h.1.1) (gvl_r1 fz_8_0.2.2 (show e_r (mv T (f + k)) 512 88 = some 89 from (wr_i (h.1.2.1 0)))) kK) ?_
          refine xe (fun _ _ kK => x_aload_n dX8_number_98 rfl 3 rfl kK) ?_
          refine xe (fun _ _ kK => x_get dX8_number_99 fl_X8_138 (wK_i h.1.1) (gvl_i fz_8_2.2.2 (show e_i (mv T (f + k)) 514 88 = nI (f + k) from rfl)) kK) ?_
          refine xe (fun _ _ kK => x_iald dX8_number_102 (wK_i (h.1.2.2.1 0 (by decide))) (show (nI (f + k)) = nI (f + k) from rfl) (wN_i (mi_len h.1 0 (by decide) (show f + k < 400 by omega))) (show e_ai (mv T (f + k)) 89 (f + k) = nI (b (f + k)) from (wai_i (hB (f + k) h49).1)) kK) ?_
          refine xe (fun _ _ kK => x_i2l dX8_number_103 kK) ?_
          refine xe_tl (show _ = lN (b (f + k)) from nI_l (by omega)) ?_
          refine xe (fun _ _ kK => x_ladd dX8_number_104 kK) ?_
          refine xe_tl (show _ = lN ((10 * (dv b f (f + k))) + (b (f + k))) from lN_add (10 * (dv b f (f + k))) (b (f + k))) ?_
          refine xe (fun _ _ kK => x_ldc2 dX8_number_105 kl_X8_229 kK) ?_
          refine xe_tl (show _ = lN 48 from by decide) ?_
          refine xe (fun _ _ kK => x_lsub dX8_number_108 kK) ?_
          refine xe_tl (show _ = lN (((10 * (dv b f (f + k))) + (b (f + k))) - 48) from lN_sub (by omega)) ?_
          refine xe (fun _ _ kK => x_lstore_n dX8_number_109 rfl (by decide) (show _ = [(3, .long (lN (((10 * (dv b f (f + k))) + (b (f + k))) - 48))), (2, .int (nI f)), (1, .int (nI 1)), (0, .ref 88)] from rfl) kK) ?_
          refine xe (fun _ _ kK => x_aload_n dX8_number_110 rfl 3 rfl kK) ?_
          refine xe (fun _ _ kK => x_dup dX8_number_111 rfl kK) ?_
          refine xe (fun _ _ kK => x_get dX8_number_112 fl_X8_138 (wK_i h.1.1) (gvl_i fz_8_2.2.2 (show e_i (mv T (f + k)) 514 88 = nI (f + k) from rfl)) kK) ?_
          refine xe (fun _ _ kK => x_iconst dX8_number_115 (show _ = nI 1 by decide) kK) ?_
          refine xe (fun _ _ kK => x_iadd dX8_number_116 kK) ?_
          refine xe_ti (show _ = nI ((f + k) + 1) from nI_add (f + k) 1) ?_
          refine xe (fun _ _ kK => x_puti dX8_number_117 ⟨fl_X8_138, fz_8_2.1, fz_8_2.2.1⟩ (Or.inl fz_8_2.2.2) rfl rfl (wK_i h.1.1) kK) ?_
          refine xe (fun _ _ kK => x_goto (tgt := 41) dX8_number_120 (by decide) kK) ?_
          refine xe_T (si_si _ _ _ _ _) ?_
          have hv : dv b f (f + (k + 1)) = 10 * dv b f (f + k) + b (f + k) - 48 := by rw [show f + (k + 1) = (f + k) + 1 by omega, dv_step (by omega)]; omega
          have := ih (n - (f + (k + 1))) (by omega) (k + 1) rfl (by omega) (by omega)
          rw [hv] at this
          exact xe_loc (by simp) this
        · -- pc 78
          have h75 := cv_eq (by omega) (by omega) h75
          refine xe (fun _ _ kK => x_aload_n dX8_number_78 rfl 3 rfl kK) ?_
          refine xe (fun _ _ kK => x_iconst dX8_number_79 (show _ = nI 1 by decide) kK) ?_
          refine xe (fun _ _ kK => x_aload_n dX8_number_80 rfl 3 rfl kK) ?_
          refine xe (fun _ _ kK => x_get dX8_number_81 fl_X8_138 (wK_i h.1.1) (gvl_i fz_8_2.2.2 (show e_i (mv T (f + k)) 514 88 = nI (f + k) from rfl)) kK) ?_
          refine xe_callV (a := 88) [.int (nI 1), .int (nI (f + k))] dX8_number_84 ml_X8_148 mf_X8_fail (wK_i h.1.1) (c_X8_fail d (T := (mv T (f + k))) ((show FrM fsL asL T (mv T (f + k)) from (FrM.si FrM.rf (by decide) _)).mi h.1) (wi_i (fun q => absurd q.1 (by decide)) h.2.2.2.2.2.2) (nI 1) (nI (f + k))) rfl rfl (Nat.le_of_ble_eq_true rfl) (Nat.le_of_ble_eq_true rfl) ?_
          rintro _ _ ⟨rfl, rfl⟩
          refine xe (fun _ _ kK => x_lconst dX8_number_87 (show _ = lN 0 by decide) kK) ?_
          have hk6 : k = 6 := by omega
          subst hk6
          exact xe_retl dX8_number_88 rfl (⟨_, rfl, Or.inr (Or.inl ⟨hw, rfl⟩)⟩)

set_option maxHeartbeats 4000000 in
theorem l_X8_number0 (d : Nat) {T : TH} {n p : Nat} {b : Nat → Nat} (h : LX T n b p) {f : Nat} (hq1 : f ≤ n) : ∀ (m k : Nat), n - (f + k) = m → k ≤ 6 → f + k ≤ de b n f → Xe m_X8_number (d + 1) 41 [(3, .long (lN (dv b f (f + k)))), (2, .int (nI f)), (1, .int (nI 0)), (0, .ref 88)] [] (mv T (f + k)) (fun r T1 => ∃ v, r = some (.long v) ∧ ((de b n f = f ∧ T1 = flk (mv T f) 1 f) ∨ (f + 6 < de b n f ∧ T1 = flk (mv T (f + 6)) 1 (f + 6)) ∨ (f < de b n f ∧ de b n f ≤ f + 6 ∧ v = lN (dv b f (de b n f)) ∧ T1 = mv T (de b n f)))) := by
  intro m
  induction m using Nat.strongRecOn with
  | ind m ih =>
    intro k hk hk6 hkw
    subst hk
    have hm := de_mid (b := b) (n := n) k f hkw
    have hn4 := h.2.2.2.2.2.1
    have hwn := de_n (b := b) hq1
    have hB := h.2.1
    refine xe (fun _ _ kK => x_aload_n dX8_number_41 rfl 3 rfl kK) ?_
    refine xe (fun _ _ kK => x_get dX8_number_42 fl_X8_138 (wK_i h.1.1) (gvl_i fz_8_2.2.2 (show e_i (mv T (f + k)) 514 88 = nI (f + k) from rfl)) kK) ?_
    refine xe (fun _ _ kK => x_aload_n dX8_number_45 rfl 3 rfl kK) ?_
    refine xe (fun _ _ kK => x_get dX8_number_46 fl_X8_141 (wK_i h.1.1) (gvl_i fz_8_3.2.2 (show e_i (mv T (f + k)) 515 88 = nI n from (wi_i (fun q => absurd q.1 (by decide)) h.2.2.2.1))) kK) ?_
    refine xe_icmp_ge (tgt := 123) dX8_number_49 (by decide) (fun h49 => ?_) (fun h49 => ?_)
    · -- pc 123
      have h49 := cv_le (by omega) (by omega) h49
      have he : de b n f = f + k := by rw [← hm]; exact de_out h49
      refine xe (fun _ _ kK => x_aload_n dX8_number_123 rfl 3 rfl kK) ?_
      refine xe (fun _ _ kK => x_get dX8_number_124 fl_X8_138 (wK_i h.1.1) (gvl_i fz_8_2.2.2 (show e_i (mv T (f + k)) 514 88 = nI (f + k) from rfl)) kK) ?_
      refine xe (fun _ _ kK => x_iload_n dX8_number_127 rfl 1 rfl kK) ?_
      refine xe_icmp_ne (tgt := 140) dX8_number_128 (by decide) (fun h128 => ?_) (fun h128 => ?_)
      · -- pc 140
        have h128 := cv_ne (by omega) (by omega) h128
        refine xe (fun _ _ kK => x_iload_n dX8_number_140 rfl 2 rfl kK) ?_
        refine xe (fun _ _ kK => x_if_eqT (tgt := 149) dX8_number_141 (by decide) (by decide) kK) ?_
        refine xe (fun _ _ kK => x_lload_n dX8_number_149 rfl 0 rfl kK) ?_
        exact xe_retl dX8_number_150 rfl (⟨_, rfl, Or.inr (Or.inr ⟨by omega, by omega, by rw [he], by rw [he]⟩)⟩)
      · -- pc 131
        have h128 := cv_eq (by omega) (by omega) h128
        refine xe (fun _ _ kK => x_aload_n dX8_number_131 rfl 3 rfl kK) ?_
        refine xe (fun _ _ kK => x_iconst dX8_number_132 (show _ = nI 1 by decide) kK) ?_
        refine xe (fun _ _ kK => x_aload_n dX8_number_133 rfl 3 rfl kK) ?_
        refine xe (fun _ _ kK => x_get dX8_number_134 fl_X8_138 (wK_i h.1.1) (gvl_i fz_8_2.2.2 (show e_i (mv T (f + k)) 514 88 = nI (f + k) from rfl)) kK) ?_
        refine xe_callV (a := 88) [.int (nI 1), .int (nI (f + k))] dX8_number_137 ml_X8_148 mf_X8_fail (wK_i h.1.1) (c_X8_fail d (T := (mv T (f + k))) ((show FrM fsL asL T (mv T (f + k)) from (FrM.si FrM.rf (by decide) _)).mi h.1) (wi_i (fun q => absurd q.1 (by decide)) h.2.2.2.2.2.2) (nI 1) (nI (f + k))) rfl rfl (Nat.le_of_ble_eq_true rfl) (Nat.le_of_ble_eq_true rfl) ?_
        rintro _ _ ⟨rfl, rfl⟩
        refine xe (fun _ _ kK => x_iload_n dX8_number_140 rfl 2 rfl kK) ?_
        refine xe (fun _ _ kK => x_if_eqT (tgt := 149) dX8_number_141 (by decide) (by decide) kK) ?_
        refine xe (fun _ _ kK => x_lload_n dX8_number_149 rfl 0 rfl kK) ?_
        exact xe_retl dX8_number_150 rfl (⟨_, rfl, Or.inl ⟨by omega, by rw [show f + k = f by omega]⟩⟩)
    · -- pc 52
      have h49 := cv_nle (by omega) (by omega) h49
      refine xe (fun _ _ kK => x_aload_n dX8_number_52 rfl 3 rfl kK) ?_
      refine xe (fun _ _ kK => x_get dX8_number_53 fl_X8_7 (wK_i h.1.1) (gvl_r1 fz_8_0.2.2 (show e_r (mv T (f + k)) 512 88 = some 89 from (wr_i (h.1.2.1 0)))) kK) ?_
      refine xe (fun _ _ kK => x_aload_n dX8_number_56 rfl 3 rfl kK) ?_
      refine xe (fun _ _ kK => x_get dX8_number_57 fl_X8_138 (wK_i h.1.1) (gvl_i fz_8_2.2.2 (show e_i (mv T (f + k)) 514 88 = nI (f + k) from rfl)) kK) ?_
      refine xe (fun _ _ kK => x_iald dX8_number_60 (wK_i (h.1.2.2.1 0 (by decide))) (show (nI (f + k)) = nI (f + k) from rfl) (wN_i (mi_len h.1 0 (by decide) (show f + k < 400 by omega))) (show e_ai (mv T (f + k)) 89 (f + k) = nI (b (f + k)) from (wai_i (hB (f + k) h49).1)) kK) ?_
      have hbk := (hB (f + k) h49).2
      refine xe_callS [.int (nI (b (f + k)))] dX8_number_61 ml_X8_224 mf_X8_isDigit (c_X8_isDigit d (mv T (f + k)) (x := b (f + k)) (by omega)) rfl rfl (Nat.le_of_ble_eq_true rfl) (Nat.le_of_ble_eq_true rfl) ?_
      rintro _ T9 ⟨rfl, h9⟩
      refine xe_T h9 ?_
      refine xe_if_eq (tgt := 123) dX8_number_64 (by decide) (fun h64 => ?_) (fun h64 => ?_)
      · -- pc 123
        have h64 := cv_b0 h64
        have he : de b n f = f + k := by rw [← hm]; exact de_stop h64
        refine xe (fun _ _ kK => x_aload_n dX8_number_123 rfl 3 rfl kK) ?_
        refine xe (fun _ _ kK => x_get dX8_number_124 fl_X8_138 (wK_i h.1.1) (gvl_i fz_8_2.2.2 (show e_i (mv T (f + k)) 514 88 = nI (f + k) from rfl)) kK) ?_
        refine xe (fun _ _ kK => x_iload_n dX8_number_127 rfl 1 rfl kK) ?_
        refine xe_icmp_ne (tgt := 140) dX8_number_128 (by decide) (fun h128 => ?_) (fun h128 => ?_)
        · -- pc 140
          have h128 := cv_ne (by omega) (by omega) h128
          refine xe (fun _ _ kK => x_iload_n dX8_number_140 rfl 2 rfl kK) ?_
          refine xe (fun _ _ kK => x_if_eqT (tgt := 149) dX8_number_141 (by decide) (by decide) kK) ?_
          refine xe (fun _ _ kK => x_lload_n dX8_number_149 rfl 0 rfl kK) ?_
          exact xe_retl dX8_number_150 rfl (⟨_, rfl, Or.inr (Or.inr ⟨by omega, by omega, by rw [he], by rw [he]⟩)⟩)
        · -- pc 131
          have h128 := cv_eq (by omega) (by omega) h128
          refine xe (fun _ _ kK => x_aload_n dX8_number_131 rfl 3 rfl kK) ?_
          refine xe (fun _ _ kK => x_iconst dX8_number_132 (show _ = nI 1 by decide) kK) ?_
          refine xe (fun _ _ kK => x_aload_n dX8_number_133 rfl 3 rfl kK) ?_
          refine xe (fun _ _ kK => x_get dX8_number_134 fl_X8_138 (wK_i h.1.1) (gvl_i fz_8_2.2.2 (show e_i (mv T (f + k)) 514 88 = nI (f + k) from rfl)) kK) ?_
          refine xe_callV (a := 88) [.int (nI 1), .int (nI (f + k))] dX8_number_137 ml_X8_148 mf_X8_fail (wK_i h.1.1) (c_X8_fail d (T := (mv T (f + k))) ((show FrM fsL asL T (mv T (f + k)) from (FrM.si FrM.rf (by decide) _)).mi h.1) (wi_i (fun q => absurd q.1 (by decide)) h.2.2.2.2.2.2) (nI 1) (nI (f + k))) rfl rfl (Nat.le_of_ble_eq_true rfl) (Nat.le_of_ble_eq_true rfl) ?_
          rintro _ _ ⟨rfl, rfl⟩
          refine xe (fun _ _ kK => x_iload_n dX8_number_140 rfl 2 rfl kK) ?_
          refine xe (fun _ _ kK => x_if_eqT (tgt := 149) dX8_number_141 (by decide) (by decide) kK) ?_
          refine xe (fun _ _ kK => x_lload_n dX8_number_149 rfl 0 rfl kK) ?_
          exact xe_retl dX8_number_150 rfl (⟨_, rfl, Or.inl ⟨by omega, by rw [show f + k = f by omega]⟩⟩)
      · -- pc 67
        have h64 := cv_b1 h64
        have hw := de_pos (n := n) h49 h64
        rw [hm] at hw
        have hl := isD_le h64
        refine xe (fun _ _ kK => x_aload_n dX8_number_67 rfl 3 rfl kK) ?_
        refine xe (fun _ _ kK => x_get dX8_number_68 fl_X8_138 (wK_i h.1.1) (gvl_i fz_8_2.2.2 (show e_i (mv T (f + k)) 514 88 = nI (f + k) from rfl)) kK) ?_
        refine xe (fun _ _ kK => x_iload_n dX8_number_71 rfl 1 rfl kK) ?_
        refine xe (fun _ _ kK => x_isub dX8_number_72 kK) ?_
        refine xe_ti (show _ = nI ((f + k) - f) from pk_sub (by omega)) ?_
        refine xe (fun _ _ kK => x_bipush dX8_number_73 (show _ = nI 6 by decide) kK) ?_
        refine xe_icmp_ne (tgt := 89) dX8_number_75 (by decide) (fun h75 => ?_) (fun h75 => ?_)
        · -- pc 89
          have h75 := cv_ne (by omega) (by omega) h75
          refine xe (fun _ _ kK => x_ldc2 dX8_number_89 kl_X8_227 kK) ?_
          refine xe_tl (show _ = lN 10 from by decide) ?_
          refine xe (fun _ _ kK => x_lload_n dX8_number_92 rfl 0 rfl kK) ?_
          refine xe (fun _ _ kK => x_lmul dX8_number_93 kK) ?_
          refine xe_tl (show _ = lN (10 * (dv b f (f + k))) from lN_mul 10 (dv b f (f + k))) ?_
          refine xe (fun _ _ kK => x_aload_n dX8_number_94 rfl 3 rfl kK) ?_
          refine xe (fun _ _ kK => x_get dX8_number_95 fl_X8_7 (wK_i h.1.1) (gvl_r1 fz_8_0.2.2 (show e_r (mv T (f + k)) 512 88 = some 89 from (wr_i (h.1.2.1 0)))) kK) ?_
          refine xe (fun _ _ kK => x_aload_n dX8_number_98 rfl 3 rfl kK) ?_
          refine xe (fun _ _ kK => x_get dX8_number_99 fl_X8_138 (wK_i h.1.1) (gvl_i fz_8_2.2.2 (show e_i (mv T (f + k)) 514 88 = nI (f + k) from rfl)) kK) ?_
          refine xe (fun _ _ kK => x_iald dX8_number_102 (wK_i (h.1.2.2.1 0 (by decide))) (show (nI (f + k)) = nI (f + k) from rfl) (wN_i (mi_len h.1 0 (by decide) (show f + k < 400 by omega))) (show e_ai (mv T (f + k)) 89 (f + k) = nI (b (f + k)) from (wai_i (hB (f + k) h49).1)) kK) ?_
          refine xe (fun _ _ kK => x_i2l dX8_number_103 kK) ?_
          refine xe_tl (show _ = lN (b (f + k)) from nI_l (by omega)) ?_
          refine xe (fun _ _ kK => x_ladd dX8_number_104 kK) ?_
          refine xe_tl (show _ = lN ((10 * (dv b f (f + k))) + (b (f + k))) from lN_add (10 * (dv b f (f + k))) (b (f + k))) ?_
          refine xe (fun _ _ kK => x_ldc2 dX8_number_105 kl_X8_229 kK) ?_
          refine xe_tl (show _ = lN 48 from by decide) ?_
          refine xe (fun _ _ kK => x_lsub dX8_number_108 kK) ?_
          refine xe_tl (show _ = lN (((10 * (dv b f (f + k))) + (b (f + k))) - 48) from lN_sub (by omega)) ?_
          refine xe (fun _ _ kK => x_lstore_n dX8_number_109 rfl (by decide) (show _ = [(3, .long (lN (((10 * (dv b f (f + k))) + (b (f + k))) - 48))), (2, .int (nI f)), (1, .int (nI 0)), (0, .ref 88)] from rfl) kK) ?_
          refine xe (fun _ _ kK => x_aload_n dX8_number_110 rfl 3 rfl kK) ?_
          refine xe (fun _ _ kK => x_dup dX8_number_111 rfl kK) ?_
          refine xe (fun _ _ kK => x_get dX8_number_112 fl_X8_138 (wK_i h.1.1) (gvl_i fz_8_2.2.2 (show e_i (mv T (f + k)) 514 88 = nI (f + k) from rfl)) kK) ?_
          refine xe (fun _ _ kK => x_iconst dX8_number_115 (show _ = nI 1 by decide) kK) ?_
          refine xe (fun _ _ kK => x_iadd dX8_number_116 kK) ?_
          refine xe_ti (show _ = nI ((f + k) + 1) from nI_add (f + k) 1) ?_
          refine xe (fun _ _ kK => x_puti dX8_number_117 ⟨fl_X8_138, fz_8_2.1, fz_8_2.2.1⟩ (Or.inl fz_8_2.2.2) rfl rfl (wK_i h.1.1) kK) ?_
          refine xe (fun _ _ kK => x_goto (tgt := 41) dX8_number_120 (by decide) kK) ?_
          refine xe_T (si_si _ _ _ _ _) ?_
          have hv : dv b f (f + (k + 1)) = 10 * dv b f (f + k) + b (f + k) - 48 := by rw [show f + (k + 1) = (f + k) + 1 by omega, dv_step (by omega)]; omega
          have := ih (n - (f + (k + 1))) (by omega) (k + 1) rfl (by omega) (by omega)
          rw [hv] at this
          exact xe_loc (by simp) this
        · -- pc 78
          have h75 := cv_eq (by omega) (by omega) h75
          refine xe (fun _ _ kK => x_aload_n dX8_number_78 rfl 3 rfl kK) ?_
          refine xe (fun _ _ kK => x_iconst dX8_number_79 (show _ = nI 1 by decide) kK) ?_
          refine xe (fun _ _ kK => x_aload_n dX8_number_80 rfl 3 rfl kK) ?_
          refine xe (fun _ _ kK => x_get dX8_number_81 fl_X8_138 (wK_i h.1.1) (gvl_i fz_8_2.2.2 (show e_i (mv T (f + k)) 514 88 = nI (f + k) from rfl)) kK) ?_
          refine xe_callV (a := 88) [.int (nI 1), .int (nI (f + k))] dX8_number_84 ml_X8_148 mf_X8_fail (wK_i h.1.1) (c_X8_fail d (T := (mv T (f + k))) ((show FrM fsL asL T (mv T (f + k)) from (FrM.si FrM.rf (by decide) _)).mi h.1) (wi_i (fun q => absurd q.1 (by decide)) h.2.2.2.2.2.2) (nI 1) (nI (f + k))) rfl rfl (Nat.le_of_ble_eq_true rfl) (Nat.le_of_ble_eq_true rfl) ?_
          rintro _ _ ⟨rfl, rfl⟩
          refine xe (fun _ _ kK => x_lconst dX8_number_87 (show _ = lN 0 by decide) kK) ?_
          have hk6 : k = 6 := by omega
          subst hk6
          exact xe_retl dX8_number_88 rfl (⟨_, rfl, Or.inr (Or.inl ⟨hw, rfl⟩)⟩)

set_option maxHeartbeats 4000000 in
theorem c_X8_number (d : Nat) {T : TH} {n q : Nat} {b : Nat → Nat} (h : LX T n b q) (hq : q < n) : Xe m_X8_number (d + 1) 0 [(0, .ref 88)] [] T (fun r T1 => ∃ v, r = some (.long v) ∧ ((de b n (nst b q) = nst b q ∧ T1 = flk (mv T (nst b q)) 1 (nst b q)) ∨ (nst b q + 6 < de b n (nst b q) ∧ T1 = flk (mv T (nst b q + 6)) 1 (nst b q + 6)) ∨ (nst b q < de b n (nst b q) ∧ de b n (nst b q) ≤ nst b q + 6 ∧ v = nvl b q (de b n (nst b q)) ∧ T1 = mv T (de b n (nst b q))))) := by
  have hn4 := h.2.2.2.2.2.1
  have hbq := (h.2.1 q hq).2
  refine xe (fun _ _ kK => x_aload_n dX8_number_0 rfl 0 rfl kK) ?_
  refine xe (fun _ _ kK => x_get dX8_number_1 fl_X8_7 h.1.1 (gvl_r1 fz_8_0.2.2 (show e_r T 512 88 = some 89 from (h.1.2.1 0))) kK) ?_
  refine xe (fun _ _ kK => x_aload_n dX8_number_4 rfl 0 rfl kK) ?_
  refine xe (fun _ _ kK => x_get dX8_number_5 fl_X8_138 h.1.1 (gvl_i fz_8_2.2.2 (show e_i T 514 88 = nI q from h.2.2.1)) kK) ?_
  refine xe (fun _ _ kK => x_iald dX8_number_8 (h.1.2.2.1 0 (by decide)) (show (nI q) = nI q from rfl) (mi_len h.1 0 (by decide) (show q < 400 by omega)) (show e_ai T 89 q = nI (b q) from (h.2.1 q hq).1) kK) ?_
  refine xe (fun _ _ kK => x_bipush dX8_number_9 (show _ = nI 45 by decide) kK) ?_
  refine xe_icmp_ne (tgt := 18) dX8_number_11 (by decide) (fun h11 => ?_) (fun h11 => ?_)
  · -- pc 18
    have h11 := cv_ne (by omega) (by omega) h11
    refine xe (fun _ _ kK => x_iconst dX8_number_18 (show _ = nI 0 by decide) kK) ?_
    refine xe (fun _ _ kK => x_istore_n dX8_number_19 rfl (by decide) (show _ = [(1, .int (nI 0)), (0, .ref 88)] from rfl) kK) ?_
    refine xe (fun _ _ kK => x_iload_n dX8_number_20 rfl 0 rfl kK) ?_
    refine xe (fun _ _ kK => x_if_eqT (tgt := 34) dX8_number_21 (by decide) (by decide) kK) ?_
    refine xe (fun _ _ kK => x_aload_n dX8_number_34 rfl 1 rfl kK) ?_
    refine xe (fun _ _ kK => x_get dX8_number_35 fl_X8_138 h.1.1 (gvl_i fz_8_2.2.2 (show e_i T 514 88 = nI q from h.2.2.1)) kK) ?_
    refine xe (fun _ _ kK => x_istore_n dX8_number_38 rfl (by decide) (show _ = [(2, .int (nI q)), (1, .int (nI 0)), (0, .ref 88)] from rfl) kK) ?_
    refine xe (fun _ _ kK => x_lconst dX8_number_39 (show _ = lN 0 by decide) kK) ?_
    refine xe (fun _ _ kK => x_lstore_n dX8_number_40 rfl (by decide) (show _ = [(3, .long (lN 0)), (2, .int (nI q)), (1, .int (nI 0)), (0, .ref 88)] from rfl) kK) ?_
    refine xe_T (si_self h.2.2.1).symm ?_
    have hs : nst b q = q := if_neg h11
    have hl := l_X8_number0 d h (f := q) (by omega) (n - (q + 0)) 0 rfl (by omega) (de_ge b n q)
    rw [show dv b q (q + 0) = 0 from dv_self b q] at hl
    refine Xe.imp (xe_loc (by simp) hl) ?_
    rintro _ _ ⟨v, rfl, hh⟩
    rw [hs]
    refine ⟨v, rfl, hh.imp id (Or.imp id (fun ⟨u1, u2, u3, u4⟩ => ⟨u1, u2, ?_, u4⟩))⟩
    rw [u3, nvl, hs, if_neg h11]
  · -- pc 14
    have h11 := cv_eq (by omega) (by omega) h11
    refine xe (fun _ _ kK => x_iconst dX8_number_14 (show _ = nI 1 by decide) kK) ?_
    refine xe (fun _ _ kK => x_goto (tgt := 19) dX8_number_15 (by decide) kK) ?_
    refine xe (fun _ _ kK => x_istore_n dX8_number_19 rfl (by decide) (show _ = [(1, .int (nI 1)), (0, .ref 88)] from rfl) kK) ?_
    refine xe (fun _ _ kK => x_iload_n dX8_number_20 rfl 0 rfl kK) ?_
    refine xe (fun _ _ kK => x_if_eqF (tgt := 34) dX8_number_21 (by decide) (by decide) kK) ?_
    refine xe (fun _ _ kK => x_aload_n dX8_number_24 rfl 1 rfl kK) ?_
    refine xe (fun _ _ kK => x_dup dX8_number_25 rfl kK) ?_
    refine xe (fun _ _ kK => x_get dX8_number_26 fl_X8_138 h.1.1 (gvl_i fz_8_2.2.2 (show e_i T 514 88 = nI q from h.2.2.1)) kK) ?_
    refine xe (fun _ _ kK => x_iconst dX8_number_29 (show _ = nI 1 by decide) kK) ?_
    refine xe (fun _ _ kK => x_iadd dX8_number_30 kK) ?_
    refine xe_ti (show _ = nI (q + 1) from nI_add q 1) ?_
    refine xe (fun _ _ kK => x_puti dX8_number_31 ⟨fl_X8_138, fz_8_2.1, fz_8_2.2.1⟩ (Or.inl fz_8_2.2.2) rfl rfl h.1.1 kK) ?_
    refine xe (fun _ _ kK => x_aload_n dX8_number_34 rfl 1 rfl kK) ?_
    refine xe (fun _ _ kK => x_get dX8_number_35 fl_X8_138 (wK_i h.1.1) (gvl_i fz_8_2.2.2 (show e_i (s_i T 514 88 (nI (q + 1))) 514 88 = nI (q + 1) from rfl)) kK) ?_
    refine xe (fun _ _ kK => x_istore_n dX8_number_38 rfl (by decide) (show _ = [(2, .int (nI (q + 1))), (1, .int (nI 1)), (0, .ref 88)] from rfl) kK) ?_
    refine xe (fun _ _ kK => x_lconst dX8_number_39 (show _ = lN 0 by decide) kK) ?_
    refine xe (fun _ _ kK => x_lstore_n dX8_number_40 rfl (by decide) (show _ = [(3, .long (lN 0)), (2, .int (nI (q + 1))), (1, .int (nI 1)), (0, .ref 88)] from rfl) kK) ?_
    have hs : nst b q = q + 1 := if_pos h11
    have hl := l_X8_number1 d h (f := (q + 1)) (by omega) (n - ((q + 1) + 0)) 0 rfl (by omega) (de_ge b n (q + 1))
    rw [show dv b (q + 1) ((q + 1) + 0) = 0 from dv_self b (q + 1)] at hl
    refine Xe.imp (xe_loc (by simp) hl) ?_
    rintro _ _ ⟨v, rfl, hh⟩
    rw [hs]
    refine ⟨v, rfl, hh.imp id (Or.imp id (fun ⟨u1, u2, u3, u4⟩ => ⟨u1, u2, ?_, u4⟩))⟩
    rw [u3, nvl, hs, if_pos h11]
