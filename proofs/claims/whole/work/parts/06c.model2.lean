/-! reading on: the tape's place, and a failure -/
abbrev mv (T : TH) (p : Nat) : TH := s_i T 514 88 (nI p)
abbrev flk (T : TH) (k q : Nat) : TH := s_i (s_i T 516 88 (nI k)) 517 88 (nI q)
/-- reading: the place p, nothing wrong yet -/
def LX (T : TH) (n : Nat) (b : Nat → Nat) (p : Nat) : Prop := MI T ∧ Bt T n b ∧ e_i T 514 88 = nI p ∧ e_i T 515 88 = nI n ∧ p ≤ n ∧ n ≤ 400 ∧ e_i T 516 88 = nI 0
theorem LX.mv {T : TH} {n p p' : Nat} {b : Nat → Nat} (h : LX T n b p) (hp : p' ≤ n) : LX (mv T p') n b p' := ⟨h.1, h.2.1, rfl, h.2.2.2.1, hp, h.2.2.2.2.2.1, h.2.2.2.2.2.2⟩
def pL (b : Nat → Nat) (n p : Nat) : Bool := decide (p < n) && isL (b p)
theorem pL_t {b : Nat → Nat} {n p : Nat} (h : pL b n p = true) : p < n ∧ isL (b p) = true := by simpa [pL] using h
theorem pL_f {b : Nat → Nat} {n p : Nat} (h : pL b n p = false) : we b n p = p := by
  rcases Nat.lt_or_ge p n with q | q
  · exact we_stop (by simpa [pL, q] using h)
  · exact we_out q
theorem c_X8_isLetter_pk (d : Nat) {T : TH} {n p : Nat} {b : Nat → Nat} (hB : ∀ j, j < n → b j < 256) : Xe m_X8_isLetter d 0 [(0, .int (pk b n p))] [] T (fun r T1 => r = some (.int (bI (pL b n p))) ∧ T1 = T) := by
  unfold pk pL
  by_cases h : p < n
  · rw [if_pos h]
    refine (c_X8_isLetter d T (x := b p) (by have := hB p h; omega)).imp ?_
    rintro _ _ ⟨rfl, rfl⟩
    exact ⟨by simp [h], rfl⟩
  · rw [if_neg h]
    refine (c_X8_isLetter_m d T).imp ?_
    rintro _ _ ⟨rfl, rfl⟩
    exact ⟨by simp [h, bI, nI_0], rfl⟩
theorem we_mid {b : Nat → Nat} {n : Nat} : ∀ (k q : Nat), q + k ≤ we b n q → we b n (q + k) = we b n q := by
  intro k
  induction k with
  | zero => intro q _; rfl
  | succ k ih =>
    intro q h
    have h1 : isL (b q) = true := we_letters (n := n) _ q rfl q (Nat.le_refl _) (by omega)
    have h2 : q < n := by
      rcases Nat.lt_or_ge q n with z | z
      · exact z
      · rw [we_out z] at h; omega
    rw [we_go h2 h1] at h ⊢
    rw [show q + (k + 1) = q + 1 + k by omega]
    exact ih (q + 1) (by omega)

set_option maxHeartbeats 4000000 in
theorem c_X8_sign (d : Nat) {T : TH} {n p : Nat} {b : Nat → Nat} (h : LX T n b p) {c : Nat} (hc : c < 256) : Xe m_X8_sign (d + 1) 0 [(0, .ref 88), (1, .int (nI c))] [] T (fun r T1 => r = none ∧ T1 = if sk b n p < n ∧ b (sk b n p) = c then mv T (sk b n p + 1) else flk (mv T (sk b n p)) 1 (sk b n p)) := by
  have hq0 := sk_ge b n p
  have hq1 := sk_n (b := b) h.2.2.2.2.1
  have hn4 := h.2.2.2.2.2.1
  have hB := h.2.1
  generalize hq : sk b n p = q at hq0 hq1 ⊢
  refine xe (fun _ _ kK => x_aload_n dX8_sign_0 rfl 0 rfl kK) ?_
  refine xe_callV (a := 88) [] dX8_sign_1 ml_X8_144 mf_X8_next h.1.1 (by have := c_X8_next d _ T p n b rfl h.1 h.2.1 h.2.2.1 h.2.2.2.1 h.2.2.2.2.1 h.2.2.2.2.2.1; rw [hq] at this; exact this) rfl rfl (Nat.le_of_ble_eq_true rfl) (Nat.le_of_ble_eq_true rfl) ?_
  rintro _ _ ⟨rfl, rfl⟩
  refine xe (fun _ _ kK => x_iload_n dX8_sign_4 rfl 1 rfl kK) ?_
  by_cases hcc : q < n ∧ b q = c
  · -- pc 5
    refine xe (fun _ _ kK => x_icmp_neF (tgt := 21) dX8_sign_5 (by decide) (show pk b n q = nI c by rw [pk, if_pos hcc.1, hcc.2]) kK) ?_
    refine xe (fun _ _ kK => x_aload_n dX8_sign_8 rfl 0 rfl kK) ?_
    refine xe (fun _ _ kK => x_dup dX8_sign_9 rfl kK) ?_
    refine xe (fun _ _ kK => x_get dX8_sign_10 fl_X8_138 (wK_i h.1.1) (gvl_i fz_8_2.2.2 (show e_i (mv T q) 514 88 = nI q from rfl)) kK) ?_
    refine xe (fun _ _ kK => x_iconst dX8_sign_13 (show _ = nI 1 by decide) kK) ?_
    refine xe (fun _ _ kK => x_iadd dX8_sign_14 kK) ?_
    refine xe_ti (show _ = nI (q + 1) from nI_add q 1) ?_
    refine xe (fun _ _ kK => x_puti dX8_sign_15 ⟨fl_X8_138, fz_8_2.1, fz_8_2.2.1⟩ (Or.inl fz_8_2.2.2) rfl rfl (wK_i h.1.1) kK) ?_
    refine xe (fun _ _ kK => x_goto (tgt := 30) dX8_sign_18 (by decide) kK) ?_
    exact xe_retv dX8_sign_30 rfl (⟨rfl, by rw [if_pos hcc]; exact si_si _ _ _ _ _⟩)
  · -- pc 5
    have hne : ¬ pk b n q = nI c := by
      intro e
      unfold pk at e
      split at e
      · rename_i z; have := (hB q z).2; exact hcc ⟨z, cv_eq (by omega) (by omega) e⟩
      · exact nI_m1 (by omega) e.symm
    refine xe (fun _ _ kK => x_icmp_neT (tgt := 21) dX8_sign_5 (by decide) hne kK) ?_
    refine xe (fun _ _ kK => x_aload_n dX8_sign_21 rfl 0 rfl kK) ?_
    refine xe (fun _ _ kK => x_iconst dX8_sign_22 (show _ = nI 1 by decide) kK) ?_
    refine xe (fun _ _ kK => x_aload_n dX8_sign_23 rfl 0 rfl kK) ?_
    refine xe (fun _ _ kK => x_get dX8_sign_24 fl_X8_138 (wK_i h.1.1) (gvl_i fz_8_2.2.2 (show e_i (mv T q) 514 88 = nI q from rfl)) kK) ?_
    refine xe_callV (a := 88) [.int (nI 1), .int (nI q)] dX8_sign_27 ml_X8_148 mf_X8_fail (wK_i h.1.1) (c_X8_fail d (T := (mv T q)) h.1 h.2.2.2.2.2.2 (nI 1) (nI q)) rfl rfl (Nat.le_of_ble_eq_true rfl) (Nat.le_of_ble_eq_true rfl) ?_
    rintro _ _ ⟨rfl, rfl⟩
    exact xe_retv dX8_sign_30 rfl (⟨rfl, by rw [if_neg hcc]⟩)

set_option maxHeartbeats 4000000 in
theorem l_X8_word (d : Nat) {T : TH} {n p : Nat} {b : Nat → Nat} (h : LX T n b p) {q : Nat} (hq1 : q ≤ n) : ∀ (m k : Nat), n - (q + k) = m → k ≤ 8 → q + k ≤ we b n q → Xe m_X8_word (d + 1) 25 [(3, .int (nI k)), (1, .long (lN (wc b q (q + k)))), (0, .ref 88)] [] (mv T (q + k)) (fun r T1 => (q + 8 < we b n q ∧ r = some (.long (lN 0)) ∧ T1 = flk (mv T (q + 8)) 1 (q + 8)) ∨ (we b n q ≤ q + 8 ∧ r = some (.long (lN (wc b q (we b n q)))) ∧ T1 = mv T (we b n q))) := by
  intro m
  induction m using Nat.strongRecOn with
  | ind m ih =>
    intro k hk hk8 hkw
    subst hk
    have hm := we_mid (b := b) (n := n) k q hkw
    have hn4 := h.2.2.2.2.2.1
    have hwn := we_n (b := b) hq1
    have hB := h.2.1
    refine xe (fun _ _ kK => x_aload_n dX8_word_25 rfl 2 rfl kK) ?_
    refine xe (fun _ _ kK => x_get dX8_word_26 fl_X8_138 (wK_i h.1.1) (gvl_i fz_8_2.2.2 (show e_i (mv T (q + k)) 514 88 = nI (q + k) from rfl)) kK) ?_
    refine xe (fun _ _ kK => x_aload_n dX8_word_29 rfl 2 rfl kK) ?_
    refine xe (fun _ _ kK => x_get dX8_word_30 fl_X8_141 (wK_i h.1.1) (gvl_i fz_8_3.2.2 (show e_i (mv T (q + k)) 515 88 = nI n from (wi_i (fun q => absurd q.1 (by decide)) h.2.2.2.1))) kK) ?_
    refine xe_icmp_ge (tgt := 114) dX8_word_33 (by decide) (fun h33 => ?_) (fun h33 => ?_)
    · -- pc 114
      have h33 := cv_le (by omega) (by omega) h33
      have he : we b n q = q + k := by rw [← hm]; exact we_out h33
      refine xe (fun _ _ kK => x_lload_n dX8_word_114 rfl 1 rfl kK) ?_
      exact xe_retl dX8_word_115 rfl (Or.inr ⟨by omega, by rw [he], by rw [he]⟩)
    · -- pc 36
      have h33 := cv_nle (by omega) (by omega) h33
      refine xe (fun _ _ kK => x_aload_n dX8_word_36 rfl 2 rfl kK) ?_
      refine xe (fun _ _ kK => x_get dX8_word_37 fl_X8_7 (wK_i h.1.1) (gvl_r1 fz_8_0.2.2 (show e_r (mv T (q + k)) 512 88 = some 89 from (wr_i (h.1.2.1 0)))) kK) ?_
      refine xe (fun _ _ kK => x_aload_n dX8_word_40 rfl 2 rfl kK) ?_
      refine xe (fun _ _ kK => x_get dX8_word_41 fl_X8_138 (wK_i h.1.1) (gvl_i fz_8_2.2.2 (show e_i (mv T (q + k)) 514 88 = nI (q + k) from rfl)) kK) ?_
      refine xe (fun _ _ kK => x_iald dX8_word_44 (wK_i (h.1.2.2.1 0 (by decide))) (show (nI (q + k)) = nI (q + k) from rfl) (wN_i (mi_len h.1 0 (by decide) (show q + k < 400 by omega))) (show e_ai (mv T (q + k)) 89 (q + k) = nI (b (q + k)) from (wai_i (hB (q + k) h33).1)) kK) ?_
      have hbk := (hB (q + k) h33).2
      refine xe_callS [.int (nI (b (q + k)))] dX8_word_45 ml_X8_152 mf_X8_isLetter (c_X8_isLetter d (mv T (q + k)) (x := b (q + k)) (by omega)) rfl rfl (Nat.le_of_ble_eq_true rfl) (Nat.le_of_ble_eq_true rfl) ?_
      rintro _ T9 ⟨rfl, h9⟩
      refine xe_T h9 ?_
      refine xe_if_eq (tgt := 114) dX8_word_48 (by decide) (fun h48 => ?_) (fun h48 => ?_)
      · -- pc 114
        have h48 := cv_b0 h48
        have he : we b n q = q + k := by rw [← hm]; exact we_stop h48
        refine xe (fun _ _ kK => x_lload_n dX8_word_114 rfl 1 rfl kK) ?_
        exact xe_retl dX8_word_115 rfl (Or.inr ⟨by omega, by rw [he], by rw [he]⟩)
      · -- pc 51
        have h48 := cv_b1 h48
        have hw := we_pos (n := n) h33 h48
        rw [hm] at hw
        have hl := isL_le h48
        refine xe (fun _ _ kK => x_aload_n dX8_word_51 rfl 2 rfl kK) ?_
        refine xe (fun _ _ kK => x_get dX8_word_52 fl_X8_132 (wK_i h.1.1) (gvl_i fz_8_4.2.2 (show e_i (mv T (q + k)) 516 88 = nI 0 from (wi_i (fun q => absurd q.1 (by decide)) h.2.2.2.2.2.2))) kK) ?_
        refine xe (fun _ _ kK => x_if_neF (tgt := 114) dX8_word_55 (by decide) nI_0 kK) ?_
        refine xe (fun _ _ kK => x_iload_n dX8_word_58 rfl 0 rfl kK) ?_
        refine xe (fun _ _ kK => x_bipush dX8_word_59 (show _ = nI 8 by decide) kK) ?_
        refine xe_icmp_ne (tgt := 75) dX8_word_61 (by decide) (fun h61 => ?_) (fun h61 => ?_)
        · -- pc 75
          have h61 := cv_ne (by omega) (by omega) h61
          refine xe (fun _ _ kK => x_ldc2 dX8_word_75 kl_X8_156 kK) ?_
          refine xe_tl (show _ = lN 27 from by decide) ?_
          refine xe (fun _ _ kK => x_lload_n dX8_word_78 rfl 1 rfl kK) ?_
          refine xe (fun _ _ kK => x_lmul dX8_word_79 kK) ?_
          refine xe_tl (show _ = lN (27 * (wc b q (q + k))) from lN_mul 27 (wc b q (q + k))) ?_
          refine xe (fun _ _ kK => x_aload_n dX8_word_80 rfl 2 rfl kK) ?_
          refine xe (fun _ _ kK => x_get dX8_word_81 fl_X8_7 (wK_i h.1.1) (gvl_r1 fz_8_0.2.2 (show e_r (mv T (q + k)) 512 88 = some 89 from (wr_i (h.1.2.1 0)))) kK) ?_
          refine xe (fun _ _ kK => x_aload_n dX8_word_84 rfl 2 rfl kK) ?_
          refine xe (fun _ _ kK => x_get dX8_word_85 fl_X8_138 (wK_i h.1.1) (gvl_i fz_8_2.2.2 (show e_i (mv T (q + k)) 514 88 = nI (q + k) from rfl)) kK) ?_
          refine xe (fun _ _ kK => x_iald dX8_word_88 (wK_i (h.1.2.2.1 0 (by decide))) (show (nI (q + k)) = nI (q + k) from rfl) (wN_i (mi_len h.1 0 (by decide) (show q + k < 400 by omega))) (show e_ai (mv T (q + k)) 89 (q + k) = nI (b (q + k)) from (wai_i (hB (q + k) h33).1)) kK) ?_
          refine xe (fun _ _ kK => x_i2l dX8_word_89 kK) ?_
          refine xe_tl (show _ = lN (b (q + k)) from nI_l (by omega)) ?_
          refine xe (fun _ _ kK => x_ladd dX8_word_90 kK) ?_
          refine xe_tl (show _ = lN ((27 * (wc b q (q + k))) + (b (q + k))) from lN_add (27 * (wc b q (q + k))) (b (q + k))) ?_
          refine xe (fun _ _ kK => x_ldc2 dX8_word_91 kl_X8_158 kK) ?_
          refine xe_tl (show _ = lN 97 from by decide) ?_
          refine xe (fun _ _ kK => x_lsub dX8_word_94 kK) ?_
          refine xe_tl (show _ = lN (((27 * (wc b q (q + k))) + (b (q + k))) - 97) from lN_sub (by omega)) ?_
          refine xe (fun _ _ kK => x_lconst dX8_word_95 (show _ = lN 1 by decide) kK) ?_
          refine xe (fun _ _ kK => x_ladd dX8_word_96 kK) ?_
          refine xe_tl (show _ = lN ((((27 * (wc b q (q + k))) + (b (q + k))) - 97) + 1) from lN_add (((27 * (wc b q (q + k))) + (b (q + k))) - 97) 1) ?_
          refine xe (fun _ _ kK => x_lstore_n dX8_word_97 rfl (by decide) (show _ = [(1, .long (lN ((((27 * (wc b q (q + k))) + (b (q + k))) - 97) + 1))), (3, .int (nI k)), (0, .ref 88)] from rfl) kK) ?_
          refine xe (fun _ _ kK => x_iinc dX8_word_98 1 rfl (show (nI k) + Int32.ofInt 1 = nI (k + 1) from nI_add k 1) (by decide) (show _ = [(3, .int (nI (k + 1))), (1, .long (lN ((((27 * (wc b q (q + k))) + (b (q + k))) - 97) + 1))), (0, .ref 88)] from rfl) kK) ?_
          refine xe (fun _ _ kK => x_aload_n dX8_word_101 rfl 2 rfl kK) ?_
          refine xe (fun _ _ kK => x_dup dX8_word_102 rfl kK) ?_
          refine xe (fun _ _ kK => x_get dX8_word_103 fl_X8_138 (wK_i h.1.1) (gvl_i fz_8_2.2.2 (show e_i (mv T (q + k)) 514 88 = nI (q + k) from rfl)) kK) ?_
          refine xe (fun _ _ kK => x_iconst dX8_word_106 (show _ = nI 1 by decide) kK) ?_
          refine xe (fun _ _ kK => x_iadd dX8_word_107 kK) ?_
          refine xe_ti (show _ = nI ((q + k) + 1) from nI_add (q + k) 1) ?_
          refine xe (fun _ _ kK => x_puti dX8_word_108 ⟨fl_X8_138, fz_8_2.1, fz_8_2.2.1⟩ (Or.inl fz_8_2.2.2) rfl rfl (wK_i h.1.1) kK) ?_
          refine xe (fun _ _ kK => x_goto (tgt := 25) dX8_word_111 (by decide) kK) ?_
          refine xe_T (si_si _ _ _ _ _) ?_
          have hv : wc b q (q + (k + 1)) = 27 * wc b q (q + k) + b (q + k) - 97 + 1 := by rw [show q + (k + 1) = (q + k) + 1 by omega, wc_step (by omega)]; omega
          have := ih (n - (q + (k + 1))) (by omega) (k + 1) rfl (by omega) (by omega)
          rw [hv] at this
          exact xe_loc (by simp) this
        · -- pc 64
          have h61 := cv_eq (by omega) (by omega) h61
          refine xe (fun _ _ kK => x_aload_n dX8_word_64 rfl 2 rfl kK) ?_
          refine xe (fun _ _ kK => x_iconst dX8_word_65 (show _ = nI 1 by decide) kK) ?_
          refine xe (fun _ _ kK => x_aload_n dX8_word_66 rfl 2 rfl kK) ?_
          refine xe (fun _ _ kK => x_get dX8_word_67 fl_X8_138 (wK_i h.1.1) (gvl_i fz_8_2.2.2 (show e_i (mv T (q + k)) 514 88 = nI (q + k) from rfl)) kK) ?_
          refine xe_callV (a := 88) [.int (nI 1), .int (nI (q + k))] dX8_word_70 ml_X8_148 mf_X8_fail (wK_i h.1.1) (c_X8_fail d (T := (mv T (q + k))) h.1 h.2.2.2.2.2.2 (nI 1) (nI (q + k))) rfl rfl (Nat.le_of_ble_eq_true rfl) (Nat.le_of_ble_eq_true rfl) ?_
          rintro _ _ ⟨rfl, rfl⟩
          refine xe (fun _ _ kK => x_lconst dX8_word_73 (show _ = lN 0 by decide) kK) ?_
          subst h61
          exact xe_retl dX8_word_74 rfl (Or.inl ⟨hw, rfl, rfl⟩)

set_option maxHeartbeats 4000000 in
theorem c_X8_word (d : Nat) {T : TH} {n p : Nat} {b : Nat → Nat} (h : LX T n b p) : Xe m_X8_word (d + 1) 0 [(0, .ref 88)] [] T (fun r T1 => r = some (.long (if we b n (sk b n p) = sk b n p then lN 0 else if sk b n p + 8 < we b n (sk b n p) then lN 0 else lN (wc b (sk b n p) (we b n (sk b n p))))) ∧ T1 = if we b n (sk b n p) = sk b n p then flk (mv T (sk b n p)) 1 (sk b n p) else if sk b n p + 8 < we b n (sk b n p) then flk (mv T (sk b n p + 8)) 1 (sk b n p + 8) else mv T (we b n (sk b n p))) := by
  have hq0 := sk_ge b n p
  have hq1 := sk_n (b := b) h.2.2.2.2.1
  have hn4 := h.2.2.2.2.2.1
  have hB := h.2.1
  generalize hq : sk b n p = q at hq0 hq1 ⊢
  refine xe (fun _ _ kK => x_aload_n dX8_word_0 rfl 0 rfl kK) ?_
  refine xe_callV (a := 88) [] dX8_word_1 ml_X8_144 mf_X8_next h.1.1 (by have := c_X8_next d _ T p n b rfl h.1 h.2.1 h.2.2.1 h.2.2.2.1 h.2.2.2.2.1 h.2.2.2.2.2.1; rw [hq] at this; exact this) rfl rfl (Nat.le_of_ble_eq_true rfl) (Nat.le_of_ble_eq_true rfl) ?_
  rintro _ _ ⟨rfl, rfl⟩
  refine xe_callS [.int (pk b n q)] dX8_word_4 ml_X8_152 mf_X8_isLetter (c_X8_isLetter_pk d (fun j hj => (hB j hj).2)) rfl rfl (Nat.le_of_ble_eq_true rfl) (Nat.le_of_ble_eq_true rfl) ?_
  rintro _ T9 ⟨rfl, h9⟩
  refine xe_T h9 ?_
  refine xe_if_ne (tgt := 21) dX8_word_7 (by decide) (fun h7 => ?_) (fun h7 => ?_)
  · -- pc 21
    have h7 := cv_b1 h7
    obtain ⟨h7a, h7b⟩ := pL_t h7
    have hw := we_pos (n := n) h7a h7b
    refine xe (fun _ _ kK => x_lconst dX8_word_21 (show _ = lN 0 by decide) kK) ?_
    refine xe (fun _ _ kK => x_lstore_n dX8_word_22 rfl (by decide) (show _ = [(1, .long (lN 0)), (0, .ref 88)] from rfl) kK) ?_
    refine xe (fun _ _ kK => x_iconst dX8_word_23 (show _ = nI 0 by decide) kK) ?_
    refine xe (fun _ _ kK => x_istore_n dX8_word_24 rfl (by decide) (show _ = [(3, .int (nI 0)), (1, .long (lN 0)), (0, .ref 88)] from rfl) kK) ?_
    have hl := l_X8_word d h (q := q) hq1 (n - (q + 0)) 0 rfl (by omega) (by omega)
    rw [show wc b q (q + 0) = 0 from wc_self b q] at hl
    refine Xe.imp (xe_loc (by simp) hl) ?_
    rintro _ _ (⟨h1, rfl, rfl⟩ | ⟨h1, rfl, rfl⟩)
    · exact ⟨by rw [if_neg (by omega), if_pos h1], by rw [if_neg (by omega), if_pos h1]⟩
    · exact ⟨by rw [if_neg (by omega), if_neg (by omega)], by rw [if_neg (by omega), if_neg (by omega)]⟩
  · -- pc 10
    have h7 := cv_b0 h7
    have he := pL_f h7
    refine xe (fun _ _ kK => x_aload_n dX8_word_10 rfl 0 rfl kK) ?_
    refine xe (fun _ _ kK => x_iconst dX8_word_11 (show _ = nI 1 by decide) kK) ?_
    refine xe (fun _ _ kK => x_aload_n dX8_word_12 rfl 0 rfl kK) ?_
    refine xe (fun _ _ kK => x_get dX8_word_13 fl_X8_138 (wK_i h.1.1) (gvl_i fz_8_2.2.2 (show e_i (mv T q) 514 88 = nI q from rfl)) kK) ?_
    refine xe_callV (a := 88) [.int (nI 1), .int (nI q)] dX8_word_16 ml_X8_148 mf_X8_fail (wK_i h.1.1) (c_X8_fail d (T := (mv T q)) h.1 h.2.2.2.2.2.2 (nI 1) (nI q)) rfl rfl (Nat.le_of_ble_eq_true rfl) (Nat.le_of_ble_eq_true rfl) ?_
    rintro _ _ ⟨rfl, rfl⟩
    refine xe (fun _ _ kK => x_lconst dX8_word_19 (show _ = lN 0 by decide) kK) ?_
    exact xe_retl dX8_word_20 rfl (⟨by rw [if_pos he], by rw [if_pos he]⟩)

/-- the number of the first eight letters -/
def w8 (b : Nat → Nat) (q k : Nat) : Nat := wc b q (q + min k 8)
def wv (b : Nat → Nat) (q e : Nat) : Int64 := if 8 < e - q then -1 else lN (wc b q e)

set_option maxHeartbeats 4000000 in
theorem l_X8_whole (d : Nat) {T : TH} {n p : Nat} {b : Nat → Nat} (h : LX T n b p) {q : Nat} (hq1 : q ≤ n) : ∀ (m k : Nat), n - (q + k) = m → q + k ≤ we b n q → Xe m_X8_whole (d + 1) 25 [(3, .int (nI k)), (1, .long (lN (w8 b q k))), (0, .ref 88)] [] (mv T (q + k)) (fun r T1 => r = some (.long (wv b q (we b n q))) ∧ T1 = mv T (we b n q)) := by
  intro m
  induction m using Nat.strongRecOn with
  | ind m ih =>
    intro k hk hkw
    subst hk
    have hm := we_mid (b := b) (n := n) k q hkw
    have hn4 := h.2.2.2.2.2.1
    have hwn := we_n (b := b) hq1
    have hB := h.2.1
    refine xe (fun _ _ kK => x_aload_n dX8_whole_25 rfl 2 rfl kK) ?_
    refine xe (fun _ _ kK => x_get dX8_whole_26 fl_X8_138 (wK_i h.1.1) (gvl_i fz_8_2.2.2 (show e_i (mv T (q + k)) 514 88 = nI (q + k) from rfl)) kK) ?_
    refine xe (fun _ _ kK => x_aload_n dX8_whole_29 rfl 2 rfl kK) ?_
    refine xe (fun _ _ kK => x_get dX8_whole_30 fl_X8_141 (wK_i h.1.1) (gvl_i fz_8_3.2.2 (show e_i (mv T (q + k)) 515 88 = nI n from (wi_i (fun q => absurd q.1 (by decide)) h.2.2.2.1))) kK) ?_
    refine xe_icmp_ge (tgt := 96) dX8_whole_33 (by decide) (fun h33 => ?_) (fun h33 => ?_)
    · -- pc 96
      have h33 := cv_le (by omega) (by omega) h33
      have he : we b n q = q + k := by rw [← hm]; exact we_out h33
      refine xe (fun _ _ kK => x_iload_n dX8_whole_96 rfl 0 rfl kK) ?_
      refine xe (fun _ _ kK => x_bipush dX8_whole_97 (show _ = nI 8 by decide) kK) ?_
      refine xe_icmp_le (tgt := 108) dX8_whole_99 (by decide) (fun h99 => ?_) (fun h99 => ?_)
      · -- pc 108
        have h99 := cv_le (by omega) (by omega) h99
        refine xe (fun _ _ kK => x_lload_n dX8_whole_108 rfl 1 rfl kK) ?_
        exact xe_retl dX8_whole_109 rfl (⟨by rw [he, wv, if_neg (by omega)]; unfold w8; rw [show min k 8 = k by omega], by rw [he]⟩)
      · -- pc 102
        have h99 := cv_nle (by omega) (by omega) h99
        refine xe (fun _ _ kK => x_ldc2 dX8_whole_102 kl_X8_160 kK) ?_
        refine xe (fun _ _ kK => x_goto (tgt := 109) dX8_whole_105 (by decide) kK) ?_
        exact xe_retl dX8_whole_109 rfl (⟨by rw [he, wv, if_pos (by omega)], by rw [he]⟩)
    · -- pc 36
      have h33 := cv_nle (by omega) (by omega) h33
      refine xe (fun _ _ kK => x_aload_n dX8_whole_36 rfl 2 rfl kK) ?_
      refine xe (fun _ _ kK => x_get dX8_whole_37 fl_X8_7 (wK_i h.1.1) (gvl_r1 fz_8_0.2.2 (show e_r (mv T (q + k)) 512 88 = some 89 from (wr_i (h.1.2.1 0)))) kK) ?_
      refine xe (fun _ _ kK => x_aload_n dX8_whole_40 rfl 2 rfl kK) ?_
      refine xe (fun _ _ kK => x_get dX8_whole_41 fl_X8_138 (wK_i h.1.1) (gvl_i fz_8_2.2.2 (show e_i (mv T (q + k)) 514 88 = nI (q + k) from rfl)) kK) ?_
      refine xe (fun _ _ kK => x_iald dX8_whole_44 (wK_i (h.1.2.2.1 0 (by decide))) (show (nI (q + k)) = nI (q + k) from rfl) (wN_i (mi_len h.1 0 (by decide) (show q + k < 400 by omega))) (show e_ai (mv T (q + k)) 89 (q + k) = nI (b (q + k)) from (wai_i (hB (q + k) h33).1)) kK) ?_
      have hbk := (hB (q + k) h33).2
      refine xe_callS [.int (nI (b (q + k)))] dX8_whole_45 ml_X8_152 mf_X8_isLetter (c_X8_isLetter d (mv T (q + k)) (x := b (q + k)) (by omega)) rfl rfl (Nat.le_of_ble_eq_true rfl) (Nat.le_of_ble_eq_true rfl) ?_
      rintro _ T9 ⟨rfl, h9⟩
      refine xe_T h9 ?_
      refine xe_if_eq (tgt := 96) dX8_whole_48 (by decide) (fun h48 => ?_) (fun h48 => ?_)
      · -- pc 96
        have h48 := cv_b0 h48
        have he : we b n q = q + k := by rw [← hm]; exact we_stop h48
        refine xe (fun _ _ kK => x_iload_n dX8_whole_96 rfl 0 rfl kK) ?_
        refine xe (fun _ _ kK => x_bipush dX8_whole_97 (show _ = nI 8 by decide) kK) ?_
        refine xe_icmp_le (tgt := 108) dX8_whole_99 (by decide) (fun h99 => ?_) (fun h99 => ?_)
        · -- pc 108
          have h99 := cv_le (by omega) (by omega) h99
          refine xe (fun _ _ kK => x_lload_n dX8_whole_108 rfl 1 rfl kK) ?_
          exact xe_retl dX8_whole_109 rfl (⟨by rw [he, wv, if_neg (by omega)]; unfold w8; rw [show min k 8 = k by omega], by rw [he]⟩)
        · -- pc 102
          have h99 := cv_nle (by omega) (by omega) h99
          refine xe (fun _ _ kK => x_ldc2 dX8_whole_102 kl_X8_160 kK) ?_
          refine xe (fun _ _ kK => x_goto (tgt := 109) dX8_whole_105 (by decide) kK) ?_
          exact xe_retl dX8_whole_109 rfl (⟨by rw [he, wv, if_pos (by omega)], by rw [he]⟩)
      · -- pc 51
        have h48 := cv_b1 h48
        have hw := we_pos (n := n) h33 h48
        rw [hm] at hw
        have hl := isL_le h48
        refine xe (fun _ _ kK => x_iload_n dX8_whole_51 rfl 0 rfl kK) ?_
        refine xe (fun _ _ kK => x_bipush dX8_whole_52 (show _ = nI 8 by decide) kK) ?_
        refine xe_icmp_ge (tgt := 80) dX8_whole_54 (by decide) (fun h54 => ?_) (fun h54 => ?_)
        · -- pc 80
          have h54 := cv_le (by omega) (by omega) h54
          refine xe (fun _ _ kK => x_iinc dX8_whole_80 0 rfl (show (nI k) + Int32.ofInt 1 = nI (k + 1) from nI_add k 1) (by decide) (show _ = [(3, .int (nI (k + 1))), (1, .long (lN (w8 b q k))), (0, .ref 88)] from rfl) kK) ?_
          refine xe (fun _ _ kK => x_aload_n dX8_whole_83 rfl 2 rfl kK) ?_
          refine xe (fun _ _ kK => x_dup dX8_whole_84 rfl kK) ?_
          refine xe (fun _ _ kK => x_get dX8_whole_85 fl_X8_138 (wK_i h.1.1) (gvl_i fz_8_2.2.2 (show e_i (mv T (q + k)) 514 88 = nI (q + k) from rfl)) kK) ?_
          refine xe (fun _ _ kK => x_iconst dX8_whole_88 (show _ = nI 1 by decide) kK) ?_
          refine xe (fun _ _ kK => x_iadd dX8_whole_89 kK) ?_
          refine xe_ti (show _ = nI ((q + k) + 1) from nI_add (q + k) 1) ?_
          refine xe (fun _ _ kK => x_puti dX8_whole_90 ⟨fl_X8_138, fz_8_2.1, fz_8_2.2.1⟩ (Or.inl fz_8_2.2.2) rfl rfl (wK_i h.1.1) kK) ?_
          refine xe (fun _ _ kK => x_goto (tgt := 25) dX8_whole_93 (by decide) kK) ?_
          refine xe_T (si_si _ _ _ _ _) ?_
          have := ih (n - (q + (k + 1))) (by omega) (k + 1) rfl (by omega)
          have hv : w8 b q (k + 1) = w8 b q k := by unfold w8; rw [show min (k + 1) 8 = 8 by omega, show min k 8 = 8 by omega]
          rw [hv] at this
          exact xe_loc (by simp) this
        · -- pc 57
          have h54 := cv_nle (by omega) (by omega) h54
          refine xe (fun _ _ kK => x_ldc2 dX8_whole_57 kl_X8_156 kK) ?_
          refine xe_tl (show _ = lN 27 from by decide) ?_
          refine xe (fun _ _ kK => x_lload_n dX8_whole_60 rfl 1 rfl kK) ?_
          refine xe (fun _ _ kK => x_lmul dX8_whole_61 kK) ?_
          refine xe_tl (show _ = lN (27 * (w8 b q k)) from lN_mul 27 (w8 b q k)) ?_
          refine xe (fun _ _ kK => x_aload_n dX8_whole_62 rfl 2 rfl kK) ?_
          refine xe (fun _ _ kK => x_get dX8_whole_63 fl_X8_7 (wK_i h.1.1) (gvl_r1 fz_8_0.2.2 (show e_r (mv T (q + k)) 512 88 = some 89 from (wr_i (h.1.2.1 0)))) kK) ?_
          refine xe (fun _ _ kK => x_aload_n dX8_whole_66 rfl 2 rfl kK) ?_
          refine xe (fun _ _ kK => x_get dX8_whole_67 fl_X8_138 (wK_i h.1.1) (gvl_i fz_8_2.2.2 (show e_i (mv T (q + k)) 514 88 = nI (q + k) from rfl)) kK) ?_
          refine xe (fun _ _ kK => x_iald dX8_whole_70 (wK_i (h.1.2.2.1 0 (by decide))) (show (nI (q + k)) = nI (q + k) from rfl) (wN_i (mi_len h.1 0 (by decide) (show q + k < 400 by omega))) (show e_ai (mv T (q + k)) 89 (q + k) = nI (b (q + k)) from (wai_i (hB (q + k) h33).1)) kK) ?_
          refine xe (fun _ _ kK => x_i2l dX8_whole_71 kK) ?_
          refine xe_tl (show _ = lN (b (q + k)) from nI_l (by omega)) ?_
          refine xe (fun _ _ kK => x_ladd dX8_whole_72 kK) ?_
          refine xe_tl (show _ = lN ((27 * (w8 b q k)) + (b (q + k))) from lN_add (27 * (w8 b q k)) (b (q + k))) ?_
          refine xe (fun _ _ kK => x_ldc2 dX8_whole_73 kl_X8_158 kK) ?_
          refine xe_tl (show _ = lN 97 from by decide) ?_
          refine xe (fun _ _ kK => x_lsub dX8_whole_76 kK) ?_
          refine xe_tl (show _ = lN (((27 * (w8 b q k)) + (b (q + k))) - 97) from lN_sub (by omega)) ?_
          refine xe (fun _ _ kK => x_lconst dX8_whole_77 (show _ = lN 1 by decide) kK) ?_
          refine xe (fun _ _ kK => x_ladd dX8_whole_78 kK) ?_
          refine xe_tl (show _ = lN ((((27 * (w8 b q k)) + (b (q + k))) - 97) + 1) from lN_add (((27 * (w8 b q k)) + (b (q + k))) - 97) 1) ?_
          refine xe (fun _ _ kK => x_lstore_n dX8_whole_79 rfl (by decide) (show _ = [(1, .long (lN ((((27 * (w8 b q k)) + (b (q + k))) - 97) + 1))), (3, .int (nI k)), (0, .ref 88)] from rfl) kK) ?_
          refine xe (fun _ _ kK => x_iinc dX8_whole_80 1 rfl (show (nI k) + Int32.ofInt 1 = nI (k + 1) from nI_add k 1) (by decide) (show _ = [(3, .int (nI (k + 1))), (1, .long (lN ((((27 * (w8 b q k)) + (b (q + k))) - 97) + 1))), (0, .ref 88)] from rfl) kK) ?_
          refine xe (fun _ _ kK => x_aload_n dX8_whole_83 rfl 2 rfl kK) ?_
          refine xe (fun _ _ kK => x_dup dX8_whole_84 rfl kK) ?_
          refine xe (fun _ _ kK => x_get dX8_whole_85 fl_X8_138 (wK_i h.1.1) (gvl_i fz_8_2.2.2 (show e_i (mv T (q + k)) 514 88 = nI (q + k) from rfl)) kK) ?_
          refine xe (fun _ _ kK => x_iconst dX8_whole_88 (show _ = nI 1 by decide) kK) ?_
          refine xe (fun _ _ kK => x_iadd dX8_whole_89 kK) ?_
          refine xe_ti (show _ = nI ((q + k) + 1) from nI_add (q + k) 1) ?_
          refine xe (fun _ _ kK => x_puti dX8_whole_90 ⟨fl_X8_138, fz_8_2.1, fz_8_2.2.1⟩ (Or.inl fz_8_2.2.2) rfl rfl (wK_i h.1.1) kK) ?_
          refine xe (fun _ _ kK => x_goto (tgt := 25) dX8_whole_93 (by decide) kK) ?_
          refine xe_T (si_si _ _ _ _ _) ?_
          have := ih (n - (q + (k + 1))) (by omega) (k + 1) rfl (by omega)
          have hv : w8 b q (k + 1) = 27 * w8 b q k + b (q + k) - 97 + 1 := by unfold w8; rw [show min (k + 1) 8 = k + 1 by omega, show min k 8 = k by omega, show q + (k + 1) = (q + k) + 1 by omega, wc_step (by omega)]; omega
          rw [hv] at this
          exact xe_loc (by simp) this

set_option maxHeartbeats 4000000 in
theorem c_X8_whole (d : Nat) {T : TH} {n p : Nat} {b : Nat → Nat} (h : LX T n b p) : Xe m_X8_whole (d + 1) 0 [(0, .ref 88)] [] T (fun r T1 => r = some (.long (if we b n (sk b n p) = sk b n p then lN 0 else wv b (sk b n p) (we b n (sk b n p)))) ∧ T1 = if we b n (sk b n p) = sk b n p then flk (mv T (sk b n p)) 1 (sk b n p) else mv T (we b n (sk b n p))) := by
  have hq0 := sk_ge b n p
  have hq1 := sk_n (b := b) h.2.2.2.2.1
  have hn4 := h.2.2.2.2.2.1
  have hB := h.2.1
  generalize hq : sk b n p = q at hq0 hq1 ⊢
  refine xe (fun _ _ kK => x_aload_n dX8_whole_0 rfl 0 rfl kK) ?_
  refine xe_callV (a := 88) [] dX8_whole_1 ml_X8_144 mf_X8_next h.1.1 (by have := c_X8_next d _ T p n b rfl h.1 h.2.1 h.2.2.1 h.2.2.2.1 h.2.2.2.2.1 h.2.2.2.2.2.1; rw [hq] at this; exact this) rfl rfl (Nat.le_of_ble_eq_true rfl) (Nat.le_of_ble_eq_true rfl) ?_
  rintro _ _ ⟨rfl, rfl⟩
  refine xe_callS [.int (pk b n q)] dX8_whole_4 ml_X8_152 mf_X8_isLetter (c_X8_isLetter_pk d (fun j hj => (hB j hj).2)) rfl rfl (Nat.le_of_ble_eq_true rfl) (Nat.le_of_ble_eq_true rfl) ?_
  rintro _ T9 ⟨rfl, h9⟩
  refine xe_T h9 ?_
  refine xe_if_ne (tgt := 21) dX8_whole_7 (by decide) (fun h7 => ?_) (fun h7 => ?_)
  · -- pc 21
    have h7 := cv_b1 h7
    obtain ⟨h7a, h7b⟩ := pL_t h7
    have hw := we_pos (n := n) h7a h7b
    refine xe (fun _ _ kK => x_lconst dX8_whole_21 (show _ = lN 0 by decide) kK) ?_
    refine xe (fun _ _ kK => x_lstore_n dX8_whole_22 rfl (by decide) (show _ = [(1, .long (lN 0)), (0, .ref 88)] from rfl) kK) ?_
    refine xe (fun _ _ kK => x_iconst dX8_whole_23 (show _ = nI 0 by decide) kK) ?_
    refine xe (fun _ _ kK => x_istore_n dX8_whole_24 rfl (by decide) (show _ = [(3, .int (nI 0)), (1, .long (lN 0)), (0, .ref 88)] from rfl) kK) ?_
    have hl := l_X8_whole d h (q := q) hq1 (n - (q + 0)) 0 rfl (by omega)
    rw [show w8 b q 0 = 0 from wc_self b q] at hl
    refine Xe.imp (xe_loc (by simp) hl) ?_
    rintro _ _ ⟨rfl, rfl⟩
    exact ⟨by rw [if_neg (by omega)], by rw [if_neg (by omega)]⟩
  · -- pc 10
    have h7 := cv_b0 h7
    have he := pL_f h7
    refine xe (fun _ _ kK => x_aload_n dX8_whole_10 rfl 0 rfl kK) ?_
    refine xe (fun _ _ kK => x_iconst dX8_whole_11 (show _ = nI 1 by decide) kK) ?_
    refine xe (fun _ _ kK => x_aload_n dX8_whole_12 rfl 0 rfl kK) ?_
    refine xe (fun _ _ kK => x_get dX8_whole_13 fl_X8_138 (wK_i h.1.1) (gvl_i fz_8_2.2.2 (show e_i (mv T q) 514 88 = nI q from rfl)) kK) ?_
    refine xe_callV (a := 88) [.int (nI 1), .int (nI q)] dX8_whole_16 ml_X8_148 mf_X8_fail (wK_i h.1.1) (c_X8_fail d (T := (mv T q)) h.1 h.2.2.2.2.2.2 (nI 1) (nI q)) rfl rfl (Nat.le_of_ble_eq_true rfl) (Nat.le_of_ble_eq_true rfl) ?_
    rintro _ _ ⟨rfl, rfl⟩
    refine xe (fun _ _ kK => x_lconst dX8_whole_19 (show _ = lN 0 by decide) kK) ?_
    exact xe_retl dX8_whole_20 rfl (⟨by rw [if_pos he], by rw [if_pos he]⟩)
