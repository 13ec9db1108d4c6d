/-! what a method of the class may change: these fields, these rows -/
def FrG (I : List (Nat × Nat)) (A : List Nat) (T T' : TH) : Prop := e_K T' = e_K T ∧ e_r T' = e_r T ∧ e_len T' = e_len T ∧ e_ar T' = e_ar T ∧ e_n T' = e_n T ∧ e_s T' = e_s T ∧ e_sc T' = e_sc T ∧ (∀ g a, (g, a) ∉ I → e_i T' g a = e_i T g a) ∧ (∀ g a, (g, a) ∉ I → e_l T' g a = e_l T g a) ∧ (∀ a, a ∉ A → e_ai T' a = e_ai T a) ∧ ∀ a, a ∉ A → e_al T' a = e_al T a
theorem FrG.rf {I : List (Nat × Nat)} {A : List Nat} {T : TH} : FrG I A T T := ⟨rfl, rfl, rfl, rfl, rfl, rfl, rfl, fun _ _ _ => rfl, fun _ _ _ => rfl, fun _ _ => rfl, fun _ _ => rfl⟩
theorem FrG.tr {I : List (Nat × Nat)} {A : List Nat} {T T1 T2 : TH} (h : FrG I A T T1) (k : FrG I A T1 T2) : FrG I A T T2 := by
  obtain ⟨h1, h2, h3, h4, h5, h6, h7, h8, h9, h10, h11⟩ := h
  obtain ⟨k1, k2, k3, k4, k5, k6, k7, k8, k9, k10, k11⟩ := k
  exact ⟨k1.trans h1, k2.trans h2, k3.trans h3, k4.trans h4, k5.trans h5, k6.trans h6, k7.trans h7, fun g a q => (k8 g a q).trans (h8 g a q), fun g a q => (k9 g a q).trans (h9 g a q), fun a q => (k10 a q).trans (h10 a q), fun a q => (k11 a q).trans (h11 a q)⟩
theorem FrG.mono {I I' : List (Nat × Nat)} {A A' : List Nat} {T T1 : TH} (h : FrG I A T T1) (h1 : ∀ q ∈ I, q ∈ I') (h2 : ∀ a ∈ A, a ∈ A') : FrG I' A' T T1 :=
  ⟨h.1, h.2.1, h.2.2.1, h.2.2.2.1, h.2.2.2.2.1, h.2.2.2.2.2.1, h.2.2.2.2.2.2.1, fun g a q => h.2.2.2.2.2.2.2.1 g a (fun z => q (h1 _ z)), fun g a q => h.2.2.2.2.2.2.2.2.1 g a (fun z => q (h1 _ z)), fun a q => h.2.2.2.2.2.2.2.2.2.1 a (fun z => q (h2 a z)), fun a q => h.2.2.2.2.2.2.2.2.2.2 a (fun z => q (h2 a z))⟩
theorem FrG.si {I : List (Nat × Nat)} {A : List Nat} {T T1 : TH} (h : FrG I A T T1) {g a : Nat} (hg : (g, a) ∈ I) (v : Int32) : FrG I A T (s_i T1 g a v) := by
  obtain ⟨h1, h2, h3, h4, h5, h6, h7, h8, h9, h10, h11⟩ := h
  refine ⟨h1, h2, h3, h4, h5, h6, h7, fun g' a' q => ?_, h9, h10, h11⟩
  rw [q_i_i, if_neg (fun (z : g' = g ∧ a' = a) => q (by rw [z.1, z.2]; exact hg))]
  exact h8 g' a' q
theorem FrG.sl {I : List (Nat × Nat)} {A : List Nat} {T T1 : TH} (h : FrG I A T T1) {g a : Nat} (hg : (g, a) ∈ I) (v : Int64) : FrG I A T (s_l T1 g a v) := by
  obtain ⟨h1, h2, h3, h4, h5, h6, h7, h8, h9, h10, h11⟩ := h
  refine ⟨h1, h2, h3, h4, h5, h6, h7, h8, fun g' a' q => ?_, h10, h11⟩
  rw [q_l_l, if_neg (fun (z : g' = g ∧ a' = a) => q (by rw [z.1, z.2]; exact hg))]
  exact h9 g' a' q
theorem FrG.sai {I : List (Nat × Nat)} {A : List Nat} {T T1 : TH} (h : FrG I A T T1) {a : Nat} (ha : a ∈ A) (j : Nat) (v : Int32) : FrG I A T (s_ai T1 a j v) := by
  obtain ⟨h1, h2, h3, h4, h5, h6, h7, h8, h9, h10, h11⟩ := h
  refine ⟨h1, h2, h3, h4, h5, h6, h7, h8, h9, fun b q => ?_, h11⟩
  rw [← h10 b q]
  funext i
  rw [q_ai_ai, if_neg (fun (z : b = a ∧ i = j) => q (z.1 ▸ ha))]
theorem FrG.sal {I : List (Nat × Nat)} {A : List Nat} {T T1 : TH} (h : FrG I A T T1) {a : Nat} (ha : a ∈ A) (j : Nat) (v : Int64) : FrG I A T (s_al T1 a j v) := by
  obtain ⟨h1, h2, h3, h4, h5, h6, h7, h8, h9, h10, h11⟩ := h
  refine ⟨h1, h2, h3, h4, h5, h6, h7, h8, h9, h10, fun b q => ?_⟩
  rw [← h11 b q]
  funext i
  rw [q_al_al, if_neg (fun (z : b = a ∧ i = j) => q (z.1 ▸ ha))]
theorem FrG.i {I : List (Nat × Nat)} {A : List Nat} {T T' : TH} (h : FrG I A T T') {g a : Nat} (q : (g, a) ∉ I) : e_i T' g a = e_i T g a := h.2.2.2.2.2.2.2.1 g a q
theorem FrG.l {I : List (Nat × Nat)} {A : List Nat} {T T' : TH} (h : FrG I A T T') {g a : Nat} (q : (g, a) ∉ I) : e_l T' g a = e_l T g a := h.2.2.2.2.2.2.2.2.1 g a q
theorem FrG.ai {I : List (Nat × Nat)} {A : List Nat} {T T' : TH} (h : FrG I A T T') {a : Nat} (q : a ∉ A) : e_ai T' a = e_ai T a := h.2.2.2.2.2.2.2.2.2.1 a q
theorem FrG.al {I : List (Nat × Nat)} {A : List Nat} {T T' : TH} (h : FrG I A T T') {a : Nat} (q : a ∉ A) : e_al T' a = e_al T a := h.2.2.2.2.2.2.2.2.2.2 a q
theorem FrG.ci {I : List (Nat × Nat)} {A : List Nat} {T T' : TH} (h : FrG I A T T') (hC : CI T) : CI T' := by
  unfold CI ShI
  rw [h.1, h.2.1, h.2.2.1, h.2.2.2.1]
  exact hC
theorem FrG.shi {I : List (Nat × Nat)} {A : List Nat} {T T' : TH} {p : Nat} (h : FrG I A T T') (hC : ShI T p) : ShI T' p := by
  unfold ShI
  rw [h.1, h.2.1, h.2.2.1]
  exact hC
/-- the class's tape -/
def CBt (T : TH) (n : Nat) (b : Nat → Nat) : Prop := ∀ j, j < n → e_ai T 2 j &&& nI 255 = nI (b j) ∧ b j < 256
def LC (T : TH) (n : Nat) (b : Nat → Nat) (p : Nat) : Prop := CI T ∧ CBt T n b ∧ e_i T 258 1 = nI p ∧ e_i T 257 1 = nI n ∧ p ≤ n ∧ n ≤ 400
theorem LC.of {I : List (Nat × Nat)} {A : List Nat} {T T1 : TH} {n p q : Nat} {b : Nat → Nat} (h : LC T n b p) (hF : FrG I A T T1) (h2 : 2 ∉ A) (h7 : (257, 1) ∉ I) (hq : e_i T1 258 1 = nI q) (hqn : q ≤ n) : LC T1 n b q :=
  ⟨hF.ci h.1, fun j hj => by rw [hF.ai h2]; exact h.2.1 j hj, hq, (hF.i h7).trans h.2.2.2.1, hqn, h.2.2.2.2.2⟩
abbrev cmv (T : TH) (p : Nat) : TH := s_i T 258 1 (nI p)
abbrev cfl (T : TH) (k q : Nat) : TH := s_i (s_i T 259 1 (nI k)) 260 1 (nI q)
theorem LC.mv {T : TH} {n p : Nat} {b : Nat → Nat} (h : LC T n b p) {q : Nat} (hq : q ≤ n) : LC (cmv T q) n b q := h.of (I := [(258, 1)]) (A := []) (FrG.si FrG.rf (by decide) _) (by decide) (by decide) rfl hq

set_option maxHeartbeats 4000000 in
theorem c_X4_here (d : Nat) {T : TH} {n p : Nat} {b : Nat → Nat} (h : LC T n b p) : Xe m_X4_here d 0 [(0, .ref 1)] [] T (fun r T1 => r = some (.int (pk b n p)) ∧ T1 = T) := by
  have hpn := h.2.2.2.2.1
  have hn4 := h.2.2.2.2.2
  refine xe (fun _ _ kK => x_aload_n dX4_here_0 rfl 0 rfl kK) ?_
  refine xe (fun _ _ kK => x_get dX4_here_1 fl_X4_19 h.1.2.2.2.2.1 (gvl_i fz_4_2.2.2 (show e_i T 258 1 = nI p from h.2.2.1)) kK) ?_
  refine xe (fun _ _ kK => x_if_ltF (tgt := 44) dX4_here_4 (by decide) (nI_pos (by omega)) kK) ?_
  refine xe (fun _ _ kK => x_aload_n dX4_here_7 rfl 0 rfl kK) ?_
  refine xe (fun _ _ kK => x_get dX4_here_8 fl_X4_19 h.1.2.2.2.2.1 (gvl_i fz_4_2.2.2 (show e_i T 258 1 = nI p from h.2.2.1)) kK) ?_
  refine xe (fun _ _ kK => x_aload_n dX4_here_11 rfl 0 rfl kK) ?_
  refine xe (fun _ _ kK => x_get dX4_here_12 fl_X4_15 h.1.2.2.2.2.1 (gvl_i fz_4_1.2.2 (show e_i T 257 1 = nI n from h.2.2.2.1)) kK) ?_
  refine xe_icmp_ge (tgt := 44) dX4_here_15 (by decide) (fun h15 => ?_) (fun h15 => ?_)
  · -- pc 44
    have h15 := cv_le (by omega) (by omega) h15
    refine xe (fun _ _ kK => x_iconst dX4_here_44 (show _ = (-1) by decide) kK) ?_
    exact xe_reti dX4_here_45 rfl (⟨by rw [pk, if_neg (by omega)], rfl⟩)
  · -- pc 18
    have h15 := cv_nle (by omega) (by omega) h15
    refine xe (fun _ _ kK => x_aload_n dX4_here_18 rfl 0 rfl kK) ?_
    refine xe (fun _ _ kK => x_get dX4_here_19 fl_X4_19 h.1.2.2.2.2.1 (gvl_i fz_4_2.2.2 (show e_i T 258 1 = nI p from h.2.2.1)) kK) ?_
    refine xe (fun _ _ kK => x_sipush dX4_here_22 (show _ = nI 400 by decide) kK) ?_
    refine xe (fun _ _ kK => x_icmp_geF (tgt := 44) dX4_here_25 (by decide) (fun z9 => by have := cv_le (by omega) (by omega) z9; omega) kK) ?_
    refine xe (fun _ _ kK => x_aload_n dX4_here_28 rfl 0 rfl kK) ?_
    refine xe (fun _ _ kK => x_get dX4_here_29 fl_X4_9 h.1.2.2.2.2.1 (gvl_r1 fz_4_0.2.2 (show e_r T 256 1 = some 2 from h.1.2.2.2.2.2.1)) kK) ?_
    refine xe (fun _ _ kK => x_aload_n dX4_here_32 rfl 0 rfl kK) ?_
    refine xe (fun _ _ kK => x_get dX4_here_33 fl_X4_19 h.1.2.2.2.2.1 (gvl_i fz_4_2.2.2 (show e_i T 258 1 = nI p from h.2.2.1)) kK) ?_
    refine xe (fun _ _ kK => x_bald dX4_here_36 h.1.2.2.2.2.2.2.1 (show (nI p) = nI p from rfl) (by rw [h.1.2.2.2.2.2.2.2.1]; omega) (show e_ai T 2 p = e_ai T 2 p from rfl) kK) ?_
    refine xe (fun _ _ kK => x_sipush dX4_here_37 (show _ = nI 255 by decide) kK) ?_
    refine xe (fun _ _ kK => x_iand dX4_here_40 kK) ?_
    refine xe_ti (show _ = nI (b p) from (h.2.1 p (by omega)).1) ?_
    refine xe (fun _ _ kK => x_goto (tgt := 45) dX4_here_41 (by decide) kK) ?_
    exact xe_reti dX4_here_45 rfl (⟨by rw [pk, if_pos h15], rfl⟩)

set_option maxHeartbeats 4000000 in
theorem l_X4_next (d : Nat) {n : Nat} {b : Nat → Nat} : ∀ (k : Nat) (T : TH) (p : Nat), n - p = k → LC T n b p → Xe m_X4_next (d + 1) 0 [(0, .ref 1)] [] T (fun r T1 => r = some (.int (pk b n (sk b n p))) ∧ T1 = cmv T (sk b n p)) := by
  intro k
  induction k using Nat.strongRecOn with
  | ind k ih =>
    intro T p hk h
    subst hk
    have hpn := h.2.2.2.2.1
    have hn4 := h.2.2.2.2.2
    refine xe (fun _ _ kK => x_aload_n dX4_next_0 rfl 0 rfl kK) ?_
    refine xe (fun _ _ kK => x_get dX4_next_1 fl_X4_19 h.1.2.2.2.2.1 (gvl_i fz_4_2.2.2 (show e_i T 258 1 = nI p from h.2.2.1)) kK) ?_
    refine xe (fun _ _ kK => x_aload_n dX4_next_4 rfl 0 rfl kK) ?_
    refine xe (fun _ _ kK => x_get dX4_next_5 fl_X4_15 h.1.2.2.2.2.1 (gvl_i fz_4_1.2.2 (show e_i T 257 1 = nI n from h.2.2.2.1)) kK) ?_
    refine xe_icmp_ge (tgt := 42) dX4_next_8 (by decide) (fun h8 => ?_) (fun h8 => ?_)
    · -- pc 42
      have h8 := cv_le (by omega) (by omega) h8
      refine xe (fun _ _ kK => x_aload_n dX4_next_42 rfl 0 rfl kK) ?_
      refine xe_callV (a := 1) [] dX4_next_43 ml_X4_42 mf_X4_here h.1.2.2.2.2.1 (c_X4_here d h) rfl rfl (Nat.le_of_ble_eq_true rfl) (Nat.le_of_ble_eq_true rfl) ?_
      rintro _ T9 ⟨rfl, hTq9⟩
      refine xe_T hTq9 ?_
      exact xe_reti dX4_next_46 rfl (⟨by rw [sk_out h8], by rw [sk_out h8]; exact (si_self h.2.2.1).symm⟩)
    · -- pc 11
      have h8 := cv_nle (by omega) (by omega) h8
      have hbp := (h.2.1 p h8).2
      have hpk : pk b n p = nI (b p) := by rw [pk, if_pos h8]
      refine xe (fun _ _ kK => x_aload_n dX4_next_11 rfl 0 rfl kK) ?_
      refine xe_callV (a := 1) [] dX4_next_12 ml_X4_42 mf_X4_here h.1.2.2.2.2.1 (c_X4_here d h) rfl rfl (Nat.le_of_ble_eq_true rfl) (Nat.le_of_ble_eq_true rfl) ?_
      rintro _ T9 ⟨rfl, hTq9⟩
      refine xe_T hTq9 ?_
      rw [hpk]
      refine xe (fun _ _ kK => x_bipush dX4_next_15 (show _ = nI 10 by decide) kK) ?_
      refine xe_icmp_eq (tgt := 29) dX4_next_17 (by decide) (fun h17 => ?_) (fun h17 => ?_)
      · -- pc 29
        have h17 := cv_eq (by omega) (by omega) h17
        have hbl : bl (b p) = true := by rw [h17]; rfl
        refine xe (fun _ _ kK => x_aload_n dX4_next_29 rfl 0 rfl kK) ?_
        refine xe (fun _ _ kK => x_dup dX4_next_30 rfl kK) ?_
        refine xe (fun _ _ kK => x_get dX4_next_31 fl_X4_19 h.1.2.2.2.2.1 (gvl_i fz_4_2.2.2 (show e_i T 258 1 = nI p from h.2.2.1)) kK) ?_
        refine xe (fun _ _ kK => x_iconst dX4_next_34 (show _ = nI 1 by decide) kK) ?_
        refine xe (fun _ _ kK => x_iadd dX4_next_35 kK) ?_
        refine xe_ti (show _ = nI (p + 1) from nI_add p 1) ?_
        refine xe (fun _ _ kK => x_puti dX4_next_36 ⟨fl_X4_19, fz_4_2.1, fz_4_2.2.1⟩ (Or.inl fz_4_2.2.2) rfl rfl h.1.2.2.2.2.1 kK) ?_
        refine xe (fun _ _ kK => x_goto (tgt := 0) dX4_next_39 (by decide) kK) ?_
        refine Xe.imp (ih (n - (p + 1)) (by omega) (cmv T (p + 1)) (p + 1) rfl (h.mv (by omega))) ?_
        rintro _ _ ⟨rfl, rfl⟩
        exact ⟨by rw [sk_go h8 hbl], by rw [sk_go h8 hbl]; exact si_si _ _ _ _ _⟩
      · -- pc 20
        have h17 := cv_ne (by omega) (by omega) h17
        refine xe (fun _ _ kK => x_aload_n dX4_next_20 rfl 0 rfl kK) ?_
        refine xe_callV (a := 1) [] dX4_next_21 ml_X4_42 mf_X4_here h.1.2.2.2.2.1 (c_X4_here d h) rfl rfl (Nat.le_of_ble_eq_true rfl) (Nat.le_of_ble_eq_true rfl) ?_
        rintro _ T9 ⟨rfl, hTq9⟩
        refine xe_T hTq9 ?_
        rw [hpk]
        refine xe (fun _ _ kK => x_bipush dX4_next_24 (show _ = nI 32 by decide) kK) ?_
        refine xe_icmp_ne (tgt := 42) dX4_next_26 (by decide) (fun h26 => ?_) (fun h26 => ?_)
        · -- pc 42
          have h26 := cv_ne (by omega) (by omega) h26
          have hbl : bl (b p) = false := by simp [bl]; exact ⟨h17, h26⟩
          refine xe (fun _ _ kK => x_aload_n dX4_next_42 rfl 0 rfl kK) ?_
          refine xe_callV (a := 1) [] dX4_next_43 ml_X4_42 mf_X4_here h.1.2.2.2.2.1 (c_X4_here d h) rfl rfl (Nat.le_of_ble_eq_true rfl) (Nat.le_of_ble_eq_true rfl) ?_
          rintro _ T9 ⟨rfl, hTq9⟩
          refine xe_T hTq9 ?_
          exact xe_reti dX4_next_46 rfl (⟨by rw [sk_stop hbl], by rw [sk_stop hbl]; exact (si_self h.2.2.1).symm⟩)
        · -- pc 29
          have h26 := cv_eq (by omega) (by omega) h26
          have hbl : bl (b p) = true := by rw [h26]; rfl
          refine xe (fun _ _ kK => x_aload_n dX4_next_29 rfl 0 rfl kK) ?_
          refine xe (fun _ _ kK => x_dup dX4_next_30 rfl kK) ?_
          refine xe (fun _ _ kK => x_get dX4_next_31 fl_X4_19 h.1.2.2.2.2.1 (gvl_i fz_4_2.2.2 (show e_i T 258 1 = nI p from h.2.2.1)) kK) ?_
          refine xe (fun _ _ kK => x_iconst dX4_next_34 (show _ = nI 1 by decide) kK) ?_
          refine xe (fun _ _ kK => x_iadd dX4_next_35 kK) ?_
          refine xe_ti (show _ = nI (p + 1) from nI_add p 1) ?_
          refine xe (fun _ _ kK => x_puti dX4_next_36 ⟨fl_X4_19, fz_4_2.1, fz_4_2.2.1⟩ (Or.inl fz_4_2.2.2) rfl rfl h.1.2.2.2.2.1 kK) ?_
          refine xe (fun _ _ kK => x_goto (tgt := 0) dX4_next_39 (by decide) kK) ?_
          refine Xe.imp (ih (n - (p + 1)) (by omega) (cmv T (p + 1)) (p + 1) rfl (h.mv (by omega))) ?_
          rintro _ _ ⟨rfl, rfl⟩
          exact ⟨by rw [sk_go h8 hbl], by rw [sk_go h8 hbl]; exact si_si _ _ _ _ _⟩

theorem c_X4_next (d : Nat) {T : TH} {n p : Nat} {b : Nat → Nat} (h : LC T n b p) : Xe m_X4_next (d + 1) 0 [(0, .ref 1)] [] T (fun r T1 => r = some (.int (pk b n (sk b n p))) ∧ T1 = cmv T (sk b n p)) := l_X4_next d (n - p) T p rfl h

set_option maxHeartbeats 4000000 in
theorem c_X4_fail (d : Nat) {T : TH} (hC : CI T) (k q : Int32) : Xe m_X4_fail d 0 [(0, .ref 1), (1, .int k), (2, .int q)] [] T (fun r T1 => r = some (.int (nI 0)) ∧ T1 = s_i (s_i T 259 1 k) 260 1 q) := by
  refine xe (fun _ _ kK => x_aload_n dX4_fail_0 rfl 0 rfl kK) ?_
  refine xe (fun _ _ kK => x_iload_n dX4_fail_1 rfl 1 rfl kK) ?_
  refine xe (fun _ _ kK => x_puti dX4_fail_2 ⟨fl_X4_22, fz_4_3.1, fz_4_3.2.1⟩ (Or.inl fz_4_3.2.2) rfl rfl hC.2.2.2.2.1 kK) ?_
  refine xe (fun _ _ kK => x_aload_n dX4_fail_5 rfl 0 rfl kK) ?_
  refine xe (fun _ _ kK => x_iload_n dX4_fail_6 rfl 2 rfl kK) ?_
  refine xe (fun _ _ kK => x_puti dX4_fail_7 ⟨fl_X4_25, fz_4_4.1, fz_4_4.2.1⟩ (Or.inl fz_4_4.2.2) rfl rfl (wK_i hC.2.2.2.2.1) kK) ?_
  refine xe (fun _ _ kK => x_iconst dX4_fail_10 (show _ = nI 0 by decide) kK) ?_
  exact xe_retz dX4_fail_11 rfl (by first | exact Or.inl rfl | exact Or.inr rfl) (⟨rfl, rfl⟩)

set_option maxHeartbeats 4000000 in
theorem c_X4_failHere (d : Nat) {T : TH} (hC : CI T) {q : Nat} (hq : e_i T 258 1 = nI q) (k : Nat) : Xe m_X4_failHere (d + 1) 0 [(0, .ref 1), (1, .int (nI k))] [] T (fun r T1 => r = some (.int (nI 0)) ∧ T1 = cfl T k q) := by
  refine xe (fun _ _ kK => x_aload_n dX4_failHere_0 rfl 0 rfl kK) ?_
  refine xe (fun _ _ kK => x_iload_n dX4_failHere_1 rfl 1 rfl kK) ?_
  refine xe (fun _ _ kK => x_aload_n dX4_failHere_2 rfl 0 rfl kK) ?_
  refine xe (fun _ _ kK => x_get dX4_failHere_3 fl_X4_19 hC.2.2.2.2.1 (gvl_i fz_4_2.2.2 (show e_i T 258 1 = nI q from hq)) kK) ?_
  refine xe_callV (a := 1) [.int (nI k), .int (nI q)] dX4_failHere_6 ml_X4_38 mf_X4_fail hC.2.2.2.2.1 (c_X4_fail d hC (nI k) (nI q)) rfl rfl (Nat.le_of_ble_eq_true rfl) (Nat.le_of_ble_eq_true rfl) ?_
  rintro _ _ ⟨rfl, rfl⟩
  exact xe_retz dX4_failHere_9 rfl (by first | exact Or.inl rfl | exact Or.inr rfl) (⟨rfl, rfl⟩)

set_option maxHeartbeats 4000000 in
theorem c_X4_tooMany (d : Nat) {T : TH} (hC : CI T) {q : Nat} (hq : e_i T 261 1 = nI q) : Xe m_X4_failAtLetterTooMany (d + 1) 0 [(0, .ref 1)] [] T (fun r T1 => r = some (.int (nI 0)) ∧ T1 = cfl T 1 (q + 8)) := by
  refine xe (fun _ _ kK => x_aload_n dX4_failAtLetterTooMany_0 rfl 0 rfl kK) ?_
  refine xe (fun _ _ kK => x_iconst dX4_failAtLetterTooMany_1 (show _ = nI 1 by decide) kK) ?_
  refine xe (fun _ _ kK => x_aload_n dX4_failAtLetterTooMany_2 rfl 0 rfl kK) ?_
  refine xe (fun _ _ kK => x_get dX4_failAtLetterTooMany_3 fl_X4_28 hC.2.2.2.2.1 (gvl_i fz_4_5.2.2 (show e_i T 261 1 = nI q from hq)) kK) ?_
  refine xe (fun _ _ kK => x_bipush dX4_failAtLetterTooMany_6 (show _ = nI 8 by decide) kK) ?_
  refine xe (fun _ _ kK => x_iadd dX4_failAtLetterTooMany_8 kK) ?_
  refine xe_ti (show _ = nI (q + 8) from nI_add q 8) ?_
  refine xe_callV (a := 1) [.int (nI 1), .int (nI (q + 8))] dX4_failAtLetterTooMany_9 ml_X4_38 mf_X4_fail hC.2.2.2.2.1 (c_X4_fail d hC (nI 1) (nI (q + 8))) rfl rfl (Nat.le_of_ble_eq_true rfl) (Nat.le_of_ble_eq_true rfl) ?_
  rintro _ _ ⟨rfl, rfl⟩
  exact xe_retz dX4_failAtLetterTooMany_12 rfl (by first | exact Or.inl rfl | exact Or.inr rfl) (⟨rfl, rfl⟩)

set_option maxHeartbeats 4000000 in
theorem c_X4_begin (d : Nat) {T : TH} (hC : CI T) : Xe m_X4_begin d 0 [(0, .ref 1)] [] T (fun r T1 => r = none ∧ T1 = (s_i (s_i (s_i T 258 1 (nI 0)) 259 1 (nI 0)) 260 1 (-1))) := by
  refine xe (fun _ _ kK => x_aload_n dX4_begin_0 rfl 0 rfl kK) ?_
  refine xe (fun _ _ kK => x_iconst dX4_begin_1 (show _ = nI 0 by decide) kK) ?_
  refine xe (fun _ _ kK => x_puti dX4_begin_2 ⟨fl_X4_19, fz_4_2.1, fz_4_2.2.1⟩ (Or.inl fz_4_2.2.2) rfl rfl hC.2.2.2.2.1 kK) ?_
  refine xe (fun _ _ kK => x_aload_n dX4_begin_5 rfl 0 rfl kK) ?_
  refine xe (fun _ _ kK => x_iconst dX4_begin_6 (show _ = nI 0 by decide) kK) ?_
  refine xe (fun _ _ kK => x_puti dX4_begin_7 ⟨fl_X4_22, fz_4_3.1, fz_4_3.2.1⟩ (Or.inl fz_4_3.2.2) rfl rfl (wK_i hC.2.2.2.2.1) kK) ?_
  refine xe (fun _ _ kK => x_aload_n dX4_begin_10 rfl 0 rfl kK) ?_
  refine xe (fun _ _ kK => x_iconst dX4_begin_11 (show _ = (-1) by decide) kK) ?_
  refine xe (fun _ _ kK => x_puti dX4_begin_12 ⟨fl_X4_25, fz_4_4.1, fz_4_4.2.1⟩ (Or.inl fz_4_4.2.2) rfl rfl (wK_i (wK_i hC.2.2.2.2.1)) kK) ?_
  exact xe_retv dX4_begin_15 rfl (⟨rfl, rfl⟩)

set_option maxHeartbeats 4000000 in
theorem c_X4_pass (d : Nat) {T : TH} {n p : Nat} {b : Nat → Nat} (h : LC T n b p) {c : Nat} (hc : c < 256) : Xe m_X4_pass (d + 2) 0 [(0, .ref 1), (1, .int (nI c))] [] T (if sk b n p < n ∧ b (sk b n p) = c then (fun r T1 => r = some (.int (nI 1)) ∧ T1 = cmv T (sk b n p + 1)) else (fun r T1 => r = some (.int (nI 0)) ∧ T1 = cfl (cmv T (sk b n p)) 1 (sk b n p))) := by
  have hpn := h.2.2.2.2.1
  have hn4 := h.2.2.2.2.2
  have hq1 := sk_n (b := b) hpn
  have hB : ∀ j, j < n → b j < 256 := fun j hj => (h.2.1 j hj).2
  refine xe (fun _ _ kK => x_aload_n dX4_pass_0 rfl 0 rfl kK) ?_
  refine xe_callV (a := 1) [] dX4_pass_1 ml_X4_46 mf_X4_next h.1.2.2.2.2.1 (c_X4_next d h) rfl rfl (Nat.le_of_ble_eq_true rfl) (Nat.le_of_ble_eq_true rfl) ?_
  rintro _ _ ⟨rfl, rfl⟩
  have hC1 := (h.mv hq1).1
  refine xe (fun _ _ kK => x_iload_n dX4_pass_4 rfl 1 rfl kK) ?_
  by_cases h5 : sk b n p < n ∧ b (sk b n p) = c
  · -- pc 5
    refine xe (fun _ _ kK => x_icmp_eqT (tgt := 14) dX4_pass_5 (by decide) (pk_is h5) kK) ?_
    refine xe (fun _ _ kK => x_aload_n dX4_pass_14 rfl 0 rfl kK) ?_
    refine xe (fun _ _ kK => x_dup dX4_pass_15 rfl kK) ?_
    refine xe (fun _ _ kK => x_get dX4_pass_16 fl_X4_19 (wK_i hC1.2.2.2.2.1) (gvl_i fz_4_2.2.2 (show e_i (cmv T (sk b n p)) 258 1 = nI (sk b n p) from rfl)) kK) ?_
    refine xe (fun _ _ kK => x_iconst dX4_pass_19 (show _ = nI 1 by decide) kK) ?_
    refine xe (fun _ _ kK => x_iadd dX4_pass_20 kK) ?_
    refine xe_ti (show _ = nI ((sk b n p) + 1) from nI_add (sk b n p) 1) ?_
    refine xe (fun _ _ kK => x_puti dX4_pass_21 ⟨fl_X4_19, fz_4_2.1, fz_4_2.2.1⟩ (Or.inl fz_4_2.2.2) rfl rfl (wK_i hC1.2.2.2.2.1) kK) ?_
    refine xe (fun _ _ kK => x_iconst dX4_pass_24 (show _ = nI 1 by decide) kK) ?_
    rw [if_pos h5]
    exact xe_retz dX4_pass_25 rfl (by first | exact Or.inl rfl | exact Or.inr rfl) (⟨rfl, si_si _ _ _ _ _⟩)
  · -- pc 5
    refine xe (fun _ _ kK => x_icmp_eqF (tgt := 14) dX4_pass_5 (by decide) (pk_not hB hc h5) kK) ?_
    refine xe (fun _ _ kK => x_aload_n dX4_pass_8 rfl 0 rfl kK) ?_
    refine xe (fun _ _ kK => x_iconst dX4_pass_9 (show _ = nI 1 by decide) kK) ?_
    refine xe_callV (a := 1) [.int (nI 1)] dX4_pass_10 ml_X4_49 mf_X4_failHere (wK_i hC1.2.2.2.2.1) (c_X4_failHere d hC1 (q := sk b n p) rfl 1) rfl rfl (Nat.le_of_ble_eq_true rfl) (Nat.le_of_ble_eq_true rfl) ?_
    rintro _ _ ⟨rfl, rfl⟩
    rw [if_neg h5]
    exact xe_retz dX4_pass_13 rfl (by first | exact Or.inl rfl | exact Or.inr rfl) (⟨rfl, rfl⟩)

theorem c_X7_isLetter_pk (d : Nat) (T : TH) {n p : Nat} {b : Nat → Nat} (hB : ∀ j, j < n → b j < 256) : Xe m_X7_isLetter d 0 [(0, .int (pk b n p))] [] T (fun r T1 => r = some (.int (bI (pL b n p))) ∧ T1 = T) := by
  unfold pk pL
  by_cases h : p < n
  · rw [if_pos h, decide_eq_true h, Bool.true_and]; exact c_X7_isLetter d T (by have := hB p h; omega)
  · rw [if_neg h, decide_eq_false h, Bool.false_and]; exact c_X7_isLetter_m d T

theorem c_X7_isDigit_pk (d : Nat) (T : TH) {n p : Nat} {b : Nat → Nat} (hB : ∀ j, j < n → b j < 256) : Xe m_X7_isDigit d 0 [(0, .int (pk b n p))] [] T (fun r T1 => r = some (.int (bI (pD b n p))) ∧ T1 = T) := by
  unfold pk pD
  by_cases h : p < n
  · rw [if_pos h, decide_eq_true h, Bool.true_and]; exact c_X7_isDigit d T (by have := hB p h; omega)
  · rw [if_neg h, decide_eq_false h, Bool.false_and]; exact c_X7_isDigit_m d T

set_option maxHeartbeats 4000000 in
theorem l_X4_readWord (d : Nat) {n q : Nat} {b : Nat → Nat} {P : Option Value → TH → Prop} : ∀ (m : Nat) (T : TH) (p : Nat), n - p = m → q ≤ p → LC T n b p → (∀ T1, FrG [(258, 1)] [] T T1 → e_i T1 258 1 = nI (we b n p) → Xe m_X4_readWord (d + 2) 66 [(1, .long (lN (wc b q (we b n p)))), (0, .ref 1)] [] T1 P) → Xe m_X4_readWord (d + 2) 15 [(1, .long (lN (wc b q p))), (0, .ref 1)] [] T P := by
  intro m
  induction m using Nat.strongRecOn with
  | ind m ih =>
    intro T p hm hqp h hno
    subst hm
    have hpn := h.2.2.2.2.1
    have hn4 := h.2.2.2.2.2
    refine xe (fun _ _ kK => x_aload_n dX4_readWord_15 rfl 1 rfl kK) ?_
    refine xe (fun _ _ kK => x_get dX4_readWord_16 fl_X4_19 h.1.2.2.2.2.1 (gvl_i fz_4_2.2.2 (show e_i T 258 1 = nI p from h.2.2.1)) kK) ?_
    refine xe (fun _ _ kK => x_aload_n dX4_readWord_19 rfl 1 rfl kK) ?_
    refine xe (fun _ _ kK => x_get dX4_readWord_20 fl_X4_15 h.1.2.2.2.2.1 (gvl_i fz_4_1.2.2 (show e_i T 257 1 = nI n from h.2.2.2.1)) kK) ?_
    refine xe_icmp_ge (tgt := 66) dX4_readWord_23 (by decide) (fun h23 => ?_) (fun h23 => ?_)
    · -- pc 66
      have h23 := cv_le (by omega) (by omega) h23
      rw [we_out h23] at hno
      exact hno T FrG.rf h.2.2.1
    · -- pc 26
      have h23 := cv_nle (by omega) (by omega) h23
      have hB : ∀ j, j < n → b j < 256 := fun j hj => (h.2.1 j hj).2
      have hbp := hB p h23
      refine xe (fun _ _ kK => x_aload_n dX4_readWord_26 rfl 1 rfl kK) ?_
      refine xe_callV (a := 1) [] dX4_readWord_27 ml_X4_42 mf_X4_here h.1.2.2.2.2.1 (c_X4_here (d + 1) h) rfl rfl (Nat.le_of_ble_eq_true rfl) (Nat.le_of_ble_eq_true rfl) ?_
      rintro _ T9 ⟨rfl, hTq9⟩
      refine xe_T hTq9 ?_
      refine xe_callSN [.int (pk b n p)] dX4_readWord_30 ml_X4_53 mf_X7_isLetter (c_X7_isLetter_pk (d + 1) T hB) rfl rfl (Nat.le_of_ble_eq_true rfl) (Nat.le_of_ble_eq_true rfl) ?_
      rintro _ T9 ⟨rfl, hTq9⟩
      refine xe_T hTq9 ?_
      refine xe_if_eq (tgt := 66) dX4_readWord_33 (by decide) (fun h33 => ?_) (fun h33 => ?_)
      · -- pc 66
        have h33 := cv_b0 h33
        have hL : isL (b p) = false := by unfold pL at h33; rw [decide_eq_true h23, Bool.true_and] at h33; exact h33
        rw [we_stop hL] at hno
        exact hno T FrG.rf h.2.2.1
      · -- pc 36
        have h33 := cv_b1 h33
        have hL : isL (b p) = true := by unfold pL at h33; rw [decide_eq_true h23, Bool.true_and] at h33; exact h33
        have hL97 : 97 ≤ b p := by unfold isL at hL; simp at hL; exact hL.1
        refine xe (fun _ _ kK => x_lload_n dX4_readWord_36 rfl 0 rfl kK) ?_
        refine xe (fun _ _ kK => x_ldc2 dX4_readWord_37 kl_X4_56 kK) ?_
        refine xe_tl (show _ = lN 27 from by decide) ?_
        refine xe (fun _ _ kK => x_lmul dX4_readWord_40 kK) ?_
        refine xe_tl (show _ = lN ((wc b q p) * 27) from lN_mul (wc b q p) 27) ?_
        refine xe (fun _ _ kK => x_aload_n dX4_readWord_41 rfl 1 rfl kK) ?_
        refine xe_callV (a := 1) [] dX4_readWord_42 ml_X4_42 mf_X4_here h.1.2.2.2.2.1 (c_X4_here (d + 1) h) rfl rfl (Nat.le_of_ble_eq_true rfl) (Nat.le_of_ble_eq_true rfl) ?_
        rintro _ T9 ⟨rfl, hTq9⟩
        refine xe_T hTq9 ?_
        rw [show pk b n p = nI (b p) by rw [pk, if_pos h23]]
        refine xe (fun _ _ kK => x_bipush dX4_readWord_45 (show _ = nI 97 by decide) kK) ?_
        refine xe (fun _ _ kK => x_isub dX4_readWord_47 kK) ?_
        refine xe_ti (show _ = nI (b p - 97) from pk_sub hL97) ?_
        refine xe (fun _ _ kK => x_iconst dX4_readWord_48 (show _ = nI 1 by decide) kK) ?_
        refine xe (fun _ _ kK => x_iadd dX4_readWord_49 kK) ?_
        refine xe_ti (show _ = nI ((b p - 97) + 1) from nI_add (b p - 97) 1) ?_
        refine xe (fun _ _ kK => x_i2l dX4_readWord_50 kK) ?_
        refine xe_tl (show _ = lN ((b p - 97) + 1) from nI_l (by omega)) ?_
        refine xe (fun _ _ kK => x_ladd dX4_readWord_51 kK) ?_
        refine xe_tl (show _ = lN (((wc b q p) * 27) + ((b p - 97) + 1)) from lN_add ((wc b q p) * 27) ((b p - 97) + 1)) ?_
        refine xe (fun _ _ kK => x_lstore_n dX4_readWord_52 rfl (by decide) (show _ = [(1, .long (lN (((wc b q p) * 27) + ((b p - 97) + 1)))), (0, .ref 1)] from rfl) kK) ?_
        refine xe (fun _ _ kK => x_aload_n dX4_readWord_53 rfl 1 rfl kK) ?_
        refine xe (fun _ _ kK => x_dup dX4_readWord_54 rfl kK) ?_
        refine xe (fun _ _ kK => x_get dX4_readWord_55 fl_X4_19 h.1.2.2.2.2.1 (gvl_i fz_4_2.2.2 (show e_i T 258 1 = nI p from h.2.2.1)) kK) ?_
        refine xe (fun _ _ kK => x_iconst dX4_readWord_58 (show _ = nI 1 by decide) kK) ?_
        refine xe (fun _ _ kK => x_iadd dX4_readWord_59 kK) ?_
        refine xe_ti (show _ = nI (p + 1) from nI_add p 1) ?_
        refine xe (fun _ _ kK => x_puti dX4_readWord_60 ⟨fl_X4_19, fz_4_2.1, fz_4_2.2.1⟩ (Or.inl fz_4_2.2.2) rfl rfl h.1.2.2.2.2.1 kK) ?_
        refine xe (fun _ _ kK => x_goto (tgt := 15) dX4_readWord_63 (by decide) kK) ?_
        refine xe_loc (L' := [(1, .long (lN (wc b q (p + 1)))), (0, .ref 1)]) (by rw [wc_step hqp, show b p - 96 = b p - 97 + 1 by omega, Nat.mul_comm]; simp) ?_
        refine ih (n - (p + 1)) (by omega) (cmv T (p + 1)) (p + 1) rfl (by omega) (h.mv (by omega)) (fun T1 hF1 h1 => ?_)
        rw [← we_go h23 hL] at h1 ⊢
        exact hno T1 (FrG.tr (FrG.si FrG.rf (by decide) _) hF1) h1

/-- the word read: where it begins, how long it is, its number (0 when it is too long) -/
def cwc (b : Nat → Nat) (q e : Nat) : Nat := if 8 < e - q then 0 else wc b q e
def WR (T1 : TH) (b : Nat → Nat) (q e : Nat) : Prop := e_i T1 258 1 = nI e ∧ e_i T1 261 1 = nI q ∧ e_i T1 262 1 = nI (e - q) ∧ e_l T1 263 1 = lN (cwc b q e)

set_option maxHeartbeats 4000000 in
theorem c_X4_readWord (d : Nat) {T : TH} {n p : Nat} {b : Nat → Nat} (h : LC T n b p) : Xe m_X4_readWord (d + 2) 0 [(0, .ref 1)] [] T (fun r T1 => r = none ∧ FrG [(258, 1), (261, 1), (262, 1), (263, 1)] [] T T1 ∧ WR T1 b (sk b n p) (we b n (sk b n p))) := by
  have hpn := h.2.2.2.2.1
  have hn4 := h.2.2.2.2.2
  have hq1 := sk_n (b := b) hpn
  have he0 := we_ge b n (sk b n p)
  have he1 := we_n (b := b) hq1
  refine xe (fun _ _ kK => x_aload_n dX4_readWord_0 rfl 0 rfl kK) ?_
  refine xe_callV (a := 1) [] dX4_readWord_1 ml_X4_46 mf_X4_next h.1.2.2.2.2.1 (c_X4_next d h) rfl rfl (Nat.le_of_ble_eq_true rfl) (Nat.le_of_ble_eq_true rfl) ?_
  rintro _ _ ⟨rfl, rfl⟩
  have h1 := h.mv hq1
  refine xe (fun _ _ kK => x_pop dX4_readWord_4 rfl kK) ?_
  refine xe (fun _ _ kK => x_aload_n dX4_readWord_5 rfl 0 rfl kK) ?_
  refine xe (fun _ _ kK => x_aload_n dX4_readWord_6 rfl 0 rfl kK) ?_
  refine xe (fun _ _ kK => x_get dX4_readWord_7 fl_X4_19 (wK_i h1.1.2.2.2.2.1) (gvl_i fz_4_2.2.2 (show e_i (cmv T (sk b n p)) 258 1 = nI (sk b n p) from rfl)) kK) ?_
  refine xe (fun _ _ kK => x_puti dX4_readWord_10 ⟨fl_X4_28, fz_4_5.1, fz_4_5.2.1⟩ (Or.inl fz_4_5.2.2) rfl rfl (wK_i h1.1.2.2.2.2.1) kK) ?_
  refine xe (fun _ _ kK => x_lconst dX4_readWord_13 (show _ = lN 0 by decide) kK) ?_
  refine xe (fun _ _ kK => x_lstore_n dX4_readWord_14 rfl (by decide) (show _ = [(1, .long (lN 0)), (0, .ref 1)] from rfl) kK) ?_
  have hF1 : FrG [(258, 1), (261, 1), (262, 1), (263, 1)] [] T (s_i (cmv T (sk b n p)) 261 1 (nI (sk b n p))) := (FrG.si (FrG.si FrG.rf (by decide) _) (by decide) _)
  have h2 : LC (s_i (cmv T (sk b n p)) 261 1 (nI (sk b n p))) n b (sk b n p) := h.of hF1 (by decide) (by decide) rfl hq1
  refine xe_loc (L' := [(1, .long (lN (wc b (sk b n p) (sk b n p)))), (0, .ref 1)]) (by rw [wc_self]; simp) ?_
  refine l_X4_readWord d (n - (sk b n p)) (s_i (cmv T (sk b n p)) 261 1 (nI (sk b n p))) (sk b n p) rfl (Nat.le_refl _) h2 (fun T2 hF2 h3 => ?_)
  have hF3 : FrG [(258, 1), (261, 1), (262, 1), (263, 1)] [] T T2 := FrG.tr hF1 (hF2.mono (by decide) (by decide))
  have h4 : e_i T2 261 1 = nI (sk b n p) := (hF2.i (by decide)).trans rfl
  have hC2 := hF3.ci h.1
  refine xe (fun _ _ kK => x_aload_n dX4_readWord_66 rfl 1 rfl kK) ?_
  refine xe (fun _ _ kK => x_aload_n dX4_readWord_67 rfl 1 rfl kK) ?_
  refine xe (fun _ _ kK => x_get dX4_readWord_68 fl_X4_19 hC2.2.2.2.2.1 (gvl_i fz_4_2.2.2 (show e_i T2 258 1 = nI (we b n (sk b n p)) from h3)) kK) ?_
  refine xe (fun _ _ kK => x_aload_n dX4_readWord_71 rfl 1 rfl kK) ?_
  refine xe (fun _ _ kK => x_get dX4_readWord_72 fl_X4_28 hC2.2.2.2.2.1 (gvl_i fz_4_5.2.2 (show e_i T2 261 1 = nI (sk b n p) from h4)) kK) ?_
  refine xe (fun _ _ kK => x_isub dX4_readWord_75 kK) ?_
  refine xe_ti (show _ = nI ((we b n (sk b n p)) - (sk b n p)) from pk_sub (by omega)) ?_
  refine xe (fun _ _ kK => x_puti dX4_readWord_76 ⟨fl_X4_31, fz_4_6.1, fz_4_6.2.1⟩ (Or.inl fz_4_6.2.2) rfl rfl hC2.2.2.2.2.1 kK) ?_
  refine xe (fun _ _ kK => x_aload_n dX4_readWord_79 rfl 1 rfl kK) ?_
  refine xe (fun _ _ kK => x_aload_n dX4_readWord_80 rfl 1 rfl kK) ?_
  refine xe (fun _ _ kK => x_get dX4_readWord_81 fl_X4_31 (wK_i hC2.2.2.2.2.1) (gvl_i fz_4_6.2.2 (show e_i (s_i T2 262 1 (nI ((we b n (sk b n p)) - (sk b n p)))) 262 1 = nI ((we b n (sk b n p)) - (sk b n p)) from rfl)) kK) ?_
  refine xe (fun _ _ kK => x_bipush dX4_readWord_84 (show _ = nI 8 by decide) kK) ?_
  refine xe_icmp_le (tgt := 93) dX4_readWord_86 (by decide) (fun h86 => ?_) (fun h86 => ?_)
  · -- pc 93
    have h86 := cv_le (by omega) (by omega) h86
    refine xe (fun _ _ kK => x_lload_n dX4_readWord_93 rfl 0 rfl kK) ?_
    refine xe (fun _ _ kK => x_putl dX4_readWord_94 ⟨fl_X4_34, fz_4_7.1, fz_4_7.2.1⟩ fz_4_7.2.2 rfl rfl (wK_i hC2.2.2.2.2.1) kK) ?_
    exact xe_retv dX4_readWord_97 rfl (⟨rfl, FrG.tr hF3 (FrG.sl (FrG.si FrG.rf (by decide) _) (by decide) _), (wi_l (wi_i (fun q => absurd q.1 (by decide)) h3)), (wi_l (wi_i (fun q => absurd q.1 (by decide)) h4)), by simp [q_i_i, q_i_l, q_i_ai, q_i_al, q_ai_ai, q_ai_i, q_ai_l, q_ai_al, q_al_al, q_al_i, q_al_ai, q_al_l, q_l_i, q_l_l, q_l_ai, q_l_al], by rw [cwc, if_neg (by omega)]; simp [q_i_i, q_i_l, q_i_ai, q_i_al, q_ai_ai, q_ai_i, q_ai_l, q_ai_al, q_al_al, q_al_i, q_al_ai, q_al_l, q_l_i, q_l_l, q_l_ai, q_l_al]⟩)
  · -- pc 89
    have h86 := cv_nle (by omega) (by omega) h86
    refine xe (fun _ _ kK => x_lconst dX4_readWord_89 (show _ = lN 0 by decide) kK) ?_
    refine xe (fun _ _ kK => x_goto (tgt := 94) dX4_readWord_90 (by decide) kK) ?_
    refine xe (fun _ _ kK => x_putl dX4_readWord_94 ⟨fl_X4_34, fz_4_7.1, fz_4_7.2.1⟩ fz_4_7.2.2 rfl rfl (wK_i hC2.2.2.2.2.1) kK) ?_
    exact xe_retv dX4_readWord_97 rfl (⟨rfl, FrG.tr hF3 (FrG.sl (FrG.si FrG.rf (by decide) _) (by decide) _), (wi_l (wi_i (fun q => absurd q.1 (by decide)) h3)), (wi_l (wi_i (fun q => absurd q.1 (by decide)) h4)), by simp [q_i_i, q_i_l, q_i_ai, q_i_al, q_ai_ai, q_ai_i, q_ai_l, q_ai_al, q_al_al, q_al_i, q_al_ai, q_al_l, q_l_i, q_l_l, q_l_ai, q_l_al], by rw [cwc, if_pos (by omega)]; simp [q_i_i, q_i_l, q_i_ai, q_i_al, q_ai_ai, q_ai_i, q_ai_l, q_ai_al, q_al_al, q_al_i, q_al_ai, q_al_l, q_l_i, q_l_l, q_l_ai, q_l_al]⟩)

set_option maxHeartbeats 4000000 in
theorem c_X4_put (d : Nat) {T : TH} (hC : CI T) {n : Nat} (hn : e_i T 257 1 = nI n) (hn4 : n + 4 ≤ 400) (w : Int32) : Xe m_X4_put d 0 [(0, .ref 1), (1, .int w)] [] T (fun r T1 => r = none ∧ FrG [(257, 1)] [2] T T1 ∧ e_i T1 257 1 = nI (n + 4) ∧ ∀ j, e_ai T1 2 j &&& nI 255 = if n ≤ j ∧ j < n + 4 then nI (bytW w (j - n)) else e_ai T 2 j &&& nI 255) := by
  refine xe (fun _ _ kK => x_bipush dX4_put_0 (show _ = nI 24 by decide) kK) ?_
  refine xe (fun _ _ kK => x_istore_n dX4_put_2 rfl (by decide) (show _ = [(2, .int (nI 24)), (0, .ref 1), (1, .int w)] from rfl) kK) ?_
  refine xe (fun _ _ kK => x_iload_n dX4_put_3 rfl 0 rfl kK) ?_
  refine xe (fun _ _ kK => x_if_ltF (tgt := 46) dX4_put_4 (by decide) (by decide) kK) ?_
  refine xe (fun _ _ kK => x_aload_n dX4_put_7 rfl 1 rfl kK) ?_
  refine xe (fun _ _ kK => x_get dX4_put_8 fl_X4_15 hC.2.2.2.2.1 (gvl_i fz_4_1.2.2 (show e_i T 257 1 = nI n from hn)) kK) ?_
  refine xe (fun _ _ kK => x_sipush dX4_put_11 (show _ = nI 400 by decide) kK) ?_
  refine xe (fun _ _ kK => x_icmp_geF (tgt := 46) dX4_put_14 (by decide) (fun z9 => by have := cv_le (by omega) (by omega) z9; omega) kK) ?_
  refine xe (fun _ _ kK => x_aload_n dX4_put_17 rfl 1 rfl kK) ?_
  refine xe (fun _ _ kK => x_get dX4_put_18 fl_X4_9 hC.2.2.2.2.1 (gvl_r1 fz_4_0.2.2 (show e_r T 256 1 = some 2 from hC.2.2.2.2.2.1)) kK) ?_
  refine xe (fun _ _ kK => x_aload_n dX4_put_21 rfl 1 rfl kK) ?_
  refine xe (fun _ _ kK => x_get dX4_put_22 fl_X4_15 hC.2.2.2.2.1 (gvl_i fz_4_1.2.2 (show e_i T 257 1 = nI n from hn)) kK) ?_
  refine xe (fun _ _ kK => x_iload_n dX4_put_25 rfl 2 rfl kK) ?_
  refine xe (fun _ _ kK => x_iload_n dX4_put_26 rfl 0 rfl kK) ?_
  refine xe (fun _ _ kK => x_iushr dX4_put_27 kK) ?_
  refine xe (fun _ _ kK => x_i2b dX4_put_28 kK) ?_
  refine xe (fun _ _ kK => x_bast dX4_put_29 hC.2.2.2.2.2.2.1 (show (nI n) = nI n from rfl) (show n < e_len T 2 by rw [hC.2.2.2.2.2.2.2.1]; omega) kK) ?_
  refine xe (fun _ _ kK => x_aload_n dX4_put_30 rfl 1 rfl kK) ?_
  refine xe (fun _ _ kK => x_dup dX4_put_31 rfl kK) ?_
  refine xe (fun _ _ kK => x_get dX4_put_32 fl_X4_15 (wK_ai hC.2.2.2.2.1) (gvl_i fz_4_1.2.2 (show e_i (s_ai T 2 n ((((w.toUInt32 >>> ((nI 24).toUInt32 &&& Int32.toUInt32 31)).toInt32).toInt8.toInt32).toInt8.toInt32)) 257 1 = nI n from (wi_ai hn))) kK) ?_
  refine xe (fun _ _ kK => x_iconst dX4_put_35 (show _ = nI 1 by decide) kK) ?_
  refine xe (fun _ _ kK => x_iadd dX4_put_36 kK) ?_
  refine xe_ti (show _ = nI (n + 1) from nI_add n 1) ?_
  refine xe (fun _ _ kK => x_puti dX4_put_37 ⟨fl_X4_15, fz_4_1.1, fz_4_1.2.1⟩ (Or.inl fz_4_1.2.2) rfl rfl (wK_ai hC.2.2.2.2.1) kK) ?_
  refine xe (fun _ _ kK => x_iinc dX4_put_40 0 rfl (show (nI 24) + Int32.ofInt (-8) = nI 16 by decide) (by decide) (show _ = [(2, .int (nI 16)), (0, .ref 1), (1, .int w)] from rfl) kK) ?_
  refine xe (fun _ _ kK => x_goto (tgt := 3) dX4_put_43 (by decide) kK) ?_
  refine xe (fun _ _ kK => x_iload_n dX4_put_3 rfl 0 rfl kK) ?_
  refine xe (fun _ _ kK => x_if_ltF (tgt := 46) dX4_put_4 (by decide) (by decide) kK) ?_
  refine xe (fun _ _ kK => x_aload_n dX4_put_7 rfl 1 rfl kK) ?_
  refine xe (fun _ _ kK => x_get dX4_put_8 fl_X4_15 (wK_i (wK_ai hC.2.2.2.2.1)) (gvl_i fz_4_1.2.2 (show e_i (s_i (s_ai T 2 n ((((w.toUInt32 >>> ((nI 24).toUInt32 &&& Int32.toUInt32 31)).toInt32).toInt8.toInt32).toInt8.toInt32)) 257 1 (nI (n + 1))) 257 1 = nI (n + 1) from rfl)) kK) ?_
  refine xe (fun _ _ kK => x_sipush dX4_put_11 (show _ = nI 400 by decide) kK) ?_
  refine xe (fun _ _ kK => x_icmp_geF (tgt := 46) dX4_put_14 (by decide) (fun z9 => by have := cv_le (by omega) (by omega) z9; omega) kK) ?_
  refine xe (fun _ _ kK => x_aload_n dX4_put_17 rfl 1 rfl kK) ?_
  refine xe (fun _ _ kK => x_get dX4_put_18 fl_X4_9 (wK_i (wK_ai hC.2.2.2.2.1)) (gvl_r1 fz_4_0.2.2 (show e_r (s_i (s_ai T 2 n ((((w.toUInt32 >>> ((nI 24).toUInt32 &&& Int32.toUInt32 31)).toInt32).toInt8.toInt32).toInt8.toInt32)) 257 1 (nI (n + 1))) 256 1 = some 2 from (wr_i (wr_ai hC.2.2.2.2.2.1)))) kK) ?_
  refine xe (fun _ _ kK => x_aload_n dX4_put_21 rfl 1 rfl kK) ?_
  refine xe (fun _ _ kK => x_get dX4_put_22 fl_X4_15 (wK_i (wK_ai hC.2.2.2.2.1)) (gvl_i fz_4_1.2.2 (show e_i (s_i (s_ai T 2 n ((((w.toUInt32 >>> ((nI 24).toUInt32 &&& Int32.toUInt32 31)).toInt32).toInt8.toInt32).toInt8.toInt32)) 257 1 (nI (n + 1))) 257 1 = nI (n + 1) from rfl)) kK) ?_
  refine xe (fun _ _ kK => x_iload_n dX4_put_25 rfl 2 rfl kK) ?_
  refine xe (fun _ _ kK => x_iload_n dX4_put_26 rfl 0 rfl kK) ?_
  refine xe (fun _ _ kK => x_iushr dX4_put_27 kK) ?_
  refine xe (fun _ _ kK => x_i2b dX4_put_28 kK) ?_
  refine xe (fun _ _ kK => x_bast dX4_put_29 (wK_i (wK_ai hC.2.2.2.2.2.2.1)) (show (nI (n + 1)) = nI (n + 1) from rfl) (wN_i (wN_ai (show n + 1 < e_len T 2 by rw [hC.2.2.2.2.2.2.2.1]; omega))) kK) ?_
  refine xe (fun _ _ kK => x_aload_n dX4_put_30 rfl 1 rfl kK) ?_
  refine xe (fun _ _ kK => x_dup dX4_put_31 rfl kK) ?_
  refine xe (fun _ _ kK => x_get dX4_put_32 fl_X4_15 (wK_ai (wK_i (wK_ai hC.2.2.2.2.1))) (gvl_i fz_4_1.2.2 (show e_i (s_ai (s_i (s_ai T 2 n ((((w.toUInt32 >>> ((nI 24).toUInt32 &&& Int32.toUInt32 31)).toInt32).toInt8.toInt32).toInt8.toInt32)) 257 1 (nI (n + 1))) 2 (n + 1) ((((w.toUInt32 >>> ((nI 16).toUInt32 &&& Int32.toUInt32 31)).toInt32).toInt8.toInt32).toInt8.toInt32)) 257 1 = nI (n + 1) from rfl)) kK) ?_
  refine xe (fun _ _ kK => x_iconst dX4_put_35 (show _ = nI 1 by decide) kK) ?_
  refine xe (fun _ _ kK => x_iadd dX4_put_36 kK) ?_
  refine xe_ti (show _ = nI ((n + 1) + 1) from nI_add (n + 1) 1) ?_
  refine xe (fun _ _ kK => x_puti dX4_put_37 ⟨fl_X4_15, fz_4_1.1, fz_4_1.2.1⟩ (Or.inl fz_4_1.2.2) rfl rfl (wK_ai (wK_i (wK_ai hC.2.2.2.2.1))) kK) ?_
  refine xe (fun _ _ kK => x_iinc dX4_put_40 0 rfl (show (nI 16) + Int32.ofInt (-8) = nI 8 by decide) (by decide) (show _ = [(2, .int (nI 8)), (0, .ref 1), (1, .int w)] from rfl) kK) ?_
  refine xe (fun _ _ kK => x_goto (tgt := 3) dX4_put_43 (by decide) kK) ?_
  refine xe (fun _ _ kK => x_iload_n dX4_put_3 rfl 0 rfl kK) ?_
  refine xe (fun _ _ kK => x_if_ltF (tgt := 46) dX4_put_4 (by decide) (by decide) kK) ?_
  refine xe (fun _ _ kK => x_aload_n dX4_put_7 rfl 1 rfl kK) ?_
  refine xe (fun _ _ kK => x_get dX4_put_8 fl_X4_15 (wK_i (wK_ai (wK_i (wK_ai hC.2.2.2.2.1)))) (gvl_i fz_4_1.2.2 (show e_i (s_i (s_ai (s_i (s_ai T 2 n ((((w.toUInt32 >>> ((nI 24).toUInt32 &&& Int32.toUInt32 31)).toInt32).toInt8.toInt32).toInt8.toInt32)) 257 1 (nI (n + 1))) 2 (n + 1) ((((w.toUInt32 >>> ((nI 16).toUInt32 &&& Int32.toUInt32 31)).toInt32).toInt8.toInt32).toInt8.toInt32)) 257 1 (nI ((n + 1) + 1))) 257 1 = nI ((n + 1) + 1) from rfl)) kK) ?_
  refine xe (fun _ _ kK => x_sipush dX4_put_11 (show _ = nI 400 by decide) kK) ?_
  refine xe (fun _ _ kK => x_icmp_geF (tgt := 46) dX4_put_14 (by decide) (fun z9 => by have := cv_le (by omega) (by omega) z9; omega) kK) ?_
  refine xe (fun _ _ kK => x_aload_n dX4_put_17 rfl 1 rfl kK) ?_
  refine xe (fun _ _ kK => x_get dX4_put_18 fl_X4_9 (wK_i (wK_ai (wK_i (wK_ai hC.2.2.2.2.1)))) (gvl_r1 fz_4_0.2.2 (show e_r (s_i (s_ai (s_i (s_ai T 2 n ((((w.toUInt32 >>> ((nI 24).toUInt32 &&& Int32.toUInt32 31)).toInt32).toInt8.toInt32).toInt8.toInt32)) 257 1 (nI (n + 1))) 2 (n + 1) ((((w.toUInt32 >>> ((nI 16).toUInt32 &&& Int32.toUInt32 31)).toInt32).toInt8.toInt32).toInt8.toInt32)) 257 1 (nI ((n + 1) + 1))) 256 1 = some 2 from (wr_i (wr_ai (wr_i (wr_ai hC.2.2.2.2.2.1)))))) kK) ?_
  refine xe (fun _ _ kK => x_aload_n dX4_put_21 rfl 1 rfl kK) ?_
  refine xe (fun _ _ kK => x_get dX4_put_22 fl_X4_15 (wK_i (wK_ai (wK_i (wK_ai hC.2.2.2.2.1)))) (gvl_i fz_4_1.2.2 (show e_i (s_i (s_ai (s_i (s_ai T 2 n ((((w.toUInt32 >>> ((nI 24).toUInt32 &&& Int32.toUInt32 31)).toInt32).toInt8.toInt32).toInt8.toInt32)) 257 1 (nI (n + 1))) 2 (n + 1) ((((w.toUInt32 >>> ((nI 16).toUInt32 &&& Int32.toUInt32 31)).toInt32).toInt8.toInt32).toInt8.toInt32)) 257 1 (nI ((n + 1) + 1))) 257 1 = nI ((n + 1) + 1) from rfl)) kK) ?_
  refine xe (fun _ _ kK => x_iload_n dX4_put_25 rfl 2 rfl kK) ?_
  refine xe (fun _ _ kK => x_iload_n dX4_put_26 rfl 0 rfl kK) ?_
  refine xe (fun _ _ kK => x_iushr dX4_put_27 kK) ?_
  refine xe (fun _ _ kK => x_i2b dX4_put_28 kK) ?_
  refine xe (fun _ _ kK => x_bast dX4_put_29 (wK_i (wK_ai (wK_i (wK_ai hC.2.2.2.2.2.2.1)))) (show (nI ((n + 1) + 1)) = nI ((n + 1) + 1) from rfl) (wN_i (wN_ai (wN_i (wN_ai (show (n + 1) + 1 < e_len T 2 by rw [hC.2.2.2.2.2.2.2.1]; omega))))) kK) ?_
  refine xe (fun _ _ kK => x_aload_n dX4_put_30 rfl 1 rfl kK) ?_
  refine xe (fun _ _ kK => x_dup dX4_put_31 rfl kK) ?_
  refine xe (fun _ _ kK => x_get dX4_put_32 fl_X4_15 (wK_ai (wK_i (wK_ai (wK_i (wK_ai hC.2.2.2.2.1))))) (gvl_i fz_4_1.2.2 (show e_i (s_ai (s_i (s_ai (s_i (s_ai T 2 n ((((w.toUInt32 >>> ((nI 24).toUInt32 &&& Int32.toUInt32 31)).toInt32).toInt8.toInt32).toInt8.toInt32)) 257 1 (nI (n + 1))) 2 (n + 1) ((((w.toUInt32 >>> ((nI 16).toUInt32 &&& Int32.toUInt32 31)).toInt32).toInt8.toInt32).toInt8.toInt32)) 257 1 (nI ((n + 1) + 1))) 2 ((n + 1) + 1) ((((w.toUInt32 >>> ((nI 8).toUInt32 &&& Int32.toUInt32 31)).toInt32).toInt8.toInt32).toInt8.toInt32)) 257 1 = nI ((n + 1) + 1) from rfl)) kK) ?_
  refine xe (fun _ _ kK => x_iconst dX4_put_35 (show _ = nI 1 by decide) kK) ?_
  refine xe (fun _ _ kK => x_iadd dX4_put_36 kK) ?_
  refine xe_ti (show _ = nI (((n + 1) + 1) + 1) from nI_add ((n + 1) + 1) 1) ?_
  refine xe (fun _ _ kK => x_puti dX4_put_37 ⟨fl_X4_15, fz_4_1.1, fz_4_1.2.1⟩ (Or.inl fz_4_1.2.2) rfl rfl (wK_ai (wK_i (wK_ai (wK_i (wK_ai hC.2.2.2.2.1))))) kK) ?_
  refine xe (fun _ _ kK => x_iinc dX4_put_40 0 rfl (show (nI 8) + Int32.ofInt (-8) = nI 0 by decide) (by decide) (show _ = [(2, .int (nI 0)), (0, .ref 1), (1, .int w)] from rfl) kK) ?_
  refine xe (fun _ _ kK => x_goto (tgt := 3) dX4_put_43 (by decide) kK) ?_
  refine xe (fun _ _ kK => x_iload_n dX4_put_3 rfl 0 rfl kK) ?_
  refine xe (fun _ _ kK => x_if_ltF (tgt := 46) dX4_put_4 (by decide) (by decide) kK) ?_
  refine xe (fun _ _ kK => x_aload_n dX4_put_7 rfl 1 rfl kK) ?_
  refine xe (fun _ _ kK => x_get dX4_put_8 fl_X4_15 (wK_i (wK_ai (wK_i (wK_ai (wK_i (wK_ai hC.2.2.2.2.1)))))) (gvl_i fz_4_1.2.2 (show e_i (s_i (s_ai (s_i (s_ai (s_i (s_ai T 2 n ((((w.toUInt32 >>> ((nI 24).toUInt32 &&& Int32.toUInt32 31)).toInt32).toInt8.toInt32).toInt8.toInt32)) 257 1 (nI (n + 1))) 2 (n + 1) ((((w.toUInt32 >>> ((nI 16).toUInt32 &&& Int32.toUInt32 31)).toInt32).toInt8.toInt32).toInt8.toInt32)) 257 1 (nI ((n + 1) + 1))) 2 ((n + 1) + 1) ((((w.toUInt32 >>> ((nI 8).toUInt32 &&& Int32.toUInt32 31)).toInt32).toInt8.toInt32).toInt8.toInt32)) 257 1 (nI (((n + 1) + 1) + 1))) 257 1 = nI (((n + 1) + 1) + 1) from rfl)) kK) ?_
  refine xe (fun _ _ kK => x_sipush dX4_put_11 (show _ = nI 400 by decide) kK) ?_
  refine xe (fun _ _ kK => x_icmp_geF (tgt := 46) dX4_put_14 (by decide) (fun z9 => by have := cv_le (by omega) (by omega) z9; omega) kK) ?_
  refine xe (fun _ _ kK => x_aload_n dX4_put_17 rfl 1 rfl kK) ?_
  refine xe (fun _ _ kK => x_get dX4_put_18 fl_X4_9 (wK_i (wK_ai (wK_i (wK_ai (wK_i (wK_ai hC.2.2.2.2.1)))))) (gvl_r1 fz_4_0.2.2 (show e_r (s_i (s_ai (s_i (s_ai (s_i (s_ai T 2 n ((((w.toUInt32 >>> ((nI 24).toUInt32 &&& Int32.toUInt32 31)).toInt32).toInt8.toInt32).toInt8.toInt32)) 257 1 (nI (n + 1))) 2 (n + 1) ((((w.toUInt32 >>> ((nI 16).toUInt32 &&& Int32.toUInt32 31)).toInt32).toInt8.toInt32).toInt8.toInt32)) 257 1 (nI ((n + 1) + 1))) 2 ((n + 1) + 1) ((((w.toUInt32 >>> ((nI 8).toUInt32 &&& Int32.toUInt32 31)).toInt32).toInt8.toInt32).toInt8.toInt32)) 257 1 (nI (((n + 1) + 1) + 1))) 256 1 = some 2 from (wr_i (wr_ai (wr_i (wr_ai (wr_i (wr_ai hC.2.2.2.2.2.1)))))))) kK) ?_
  refine xe (fun _ _ kK => x_aload_n dX4_put_21 rfl 1 rfl kK) ?_
  refine xe (fun _ _ kK => x_get dX4_put_22 fl_X4_15 (wK_i (wK_ai (wK_i (wK_ai (wK_i (wK_ai hC.2.2.2.2.1)))))) (gvl_i fz_4_1.2.2 (show e_i (s_i (s_ai (s_i (s_ai (s_i (s_ai T 2 n ((((w.toUInt32 >>> ((nI 24).toUInt32 &&& Int32.toUInt32 31)).toInt32).toInt8.toInt32).toInt8.toInt32)) 257 1 (nI (n + 1))) 2 (n + 1) ((((w.toUInt32 >>> ((nI 16).toUInt32 &&& Int32.toUInt32 31)).toInt32).toInt8.toInt32).toInt8.toInt32)) 257 1 (nI ((n + 1) + 1))) 2 ((n + 1) + 1) ((((w.toUInt32 >>> ((nI 8).toUInt32 &&& Int32.toUInt32 31)).toInt32).toInt8.toInt32).toInt8.toInt32)) 257 1 (nI (((n + 1) + 1) + 1))) 257 1 = nI (((n + 1) + 1) + 1) from rfl)) kK) ?_
  refine xe (fun _ _ kK => x_iload_n dX4_put_25 rfl 2 rfl kK) ?_
  refine xe (fun _ _ kK => x_iload_n dX4_put_26 rfl 0 rfl kK) ?_
  refine xe (fun _ _ kK => x_iushr dX4_put_27 kK) ?_
  refine xe (fun _ _ kK => x_i2b dX4_put_28 kK) ?_
  refine xe (fun _ _ kK => x_bast dX4_put_29 (wK_i (wK_ai (wK_i (wK_ai (wK_i (wK_ai hC.2.2.2.2.2.2.1)))))) (show (nI (((n + 1) + 1) + 1)) = nI (((n + 1) + 1) + 1) from rfl) (wN_i (wN_ai (wN_i (wN_ai (wN_i (wN_ai (show ((n + 1) + 1) + 1 < e_len T 2 by rw [hC.2.2.2.2.2.2.2.1]; omega))))))) kK) ?_
  refine xe (fun _ _ kK => x_aload_n dX4_put_30 rfl 1 rfl kK) ?_
  refine xe (fun _ _ kK => x_dup dX4_put_31 rfl kK) ?_
  refine xe (fun _ _ kK => x_get dX4_put_32 fl_X4_15 (wK_ai (wK_i (wK_ai (wK_i (wK_ai (wK_i (wK_ai hC.2.2.2.2.1))))))) (gvl_i fz_4_1.2.2 (show e_i (s_ai (s_i (s_ai (s_i (s_ai (s_i (s_ai T 2 n ((((w.toUInt32 >>> ((nI 24).toUInt32 &&& Int32.toUInt32 31)).toInt32).toInt8.toInt32).toInt8.toInt32)) 257 1 (nI (n + 1))) 2 (n + 1) ((((w.toUInt32 >>> ((nI 16).toUInt32 &&& Int32.toUInt32 31)).toInt32).toInt8.toInt32).toInt8.toInt32)) 257 1 (nI ((n + 1) + 1))) 2 ((n + 1) + 1) ((((w.toUInt32 >>> ((nI 8).toUInt32 &&& Int32.toUInt32 31)).toInt32).toInt8.toInt32).toInt8.toInt32)) 257 1 (nI (((n + 1) + 1) + 1))) 2 (((n + 1) + 1) + 1) ((((w.toUInt32 >>> ((nI 0).toUInt32 &&& Int32.toUInt32 31)).toInt32).toInt8.toInt32).toInt8.toInt32)) 257 1 = nI (((n + 1) + 1) + 1) from rfl)) kK) ?_
  refine xe (fun _ _ kK => x_iconst dX4_put_35 (show _ = nI 1 by decide) kK) ?_
  refine xe (fun _ _ kK => x_iadd dX4_put_36 kK) ?_
  refine xe_ti (show _ = nI ((((n + 1) + 1) + 1) + 1) from nI_add (((n + 1) + 1) + 1) 1) ?_
  refine xe (fun _ _ kK => x_puti dX4_put_37 ⟨fl_X4_15, fz_4_1.1, fz_4_1.2.1⟩ (Or.inl fz_4_1.2.2) rfl rfl (wK_ai (wK_i (wK_ai (wK_i (wK_ai (wK_i (wK_ai hC.2.2.2.2.1))))))) kK) ?_
  refine xe (fun _ _ kK => x_iinc dX4_put_40 0 rfl (show (nI 0) + Int32.ofInt (-8) = (-8) by decide) (by decide) (show _ = [(2, .int (-8)), (0, .ref 1), (1, .int w)] from rfl) kK) ?_
  refine xe (fun _ _ kK => x_goto (tgt := 3) dX4_put_43 (by decide) kK) ?_
  refine xe (fun _ _ kK => x_iload_n dX4_put_3 rfl 0 rfl kK) ?_
  refine xe (fun _ _ kK => x_if_ltT (tgt := 46) dX4_put_4 (by decide) (by decide) kK) ?_
  have hF : FrG [(257, 1)] [2] T (s_i (s_ai (s_i (s_ai (s_i (s_ai (s_i (s_ai T 2 n ((((w.toUInt32 >>> ((nI 24).toUInt32 &&& Int32.toUInt32 31)).toInt32).toInt8.toInt32).toInt8.toInt32)) 257 1 (nI (n + 1))) 2 (n + 1) ((((w.toUInt32 >>> ((nI 16).toUInt32 &&& Int32.toUInt32 31)).toInt32).toInt8.toInt32).toInt8.toInt32)) 257 1 (nI ((n + 1) + 1))) 2 ((n + 1) + 1) ((((w.toUInt32 >>> ((nI 8).toUInt32 &&& Int32.toUInt32 31)).toInt32).toInt8.toInt32).toInt8.toInt32)) 257 1 (nI (((n + 1) + 1) + 1))) 2 (((n + 1) + 1) + 1) ((((w.toUInt32 >>> ((nI 0).toUInt32 &&& Int32.toUInt32 31)).toInt32).toInt8.toInt32).toInt8.toInt32)) 257 1 (nI ((((n + 1) + 1) + 1) + 1))) := (FrG.si (FrG.sai (FrG.si (FrG.sai (FrG.si (FrG.sai (FrG.si (FrG.sai FrG.rf (by decide) _ _) (by decide) _) (by decide) _ _) (by decide) _) (by decide) _ _) (by decide) _) (by decide) _ _) (by decide) _)
  refine xe_retv dX4_put_46 rfl (⟨rfl, hF, rfl, fun j => ?_⟩)
  have hj : j = n ∨ j = n + 1 ∨ j = n + 1 + 1 ∨ j = n + 1 + 1 + 1 ∨ ¬ (n ≤ j ∧ j < n + 4) := by omega
  rcases hj with hj | hj | hj | hj | hj
  · rw [hj, if_pos (by omega)]; simp [q_i_i, q_i_l, q_i_ai, q_i_al, q_ai_ai, q_ai_i, q_ai_l, q_ai_al, q_al_al, q_al_i, q_al_ai, q_al_l, q_l_i, q_l_l, q_l_ai, q_l_al, Nat.add_assoc]; exact by_cls w (nI 24) 24 (by decide)
  · rw [hj, if_pos (by omega)]; simp [q_i_i, q_i_l, q_i_ai, q_i_al, q_ai_ai, q_ai_i, q_ai_l, q_ai_al, q_al_al, q_al_i, q_al_ai, q_al_l, q_l_i, q_l_l, q_l_ai, q_l_al, Nat.add_assoc]; exact by_cls w (nI 16) 16 (by decide)
  · rw [hj, if_pos (by omega)]; simp [q_i_i, q_i_l, q_i_ai, q_i_al, q_ai_ai, q_ai_i, q_ai_l, q_ai_al, q_al_al, q_al_i, q_al_ai, q_al_l, q_l_i, q_l_l, q_l_ai, q_l_al, Nat.add_assoc]; exact by_cls w (nI 8) 8 (by decide)
  · rw [hj, if_pos (by omega)]; simp [q_i_i, q_i_l, q_i_ai, q_i_al, q_ai_ai, q_ai_i, q_ai_l, q_ai_al, q_al_al, q_al_i, q_al_ai, q_al_l, q_l_i, q_l_l, q_l_ai, q_l_al, Nat.add_assoc]; exact by_cls w (nI 0) 0 (by decide)
  · rw [if_neg hj]; exact congrArg (· &&& nI 255) (show e_ai (s_i (s_ai (s_i (s_ai (s_i (s_ai (s_i (s_ai T 2 n ((((w.toUInt32 >>> ((nI 24).toUInt32 &&& Int32.toUInt32 31)).toInt32).toInt8.toInt32).toInt8.toInt32)) 257 1 (nI (n + 1))) 2 (n + 1) ((((w.toUInt32 >>> ((nI 16).toUInt32 &&& Int32.toUInt32 31)).toInt32).toInt8.toInt32).toInt8.toInt32)) 257 1 (nI ((n + 1) + 1))) 2 ((n + 1) + 1) ((((w.toUInt32 >>> ((nI 8).toUInt32 &&& Int32.toUInt32 31)).toInt32).toInt8.toInt32).toInt8.toInt32)) 257 1 (nI (((n + 1) + 1) + 1))) 2 (((n + 1) + 1) + 1) ((((w.toUInt32 >>> ((nI 0).toUInt32 &&& Int32.toUInt32 31)).toInt32).toInt8.toInt32).toInt8.toInt32)) 257 1 (nI ((((n + 1) + 1) + 1) + 1))) 2 j = e_ai T 2 j from (wai_i (wai_ai (by omega) (wai_i (wai_ai (by omega) (wai_i (wai_ai (by omega) (wai_i (wai_ai (by omega) rfl)))))))))

set_option maxHeartbeats 4000000 in
theorem c_X7_feed (d : Nat) {T : TH} {n : Nat} {b : Nat → Nat} (hC : CI T) (ht : e_i T 257 1 = nI n) (hn : n ≤ 400) (hB : CBt T n b) (a1 a2 a3 a4 a5 : Int32) : Xe m_X7_feed (d + 1) 0 [(0, .ref 0), (1, .int a1), (2, .int a2), (3, .int a3), (4, .int a4), (5, .int a5)] [] T (if n + 20 ≤ 400 then (fun r T1 => r = some (.int (nI (n + 20))) ∧ FrG [(257, 1)] [2] T T1 ∧ e_i T1 257 1 = nI (n + 20) ∧ CBt T1 (n + 20) (fdB b n a1 a2 a3 a4 a5)) else (fun r T1 => r = some (.int (-1)) ∧ T1 = T)) := by
  refine xe (fun _ _ kK => x_aload_n dX7_feed_0 rfl 0 rfl kK) ?_
  refine xe (fun _ _ kK => x_get dX7_feed_1 fl_X7_12 hC.1 (gvl_r1 fz_7_0.2.2 (show e_r T 448 0 = some 1 from hC.2.1)) kK) ?_
  refine xe (fun _ _ kK => x_get dX7_feed_4 fl_X7_44 hC.2.2.2.2.1 (gvl_i fz_4_1.2.2 (show e_i T 257 1 = nI n from ht)) kK) ?_
  refine xe (fun _ _ kK => x_sipush dX7_feed_7 (show _ = nI 380 by decide) kK) ?_
  refine xe_icmp_le (tgt := 15) dX7_feed_10 (by decide) (fun h10 => ?_) (fun h10 => ?_)
  · -- pc 15
    have h10 := cv_le (by omega) (by omega) h10
    rw [if_pos (show n + 20 ≤ 400 by omega)]
    refine xe (fun _ _ kK => x_aload_n dX7_feed_15 rfl 0 rfl kK) ?_
    refine xe (fun _ _ kK => x_get dX7_feed_16 fl_X7_12 hC.1 (gvl_r1 fz_7_0.2.2 (show e_r T 448 0 = some 1 from hC.2.1)) kK) ?_
    refine xe (fun _ _ kK => x_iload_n dX7_feed_19 rfl 1 rfl kK) ?_
    refine xe_callV (a := 1) [.int a1] dX7_feed_20 ml_X7_47 mf_X4_put hC.2.2.2.2.1 (c_X4_put d hC ht (by omega) a1) rfl rfl (Nat.le_of_ble_eq_true rfl) (Nat.le_of_ble_eq_true rfl) ?_
    rintro _ T1 ⟨rfl, hG1, ht1, hb1⟩
    have hF1 : FrG [(257, 1)] [2] T T1 := hG1
    refine xe (fun _ _ kK => x_aload_n dX7_feed_23 rfl 0 rfl kK) ?_
    refine xe (fun _ _ kK => x_get dX7_feed_24 fl_X7_12 (hF1.ci hC).1 (gvl_r1 fz_7_0.2.2 (show e_r T1 448 0 = some 1 from (hF1.ci hC).2.1)) kK) ?_
    refine xe (fun _ _ kK => x_iload_n dX7_feed_27 rfl 2 rfl kK) ?_
    refine xe_callV (a := 1) [.int a2] dX7_feed_28 ml_X7_47 mf_X4_put (hF1.ci hC).2.2.2.2.1 (c_X4_put d (hF1.ci hC) ht1 (by omega) a2) rfl rfl (Nat.le_of_ble_eq_true rfl) (Nat.le_of_ble_eq_true rfl) ?_
    rintro _ T2 ⟨rfl, hG2, ht2, hb2⟩
    have hF2 : FrG [(257, 1)] [2] T T2 := FrG.tr hF1 hG2
    refine xe (fun _ _ kK => x_aload_n dX7_feed_31 rfl 0 rfl kK) ?_
    refine xe (fun _ _ kK => x_get dX7_feed_32 fl_X7_12 (hF2.ci hC).1 (gvl_r1 fz_7_0.2.2 (show e_r T2 448 0 = some 1 from (hF2.ci hC).2.1)) kK) ?_
    refine xe (fun _ _ kK => x_iload_n dX7_feed_35 rfl 3 rfl kK) ?_
    refine xe_callV (a := 1) [.int a3] dX7_feed_36 ml_X7_47 mf_X4_put (hF2.ci hC).2.2.2.2.1 (c_X4_put d (hF2.ci hC) ht2 (by omega) a3) rfl rfl (Nat.le_of_ble_eq_true rfl) (Nat.le_of_ble_eq_true rfl) ?_
    rintro _ T3 ⟨rfl, hG3, ht3, hb3⟩
    have hF3 : FrG [(257, 1)] [2] T T3 := FrG.tr hF2 hG3
    refine xe (fun _ _ kK => x_aload_n dX7_feed_39 rfl 0 rfl kK) ?_
    refine xe (fun _ _ kK => x_get dX7_feed_40 fl_X7_12 (hF3.ci hC).1 (gvl_r1 fz_7_0.2.2 (show e_r T3 448 0 = some 1 from (hF3.ci hC).2.1)) kK) ?_
    refine xe (fun _ _ kK => x_iload dX7_feed_43 4 rfl kK) ?_
    refine xe_callV (a := 1) [.int a4] dX7_feed_45 ml_X7_47 mf_X4_put (hF3.ci hC).2.2.2.2.1 (c_X4_put d (hF3.ci hC) ht3 (by omega) a4) rfl rfl (Nat.le_of_ble_eq_true rfl) (Nat.le_of_ble_eq_true rfl) ?_
    rintro _ T4 ⟨rfl, hG4, ht4, hb4⟩
    have hF4 : FrG [(257, 1)] [2] T T4 := FrG.tr hF3 hG4
    refine xe (fun _ _ kK => x_aload_n dX7_feed_48 rfl 0 rfl kK) ?_
    refine xe (fun _ _ kK => x_get dX7_feed_49 fl_X7_12 (hF4.ci hC).1 (gvl_r1 fz_7_0.2.2 (show e_r T4 448 0 = some 1 from (hF4.ci hC).2.1)) kK) ?_
    refine xe (fun _ _ kK => x_iload dX7_feed_52 5 rfl kK) ?_
    refine xe_callV (a := 1) [.int a5] dX7_feed_54 ml_X7_47 mf_X4_put (hF4.ci hC).2.2.2.2.1 (c_X4_put d (hF4.ci hC) ht4 (by omega) a5) rfl rfl (Nat.le_of_ble_eq_true rfl) (Nat.le_of_ble_eq_true rfl) ?_
    rintro _ T5 ⟨rfl, hG5, ht5, hb5⟩
    have hF5 : FrG [(257, 1)] [2] T T5 := FrG.tr hF4 hG5
    refine xe (fun _ _ kK => x_aload_n dX7_feed_57 rfl 0 rfl kK) ?_
    refine xe (fun _ _ kK => x_get dX7_feed_58 fl_X7_12 (hF5.ci hC).1 (gvl_r1 fz_7_0.2.2 (show e_r T5 448 0 = some 1 from (hF5.ci hC).2.1)) kK) ?_
    refine xe (fun _ _ kK => x_get dX7_feed_61 fl_X7_44 (hF5.ci hC).2.2.2.2.1 (gvl_i fz_4_1.2.2 (show e_i T5 257 1 = nI (n + 4 + 4 + 4 + 4 + 4) from ht5)) kK) ?_
    refine xe_reti dX7_feed_64 rfl (⟨by rw [show n + 4 + 4 + 4 + 4 + 4 = n + 20 by omega], hF5, by rw [ht5, show n + 4 + 4 + 4 + 4 + 4 = n + 20 by omega], fun j hj => ?_⟩)
    rcases Nat.lt_or_ge j n with z | z
    · rw [fdB_lo z, hb5, if_neg (by omega), hb4, if_neg (by omega), hb3, if_neg (by omega), hb2, if_neg (by omega), hb1, if_neg (by omega)]; exact hB j z
    · obtain ⟨k, rfl⟩ : ∃ k, j = n + k := ⟨j - n, by omega⟩
      rw [fdB_at]
      refine ⟨?_, bytW_lt _ _⟩
      unfold selW
      rcases Nat.lt_or_ge k 4 with z4 | z4
      · rw [if_pos z4, hb5, if_neg (by omega), hb4, if_neg (by omega), hb3, if_neg (by omega), hb2, if_neg (by omega), hb1, if_pos (by omega), show n + k - n = k % 4 by omega]
      rcases Nat.lt_or_ge k 8 with z8 | z8
      · rw [if_neg (by omega), if_pos z8, hb5, if_neg (by omega), hb4, if_neg (by omega), hb3, if_neg (by omega), hb2, if_pos (by omega), show n + k - (n + 4) = k % 4 by omega]
      rcases Nat.lt_or_ge k 12 with z12 | z12
      · rw [if_neg (by omega), if_neg (by omega), if_pos z12, hb5, if_neg (by omega), hb4, if_neg (by omega), hb3, if_pos (by omega), show n + k - (n + 4 + 4) = k % 4 by omega]
      rcases Nat.lt_or_ge k 16 with z16 | z16
      · rw [if_neg (by omega), if_neg (by omega), if_neg (by omega), if_pos z16, hb5, if_neg (by omega), hb4, if_pos (by omega), show n + k - (n + 4 + 4 + 4) = k % 4 by omega]
      · rw [if_neg (by omega), if_neg (by omega), if_neg (by omega), if_neg (by omega), hb5, if_pos (by omega), show n + k - (n + 4 + 4 + 4 + 4) = k % 4 by omega]
  · -- pc 13
    have h10 := cv_nle (by omega) (by omega) h10
    refine xe (fun _ _ kK => x_iconst dX7_feed_13 (show _ = (-1) by decide) kK) ?_
    rw [if_neg (show ¬ n + 20 ≤ 400 by omega)]
    exact xe_reti dX7_feed_14 rfl (⟨rfl, rfl⟩)
