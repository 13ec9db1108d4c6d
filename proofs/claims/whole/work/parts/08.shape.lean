set_option maxHeartbeats 4000000 in
theorem c_X8_isOwn (d : Nat) {T : TH} (hM : MI T) {v : Nat} (hv : v < 2 ^ 63) : Xe m_X8_isOwn d 0 [(0, .ref 88), (1, .long (lN v))] [] T (fun r T1 => r = some (.int (bI (isKw v))) ∧ T1 = T) := by
  have hn1 : w_num < 2 ^ 63 := by decide
  have hn2 : w_word < 2 ^ 63 := by decide
  have hn3 : w_one < 2 ^ 63 := by decide
  have hn4 : w_opt < 2 ^ 63 := by decide
  have hn5 : w_many < 2 ^ 63 := by decide
  refine xe (fun _ _ kK => x_lload_n dX8_isOwn_0 rfl 1 rfl kK) ?_
  refine xe (fun _ _ kK => x_aload_n dX8_isOwn_1 rfl 0 rfl kK) ?_
  refine xe (fun _ _ kK => x_get dX8_isOwn_2 fl_X8_21 hM.1 (gvl_l fz_8_8.2.2 (show e_l T 520 88 = lN w_num from (hM.2.2.2.2 8 (by decide) (by decide)))) kK) ?_
  refine xe (fun _ _ kK => x_lcmp dX8_isOwn_5 kK) ?_
  refine xe_if_eq (tgt := 45) dX8_isOwn_6 (by decide) (fun h6 => ?_) (fun h6 => ?_)
  · -- pc 45
    have h6 := lc_eq h6
    have h6 := cvl_eq (by omega) (by omega) h6
    refine xe (fun _ _ kK => x_iconst dX8_isOwn_45 (show _ = nI 1 by decide) kK) ?_
    refine xe (fun _ _ kK => x_goto (tgt := 50) dX8_isOwn_46 (by decide) kK) ?_
    exact xe_retz dX8_isOwn_50 rfl (by first | exact Or.inl rfl | exact Or.inr rfl) (⟨r_1 (by simp only [isKw]; simp [*]), rfl⟩)
  · -- pc 9
    have h6 := lc_nen h6
    have h6 := cvl_ne (by omega) (by omega) h6
    refine xe (fun _ _ kK => x_lload_n dX8_isOwn_9 rfl 1 rfl kK) ?_
    refine xe (fun _ _ kK => x_aload_n dX8_isOwn_10 rfl 0 rfl kK) ?_
    refine xe (fun _ _ kK => x_get dX8_isOwn_11 fl_X8_25 hM.1 (gvl_l fz_8_9.2.2 (show e_l T 521 88 = lN w_word from (hM.2.2.2.2 9 (by decide) (by decide)))) kK) ?_
    refine xe (fun _ _ kK => x_lcmp dX8_isOwn_14 kK) ?_
    refine xe_if_eq (tgt := 45) dX8_isOwn_15 (by decide) (fun h15 => ?_) (fun h15 => ?_)
    · -- pc 45
      have h15 := lc_eq h15
      have h15 := cvl_eq (by omega) (by omega) h15
      refine xe (fun _ _ kK => x_iconst dX8_isOwn_45 (show _ = nI 1 by decide) kK) ?_
      refine xe (fun _ _ kK => x_goto (tgt := 50) dX8_isOwn_46 (by decide) kK) ?_
      exact xe_retz dX8_isOwn_50 rfl (by first | exact Or.inl rfl | exact Or.inr rfl) (⟨r_1 (by simp only [isKw]; simp [*]), rfl⟩)
    · -- pc 18
      have h15 := lc_nen h15
      have h15 := cvl_ne (by omega) (by omega) h15
      refine xe (fun _ _ kK => x_lload_n dX8_isOwn_18 rfl 1 rfl kK) ?_
      refine xe (fun _ _ kK => x_aload_n dX8_isOwn_19 rfl 0 rfl kK) ?_
      refine xe (fun _ _ kK => x_get dX8_isOwn_20 fl_X8_28 hM.1 (gvl_l fz_8_10.2.2 (show e_l T 522 88 = lN w_one from (hM.2.2.2.2 10 (by decide) (by decide)))) kK) ?_
      refine xe (fun _ _ kK => x_lcmp dX8_isOwn_23 kK) ?_
      refine xe_if_eq (tgt := 45) dX8_isOwn_24 (by decide) (fun h24 => ?_) (fun h24 => ?_)
      · -- pc 45
        have h24 := lc_eq h24
        have h24 := cvl_eq (by omega) (by omega) h24
        refine xe (fun _ _ kK => x_iconst dX8_isOwn_45 (show _ = nI 1 by decide) kK) ?_
        refine xe (fun _ _ kK => x_goto (tgt := 50) dX8_isOwn_46 (by decide) kK) ?_
        exact xe_retz dX8_isOwn_50 rfl (by first | exact Or.inl rfl | exact Or.inr rfl) (⟨r_1 (by simp only [isKw]; simp [*]), rfl⟩)
      · -- pc 27
        have h24 := lc_nen h24
        have h24 := cvl_ne (by omega) (by omega) h24
        refine xe (fun _ _ kK => x_lload_n dX8_isOwn_27 rfl 1 rfl kK) ?_
        refine xe (fun _ _ kK => x_aload_n dX8_isOwn_28 rfl 0 rfl kK) ?_
        refine xe (fun _ _ kK => x_get dX8_isOwn_29 fl_X8_31 hM.1 (gvl_l fz_8_11.2.2 (show e_l T 523 88 = lN w_opt from (hM.2.2.2.2 11 (by decide) (by decide)))) kK) ?_
        refine xe (fun _ _ kK => x_lcmp dX8_isOwn_32 kK) ?_
        refine xe_if_eq (tgt := 45) dX8_isOwn_33 (by decide) (fun h33 => ?_) (fun h33 => ?_)
        · -- pc 45
          have h33 := lc_eq h33
          have h33 := cvl_eq (by omega) (by omega) h33
          refine xe (fun _ _ kK => x_iconst dX8_isOwn_45 (show _ = nI 1 by decide) kK) ?_
          refine xe (fun _ _ kK => x_goto (tgt := 50) dX8_isOwn_46 (by decide) kK) ?_
          exact xe_retz dX8_isOwn_50 rfl (by first | exact Or.inl rfl | exact Or.inr rfl) (⟨r_1 (by simp only [isKw]; simp [*]), rfl⟩)
        · -- pc 36
          have h33 := lc_nen h33
          have h33 := cvl_ne (by omega) (by omega) h33
          refine xe (fun _ _ kK => x_lload_n dX8_isOwn_36 rfl 1 rfl kK) ?_
          refine xe (fun _ _ kK => x_aload_n dX8_isOwn_37 rfl 0 rfl kK) ?_
          refine xe (fun _ _ kK => x_get dX8_isOwn_38 fl_X8_34 hM.1 (gvl_l fz_8_12.2.2 (show e_l T 524 88 = lN w_many from (hM.2.2.2.2 12 (by decide) (by decide)))) kK) ?_
          refine xe (fun _ _ kK => x_lcmp dX8_isOwn_41 kK) ?_
          refine xe_if_ne (tgt := 49) dX8_isOwn_42 (by decide) (fun h42 => ?_) (fun h42 => ?_)
          · -- pc 49
            have h42 := lc_ne h42
            have h42 := cvl_ne (by omega) (by omega) h42
            refine xe (fun _ _ kK => x_iconst dX8_isOwn_49 (show _ = nI 0 by decide) kK) ?_
            exact xe_retz dX8_isOwn_50 rfl (by first | exact Or.inl rfl | exact Or.inr rfl) (⟨r_0 (by simp only [isKw]; simp [*]), rfl⟩)
          · -- pc 45
            have h42 := lc_eqn h42
            have h42 := cvl_eq (by omega) (by omega) h42
            refine xe (fun _ _ kK => x_iconst dX8_isOwn_45 (show _ = nI 1 by decide) kK) ?_
            refine xe (fun _ _ kK => x_goto (tgt := 50) dX8_isOwn_46 (by decide) kK) ?_
            exact xe_retz dX8_isOwn_50 rfl (by first | exact Or.inl rfl | exact Or.inr rfl) (⟨r_1 (by simp only [isKw]; simp [*]), rfl⟩)

set_option maxHeartbeats 4000000 in
theorem c_X8_begins (d : Nat) {T : TH} (hM : MI T) : Xe m_X8_begins d 0 [(0, .ref 88)] [] T (fun r T1 => r = none ∧ T1 = (s_i (s_i (s_i (s_i (s_i T 514 88 (nI 0)) 515 88 (e_i T 513 88)) 513 88 (nI 0)) 516 88 (nI 0)) 517 88 (-1))) := by
  refine xe (fun _ _ kK => x_aload_n dX8_begins_0 rfl 0 rfl kK) ?_
  refine xe (fun _ _ kK => x_iconst dX8_begins_1 (show _ = nI 0 by decide) kK) ?_
  refine xe (fun _ _ kK => x_puti dX8_begins_2 ⟨fl_X8_138, fz_8_2.1, fz_8_2.2.1⟩ (Or.inl fz_8_2.2.2) rfl rfl hM.1 kK) ?_
  refine xe (fun _ _ kK => x_aload_n dX8_begins_5 rfl 0 rfl kK) ?_
  refine xe (fun _ _ kK => x_aload_n dX8_begins_6 rfl 0 rfl kK) ?_
  refine xe (fun _ _ kK => x_get dX8_begins_7 fl_X8_129 (wK_i hM.1) (gvl_i fz_8_1.2.2 (show e_i (s_i T 514 88 (nI 0)) 513 88 = e_i T 513 88 from rfl)) kK) ?_
  refine xe (fun _ _ kK => x_puti dX8_begins_10 ⟨fl_X8_141, fz_8_3.1, fz_8_3.2.1⟩ (Or.inl fz_8_3.2.2) rfl rfl (wK_i hM.1) kK) ?_
  refine xe (fun _ _ kK => x_aload_n dX8_begins_13 rfl 0 rfl kK) ?_
  refine xe (fun _ _ kK => x_iconst dX8_begins_14 (show _ = nI 0 by decide) kK) ?_
  refine xe (fun _ _ kK => x_puti dX8_begins_15 ⟨fl_X8_129, fz_8_1.1, fz_8_1.2.1⟩ (Or.inl fz_8_1.2.2) rfl rfl (wK_i (wK_i hM.1)) kK) ?_
  refine xe (fun _ _ kK => x_aload_n dX8_begins_18 rfl 0 rfl kK) ?_
  refine xe (fun _ _ kK => x_iconst dX8_begins_19 (show _ = nI 0 by decide) kK) ?_
  refine xe (fun _ _ kK => x_puti dX8_begins_20 ⟨fl_X8_132, fz_8_4.1, fz_8_4.2.1⟩ (Or.inl fz_8_4.2.2) rfl rfl (wK_i (wK_i (wK_i hM.1))) kK) ?_
  refine xe (fun _ _ kK => x_aload_n dX8_begins_23 rfl 0 rfl kK) ?_
  refine xe (fun _ _ kK => x_iconst dX8_begins_24 (show _ = (-1) by decide) kK) ?_
  refine xe (fun _ _ kK => x_puti dX8_begins_25 ⟨fl_X8_135, fz_8_5.1, fz_8_5.2.1⟩ (Or.inl fz_8_5.2.2) rfl rfl (wK_i (wK_i (wK_i (wK_i hM.1)))) kK) ?_
  exact xe_retv dX8_begins_28 rfl (⟨rfl, rfl⟩)

set_option maxHeartbeats 4000000 in
theorem c_X8_told (d : Nat) {T : TH} (hM : MI T) : Xe m_X8_told d 0 [(0, .ref 88)] [] T (fun r T1 => r = none ∧ T1 = (s_i (s_i T 518 88 (e_i T 516 88)) 519 88 (e_i T 517 88))) := by
  refine xe (fun _ _ kK => x_aload_n dX8_told_0 rfl 0 rfl kK) ?_
  refine xe (fun _ _ kK => x_aload_n dX8_told_1 rfl 0 rfl kK) ?_
  refine xe (fun _ _ kK => x_get dX8_told_2 fl_X8_132 hM.1 (gvl_i fz_8_4.2.2 (show e_i T 516 88 = e_i T 516 88 from rfl)) kK) ?_
  refine xe (fun _ _ kK => x_puti dX8_told_5 ⟨fl_X8_162, fz_8_6.1, fz_8_6.2.1⟩ (Or.inl fz_8_6.2.2) rfl rfl hM.1 kK) ?_
  refine xe (fun _ _ kK => x_aload_n dX8_told_8 rfl 0 rfl kK) ?_
  refine xe (fun _ _ kK => x_aload_n dX8_told_9 rfl 0 rfl kK) ?_
  refine xe (fun _ _ kK => x_get dX8_told_10 fl_X8_135 (wK_i hM.1) (gvl_i fz_8_5.2.2 (show e_i (s_i T 518 88 (e_i T 516 88)) 517 88 = e_i T 517 88 from rfl)) kK) ?_
  refine xe (fun _ _ kK => x_puti dX8_told_13 ⟨fl_X8_13, fz_8_7.1, fz_8_7.2.1⟩ (Or.inl fz_8_7.2.2) rfl rfl (wK_i hM.1) kK) ?_
  exact xe_retv dX8_told_16 rfl (⟨rfl, rfl⟩)

/-- behind a reading step: wrong at q with k, or at place p' -/
def EndL (T1 : TH) (k q : Nat) : Prop := e_i T1 516 88 = nI k ∧ e_i T1 517 88 = nI q ∧ 0 < k ∧ k < 10 ∧ q < 2 ^ 31
abbrev fsL : List Nat := [514, 516, 517, 533, 534, 542]
abbrev asL : List Nat := [95, 96, 97, 98, 99, 100, 101]
theorem LX.of {T T1 : TH} {n p p' : Nat} {b : Nat → Nat} (h : LX T n b p) (hF : FrM fsL asL T T1) (h1 : e_i T1 514 88 = nI p') (h2 : p' ≤ n) (h3 : e_i T1 516 88 = nI 0) : LX T1 n b p' :=
  ⟨hF.mi h.1, fun j hj => by rw [hF.ai (by decide)]; exact h.2.1 j hj, h1, (hF.i (by decide)).trans h.2.2.2.1, h2, h.2.2.2.2.2.1, h3⟩

theorem sk_sk (b : Nat → Nat) (n : Nat) : ∀ p, sk b n (sk b n p) = sk b n p := by
  have H : ∀ (k p : Nat), n - p = k → sk b n (sk b n p) = sk b n p := by
    intro k
    induction k with
    | zero => intro p h; rw [sk_out (n := n) (p := p) (by omega), sk_out (by omega)]
    | succ k ih =>
      intro p h
      cases hb : bl (b p) with
      | false => rw [sk_stop (n := n) hb, sk_stop hb]
      | true => rw [sk_go (by omega) hb]; exact ih (p + 1) (by omega)
  exact fun p => H _ p rfl

set_option maxHeartbeats 4000000 in
theorem c_X8_marks (d : Nat) {T : TH} {n p f : Nat} {b : Nat → Nat} (h : LX T n b p) (hf : f < 80) : Xe m_X8_marks (d + 2) 0 [(0, .ref 88), (1, .int (nI f))] [] T
    (fun r T1 => r = none ∧ FrM fsL asL T T1 ∧ match pMark b n p with
      | .inl (k, q) => EndL T1 k q
      | .inr (m, p') => T1 = mv (s_ai T 98 f (nI m)) p' ∧ p' ≤ n) := by
  refine xe (fun _ _ kK => x_aload_n dX8_marks_0 rfl 0 rfl kK) ?_
  refine xe_callV (a := 88) [] dX8_marks_1 ml_X8_144 mf_X8_next h.1.1 (c_X8_next (d + 1) _ T p n b rfl h.1 h.2.1 h.2.2.1 h.2.2.2.1 h.2.2.2.2.1 h.2.2.2.2.2.1) rfl rfl (Nat.le_of_ble_eq_true rfl) (Nat.le_of_ble_eq_true rfl) ?_
  rintro _ _ ⟨rfl, rfl⟩
  have hq0 := sk_ge b n p
  have hq1 := sk_n (b := b) h.2.2.2.2.1
  have hn4 := h.2.2.2.2.2.1
  have hL1 : LX (mv T (sk b n p)) n b (sk b n p) := h.mv hq1
  have hskk : sk b n (sk b n p) = sk b n p := sk_sk b n p
  have he0 := we_ge b n (sk b n p)
  have he1 := we_n (b := b) hq1
  refine xe (fun _ _ kK => x_pop dX8_marks_4 rfl kK) ?_
  refine xe (fun _ _ kK => x_aload_n dX8_marks_5 rfl 0 rfl kK) ?_
  refine xe (fun _ _ kK => x_get dX8_marks_6 fl_X8_138 (wK_i h.1.1) (gvl_i fz_8_2.2.2 (show e_i (mv T (sk b n p)) 514 88 = nI (sk b n p) from rfl)) kK) ?_
  refine xe (fun _ _ kK => x_istore_n dX8_marks_9 rfl (by decide) (show _ = [(2, .int (nI (sk b n p))), (0, .ref 88), (1, .int (nI f))] from rfl) kK) ?_
  refine xe (fun _ _ kK => x_aload_n dX8_marks_10 rfl 1 rfl kK) ?_
  by_cases he : we b n (sk b n p) = sk b n p
  · -- pc 11
    refine xe_callV (a := 88) [] dX8_marks_11 ml_X8_165 mf_X8_whole (wK_i h.1.1) (by have := c_X8_whole d hL1; rw [hskk, if_pos he, if_pos he] at this; exact this) rfl rfl (Nat.le_of_ble_eq_true rfl) (Nat.le_of_ble_eq_true rfl) ?_
    rintro _ _ ⟨rfl, rfl⟩
    refine xe (fun _ _ kK => x_lstore_n dX8_marks_14 rfl (by decide) (show _ = [(3, .long (lN 0)), (2, .int (nI (sk b n p))), (0, .ref 88), (1, .int (nI f))] from rfl) kK) ?_
    refine xe (fun _ _ kK => x_aload_n dX8_marks_15 rfl 2 rfl kK) ?_
    refine xe (fun _ _ kK => x_get dX8_marks_16 fl_X8_132 (wK_i (wK_i (wK_i (wK_i h.1.1)))) (gvl_i fz_8_4.2.2 (show e_i (flk (mv (mv T (sk b n p)) (sk b n p)) 1 (sk b n p)) 516 88 = nI 1 from rfl)) kK) ?_
    refine xe (fun _ _ kK => x_if_neT (tgt := 55) dX8_marks_19 (by decide) (by decide) kK) ?_
    refine xe (fun _ _ kK => x_aload_n dX8_marks_55 rfl 2 rfl kK) ?_
    refine xe (fun _ _ kK => x_get dX8_marks_56 fl_X8_62 (wK_i (wK_i (wK_i (wK_i h.1.1)))) (gvl_r1 fz_8_26.2.2 (show e_r (flk (mv (mv T (sk b n p)) (sk b n p)) 1 (sk b n p)) 538 88 = some 98 from (wr_i (wr_i (wr_i (wr_i (h.1.2.1 26))))))) kK) ?_
    refine xe (fun _ _ kK => x_iload_n dX8_marks_59 rfl 3 rfl kK) ?_
    refine xe (fun _ _ kK => x_lload_n dX8_marks_60 rfl 0 rfl kK) ?_
    refine xe (fun _ _ kK => x_aload_n dX8_marks_61 rfl 2 rfl kK) ?_
    refine xe (fun _ _ kK => x_get dX8_marks_62 fl_X8_28 (wK_i (wK_i (wK_i (wK_i h.1.1)))) (gvl_l fz_8_10.2.2 (show e_l (flk (mv (mv T (sk b n p)) (sk b n p)) 1 (sk b n p)) 522 88 = lN w_one from (wl_i (wl_i (wl_i (wl_i (h.1.2.2.2.2 10 (by decide) (by decide)))))))) kK) ?_
    refine xe (fun _ _ kK => x_lcmp dX8_marks_65 kK) ?_
    refine xe (fun _ _ kK => x_if_neT (tgt := 73) dX8_marks_66 (by decide) (by decide) kK) ?_
    refine xe (fun _ _ kK => x_lload_n dX8_marks_73 rfl 0 rfl kK) ?_
    refine xe (fun _ _ kK => x_aload_n dX8_marks_74 rfl 2 rfl kK) ?_
    refine xe (fun _ _ kK => x_get dX8_marks_75 fl_X8_31 (wK_i (wK_i (wK_i (wK_i h.1.1)))) (gvl_l fz_8_11.2.2 (show e_l (flk (mv (mv T (sk b n p)) (sk b n p)) 1 (sk b n p)) 523 88 = lN w_opt from (wl_i (wl_i (wl_i (wl_i (h.1.2.2.2.2 11 (by decide) (by decide)))))))) kK) ?_
    refine xe (fun _ _ kK => x_lcmp dX8_marks_78 kK) ?_
    refine xe (fun _ _ kK => x_if_neT (tgt := 86) dX8_marks_79 (by decide) (by decide) kK) ?_
    refine xe (fun _ _ kK => x_iconst dX8_marks_86 (show _ = nI 2 by decide) kK) ?_
    refine xe (fun _ _ kK => x_iast dX8_marks_87 (wK_i (wK_i (wK_i (wK_i (h.1.2.2.1 9 (by decide)))))) (show (nI f) = nI f from rfl) (wN_i (wN_i (wN_i (wN_i (mi_len h.1 9 (by decide) (show f < 80 by omega)))))) kK) ?_
    refine xe (fun _ _ kK => x_aload_n dX8_marks_88 rfl 2 rfl kK) ?_
    refine xe (fun _ _ kK => x_get dX8_marks_89 fl_X8_132 (wK_ai (wK_i (wK_i (wK_i (wK_i h.1.1))))) (gvl_i fz_8_4.2.2 (show e_i (s_ai (flk (mv (mv T (sk b n p)) (sk b n p)) 1 (sk b n p)) 98 f (nI 2)) 516 88 = nI 1 from rfl)) kK) ?_
    refine xe (fun _ _ kK => x_if_neT (tgt := 101) dX8_marks_92 (by decide) (by decide) kK) ?_
    exact xe_retv dX8_marks_101 rfl (⟨rfl, (by repeat (first | exact FrM.rf | refine FrM.si ?_ (by decide) _ | refine FrM.sai ?_ (by decide) _ _ | refine FrM.sal ?_ (by decide) _ _)), by rw [pMark, if_pos he]; exact ⟨rfl, rfl, by decide, by decide, by omega⟩⟩)
  · -- pc 11
    refine xe_callV (a := 88) [] dX8_marks_11 ml_X8_165 mf_X8_whole (wK_i h.1.1) (by have := c_X8_whole d hL1; rw [hskk, if_neg he, if_neg he] at this; exact this) rfl rfl (Nat.le_of_ble_eq_true rfl) (Nat.le_of_ble_eq_true rfl) ?_
    rintro _ _ ⟨rfl, rfl⟩
    have hb1 : b 0 = b 0 := rfl
    refine xe (fun _ _ kK => x_lstore_n dX8_marks_14 rfl (by decide) (show _ = [(3, .long (wv b (sk b n p) (we b n (sk b n p)))), (2, .int (nI (sk b n p))), (0, .ref 88), (1, .int (nI f))] from rfl) kK) ?_
    refine xe (fun _ _ kK => x_aload_n dX8_marks_15 rfl 2 rfl kK) ?_
    refine xe (fun _ _ kK => x_get dX8_marks_16 fl_X8_132 (wK_i (wK_i h.1.1)) (gvl_i fz_8_4.2.2 (show e_i (mv (mv T (sk b n p)) (we b n (sk b n p))) 516 88 = nI 0 from (wi_i (fun q => absurd q.1 (by decide)) (wi_i (fun q => absurd q.1 (by decide)) h.2.2.2.2.2.2)))) kK) ?_
    refine xe (fun _ _ kK => x_if_neF (tgt := 55) dX8_marks_19 (by decide) nI_0 kK) ?_
    refine xe (fun _ _ kK => x_lload_n dX8_marks_22 rfl 0 rfl kK) ?_
    refine xe (fun _ _ kK => x_aload_n dX8_marks_23 rfl 2 rfl kK) ?_
    refine xe (fun _ _ kK => x_get dX8_marks_24 fl_X8_28 (wK_i (wK_i h.1.1)) (gvl_l fz_8_10.2.2 (show e_l (mv (mv T (sk b n p)) (we b n (sk b n p))) 522 88 = lN w_one from (wl_i (wl_i (h.1.2.2.2.2 10 (by decide) (by decide)))))) kK) ?_
    refine xe (fun _ _ kK => x_lcmp dX8_marks_27 kK) ?_
    refine xe_if_eq (tgt := 55) dX8_marks_28 (by decide) (fun h28 => ?_) (fun h28 => ?_)
    · -- pc 55
      have h28 := lc_eq h28
      have h28w : wd b (sk b n p) (we b n (sk b n p)) = some w_one := (wv_iff (by decide)).mp h28
      have hxopt : ¬ wd b (sk b n p) (we b n (sk b n p)) = some w_opt := by rw [h28w]; decide
      have hxmany : ¬ wd b (sk b n p) (we b n (sk b n p)) = some w_many := by rw [h28w]; decide
      refine xe (fun _ _ kK => x_aload_n dX8_marks_55 rfl 2 rfl kK) ?_
      refine xe (fun _ _ kK => x_get dX8_marks_56 fl_X8_62 (wK_i (wK_i h.1.1)) (gvl_r1 fz_8_26.2.2 (show e_r (mv (mv T (sk b n p)) (we b n (sk b n p))) 538 88 = some 98 from (wr_i (wr_i (h.1.2.1 26))))) kK) ?_
      refine xe (fun _ _ kK => x_iload_n dX8_marks_59 rfl 3 rfl kK) ?_
      refine xe (fun _ _ kK => x_lload_n dX8_marks_60 rfl 0 rfl kK) ?_
      refine xe (fun _ _ kK => x_aload_n dX8_marks_61 rfl 2 rfl kK) ?_
      refine xe (fun _ _ kK => x_get dX8_marks_62 fl_X8_28 (wK_i (wK_i h.1.1)) (gvl_l fz_8_10.2.2 (show e_l (mv (mv T (sk b n p)) (we b n (sk b n p))) 522 88 = lN w_one from (wl_i (wl_i (h.1.2.2.2.2 10 (by decide) (by decide)))))) kK) ?_
      refine xe (fun _ _ kK => x_lcmp dX8_marks_65 kK) ?_
      refine xe (fun _ _ kK => x_if_neF (tgt := 73) dX8_marks_66 (by decide) (show lg_cmp _ _ = 0 from (lcA _ _).1.mpr ((wv_iff (by decide)).mpr h28w)) kK) ?_
      refine xe (fun _ _ kK => x_iconst dX8_marks_69 (show _ = nI 0 by decide) kK) ?_
      refine xe (fun _ _ kK => x_goto (tgt := 87) dX8_marks_70 (by decide) kK) ?_
      refine xe (fun _ _ kK => x_iast dX8_marks_87 (wK_i (wK_i (h.1.2.2.1 9 (by decide)))) (show (nI f) = nI f from rfl) (wN_i (wN_i (mi_len h.1 9 (by decide) (show f < 80 by omega)))) kK) ?_
      refine xe (fun _ _ kK => x_aload_n dX8_marks_88 rfl 2 rfl kK) ?_
      refine xe (fun _ _ kK => x_get dX8_marks_89 fl_X8_132 (wK_ai (wK_i (wK_i h.1.1))) (gvl_i fz_8_4.2.2 (show e_i (s_ai (mv (mv T (sk b n p)) (we b n (sk b n p))) 98 f (nI 0)) 516 88 = nI 0 from (wi_ai (wi_i (fun q => absurd q.1 (by decide)) (wi_i (fun q => absurd q.1 (by decide)) h.2.2.2.2.2.2))))) kK) ?_
      refine xe (fun _ _ kK => x_if_neF (tgt := 101) dX8_marks_92 (by decide) nI_0 kK) ?_
      refine xe (fun _ _ kK => x_aload_n dX8_marks_95 rfl 2 rfl kK) ?_
      refine xe (fun _ _ kK => x_bipush dX8_marks_96 (show _ = nI 59 by decide) kK) ?_
      have hT : (s_ai (mv (mv T (sk b n p)) (we b n (sk b n p))) 98 f (nI 0)) = (mv (s_ai T 98 f (nI 0)) (we b n (sk b n p))) := si_si (s_ai T 98 f (nI 0)) 514 88 _ _
      refine xe_T hT ?_
      have hL2 : LX (mv (s_ai T 98 f (nI 0)) (we b n (sk b n p))) n b (we b n (sk b n p)) := ⟨h.1, h.2.1, rfl, h.2.2.2.1, he1, hn4, h.2.2.2.2.2.2⟩
      refine xe_callV (a := 88) [.int (nI 59)] dX8_marks_98 ml_X8_169 mf_X8_sign (wK_i (wK_ai h.1.1)) (c_X8_sign d hL2 (c := 59) (by decide)) rfl rfl (Nat.le_of_ble_eq_true rfl) (Nat.le_of_ble_eq_true rfl) ?_
      rintro _ _ ⟨rfl, rfl⟩
      have hm : mkOf (wd b (sk b n p) (we b n (sk b n p))) = some 0 := by rw [h28w]; decide
      have hs0 := sk_ge b n (we b n (sk b n p))
      have hs1 := sk_n (b := b) (n := n) he1
      by_cases hz : sk b n (we b n (sk b n p)) < n ∧ b (sk b n (we b n (sk b n p))) = 59
      · -- pc 101
        rw [if_pos hz]
        exact xe_retv dX8_marks_101 rfl (⟨rfl, (by repeat (first | exact FrM.rf | refine FrM.si ?_ (by decide) _ | refine FrM.sai ?_ (by decide) _ _ | refine FrM.sal ?_ (by decide) _ _)), by rw [pMark, if_neg he, hm]; dsimp only; rw [if_pos hz]; exact ⟨si_si _ _ _ _ _, by omega⟩⟩)
      · -- pc 101
        rw [if_neg hz]
        exact xe_retv dX8_marks_101 rfl (⟨rfl, (by repeat (first | exact FrM.rf | refine FrM.si ?_ (by decide) _ | refine FrM.sai ?_ (by decide) _ _ | refine FrM.sal ?_ (by decide) _ _)), by rw [pMark, if_neg he, hm]; dsimp only; rw [if_neg hz]; exact ⟨rfl, rfl, by decide, by decide, by omega⟩⟩)
    · -- pc 31
      have h28 := lc_nen h28
      have h28w : ¬ wd b (sk b n p) (we b n (sk b n p)) = some w_one := fun z => h28 ((wv_iff (by decide)).mpr z)
      refine xe (fun _ _ kK => x_lload_n dX8_marks_31 rfl 0 rfl kK) ?_
      refine xe (fun _ _ kK => x_aload_n dX8_marks_32 rfl 2 rfl kK) ?_
      refine xe (fun _ _ kK => x_get dX8_marks_33 fl_X8_31 (wK_i (wK_i h.1.1)) (gvl_l fz_8_11.2.2 (show e_l (mv (mv T (sk b n p)) (we b n (sk b n p))) 523 88 = lN w_opt from (wl_i (wl_i (h.1.2.2.2.2 11 (by decide) (by decide)))))) kK) ?_
      refine xe (fun _ _ kK => x_lcmp dX8_marks_36 kK) ?_
      refine xe_if_eq (tgt := 55) dX8_marks_37 (by decide) (fun h37 => ?_) (fun h37 => ?_)
      · -- pc 55
        have h37 := lc_eq h37
        have h37w : wd b (sk b n p) (we b n (sk b n p)) = some w_opt := (wv_iff (by decide)).mp h37
        have hxmany : ¬ wd b (sk b n p) (we b n (sk b n p)) = some w_many := by rw [h37w]; decide
        refine xe (fun _ _ kK => x_aload_n dX8_marks_55 rfl 2 rfl kK) ?_
        refine xe (fun _ _ kK => x_get dX8_marks_56 fl_X8_62 (wK_i (wK_i h.1.1)) (gvl_r1 fz_8_26.2.2 (show e_r (mv (mv T (sk b n p)) (we b n (sk b n p))) 538 88 = some 98 from (wr_i (wr_i (h.1.2.1 26))))) kK) ?_
        refine xe (fun _ _ kK => x_iload_n dX8_marks_59 rfl 3 rfl kK) ?_
        refine xe (fun _ _ kK => x_lload_n dX8_marks_60 rfl 0 rfl kK) ?_
        refine xe (fun _ _ kK => x_aload_n dX8_marks_61 rfl 2 rfl kK) ?_
        refine xe (fun _ _ kK => x_get dX8_marks_62 fl_X8_28 (wK_i (wK_i h.1.1)) (gvl_l fz_8_10.2.2 (show e_l (mv (mv T (sk b n p)) (we b n (sk b n p))) 522 88 = lN w_one from (wl_i (wl_i (h.1.2.2.2.2 10 (by decide) (by decide)))))) kK) ?_
        refine xe (fun _ _ kK => x_lcmp dX8_marks_65 kK) ?_
        refine xe (fun _ _ kK => x_if_neT (tgt := 73) dX8_marks_66 (by decide) (show ¬ lg_cmp _ _ = 0 from fun z => h28w ((wv_iff (by decide)).mp ((lcA _ _).1.mp z))) kK) ?_
        refine xe (fun _ _ kK => x_lload_n dX8_marks_73 rfl 0 rfl kK) ?_
        refine xe (fun _ _ kK => x_aload_n dX8_marks_74 rfl 2 rfl kK) ?_
        refine xe (fun _ _ kK => x_get dX8_marks_75 fl_X8_31 (wK_i (wK_i h.1.1)) (gvl_l fz_8_11.2.2 (show e_l (mv (mv T (sk b n p)) (we b n (sk b n p))) 523 88 = lN w_opt from (wl_i (wl_i (h.1.2.2.2.2 11 (by decide) (by decide)))))) kK) ?_
        refine xe (fun _ _ kK => x_lcmp dX8_marks_78 kK) ?_
        refine xe (fun _ _ kK => x_if_neF (tgt := 86) dX8_marks_79 (by decide) (show lg_cmp _ _ = 0 from (lcA _ _).1.mpr ((wv_iff (by decide)).mpr h37w)) kK) ?_
        refine xe (fun _ _ kK => x_iconst dX8_marks_82 (show _ = nI 1 by decide) kK) ?_
        refine xe (fun _ _ kK => x_goto (tgt := 87) dX8_marks_83 (by decide) kK) ?_
        refine xe (fun _ _ kK => x_iast dX8_marks_87 (wK_i (wK_i (h.1.2.2.1 9 (by decide)))) (show (nI f) = nI f from rfl) (wN_i (wN_i (mi_len h.1 9 (by decide) (show f < 80 by omega)))) kK) ?_
        refine xe (fun _ _ kK => x_aload_n dX8_marks_88 rfl 2 rfl kK) ?_
        refine xe (fun _ _ kK => x_get dX8_marks_89 fl_X8_132 (wK_ai (wK_i (wK_i h.1.1))) (gvl_i fz_8_4.2.2 (show e_i (s_ai (mv (mv T (sk b n p)) (we b n (sk b n p))) 98 f (nI 1)) 516 88 = nI 0 from (wi_ai (wi_i (fun q => absurd q.1 (by decide)) (wi_i (fun q => absurd q.1 (by decide)) h.2.2.2.2.2.2))))) kK) ?_
        refine xe (fun _ _ kK => x_if_neF (tgt := 101) dX8_marks_92 (by decide) nI_0 kK) ?_
        refine xe (fun _ _ kK => x_aload_n dX8_marks_95 rfl 2 rfl kK) ?_
        refine xe (fun _ _ kK => x_bipush dX8_marks_96 (show _ = nI 59 by decide) kK) ?_
        have hT : (s_ai (mv (mv T (sk b n p)) (we b n (sk b n p))) 98 f (nI 1)) = (mv (s_ai T 98 f (nI 1)) (we b n (sk b n p))) := si_si (s_ai T 98 f (nI 1)) 514 88 _ _
        refine xe_T hT ?_
        have hL2 : LX (mv (s_ai T 98 f (nI 1)) (we b n (sk b n p))) n b (we b n (sk b n p)) := ⟨h.1, h.2.1, rfl, h.2.2.2.1, he1, hn4, h.2.2.2.2.2.2⟩
        refine xe_callV (a := 88) [.int (nI 59)] dX8_marks_98 ml_X8_169 mf_X8_sign (wK_i (wK_ai h.1.1)) (c_X8_sign d hL2 (c := 59) (by decide)) rfl rfl (Nat.le_of_ble_eq_true rfl) (Nat.le_of_ble_eq_true rfl) ?_
        rintro _ _ ⟨rfl, rfl⟩
        have hm : mkOf (wd b (sk b n p) (we b n (sk b n p))) = some 1 := by rw [h37w]; decide
        have hs0 := sk_ge b n (we b n (sk b n p))
        have hs1 := sk_n (b := b) (n := n) he1
        by_cases hz : sk b n (we b n (sk b n p)) < n ∧ b (sk b n (we b n (sk b n p))) = 59
        · -- pc 101
          rw [if_pos hz]
          exact xe_retv dX8_marks_101 rfl (⟨rfl, (by repeat (first | exact FrM.rf | refine FrM.si ?_ (by decide) _ | refine FrM.sai ?_ (by decide) _ _ | refine FrM.sal ?_ (by decide) _ _)), by rw [pMark, if_neg he, hm]; dsimp only; rw [if_pos hz]; exact ⟨si_si _ _ _ _ _, by omega⟩⟩)
        · -- pc 101
          rw [if_neg hz]
          exact xe_retv dX8_marks_101 rfl (⟨rfl, (by repeat (first | exact FrM.rf | refine FrM.si ?_ (by decide) _ | refine FrM.sai ?_ (by decide) _ _ | refine FrM.sal ?_ (by decide) _ _)), by rw [pMark, if_neg he, hm]; dsimp only; rw [if_neg hz]; exact ⟨rfl, rfl, by decide, by decide, by omega⟩⟩)
      · -- pc 40
        have h37 := lc_nen h37
        have h37w : ¬ wd b (sk b n p) (we b n (sk b n p)) = some w_opt := fun z => h37 ((wv_iff (by decide)).mpr z)
        refine xe (fun _ _ kK => x_lload_n dX8_marks_40 rfl 0 rfl kK) ?_
        refine xe (fun _ _ kK => x_aload_n dX8_marks_41 rfl 2 rfl kK) ?_
        refine xe (fun _ _ kK => x_get dX8_marks_42 fl_X8_34 (wK_i (wK_i h.1.1)) (gvl_l fz_8_12.2.2 (show e_l (mv (mv T (sk b n p)) (we b n (sk b n p))) 524 88 = lN w_many from (wl_i (wl_i (h.1.2.2.2.2 12 (by decide) (by decide)))))) kK) ?_
        refine xe (fun _ _ kK => x_lcmp dX8_marks_45 kK) ?_
        refine xe_if_eq (tgt := 55) dX8_marks_46 (by decide) (fun h46 => ?_) (fun h46 => ?_)
        · -- pc 55
          have h46 := lc_eq h46
          have h46w : wd b (sk b n p) (we b n (sk b n p)) = some w_many := (wv_iff (by decide)).mp h46
          refine xe (fun _ _ kK => x_aload_n dX8_marks_55 rfl 2 rfl kK) ?_
          refine xe (fun _ _ kK => x_get dX8_marks_56 fl_X8_62 (wK_i (wK_i h.1.1)) (gvl_r1 fz_8_26.2.2 (show e_r (mv (mv T (sk b n p)) (we b n (sk b n p))) 538 88 = some 98 from (wr_i (wr_i (h.1.2.1 26))))) kK) ?_
          refine xe (fun _ _ kK => x_iload_n dX8_marks_59 rfl 3 rfl kK) ?_
          refine xe (fun _ _ kK => x_lload_n dX8_marks_60 rfl 0 rfl kK) ?_
          refine xe (fun _ _ kK => x_aload_n dX8_marks_61 rfl 2 rfl kK) ?_
          refine xe (fun _ _ kK => x_get dX8_marks_62 fl_X8_28 (wK_i (wK_i h.1.1)) (gvl_l fz_8_10.2.2 (show e_l (mv (mv T (sk b n p)) (we b n (sk b n p))) 522 88 = lN w_one from (wl_i (wl_i (h.1.2.2.2.2 10 (by decide) (by decide)))))) kK) ?_
          refine xe (fun _ _ kK => x_lcmp dX8_marks_65 kK) ?_
          refine xe (fun _ _ kK => x_if_neT (tgt := 73) dX8_marks_66 (by decide) (show ¬ lg_cmp _ _ = 0 from fun z => h28w ((wv_iff (by decide)).mp ((lcA _ _).1.mp z))) kK) ?_
          refine xe (fun _ _ kK => x_lload_n dX8_marks_73 rfl 0 rfl kK) ?_
          refine xe (fun _ _ kK => x_aload_n dX8_marks_74 rfl 2 rfl kK) ?_
          refine xe (fun _ _ kK => x_get dX8_marks_75 fl_X8_31 (wK_i (wK_i h.1.1)) (gvl_l fz_8_11.2.2 (show e_l (mv (mv T (sk b n p)) (we b n (sk b n p))) 523 88 = lN w_opt from (wl_i (wl_i (h.1.2.2.2.2 11 (by decide) (by decide)))))) kK) ?_
          refine xe (fun _ _ kK => x_lcmp dX8_marks_78 kK) ?_
          refine xe (fun _ _ kK => x_if_neT (tgt := 86) dX8_marks_79 (by decide) (show ¬ lg_cmp _ _ = 0 from fun z => h37w ((wv_iff (by decide)).mp ((lcA _ _).1.mp z))) kK) ?_
          refine xe (fun _ _ kK => x_iconst dX8_marks_86 (show _ = nI 2 by decide) kK) ?_
          refine xe (fun _ _ kK => x_iast dX8_marks_87 (wK_i (wK_i (h.1.2.2.1 9 (by decide)))) (show (nI f) = nI f from rfl) (wN_i (wN_i (mi_len h.1 9 (by decide) (show f < 80 by omega)))) kK) ?_
          refine xe (fun _ _ kK => x_aload_n dX8_marks_88 rfl 2 rfl kK) ?_
          refine xe (fun _ _ kK => x_get dX8_marks_89 fl_X8_132 (wK_ai (wK_i (wK_i h.1.1))) (gvl_i fz_8_4.2.2 (show e_i (s_ai (mv (mv T (sk b n p)) (we b n (sk b n p))) 98 f (nI 2)) 516 88 = nI 0 from (wi_ai (wi_i (fun q => absurd q.1 (by decide)) (wi_i (fun q => absurd q.1 (by decide)) h.2.2.2.2.2.2))))) kK) ?_
          refine xe (fun _ _ kK => x_if_neF (tgt := 101) dX8_marks_92 (by decide) nI_0 kK) ?_
          refine xe (fun _ _ kK => x_aload_n dX8_marks_95 rfl 2 rfl kK) ?_
          refine xe (fun _ _ kK => x_bipush dX8_marks_96 (show _ = nI 59 by decide) kK) ?_
          have hT : (s_ai (mv (mv T (sk b n p)) (we b n (sk b n p))) 98 f (nI 2)) = (mv (s_ai T 98 f (nI 2)) (we b n (sk b n p))) := si_si (s_ai T 98 f (nI 2)) 514 88 _ _
          refine xe_T hT ?_
          have hL2 : LX (mv (s_ai T 98 f (nI 2)) (we b n (sk b n p))) n b (we b n (sk b n p)) := ⟨h.1, h.2.1, rfl, h.2.2.2.1, he1, hn4, h.2.2.2.2.2.2⟩
          refine xe_callV (a := 88) [.int (nI 59)] dX8_marks_98 ml_X8_169 mf_X8_sign (wK_i (wK_ai h.1.1)) (c_X8_sign d hL2 (c := 59) (by decide)) rfl rfl (Nat.le_of_ble_eq_true rfl) (Nat.le_of_ble_eq_true rfl) ?_
          rintro _ _ ⟨rfl, rfl⟩
          have hm : mkOf (wd b (sk b n p) (we b n (sk b n p))) = some 2 := by rw [h46w]; decide
          have hs0 := sk_ge b n (we b n (sk b n p))
          have hs1 := sk_n (b := b) (n := n) he1
          by_cases hz : sk b n (we b n (sk b n p)) < n ∧ b (sk b n (we b n (sk b n p))) = 59
          · -- pc 101
            rw [if_pos hz]
            exact xe_retv dX8_marks_101 rfl (⟨rfl, (by repeat (first | exact FrM.rf | refine FrM.si ?_ (by decide) _ | refine FrM.sai ?_ (by decide) _ _ | refine FrM.sal ?_ (by decide) _ _)), by rw [pMark, if_neg he, hm]; dsimp only; rw [if_pos hz]; exact ⟨si_si _ _ _ _ _, by omega⟩⟩)
          · -- pc 101
            rw [if_neg hz]
            exact xe_retv dX8_marks_101 rfl (⟨rfl, (by repeat (first | exact FrM.rf | refine FrM.si ?_ (by decide) _ | refine FrM.sai ?_ (by decide) _ _ | refine FrM.sal ?_ (by decide) _ _)), by rw [pMark, if_neg he, hm]; dsimp only; rw [if_neg hz]; exact ⟨rfl, rfl, by decide, by decide, by omega⟩⟩)
        · -- pc 49
          have h46 := lc_nen h46
          have h46w : ¬ wd b (sk b n p) (we b n (sk b n p)) = some w_many := fun z => h46 ((wv_iff (by decide)).mpr z)
          refine xe (fun _ _ kK => x_aload_n dX8_marks_49 rfl 2 rfl kK) ?_
          refine xe (fun _ _ kK => x_iconst dX8_marks_50 (show _ = nI 1 by decide) kK) ?_
          refine xe (fun _ _ kK => x_iload_n dX8_marks_51 rfl 1 rfl kK) ?_
          refine xe_callV (a := 88) [.int (nI 1), .int (nI (sk b n p))] dX8_marks_52 ml_X8_148 mf_X8_fail (wK_i (wK_i h.1.1)) (c_X8_fail (d + 1) (T := (mv (mv T (sk b n p)) (we b n (sk b n p)))) h.1 h.2.2.2.2.2.2 (nI 1) (nI (sk b n p))) rfl rfl (Nat.le_of_ble_eq_true rfl) (Nat.le_of_ble_eq_true rfl) ?_
          rintro _ _ ⟨rfl, rfl⟩
          refine xe (fun _ _ kK => x_aload_n dX8_marks_55 rfl 2 rfl kK) ?_
          refine xe (fun _ _ kK => x_get dX8_marks_56 fl_X8_62 (wK_i (wK_i (wK_i (wK_i h.1.1)))) (gvl_r1 fz_8_26.2.2 (show e_r (flk (mv (mv T (sk b n p)) (we b n (sk b n p))) 1 (sk b n p)) 538 88 = some 98 from (wr_i (wr_i (wr_i (wr_i (h.1.2.1 26))))))) kK) ?_
          refine xe (fun _ _ kK => x_iload_n dX8_marks_59 rfl 3 rfl kK) ?_
          refine xe (fun _ _ kK => x_lload_n dX8_marks_60 rfl 0 rfl kK) ?_
          refine xe (fun _ _ kK => x_aload_n dX8_marks_61 rfl 2 rfl kK) ?_
          refine xe (fun _ _ kK => x_get dX8_marks_62 fl_X8_28 (wK_i (wK_i (wK_i (wK_i h.1.1)))) (gvl_l fz_8_10.2.2 (show e_l (flk (mv (mv T (sk b n p)) (we b n (sk b n p))) 1 (sk b n p)) 522 88 = lN w_one from (wl_i (wl_i (wl_i (wl_i (h.1.2.2.2.2 10 (by decide) (by decide)))))))) kK) ?_
          refine xe (fun _ _ kK => x_lcmp dX8_marks_65 kK) ?_
          refine xe (fun _ _ kK => x_if_neT (tgt := 73) dX8_marks_66 (by decide) (show ¬ lg_cmp _ _ = 0 from fun z => h28w ((wv_iff (by decide)).mp ((lcA _ _).1.mp z))) kK) ?_
          refine xe (fun _ _ kK => x_lload_n dX8_marks_73 rfl 0 rfl kK) ?_
          refine xe (fun _ _ kK => x_aload_n dX8_marks_74 rfl 2 rfl kK) ?_
          refine xe (fun _ _ kK => x_get dX8_marks_75 fl_X8_31 (wK_i (wK_i (wK_i (wK_i h.1.1)))) (gvl_l fz_8_11.2.2 (show e_l (flk (mv (mv T (sk b n p)) (we b n (sk b n p))) 1 (sk b n p)) 523 88 = lN w_opt from (wl_i (wl_i (wl_i (wl_i (h.1.2.2.2.2 11 (by decide) (by decide)))))))) kK) ?_
          refine xe (fun _ _ kK => x_lcmp dX8_marks_78 kK) ?_
          refine xe (fun _ _ kK => x_if_neT (tgt := 86) dX8_marks_79 (by decide) (show ¬ lg_cmp _ _ = 0 from fun z => h37w ((wv_iff (by decide)).mp ((lcA _ _).1.mp z))) kK) ?_
          refine xe (fun _ _ kK => x_iconst dX8_marks_86 (show _ = nI 2 by decide) kK) ?_
          refine xe (fun _ _ kK => x_iast dX8_marks_87 (wK_i (wK_i (wK_i (wK_i (h.1.2.2.1 9 (by decide)))))) (show (nI f) = nI f from rfl) (wN_i (wN_i (wN_i (wN_i (mi_len h.1 9 (by decide) (show f < 80 by omega)))))) kK) ?_
          refine xe (fun _ _ kK => x_aload_n dX8_marks_88 rfl 2 rfl kK) ?_
          refine xe (fun _ _ kK => x_get dX8_marks_89 fl_X8_132 (wK_ai (wK_i (wK_i (wK_i (wK_i h.1.1))))) (gvl_i fz_8_4.2.2 (show e_i (s_ai (flk (mv (mv T (sk b n p)) (we b n (sk b n p))) 1 (sk b n p)) 98 f (nI 2)) 516 88 = nI 1 from rfl)) kK) ?_
          refine xe (fun _ _ kK => x_if_neT (tgt := 101) dX8_marks_92 (by decide) (by decide) kK) ?_
          exact xe_retv dX8_marks_101 rfl (⟨rfl, (by repeat (first | exact FrM.rf | refine FrM.si ?_ (by decide) _ | refine FrM.sai ?_ (by decide) _ _ | refine FrM.sal ?_ (by decide) _ _)), by rw [pMark, if_neg he, show mkOf (wd b (sk b n p) (we b n (sk b n p))) = none by rw [mkOf, if_neg h28w, if_neg h37w, if_neg h46w]]; exact ⟨rfl, rfl, by decide, by decide, by omega⟩⟩)
