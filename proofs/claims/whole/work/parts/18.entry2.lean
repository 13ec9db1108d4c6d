theorem mv_mv (T : TH) (a c : Nat) : mv (mv T a) c = mv T c := si_si _ _ _ _ _
set_option maxHeartbeats 4000000 in
theorem c_X8_entry (d : Nat) {T : TH} {n q : Nat} {b : Nat → Nat} {s : Sh} {dp : Nat → Nat} {o x : Nat} {pa : Pa} {xs : List Nat} (h : LX T n b q) (hsk : sk b n q = q) (hS : MSh T s) (hSB : ShB s) (hD : ShD s dp) (hr : RP T o pa (x :: xs)) (hqi : QI s dp n q o pa (x :: xs)) : Xe m_X8_entry (d + 3) 0 [(0, .ref 88)] [] T (fun r T1 => r = none ∧ FrM fsP asP T T1 ∧ LowN T T1 o ∧ match qEntry s b n q pa x xs with
      | .inl (k, q') => EndL T1 k q'
      | .inr (p', pa', gs') => LX T1 n b p' ∧ RP T1 o pa' gs' ∧ e_i T1 517 88 = e_i T 517 88) := by
  obtain ⟨hp1, hn4, hp3, hgl, hok, hst, ho⟩ := hqi
  have hgl' : xs.length + 1 ≤ 5 := hgl
  have hp3' : 4 * pa.1 ≤ q + 3 + (xs.length + 1) := hp3
  have hx := hst.2.1
  have hB := h.2.1
  have hB' : ∀ j, j < n → b j < 256 := fun j hj => (hB j hj).2
  have hs60 := hSB.1
  have he0 := we_ge b n q
  have he1 := we_n (b := b) hp1
  refine xe (fun _ _ kK => x_aload_n dX8_entry_0 rfl 0 rfl kK) ?_
  refine xe_callV (a := 88) [] dX8_entry_1 ml_X8_144 mf_X8_next h.1.1 (by have := c_X8_next (d + 2) _ T q n b rfl h.1 h.2.1 h.2.2.1 h.2.2.2.1 h.2.2.2.2.1 h.2.2.2.2.2.1; rw [hsk, si_self h.2.2.1] at this; exact this) rfl rfl (Nat.le_of_ble_eq_true rfl) (Nat.le_of_ble_eq_true rfl) ?_
  rintro _ T9 ⟨rfl, h9⟩
  refine xe_T h9 ?_
  refine xe (fun _ _ kK => x_pop dX8_entry_4 rfl kK) ?_
  refine xe (fun _ _ kK => x_aload_n dX8_entry_5 rfl 0 rfl kK) ?_
  refine xe (fun _ _ kK => x_get dX8_entry_6 fl_X8_138 h.1.1 (gvl_i fz_8_2.2.2 (show e_i T 514 88 = nI q from h.2.2.1)) kK) ?_
  refine xe (fun _ _ kK => x_istore_n dX8_entry_9 rfl (by decide) (show _ = [(1, .int (nI q)), (0, .ref 88)] from rfl) kK) ?_
  refine xe (fun _ _ kK => x_aload_n dX8_entry_10 rfl 1 rfl kK) ?_
  by_cases he : we b n q = q
  · -- pc 11
    refine xe_callV (a := 88) [] dX8_entry_11 ml_X8_165 mf_X8_whole h.1.1 (by have := c_X8_whole (d + 1) h; rw [hsk, if_pos he, if_pos he] at this; exact this) rfl rfl (Nat.le_of_ble_eq_true rfl) (Nat.le_of_ble_eq_true rfl) ?_
    rintro _ _ ⟨rfl, rfl⟩
    refine xe (fun _ _ kK => x_lstore_n dX8_entry_14 rfl (by decide) (show _ = [(2, .long (lN 0)), (1, .int (nI q)), (0, .ref 88)] from rfl) kK) ?_
    refine xe (fun _ _ kK => x_aload_n dX8_entry_15 rfl 2 rfl kK) ?_
    refine xe (fun _ _ kK => x_get dX8_entry_16 fl_X8_132 (wK_i (wK_i (wK_i h.1.1))) (gvl_i fz_8_4.2.2 (show e_i (flk (mv T q) 1 q) 516 88 = nI 1 from rfl)) kK) ?_
    refine xe (fun _ _ kK => x_if_eqF (tgt := 23) dX8_entry_19 (by decide) (by decide) kK) ?_
    exact xe_retv dX8_entry_22 rfl (⟨rfl, (FrM.si (FrM.si (FrM.si FrM.rf (by decide) _) (by decide) _) (by decide) _), (fun j hj => ⟨(wai_i (wai_i (wai_i rfl))), (wai_i (wai_i (wai_i rfl))), (wal_i (wal_i (wal_i rfl)))⟩), by rw [qEntry, if_pos he]; exact ⟨rfl, rfl, by decide, by decide, by omega⟩⟩)
  · -- pc 11
    refine xe_callV (a := 88) [] dX8_entry_11 ml_X8_165 mf_X8_whole h.1.1 (by have := c_X8_whole (d + 1) h; rw [hsk, if_neg he, if_neg he] at this; exact this) rfl rfl (Nat.le_of_ble_eq_true rfl) (Nat.le_of_ble_eq_true rfl) ?_
    rintro _ _ ⟨rfl, rfl⟩
    refine xe (fun _ _ kK => x_lstore_n dX8_entry_14 rfl (by decide) (show _ = [(2, .long (wv b q (we b n q))), (1, .int (nI q)), (0, .ref 88)] from rfl) kK) ?_
    refine xe (fun _ _ kK => x_aload_n dX8_entry_15 rfl 2 rfl kK) ?_
    refine xe (fun _ _ kK => x_get dX8_entry_16 fl_X8_132 (wK_i h.1.1) (gvl_i fz_8_4.2.2 (show e_i (mv T (we b n q)) 516 88 = nI 0 from (wi_i (fun q => absurd q.1 (by decide)) h.2.2.2.2.2.2))) kK) ?_
    refine xe (fun _ _ kK => x_if_eqT (tgt := 23) dX8_entry_19 (by decide) nI_0 kK) ?_
    refine xe (fun _ _ kK => x_aload_n dX8_entry_23 rfl 2 rfl kK) ?_
    refine xe (fun _ _ kK => x_get dX8_entry_24 fl_X8_68 (wK_i h.1.1) (gvl_r1 fz_8_28.2.2 (show e_r (mv T (we b n q)) 540 88 = some 100 from (wr_i (h.1.2.1 28)))) kK) ?_
    refine xe (fun _ _ kK => x_aload_n dX8_entry_27 rfl 2 rfl kK) ?_
    refine xe (fun _ _ kK => x_get dX8_entry_28 fl_X8_180 (wK_i h.1.1) (gvl_i fz_8_30.2.2 (show e_i (mv T (we b n q)) 542 88 = nI xs.length from (wi_i (fun q => absurd q.1 (by decide)) hr.1))) kK) ?_
    refine xe (fun _ _ kK => x_iald dX8_entry_31 (wK_i (h.1.2.2.1 11 (by decide))) (show (nI xs.length) = nI xs.length from rfl) (wN_i (mi_len h.1 11 (by decide) (show xs.length < 8 by omega))) (show e_ai (mv T (we b n q)) 100 xs.length = nI (o + x) from (wai_i hr.2.2.1.1)) kK) ?_
    refine xe (fun _ _ kK => x_istore dX8_entry_32 (by decide) (show _ = [(4, .int (nI (o + x))), (2, .long (wv b q (we b n q))), (1, .int (nI q)), (0, .ref 88)] from rfl) kK) ?_
    refine xe (fun _ _ kK => x_aload_n dX8_entry_34 rfl 3 rfl kK) ?_
    refine xe (fun _ _ kK => x_aload_n dX8_entry_35 rfl 3 rfl kK) ?_
    refine xe (fun _ _ kK => x_get dX8_entry_36 fl_X8_77 (wK_i h.1.1) (gvl_r1 fz_8_33.2.2 (show e_r (mv T (we b n q)) 545 88 = some 103 from (wr_i (h.1.2.1 33)))) kK) ?_
    refine xe (fun _ _ kK => x_iload dX8_entry_39 0 rfl kK) ?_
    refine xe (fun _ _ kK => x_iald dX8_entry_41 (wK_i (h.1.2.2.1 14 (by decide))) (show (nI (o + x)) = nI (o + x) from rfl) (wN_i (mi_len h.1 14 (by decide) (show o + x < 6200 by omega))) (show e_ai (mv T (we b n q)) 103 (o + x) = oI (pa.2.1 x) from (wai_i (hr.2.2.2 x hx).1)) kK) ?_
    refine xe (fun _ _ kK => x_lload_n dX8_entry_42 rfl 1 rfl kK) ?_
    have hgb : oB (pa.2.1 x) := fun z hz => by have := (hok x hx).2 z hz; omega
    refine xe_callV (a := 88) [.int (oI (pa.2.1 x)), .long (wv b q (we b n q))] dX8_entry_43 ml_X8_231 mf_X8_fieldOf (wK_i h.1.1) (c_X8_fieldOf (d + 2) (T := mv T (we b n q)) (s := s) (b := b) (n := n) (q := q) h.1 hS hSB hgb) rfl rfl (Nat.le_of_ble_eq_true rfl) (Nat.le_of_ble_eq_true rfl) ?_
    rintro _ T9 ⟨rfl, h9⟩
    refine xe_T h9 ?_
    refine xe (fun _ _ kK => x_istore dX8_entry_46 (by decide) (show _ = [(5, .int (oI (findF s (pa.2.1 x) (wd b q (we b n q))))), (4, .int (nI (o + x))), (2, .long (wv b q (we b n q))), (1, .int (nI q)), (0, .ref 88)] from rfl) kK) ?_
    refine xe (fun _ _ kK => x_iload dX8_entry_48 0 rfl kK) ?_
    refine xe (fun _ _ kK => x_iconst dX8_entry_50 (show _ = (-1) by decide) kK) ?_
    cases hfo : findF s (pa.2.1 x) (wd b q (we b n q)) with
    | none =>
      refine xe (fun _ _ kK => x_icmp_neF (tgt := 63) dX8_entry_51 (by decide) rfl kK) ?_
      refine xe (fun _ _ kK => x_aload_n dX8_entry_54 rfl 4 rfl kK) ?_
      refine xe (fun _ _ kK => x_iconst dX8_entry_55 (show _ = nI 2 by decide) kK) ?_
      refine xe (fun _ _ kK => x_iload_n dX8_entry_56 rfl 3 rfl kK) ?_
      refine xe_callV (a := 88) [.int (nI 2), .int (nI q)] dX8_entry_57 ml_X8_148 mf_X8_fail (wK_i h.1.1) (c_X8_fail (d + 2) (T := (mv T (we b n q))) ((show FrM fsP asP T (mv T (we b n q)) from (FrM.si FrM.rf (by decide) _)).mi h.1) (wi_i (fun q => absurd q.1 (by decide)) h.2.2.2.2.2.2) (nI 2) (nI q)) rfl rfl (Nat.le_of_ble_eq_true rfl) (Nat.le_of_ble_eq_true rfl) ?_
      rintro _ _ ⟨rfl, rfl⟩
      refine xe (fun _ _ kK => x_goto (tgt := 91) dX8_entry_60 (by decide) kK) ?_
      refine xe (fun _ _ kK => x_aload_n dX8_entry_91 rfl 4 rfl kK) ?_
      refine xe (fun _ _ kK => x_get dX8_entry_92 fl_X8_132 (wK_i (wK_i (wK_i h.1.1))) (gvl_i fz_8_4.2.2 (show e_i (flk (mv T (we b n q)) 2 q) 516 88 = nI 2 from rfl)) kK) ?_
      refine xe (fun _ _ kK => x_if_neT (tgt := 104) dX8_entry_95 (by decide) (by decide) kK) ?_
      refine xe (fun _ _ kK => x_aload_n dX8_entry_104 rfl 4 rfl kK) ?_
      refine xe (fun _ _ kK => x_get dX8_entry_105 fl_X8_132 (wK_i (wK_i (wK_i h.1.1))) (gvl_i fz_8_4.2.2 (show e_i (flk (mv T (we b n q)) 2 q) 516 88 = nI 2 from rfl)) kK) ?_
      refine xe (fun _ _ kK => x_if_eqF (tgt := 112) dX8_entry_108 (by decide) (by decide) kK) ?_
      exact xe_retv dX8_entry_111 rfl (⟨rfl, (FrM.si (FrM.si (FrM.si FrM.rf (by decide) _) (by decide) _) (by decide) _), (fun j hj => ⟨(wai_i (wai_i (wai_i rfl))), (wai_i (wai_i (wai_i rfl))), (wal_i (wal_i (wal_i rfl)))⟩), by rw [qEntry, if_neg he, hfo]; exact ⟨rfl, rfl, by decide, by decide, by omega⟩⟩)
    | some f =>
      obtain ⟨hf1, hf2, hf3⟩ := findF_ok hfo
      have hKM := hSB.2.2.2 f hf1
      show Xe m_X8_entry (d + 2 + 1) 51 [(5, .int (nI f)), (4, .int (nI (o + x))), (2, .long (wv b q (we b n q))), (1, .int (nI q)), (0, .ref 88)] [.int (-1), .int (nI f)] (mv T (we b n q)) _
      refine xe (fun _ _ kK => x_icmp_neT (tgt := 63) dX8_entry_51 (by decide) (nI_m1 (by omega)) kK) ?_
      refine xe (fun _ _ kK => x_aload_n dX8_entry_63 rfl 4 rfl kK) ?_
      refine xe (fun _ _ kK => x_get dX8_entry_64 fl_X8_47 (wK_i h.1.1) (gvl_r1 fz_8_19.2.2 (show e_r (mv T (we b n q)) 531 88 = some 93 from (wr_i (h.1.2.1 19)))) kK) ?_
      refine xe (fun _ _ kK => x_iload dX8_entry_67 0 rfl kK) ?_
      refine xe (fun _ _ kK => x_iald dX8_entry_69 (wK_i (h.1.2.2.1 4 (by decide))) (show (nI f) = nI f from rfl) (wN_i (mi_len h.1 4 (by decide) (show f < 80 by omega))) (show e_ai (mv T (we b n q)) 93 f = nI (s.2.2.2.2.2.1 f) from (wai_i (hS.2.2.1 f hf1).2.2.2)) kK) ?_
      refine xe (fun _ _ kK => x_iconst dX8_entry_70 (show _ = nI 2 by decide) kK) ?_
      have hs0 := sk_ge b n (we b n q)
      have hs1 := sk_n (b := b) (n := n) he1
      have tl : ∀ {L : List (Nat × Value)}, (sk b n (we b n q) < n ∧ b (sk b n (we b n q)) = 58) → (∀ q9 ∈ [(5, Value.int (nI f)), (4, Value.int (nI (o + x))), (0, Value.ref 88)], q9 ∈ L) → Xe m_X8_entry (d + 2 + 1) 112 L [] (mv T (sk b n (we b n q) + 1)) (fun r T1 => r = none ∧ FrM fsP asP T T1 ∧ LowN T T1 o ∧ match qTail s b n (sk b n (sk b n (we b n q) + 1)) pa x xs f with
          | .inl (k, q') => EndL T1 k q'
          | .inr (p', pa', gs') => LX T1 n b p' ∧ RP T1 o pa' gs' ∧ e_i T1 517 88 = e_i T 517 88) := fun hc58 hL => xe_loc hL (l_X8_entryT d h hS hSB hD hr ⟨hp1, hn4, hp3, hgl, hok, hst, ho⟩ hf1 hf2 (p := sk b n (we b n q) + 1) (by omega) (by omega))
      refine xe_icmp_eq (tgt := 91) dX8_entry_71 (by decide) (fun h71 => ?_) (fun h71 => ?_)
      · -- pc 91
        have h71 := cv_eq (by omega) (by omega) h71
        have hnd : ¬ (¬ s.2.2.2.2.2.1 f = 2 ∧ pB (hasN pa x f) = true) := fun z9 => z9.1 h71
        refine xe (fun _ _ kK => x_aload_n dX8_entry_91 rfl 4 rfl kK) ?_
        refine xe (fun _ _ kK => x_get dX8_entry_92 fl_X8_132 (wK_i h.1.1) (gvl_i fz_8_4.2.2 (show e_i (mv T (we b n q)) 516 88 = nI 0 from (wi_i (fun q => absurd q.1 (by decide)) h.2.2.2.2.2.2))) kK) ?_
        refine xe (fun _ _ kK => x_if_neF (tgt := 104) dX8_entry_95 (by decide) nI_0 kK) ?_
        refine xe (fun _ _ kK => x_aload_n dX8_entry_98 rfl 4 rfl kK) ?_
        refine xe (fun _ _ kK => x_bipush dX8_entry_99 (show _ = nI 58 by decide) kK) ?_
        have hL1 : LX (mv T (we b n q)) n b (we b n q) := h.mv he1
        by_cases hc58 : sk b n (we b n q) < n ∧ b (sk b n (we b n q)) = 58
        · -- pc 101
          refine xe_callV (a := 88) [.int (nI 58)] dX8_entry_101 ml_X8_169 mf_X8_sign (wK_i h.1.1) (by have := c_X8_sign (d + 1) hL1 (c := 58) (by decide); rw [if_pos hc58, mv_mv] at this; exact this) rfl rfl (Nat.le_of_ble_eq_true rfl) (Nat.le_of_ble_eq_true rfl) ?_
          rintro _ _ ⟨rfl, rfl⟩
          have hqs : qSign b n (we b n q) 58 = .inr (sk b n (we b n q) + 1) := if_pos hc58
          refine xe (fun _ _ kK => x_aload_n dX8_entry_104 rfl 4 rfl kK) ?_
          refine xe (fun _ _ kK => x_get dX8_entry_105 fl_X8_132 (wK_i h.1.1) (gvl_i fz_8_4.2.2 (show e_i (mv T (sk b n (we b n q) + 1)) 516 88 = nI 0 from (wi_i (fun q => absurd q.1 (by decide)) h.2.2.2.2.2.2))) kK) ?_
          refine xe (fun _ _ kK => x_if_eqT (tgt := 112) dX8_entry_108 (by decide) nI_0 kK) ?_
          refine Xe.imp (tl (L := [(5, .int (nI f)), (4, .int (nI (o + x))), (2, .long (wv b q (we b n q))), (1, .int (nI q)), (0, .ref 88)]) hc58 (by simp)) ?_
          rintro _ _ ⟨rfl, t1, t0, t2⟩
          refine ⟨rfl, t1, t0, ?_⟩
          rw [qEntry, if_neg he, hfo]
          dsimp only
          rw [if_neg hnd, hqs]
          exact t2
        · -- pc 101
          refine xe_callV (a := 88) [.int (nI 58)] dX8_entry_101 ml_X8_169 mf_X8_sign (wK_i h.1.1) (by have := c_X8_sign (d + 1) hL1 (c := 58) (by decide); rw [if_neg hc58, mv_mv] at this; exact this) rfl rfl (Nat.le_of_ble_eq_true rfl) (Nat.le_of_ble_eq_true rfl) ?_
          rintro _ _ ⟨rfl, rfl⟩
          refine xe (fun _ _ kK => x_aload_n dX8_entry_104 rfl 4 rfl kK) ?_
          refine xe (fun _ _ kK => x_get dX8_entry_105 fl_X8_132 (wK_i (wK_i (wK_i h.1.1))) (gvl_i fz_8_4.2.2 (show e_i (flk (mv T (sk b n (we b n q))) 1 (sk b n (we b n q))) 516 88 = nI 1 from rfl)) kK) ?_
          refine xe (fun _ _ kK => x_if_eqF (tgt := 112) dX8_entry_108 (by decide) (by decide) kK) ?_
          exact xe_retv dX8_entry_111 rfl (⟨rfl, (FrM.si (FrM.si (FrM.si FrM.rf (by decide) _) (by decide) _) (by decide) _), (fun j hj => ⟨(wai_i (wai_i (wai_i rfl))), (wai_i (wai_i (wai_i rfl))), (wal_i (wal_i (wal_i rfl)))⟩), by rw [qEntry, if_neg he, hfo]; dsimp only; rw [if_neg hnd, show qSign b n (we b n q) 58 = .inl (sk b n (we b n q)) from if_neg hc58]; exact ⟨rfl, rfl, by decide, by decide, by omega⟩⟩)
      · -- pc 74
        have h71 := cv_ne (by omega) (by omega) h71
        refine xe (fun _ _ kK => x_aload_n dX8_entry_74 rfl 4 rfl kK) ?_
        refine xe (fun _ _ kK => x_iload dX8_entry_75 1 rfl kK) ?_
        refine xe (fun _ _ kK => x_iload dX8_entry_77 0 rfl kK) ?_
        refine xe_callV (a := 88) [.int (nI (o + x)), .int (nI f)] dX8_entry_79 ml_X8_220 mf_X8_hasNode (wK_i h.1.1) (c_X8_hasNode (d + 2) (T := mv T (we b n q)) (pa := pa) (x := x) (f := f) h.1 (hr.2.2.2.of rfl rfl rfl) hok hs60 hr.2.1 (by omega) (by omega) hx) rfl rfl (Nat.le_of_ble_eq_true rfl) (Nat.le_of_ble_eq_true rfl) ?_
        rintro _ T9 ⟨rfl, h9⟩
        refine xe_T h9 ?_
        refine xe_if_eq (tgt := 91) dX8_entry_82 (by decide) (fun h82 => ?_) (fun h82 => ?_)
        · -- pc 91
          have h82 := cv_b0 h82
          have hnd : ¬ (¬ s.2.2.2.2.2.1 f = 2 ∧ pB (hasN pa x f) = true) := fun z9 => by rw [h82] at z9; exact absurd z9.2 (by decide)
          refine xe (fun _ _ kK => x_aload_n dX8_entry_91 rfl 4 rfl kK) ?_
          refine xe (fun _ _ kK => x_get dX8_entry_92 fl_X8_132 (wK_i h.1.1) (gvl_i fz_8_4.2.2 (show e_i (mv T (we b n q)) 516 88 = nI 0 from (wi_i (fun q => absurd q.1 (by decide)) h.2.2.2.2.2.2))) kK) ?_
          refine xe (fun _ _ kK => x_if_neF (tgt := 104) dX8_entry_95 (by decide) nI_0 kK) ?_
          refine xe (fun _ _ kK => x_aload_n dX8_entry_98 rfl 4 rfl kK) ?_
          refine xe (fun _ _ kK => x_bipush dX8_entry_99 (show _ = nI 58 by decide) kK) ?_
          have hL1 : LX (mv T (we b n q)) n b (we b n q) := h.mv he1
          by_cases hc58 : sk b n (we b n q) < n ∧ b (sk b n (we b n q)) = 58
          · -- pc 101
            refine xe_callV (a := 88) [.int (nI 58)] dX8_entry_101 ml_X8_169 mf_X8_sign (wK_i h.1.1) (by have := c_X8_sign (d + 1) hL1 (c := 58) (by decide); rw [if_pos hc58, mv_mv] at this; exact this) rfl rfl (Nat.le_of_ble_eq_true rfl) (Nat.le_of_ble_eq_true rfl) ?_
            rintro _ _ ⟨rfl, rfl⟩
            have hqs : qSign b n (we b n q) 58 = .inr (sk b n (we b n q) + 1) := if_pos hc58
            refine xe (fun _ _ kK => x_aload_n dX8_entry_104 rfl 4 rfl kK) ?_
            refine xe (fun _ _ kK => x_get dX8_entry_105 fl_X8_132 (wK_i h.1.1) (gvl_i fz_8_4.2.2 (show e_i (mv T (sk b n (we b n q) + 1)) 516 88 = nI 0 from (wi_i (fun q => absurd q.1 (by decide)) h.2.2.2.2.2.2))) kK) ?_
            refine xe (fun _ _ kK => x_if_eqT (tgt := 112) dX8_entry_108 (by decide) nI_0 kK) ?_
            refine Xe.imp (tl (L := [(5, .int (nI f)), (4, .int (nI (o + x))), (2, .long (wv b q (we b n q))), (1, .int (nI q)), (0, .ref 88)]) hc58 (by simp)) ?_
            rintro _ _ ⟨rfl, t1, t0, t2⟩
            refine ⟨rfl, t1, t0, ?_⟩
            rw [qEntry, if_neg he, hfo]
            dsimp only
            rw [if_neg hnd, hqs]
            exact t2
          · -- pc 101
            refine xe_callV (a := 88) [.int (nI 58)] dX8_entry_101 ml_X8_169 mf_X8_sign (wK_i h.1.1) (by have := c_X8_sign (d + 1) hL1 (c := 58) (by decide); rw [if_neg hc58, mv_mv] at this; exact this) rfl rfl (Nat.le_of_ble_eq_true rfl) (Nat.le_of_ble_eq_true rfl) ?_
            rintro _ _ ⟨rfl, rfl⟩
            refine xe (fun _ _ kK => x_aload_n dX8_entry_104 rfl 4 rfl kK) ?_
            refine xe (fun _ _ kK => x_get dX8_entry_105 fl_X8_132 (wK_i (wK_i (wK_i h.1.1))) (gvl_i fz_8_4.2.2 (show e_i (flk (mv T (sk b n (we b n q))) 1 (sk b n (we b n q))) 516 88 = nI 1 from rfl)) kK) ?_
            refine xe (fun _ _ kK => x_if_eqF (tgt := 112) dX8_entry_108 (by decide) (by decide) kK) ?_
            exact xe_retv dX8_entry_111 rfl (⟨rfl, (FrM.si (FrM.si (FrM.si FrM.rf (by decide) _) (by decide) _) (by decide) _), (fun j hj => ⟨(wai_i (wai_i (wai_i rfl))), (wai_i (wai_i (wai_i rfl))), (wal_i (wal_i (wal_i rfl)))⟩), by rw [qEntry, if_neg he, hfo]; dsimp only; rw [if_neg hnd, show qSign b n (we b n q) 58 = .inl (sk b n (we b n q)) from if_neg hc58]; exact ⟨rfl, rfl, by decide, by decide, by omega⟩⟩)
        · -- pc 85
          have h82 := cv_b1 h82
          refine xe (fun _ _ kK => x_aload_n dX8_entry_85 rfl 4 rfl kK) ?_
          refine xe (fun _ _ kK => x_iconst dX8_entry_86 (show _ = nI 3 by decide) kK) ?_
          refine xe (fun _ _ kK => x_iload_n dX8_entry_87 rfl 3 rfl kK) ?_
          refine xe_callV (a := 88) [.int (nI 3), .int (nI q)] dX8_entry_88 ml_X8_148 mf_X8_fail (wK_i h.1.1) (c_X8_fail (d + 2) (T := (mv T (we b n q))) ((show FrM fsP asP T (mv T (we b n q)) from (FrM.si FrM.rf (by decide) _)).mi h.1) (wi_i (fun q => absurd q.1 (by decide)) h.2.2.2.2.2.2) (nI 3) (nI q)) rfl rfl (Nat.le_of_ble_eq_true rfl) (Nat.le_of_ble_eq_true rfl) ?_
          rintro _ _ ⟨rfl, rfl⟩
          refine xe (fun _ _ kK => x_aload_n dX8_entry_91 rfl 4 rfl kK) ?_
          refine xe (fun _ _ kK => x_get dX8_entry_92 fl_X8_132 (wK_i (wK_i (wK_i h.1.1))) (gvl_i fz_8_4.2.2 (show e_i (flk (mv T (we b n q)) 3 q) 516 88 = nI 3 from rfl)) kK) ?_
          refine xe (fun _ _ kK => x_if_neT (tgt := 104) dX8_entry_95 (by decide) (by decide) kK) ?_
          refine xe (fun _ _ kK => x_aload_n dX8_entry_104 rfl 4 rfl kK) ?_
          refine xe (fun _ _ kK => x_get dX8_entry_105 fl_X8_132 (wK_i (wK_i (wK_i h.1.1))) (gvl_i fz_8_4.2.2 (show e_i (flk (mv T (we b n q)) 3 q) 516 88 = nI 3 from rfl)) kK) ?_
          refine xe (fun _ _ kK => x_if_eqF (tgt := 112) dX8_entry_108 (by decide) (by decide) kK) ?_
          exact xe_retv dX8_entry_111 rfl (⟨rfl, (FrM.si (FrM.si (FrM.si FrM.rf (by decide) _) (by decide) _) (by decide) _), (fun j hj => ⟨(wai_i (wai_i (wai_i rfl))), (wai_i (wai_i (wai_i rfl))), (wal_i (wal_i (wal_i rfl)))⟩), by rw [qEntry, if_neg he, hfo]; dsimp only; rw [if_pos ⟨h71, h82⟩]; exact ⟨rfl, rfl, by decide, by decide, by omega⟩⟩)
