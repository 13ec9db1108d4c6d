theorem qSign_ok {b : Nat → Nat} {n p c p' : Nat} (h : qSign b n p c = .inr p') : p < p' ∧ p' ≤ n := by
  unfold qSign at h
  have := sk_ge b n p
  split at h
  · rename_i z; cases h; exact ⟨by omega, by omega⟩
  · cases h
theorem qVal_ok {b : Nat → Nat} {n q k e : Nat} {v : Int64} (hk : srt b n q = some k) (hk2 : ¬ k = 2) (h : qVal b n q k = .inr (v, e)) : q < e := by
  unfold qVal at h
  split at h
  · have h1 : q ≤ nst b q ∧ nst b q ≤ q + 1 := by unfold nst; split <;> omega
    have h2 := de_ge b n (nst b q)
    split at h
    · cases h
    · split at h
      · cases h
      · cases h; omega
  · rename_i hk0
    have h2 := we_ge b n q
    split at h
    · cases h
    · cases h
      unfold srt at hk
      split at hk
      · cases hk; exact absurd rfl hk0
      · split at hk
        · rename_i z; exact we_pos (pL_t z).1 (pL_t z).2
        · split at hk
          · cases hk; exact absurd rfl hk2
          · cases hk
theorem srt_lt {b : Nat → Nat} {n q k : Nat} (h : srt b n q = some k) : q < n := by
  unfold srt at h
  split at h
  · rename_i z
    rcases z with z | z
    · simp [pD] at z; exact z.1
    · exact z.1
  · split at h
    · rename_i z; exact (pL_t z).1
    · split at h
      · rename_i z; exact z.1
      · cases h
theorem qTail_ok {s : Sh} {dp : Nat → Nat} {b : Nat → Nat} {n q p o x f p' : Nat} {pa pa' : Pa} {xs gs' : List Nat} (hD : ShD s dp) (hqi : QI s dp n p o pa (x :: xs)) (hf1 : f < s.1) (hf2 : s.2.2.1 f = pa.2.1 x) (hpq : p + 2 ≤ q) (h : qTail s b n q pa x xs f = .inr (p', pa', gs')) : QI s dp n p' o pa' gs' ∧ p < p' ∧ gs' ≠ [] := by
  obtain ⟨h1, h2, h3, h4, h5, h6, h7⟩ := hqi
  have h4' : xs.length + 1 ≤ 5 := h4
  have h3' : 4 * pa.1 ≤ p + 3 + (xs.length + 1) := h3
  unfold qTail at h
  cases hs : srt b n q with
  | none => rw [hs] at h; cases h
  | some k =>
    have hlt := srt_lt hs
    rw [hs] at h
    dsimp only at h
    split at h
    · cases h
    rename_i hk
    have hk' : k = s.2.2.2.2.1 f := Classical.byContradiction hk
    split at h
    · rename_i hk2
      cases h
      have hd3 := (hD f hf1).2.2 (by omega)
      have hlen : xs.length = dp f := by
        have h1 := h6.1
        cases hnf : pa.2.1 x with
        | none => rw [hnf] at h1; have h1' : xs.length = 0 := h1; rw [h1', (hD f hf1).1 (hf2.trans hnf)]
        | some g => rw [hnf] at h1; have h1' : xs.length = dp g + 1 := h1; rw [h1', ((hD f hf1).2.1 g (hf2.trans hnf)).2]
      refine ⟨⟨by omega, h2, ?_, ?_, PaOk_add h5 hf1 h6.2.1, ⟨?_, Nat.lt_succ_self _, h6.add⟩, h7⟩, by omega, by simp⟩
      · show 4 * (pa.1 + 1) ≤ q + 1 + 3 + (xs.length + 1 + 1); omega
      · show xs.length + 1 + 1 ≤ 5; omega
      · show match va_up pa.2.1 pa.1 (some f) pa.1 with | none => xs.length + 1 = 0 | some g => xs.length + 1 = dp g + 1
        rw [va_up_self]
        show xs.length + 1 = dp f + 1
        omega
    · rename_i hk2n
      cases hv : qVal b n q k with
      | inl p2 => rw [hv] at h; cases h
      | inr ve =>
        obtain ⟨v, e⟩ := ve
        rw [hv] at h
        dsimp only at h
        have := qVal_ok hs hk2n hv
        cases hq : qSign b n e 59 with
        | inl p3 => rw [hq] at h; cases h
        | inr p3 =>
          rw [hq] at h
          cases h
          have := qSign_ok hq
          refine ⟨⟨by omega, h2, ?_, h4, PaOk_add h5 hf1 h6.2.1, h6.add, h7⟩, by omega, by simp⟩
          show 4 * (pa.1 + 1) ≤ p' + 3 + (xs.length + 1); omega
theorem qEntry_ok {s : Sh} {dp : Nat → Nat} {b : Nat → Nat} {n q o x p' : Nat} {pa pa' : Pa} {xs gs' : List Nat} (hD : ShD s dp) (hqi : QI s dp n q o pa (x :: xs)) (h : qEntry s b n q pa x xs = .inr (p', pa', gs')) : QI s dp n p' o pa' gs' ∧ q < p' ∧ gs' ≠ [] := by
  unfold qEntry at h
  have e0 := we_ge b n q
  split at h
  · cases h
  rename_i he
  cases hf : findF s (pa.2.1 x) (wd b q (we b n q)) with
  | none => rw [hf] at h; cases h
  | some f =>
    rw [hf] at h
    dsimp only at h
    obtain ⟨f1, f2, -⟩ := findF_ok hf
    split at h
    · cases h
    cases hq : qSign b n (we b n q) 58 with
    | inl p3 => rw [hq] at h; cases h
    | inr p3 =>
      rw [hq] at h
      have := qSign_ok hq
      have := sk_ge b n p3
      exact qTail_ok hD hqi f1 f2 (by omega) h
theorem QI.mv {s : Sh} {dp : Nat → Nat} {n p q o : Nat} {pa : Pa} {gs : List Nat} (h : QI s dp n p o pa gs) (h1 : p ≤ q) (h2 : q ≤ n) : QI s dp n q o pa gs := ⟨h2, h.2.1, by have := h.2.2.1; omega, h.2.2.2⟩
def qNext (s : Sh) (b : Nat → Nat) (n f : Nat) (pa : Pa) (r : (Nat × Nat) ⊕ Option (Nat × Pa × List Nat)) : (Nat × Nat) ⊕ Pa → Prop := fun z => z = match r with
  | .inl x => .inl x
  | .inr none => .inr pa
  | .inr (some (p', pa', gs')) => qLoop s b n f p' pa' gs'
theorem qLoop_inl {s : Sh} {b : Nat → Nat} {n p f : Nat} {pa : Pa} {gs : List Nat} {x : Nat × Nat} (h : qStep s b n p pa gs = .inl x) : qLoop s b n (f + 1) p pa gs = .inl x := by rw [qLoop, h]
theorem qLoop_done {s : Sh} {b : Nat → Nat} {n p f : Nat} {pa : Pa} {gs : List Nat} (h : qStep s b n p pa gs = .inr none) : qLoop s b n (f + 1) p pa gs = .inr pa := by rw [qLoop, h]
theorem qLoop_go {s : Sh} {b : Nat → Nat} {n p f p' : Nat} {pa pa' : Pa} {gs gs' : List Nat} (h : qStep s b n p pa gs = .inr (some (p', pa', gs'))) : qLoop s b n (f + 1) p pa gs = qLoop s b n f p' pa' gs' := by rw [qLoop, h]

set_option maxHeartbeats 4000000 in
theorem l_X8_readsPaper (d : Nat) {n : Nat} {b : Nat → Nat} {s : Sh} {dp : Nat → Nat} {o : Nat} (hSB : ShB s) (hD : ShD s dp) : ∀ (m fu : Nat) (T : TH) (p : Nat) (pa : Pa) (gs : List Nat), n - p = m → LX T n b p → MSh T s → RP T o pa gs → QI s dp n p o pa gs → gs ≠ [] → n + 1 - p ≤ fu → Xe m_X8_readsPaper (d + 4) 33 [(1, .int (nI 1)), (0, .ref 88)] [] T
    (fun r T1 => r = none ∧ FrM fsP asP T T1 ∧ LowN T T1 o ∧ match qLoop s b n fu p pa gs with
      | .inl (k, q) => EndL T1 k q
      | .inr pa' => e_i T1 516 88 = nI 0 ∧ e_i T1 517 88 = e_i T 517 88 ∧ e_i T1 548 88 = nI (o + pa'.1) ∧ PN T1 o pa' ∧ PaOk s.1 pa' ∧ 4 * pa'.1 ≤ 404) := by
  intro m
  induction m using Nat.strongRecOn with
  | ind m ih =>
    intro fu0 T p pa gs hm h hS hr hqi hne hfu
    subst hm
    obtain ⟨x, xs, rfl⟩ : ∃ x xs, gs = x :: xs := by cases gs with | nil => exact absurd rfl hne | cons x xs => exact ⟨x, xs, rfl⟩
    obtain ⟨hp1, hn4, hp3, hgl, hok, hst, ho⟩ := id hqi
    have hgl' : xs.length + 1 ≤ 5 := hgl
    have hp3' : 4 * pa.1 ≤ p + 3 + (xs.length + 1) := hp3
    obtain ⟨fu, rfl⟩ : ∃ fu, fu0 = fu + 1 := ⟨fu0 - 1, by omega⟩
    have hx := hst.2.1
    have hq0 := sk_ge b n p
    have hq1 := sk_n (b := b) h.2.2.2.2.1
    have hs60 := hSB.1
    refine xe (fun _ _ kK => x_iload_n dX8_readsPaper_33 rfl 0 rfl kK) ?_
    refine xe (fun _ _ kK => x_if_eqF (tgt := 181) dX8_readsPaper_34 (by decide) (by decide) kK) ?_
    refine xe (fun _ _ kK => x_aload_n dX8_readsPaper_37 rfl 1 rfl kK) ?_
    refine xe (fun _ _ kK => x_get dX8_readsPaper_38 fl_X8_132 h.1.1 (gvl_i fz_8_4.2.2 (show e_i T 516 88 = nI 0 from h.2.2.2.2.2.2)) kK) ?_
    refine xe (fun _ _ kK => x_if_neF (tgt := 181) dX8_readsPaper_41 (by decide) nI_0 kK) ?_
    refine xe (fun _ _ kK => x_aload_n dX8_readsPaper_44 rfl 1 rfl kK) ?_
    refine xe_callV (a := 88) [] dX8_readsPaper_45 ml_X8_144 mf_X8_next h.1.1 (c_X8_next (d + 3) _ T p n b rfl h.1 h.2.1 h.2.2.1 h.2.2.2.1 h.2.2.2.2.1 h.2.2.2.2.2.1) rfl rfl (Nat.le_of_ble_eq_true rfl) (Nat.le_of_ble_eq_true rfl) ?_
    rintro _ _ ⟨rfl, rfl⟩
    have hL1 : LX (mv T (sk b n p)) n b (sk b n p) := h.mv hq1
    have hr1 : RP (mv T (sk b n p)) o pa (x :: xs) := ⟨hr.1, hr.2.1, hr.2.2.1.of (fun _ _ => rfl), hr.2.2.2.of rfl rfl rfl⟩
    refine xe (fun _ _ kK => x_istore_n dX8_readsPaper_48 rfl (by decide) (show _ = [(2, .int (pk b n (sk b n p))), (1, .int (nI 1)), (0, .ref 88)] from rfl) kK) ?_
    refine xe (fun _ _ kK => x_iload_n dX8_readsPaper_49 rfl 0 rfl kK) ?_
    refine xe (fun _ _ kK => x_iconst dX8_readsPaper_50 (show _ = (-1) by decide) kK) ?_
    by_cases hend : n ≤ sk b n p
    · -- pc 51
      refine xe (fun _ _ kK => x_icmp_neF (tgt := 100) dX8_readsPaper_51 (by decide) (show pk b n (sk b n p) = -1 by rw [pk, if_neg (by omega)]) kK) ?_
      refine xe (fun _ _ kK => x_iconst dX8_readsPaper_54 (show _ = nI 0 by decide) kK) ?_
      refine xe (fun _ _ kK => x_istore_n dX8_readsPaper_55 rfl (by decide) (show _ = [(1, .int (nI 0)), (2, .int (pk b n (sk b n p))), (0, .ref 88)] from rfl) kK) ?_
      refine xe (fun _ _ kK => x_aload_n dX8_readsPaper_56 rfl 2 rfl kK) ?_
      refine xe (fun _ _ kK => x_get dX8_readsPaper_57 fl_X8_180 (wK_i h.1.1) (gvl_i fz_8_30.2.2 (show e_i (mv T (sk b n p)) 542 88 = nI xs.length from (wi_i (fun q => absurd q.1 (by decide)) hr.1))) kK) ?_
      refine xe_if_le (tgt := 75) dX8_readsPaper_60 (by decide) (fun h60 => ?_) (fun h60 => ?_)
      · -- pc 75
        have h60 := cv_le0 (by omega) h60
        refine xe (fun _ _ kK => x_aload_n dX8_readsPaper_75 rfl 2 rfl kK) ?_
        refine xe (fun _ _ kK => x_aload_n dX8_readsPaper_76 rfl 2 rfl kK) ?_
        refine xe (fun _ _ kK => x_get dX8_readsPaper_77 fl_X8_68 (wK_i h.1.1) (gvl_r1 fz_8_28.2.2 (show e_r (mv T (sk b n p)) 540 88 = some 100 from (wr_i (h.1.2.1 28)))) kK) ?_
        refine xe (fun _ _ kK => x_iconst dX8_readsPaper_80 (show _ = nI 0 by decide) kK) ?_
        refine xe (fun _ _ kK => x_iald dX8_readsPaper_81 (wK_i (h.1.2.2.1 11 (by decide))) (show (nI 0) = nI 0 from rfl) (wN_i (mi_len h.1 11 (by decide) (show 0 < 8 by omega))) (show e_ai (mv T (sk b n p)) 100 0 = nI (o + x) from (wai_i (by rw [← h60]; exact hr.2.2.1.1))) kK) ?_
        refine xe_callV (a := 88) [.int (nI (o + x))] dX8_readsPaper_82 ml_X8_242 mf_X8_lacks (wK_i h.1.1) (c_X8_lacks (d + 2) (T := mv T (sk b n p)) (s := s) (x := x) h.1 hS hSB hr1.2.2.2 hok hr.2.1 (by omega) hx) rfl rfl (Nat.le_of_ble_eq_true rfl) (Nat.le_of_ble_eq_true rfl) ?_
        rintro _ T9 ⟨rfl, h9⟩
        refine xe_T h9 ?_
        refine xe_if_eq (tgt := 178) dX8_readsPaper_85 (by decide) (fun h85 => ?_) (fun h85 => ?_)
        · -- pc 178
          have h85 := cv_b0 h85
          refine xe (fun _ _ kK => x_goto (tgt := 33) dX8_readsPaper_178 (by decide) kK) ?_
          refine xe (fun _ _ kK => x_iload_n dX8_readsPaper_33 rfl 0 rfl kK) ?_
          refine xe (fun _ _ kK => x_if_eqT (tgt := 181) dX8_readsPaper_34 (by decide) (by decide) kK) ?_
          exact xe_retv dX8_readsPaper_181 rfl (⟨rfl, (FrM.si FrM.rf (by decide) _), (fun j hj => ⟨(wai_i rfl), (wai_i rfl), (wal_i rfl)⟩), by rw [qLoop_done (show qStep s b n p pa (x :: xs) = .inr none by rw [qStep, if_pos hend, if_neg (fun z9 => z9 h60), if_neg (by rw [h85]; decide)])]; exact ⟨(wi_i (fun q => absurd q.1 (by decide)) h.2.2.2.2.2.2), rfl, hr.2.1, hr1.2.2.2, hok, by omega⟩⟩)
        · -- pc 88
          have h85 := cv_b1 h85
          refine xe (fun _ _ kK => x_aload_n dX8_readsPaper_88 rfl 2 rfl kK) ?_
          refine xe (fun _ _ kK => x_iconst dX8_readsPaper_89 (show _ = nI 4 by decide) kK) ?_
          refine xe (fun _ _ kK => x_aload_n dX8_readsPaper_90 rfl 2 rfl kK) ?_
          refine xe (fun _ _ kK => x_get dX8_readsPaper_91 fl_X8_138 (wK_i h.1.1) (gvl_i fz_8_2.2.2 (show e_i (mv T (sk b n p)) 514 88 = nI (sk b n p) from rfl)) kK) ?_
          refine xe_callV (a := 88) [.int (nI 4), .int (nI (sk b n p))] dX8_readsPaper_94 ml_X8_148 mf_X8_fail (wK_i h.1.1) (c_X8_fail (d + 3) (T := (mv T (sk b n p))) ((show FrM fsP asP T (mv T (sk b n p)) from (FrM.si FrM.rf (by decide) _)).mi h.1) (wi_i (fun q => absurd q.1 (by decide)) h.2.2.2.2.2.2) (nI 4) (nI (sk b n p))) rfl rfl (Nat.le_of_ble_eq_true rfl) (Nat.le_of_ble_eq_true rfl) ?_
          rintro _ _ ⟨rfl, rfl⟩
          refine xe (fun _ _ kK => x_goto (tgt := 178) dX8_readsPaper_97 (by decide) kK) ?_
          refine xe (fun _ _ kK => x_goto (tgt := 33) dX8_readsPaper_178 (by decide) kK) ?_
          refine xe (fun _ _ kK => x_iload_n dX8_readsPaper_33 rfl 0 rfl kK) ?_
          refine xe (fun _ _ kK => x_if_eqT (tgt := 181) dX8_readsPaper_34 (by decide) (by decide) kK) ?_
          exact xe_retv dX8_readsPaper_181 rfl (⟨rfl, (FrM.si (FrM.si (FrM.si FrM.rf (by decide) _) (by decide) _) (by decide) _), (fun j hj => ⟨(wai_i (wai_i (wai_i rfl))), (wai_i (wai_i (wai_i rfl))), (wal_i (wal_i (wal_i rfl)))⟩), by rw [qLoop_inl (show qStep s b n p pa (x :: xs) = .inl (4, sk b n p) by rw [qStep, if_pos hend, if_neg (fun z9 => z9 h60), if_pos h85])]; exact ⟨rfl, rfl, by decide, by decide, by omega⟩⟩)
      · -- pc 63
        have h60 := cv_gt0 (by omega) h60
        refine xe (fun _ _ kK => x_aload_n dX8_readsPaper_63 rfl 2 rfl kK) ?_
        refine xe (fun _ _ kK => x_iconst dX8_readsPaper_64 (show _ = nI 1 by decide) kK) ?_
        refine xe (fun _ _ kK => x_aload_n dX8_readsPaper_65 rfl 2 rfl kK) ?_
        refine xe (fun _ _ kK => x_get dX8_readsPaper_66 fl_X8_138 (wK_i h.1.1) (gvl_i fz_8_2.2.2 (show e_i (mv T (sk b n p)) 514 88 = nI (sk b n p) from rfl)) kK) ?_
        refine xe_callV (a := 88) [.int (nI 1), .int (nI (sk b n p))] dX8_readsPaper_69 ml_X8_148 mf_X8_fail (wK_i h.1.1) (c_X8_fail (d + 3) (T := (mv T (sk b n p))) ((show FrM fsP asP T (mv T (sk b n p)) from (FrM.si FrM.rf (by decide) _)).mi h.1) (wi_i (fun q => absurd q.1 (by decide)) h.2.2.2.2.2.2) (nI 1) (nI (sk b n p))) rfl rfl (Nat.le_of_ble_eq_true rfl) (Nat.le_of_ble_eq_true rfl) ?_
        rintro _ _ ⟨rfl, rfl⟩
        refine xe (fun _ _ kK => x_goto (tgt := 178) dX8_readsPaper_72 (by decide) kK) ?_
        refine xe (fun _ _ kK => x_goto (tgt := 33) dX8_readsPaper_178 (by decide) kK) ?_
        refine xe (fun _ _ kK => x_iload_n dX8_readsPaper_33 rfl 0 rfl kK) ?_
        refine xe (fun _ _ kK => x_if_eqT (tgt := 181) dX8_readsPaper_34 (by decide) (by decide) kK) ?_
        exact xe_retv dX8_readsPaper_181 rfl (⟨rfl, (FrM.si (FrM.si (FrM.si FrM.rf (by decide) _) (by decide) _) (by decide) _), (fun j hj => ⟨(wai_i (wai_i (wai_i rfl))), (wai_i (wai_i (wai_i rfl))), (wal_i (wal_i (wal_i rfl)))⟩), by rw [qLoop_inl (show qStep s b n p pa (x :: xs) = .inl (1, sk b n p) by rw [qStep, if_pos hend, if_pos (by omega)])]; exact ⟨rfl, rfl, by decide, by decide, by omega⟩⟩)
    · -- pc 51
      have hlt : sk b n p < n := by omega
      have hbq := (h.2.1 _ hlt).2
      have hpk : pk b n (sk b n p) = nI (b (sk b n p)) := by rw [pk, if_pos hlt]
      refine xe (fun _ _ kK => x_icmp_neT (tgt := 100) dX8_readsPaper_51 (by decide) (show ¬ pk b n (sk b n p) = -1 by rw [hpk]; exact nI_m1 (by omega)) kK) ?_
      refine xe (fun _ _ kK => x_iload_n dX8_readsPaper_100 rfl 0 rfl kK) ?_
      refine xe (fun _ _ kK => x_bipush dX8_readsPaper_101 (show _ = nI 93 by decide) kK) ?_
      by_cases h93 : b (sk b n p) = 93
      · -- pc 103
        refine xe (fun _ _ kK => x_icmp_neF (tgt := 174) dX8_readsPaper_103 (by decide) (show pk b n (sk b n p) = nI 93 by rw [hpk, h93]) kK) ?_
        refine xe (fun _ _ kK => x_aload_n dX8_readsPaper_106 rfl 2 rfl kK) ?_
        refine xe (fun _ _ kK => x_get dX8_readsPaper_107 fl_X8_180 (wK_i h.1.1) (gvl_i fz_8_30.2.2 (show e_i (mv T (sk b n p)) 542 88 = nI xs.length from (wi_i (fun q => absurd q.1 (by decide)) hr.1))) kK) ?_
        refine xe_if_le (tgt := 174) dX8_readsPaper_110 (by decide) (fun h110 => ?_) (fun h110 => ?_)
        · -- pc 174
          have h110 := cv_le0 (by omega) h110
          refine xe (fun _ _ kK => x_aload_n dX8_readsPaper_174 rfl 2 rfl kK) ?_
          refine xe_callV (a := 88) [] dX8_readsPaper_175 ml_X8_245 mf_X8_entry (wK_i h.1.1) (c_X8_entry d hL1 (sk_sk b n p) hS hSB hD hr1 (hqi.mv hq0 hq1)) rfl rfl (Nat.le_of_ble_eq_true rfl) (Nat.le_of_ble_eq_true rfl) ?_
          rintro _ T9 ⟨rfl, hF9, hW9, hP9⟩
          cases hpf : qEntry s b n (sk b n p) pa x xs with
          | inl x9 =>
            obtain ⟨k9, q9⟩ := x9
            rw [hpf] at hP9
            obtain ⟨g1, g2, g3, g4, g5⟩ := hP9
            refine xe (fun _ _ kK => x_goto (tgt := 33) dX8_readsPaper_178 (by decide) kK) ?_
            refine xe (fun _ _ kK => x_iload_n dX8_readsPaper_33 rfl 1 rfl kK) ?_
            refine xe (fun _ _ kK => x_if_eqF (tgt := 181) dX8_readsPaper_34 (by decide) (by decide) kK) ?_
            refine xe (fun _ _ kK => x_aload_n dX8_readsPaper_37 rfl 2 rfl kK) ?_
            refine xe (fun _ _ kK => x_get dX8_readsPaper_38 fl_X8_132 (hF9.mi h.1).1 (gvl_i fz_8_4.2.2 (show e_i T9 516 88 = nI k9 from g1)) kK) ?_
            refine xe (fun _ _ kK => x_if_neT (tgt := 181) dX8_readsPaper_41 (by decide) (fun z9 => by have := cv_z (by omega) z9; omega) kK) ?_
            exact xe_retv dX8_readsPaper_181 rfl (⟨rfl, FrM.tr (FrM.si FrM.rf (by decide) _) hF9, (fun j hj => hW9 j hj), by rw [qLoop_inl (show qStep s b n p pa (x :: xs) = .inl (k9, q9) by rw [qStep, if_neg hend, if_neg (fun z9 => z9.2 h110)]; rw [hpf]; rfl)]; exact ⟨g1, g2, g3, g4, g5⟩⟩)
          | inr y9 =>
            obtain ⟨p9, pa9, gs9⟩ := y9
            rw [hpf] at hP9
            obtain ⟨g1, g2, g3⟩ := hP9
            obtain ⟨j1, j2, j3⟩ := qEntry_ok hD (hqi.mv hq0 hq1) hpf
            refine xe (fun _ _ kK => x_goto (tgt := 33) dX8_readsPaper_178 (by decide) kK) ?_
            have hF8 : FrM fsP asP T T9 := FrM.tr (FrM.si FrM.rf (by decide) _) hF9
            refine Xe.imp (xe_loc (by simp) (ih (n - p9) (by have := j1.1; omega) fu T9 p9 pa9 gs9 rfl g1 (hS.of hF8 (by decide) (by decide) (by decide)) g2 j1 j3 (by omega))) ?_
            rintro _ T8 ⟨rfl, u1, uw, u2⟩
            refine ⟨rfl, FrM.tr hF8 u1, LowN.tr (fun j hj => hW9 j hj) uw, ?_⟩
            rw [qLoop_go (show qStep s b n p pa (x :: xs) = .inr (some (p9, pa9, gs9)) by rw [qStep, if_neg hend, if_neg (fun z9 => z9.2 h110)]; rw [hpf]; rfl)]
            cases hpl : qLoop s b n fu p9 pa9 gs9 with
            | inl x8 => rw [hpl] at u2; exact u2
            | inr x8 => rw [hpl] at u2; exact ⟨u2.1, u2.2.1.trans g3, u2.2.2⟩
        · -- pc 113
          have h110 := cv_gt0 (by omega) h110
          cases xs with
          | nil => exact absurd h110 (by decide)
          | cons x2 xs2 =>
            have hxl : (x2 :: xs2).length = xs2.length + 1 := rfl
            have hdp : e_i T 542 88 = nI (xs2.length + 1) := hr.1
            have hgl2 : xs2.length + 1 ≤ 4 := by rw [hxl] at hgl'; omega
            refine xe (fun _ _ kK => x_aload_n dX8_readsPaper_113 rfl 2 rfl kK) ?_
            refine xe (fun _ _ kK => x_aload_n dX8_readsPaper_114 rfl 2 rfl kK) ?_
            refine xe (fun _ _ kK => x_get dX8_readsPaper_115 fl_X8_68 (wK_i h.1.1) (gvl_r1 fz_8_28.2.2 (show e_r (mv T (sk b n p)) 540 88 = some 100 from (wr_i (h.1.2.1 28)))) kK) ?_
            refine xe (fun _ _ kK => x_aload_n dX8_readsPaper_118 rfl 2 rfl kK) ?_
            refine xe (fun _ _ kK => x_get dX8_readsPaper_119 fl_X8_180 (wK_i h.1.1) (gvl_i fz_8_30.2.2 (show e_i (mv T (sk b n p)) 542 88 = nI (xs2.length + 1) from (wi_i (fun q => absurd q.1 (by decide)) hdp))) kK) ?_
            refine xe (fun _ _ kK => x_iald dX8_readsPaper_122 (wK_i (h.1.2.2.1 11 (by decide))) (show (nI (xs2.length + 1)) = nI (xs2.length + 1) from rfl) (wN_i (mi_len h.1 11 (by decide) (show xs2.length + 1 < 8 by omega))) (show e_ai (mv T (sk b n p)) 100 (xs2.length + 1) = nI (o + x) from (wai_i hr.2.2.1.1)) kK) ?_
            refine xe_callV (a := 88) [.int (nI (o + x))] dX8_readsPaper_123 ml_X8_242 mf_X8_lacks (wK_i h.1.1) (c_X8_lacks (d + 2) (T := mv T (sk b n p)) (s := s) (x := x) h.1 hS hSB hr1.2.2.2 hok hr.2.1 (by omega) hx) rfl rfl (Nat.le_of_ble_eq_true rfl) (Nat.le_of_ble_eq_true rfl) ?_
            rintro _ T9 ⟨rfl, h9⟩
            refine xe_T h9 ?_
            refine xe_if_eq (tgt := 138) dX8_readsPaper_126 (by decide) (fun h126 => ?_) (fun h126 => ?_)
            · -- pc 138
              have h126 := cv_b0 h126
              refine xe (fun _ _ kK => x_aload_n dX8_readsPaper_138 rfl 2 rfl kK) ?_
              refine xe (fun _ _ kK => x_dup dX8_readsPaper_139 rfl kK) ?_
              refine xe (fun _ _ kK => x_get dX8_readsPaper_140 fl_X8_138 (wK_i h.1.1) (gvl_i fz_8_2.2.2 (show e_i (mv T (sk b n p)) 514 88 = nI (sk b n p) from rfl)) kK) ?_
              refine xe (fun _ _ kK => x_iconst dX8_readsPaper_143 (show _ = nI 1 by decide) kK) ?_
              refine xe (fun _ _ kK => x_iadd dX8_readsPaper_144 kK) ?_
              refine xe_ti (show _ = nI ((sk b n p) + 1) from nI_add (sk b n p) 1) ?_
              refine xe (fun _ _ kK => x_puti dX8_readsPaper_145 ⟨fl_X8_138, fz_8_2.1, fz_8_2.2.1⟩ (Or.inl fz_8_2.2.2) rfl rfl (wK_i h.1.1) kK) ?_
              refine xe (fun _ _ kK => x_aload_n dX8_readsPaper_148 rfl 2 rfl kK) ?_
              refine xe (fun _ _ kK => x_dup dX8_readsPaper_149 rfl kK) ?_
              refine xe (fun _ _ kK => x_get dX8_readsPaper_150 fl_X8_180 (wK_i (wK_i h.1.1)) (gvl_i fz_8_30.2.2 (show e_i (s_i (mv T (sk b n p)) 514 88 (nI ((sk b n p) + 1))) 542 88 = nI (xs2.length + 1) from (wi_i (fun q => absurd q.1 (by decide)) (wi_i (fun q => absurd q.1 (by decide)) hdp)))) kK) ?_
              refine xe (fun _ _ kK => x_iconst dX8_readsPaper_153 (show _ = nI 1 by decide) kK) ?_
              refine xe (fun _ _ kK => x_isub dX8_readsPaper_154 kK) ?_
              refine xe_ti (show _ = nI ((xs2.length + 1) - 1) from pk_sub (by omega)) ?_
              refine xe (fun _ _ kK => x_puti dX8_readsPaper_155 ⟨fl_X8_180, fz_8_30.1, fz_8_30.2.1⟩ (Or.inl fz_8_30.2.2) rfl rfl (wK_i (wK_i h.1.1)) kK) ?_
              refine xe (fun _ _ kK => x_aload_n dX8_readsPaper_158 rfl 2 rfl kK) ?_
              refine xe (fun _ _ kK => x_get dX8_readsPaper_159 fl_X8_132 (wK_i (wK_i (wK_i h.1.1))) (gvl_i fz_8_4.2.2 (show e_i (s_i (s_i (mv T (sk b n p)) 514 88 (nI ((sk b n p) + 1))) 542 88 (nI ((xs2.length + 1) - 1))) 516 88 = nI 0 from (wi_i (fun q => absurd q.1 (by decide)) (wi_i (fun q => absurd q.1 (by decide)) (wi_i (fun q => absurd q.1 (by decide)) h.2.2.2.2.2.2))))) kK) ?_
              refine xe (fun _ _ kK => x_if_neF (tgt := 178) dX8_readsPaper_162 (by decide) nI_0 kK) ?_
              refine xe (fun _ _ kK => x_aload_n dX8_readsPaper_165 rfl 2 rfl kK) ?_
              refine xe (fun _ _ kK => x_bipush dX8_readsPaper_166 (show _ = nI 59 by decide) kK) ?_
              have hL5 : LX (s_i (s_i (mv T (sk b n p)) 514 88 (nI ((sk b n p) + 1))) 542 88 (nI ((xs2.length + 1) - 1))) n b (sk b n p + 1) := (LX.ofP h (FrM.si (FrM.si (FrM.si FrM.rf (by decide) _) (by decide) _) (by decide) _) rfl (by omega) (wi_i (fun q => absurd q.1 (by decide)) (wi_i (fun q => absurd q.1 (by decide)) (wi_i (fun q => absurd q.1 (by decide)) h.2.2.2.2.2.2))))
              have hs0 := sk_ge b n (sk b n p + 1)
              have hs1 := sk_n (b := b) (n := n) (p := sk b n p + 1) (by omega)
              by_cases h59 : sk b n (sk b n p + 1) < n ∧ b (sk b n (sk b n p + 1)) = 59
              · -- pc 168
                refine xe_callV (a := 88) [.int (nI 59)] dX8_readsPaper_168 ml_X8_169 mf_X8_sign (wK_i (wK_i (wK_i h.1.1))) (by have := c_X8_sign (d + 2) hL5 (c := 59) (by decide); rw [if_pos h59] at this; exact this) rfl rfl (Nat.le_of_ble_eq_true rfl) (Nat.le_of_ble_eq_true rfl) ?_
                rintro _ _ ⟨rfl, rfl⟩
                refine xe (fun _ _ kK => x_goto (tgt := 178) dX8_readsPaper_171 (by decide) kK) ?_
                refine xe (fun _ _ kK => x_goto (tgt := 33) dX8_readsPaper_178 (by decide) kK) ?_
                have hF8 : FrM fsP asP T (mv (s_i (s_i (mv T (sk b n p)) 514 88 (nI ((sk b n p) + 1))) 542 88 (nI ((xs2.length + 1) - 1))) (sk b n (sk b n p + 1) + 1)) := (FrM.si (FrM.si (FrM.si (FrM.si FrM.rf (by decide) _) (by decide) _) (by decide) _) (by decide) _)
                have hL6 : LX (mv (s_i (s_i (mv T (sk b n p)) 514 88 (nI ((sk b n p) + 1))) 542 88 (nI ((xs2.length + 1) - 1))) (sk b n (sk b n p + 1) + 1)) n b (sk b n (sk b n p + 1) + 1) := (LX.ofP h (FrM.si (FrM.si (FrM.si (FrM.si FrM.rf (by decide) _) (by decide) _) (by decide) _) (by decide) _) rfl (by omega) (wi_i (fun q => absurd q.1 (by decide)) (wi_i (fun q => absurd q.1 (by decide)) (wi_i (fun q => absurd q.1 (by decide)) (wi_i (fun q => absurd q.1 (by decide)) h.2.2.2.2.2.2)))))
                have hR6 : RP (mv (s_i (s_i (mv T (sk b n p)) 514 88 (nI ((sk b n p) + 1))) 542 88 (nI ((xs2.length + 1) - 1))) (sk b n (sk b n p + 1) + 1)) o pa (x2 :: xs2) := ⟨rfl, (wi_i (fun q => absurd q.1 (by decide)) (wi_i (fun q => absurd q.1 (by decide)) (wi_i (fun q => absurd q.1 (by decide)) (wi_i (fun q => absurd q.1 (by decide)) hr.2.1)))), hr.2.2.1.2.of (fun j hj => (wai_i (wai_i (wai_i (wai_i rfl))))), hr.2.2.2.of rfl rfl rfl⟩
                have hI6 : QI s dp n (sk b n (sk b n p + 1) + 1) o pa (x2 :: xs2) := ⟨by omega, hn4, by show 4 * pa.1 ≤ sk b n (sk b n p + 1) + 1 + 3 + (xs2.length + 1); rw [hxl] at hp3'; omega, by rw [hxl]; omega, hok, hst.2.2, ho⟩
                refine Xe.imp (xe_loc (by simp) (ih (n - (sk b n (sk b n p + 1) + 1)) (by omega) fu _ (sk b n (sk b n p + 1) + 1) pa (x2 :: xs2) rfl hL6 (hS.of hF8 (by decide) (by decide) (by decide)) hR6 hI6 (by simp) (by omega))) ?_
                rintro _ T8 ⟨rfl, u1, uw, u2⟩
                refine ⟨rfl, FrM.tr hF8 u1, LowN.tr (fun j hj => ⟨(wai_i (wai_i (wai_i (wai_i rfl)))), (wai_i (wai_i (wai_i (wai_i rfl)))), (wal_i (wal_i (wal_i (wal_i rfl))))⟩) uw, ?_⟩
                rw [qLoop_go (show qStep s b n p pa (x :: x2 :: xs2) = .inr (some (sk b n (sk b n p + 1) + 1, pa, x2 :: xs2)) by rw [qStep, if_neg hend, if_pos ⟨h93, by rw [hxl]; omega⟩, if_neg (by rw [h126]; decide)]; rw [show qSign b n (sk b n p + 1) 59 = .inr (sk b n (sk b n p + 1) + 1) from if_pos h59])]
                cases hpl : qLoop s b n fu (sk b n (sk b n p + 1) + 1) pa (x2 :: xs2) with
                | inl x8 => rw [hpl] at u2; exact u2
                | inr x8 => rw [hpl] at u2; exact ⟨u2.1, u2.2.1.trans (wi_i (fun q => absurd q.1 (by decide)) (wi_i (fun q => absurd q.1 (by decide)) (wi_i (fun q => absurd q.1 (by decide)) (wi_i (fun q => absurd q.1 (by decide)) rfl)))), u2.2.2⟩
              · -- pc 168
                refine xe_callV (a := 88) [.int (nI 59)] dX8_readsPaper_168 ml_X8_169 mf_X8_sign (wK_i (wK_i (wK_i h.1.1))) (by have := c_X8_sign (d + 2) hL5 (c := 59) (by decide); rw [if_neg h59] at this; exact this) rfl rfl (Nat.le_of_ble_eq_true rfl) (Nat.le_of_ble_eq_true rfl) ?_
                rintro _ _ ⟨rfl, rfl⟩
                refine xe (fun _ _ kK => x_goto (tgt := 178) dX8_readsPaper_171 (by decide) kK) ?_
                refine xe (fun _ _ kK => x_goto (tgt := 33) dX8_readsPaper_178 (by decide) kK) ?_
                refine xe (fun _ _ kK => x_iload_n dX8_readsPaper_33 rfl 1 rfl kK) ?_
                refine xe (fun _ _ kK => x_if_eqF (tgt := 181) dX8_readsPaper_34 (by decide) (by decide) kK) ?_
                refine xe (fun _ _ kK => x_aload_n dX8_readsPaper_37 rfl 2 rfl kK) ?_
                refine xe (fun _ _ kK => x_get dX8_readsPaper_38 fl_X8_132 (wK_i (wK_i (wK_i (wK_i (wK_i (wK_i h.1.1)))))) (gvl_i fz_8_4.2.2 (show e_i (flk (mv (s_i (s_i (mv T (sk b n p)) 514 88 (nI ((sk b n p) + 1))) 542 88 (nI ((xs2.length + 1) - 1))) (sk b n (sk b n p + 1))) 1 (sk b n (sk b n p + 1))) 516 88 = nI 1 from rfl)) kK) ?_
                refine xe (fun _ _ kK => x_if_neT (tgt := 181) dX8_readsPaper_41 (by decide) (by decide) kK) ?_
                exact xe_retv dX8_readsPaper_181 rfl (⟨rfl, (FrM.si (FrM.si (FrM.si (FrM.si (FrM.si (FrM.si FrM.rf (by decide) _) (by decide) _) (by decide) _) (by decide) _) (by decide) _) (by decide) _), (fun j hj => ⟨(wai_i (wai_i (wai_i (wai_i (wai_i (wai_i rfl)))))), (wai_i (wai_i (wai_i (wai_i (wai_i (wai_i rfl)))))), (wal_i (wal_i (wal_i (wal_i (wal_i (wal_i rfl))))))⟩), by rw [qLoop_inl (show qStep s b n p pa (x :: x2 :: xs2) = .inl (1, sk b n (sk b n p + 1)) by rw [qStep, if_neg hend, if_pos ⟨h93, by rw [hxl]; omega⟩, if_neg (by rw [h126]; decide)]; rw [show qSign b n (sk b n p + 1) 59 = .inl (sk b n (sk b n p + 1)) from if_neg h59])]; exact ⟨rfl, rfl, by decide, by decide, by omega⟩⟩)
            · -- pc 129
              have h126 := cv_b1 h126
              refine xe (fun _ _ kK => x_aload_n dX8_readsPaper_129 rfl 2 rfl kK) ?_
              refine xe (fun _ _ kK => x_iconst dX8_readsPaper_130 (show _ = nI 4 by decide) kK) ?_
              refine xe (fun _ _ kK => x_aload_n dX8_readsPaper_131 rfl 2 rfl kK) ?_
              refine xe (fun _ _ kK => x_get dX8_readsPaper_132 fl_X8_138 (wK_i h.1.1) (gvl_i fz_8_2.2.2 (show e_i (mv T (sk b n p)) 514 88 = nI (sk b n p) from rfl)) kK) ?_
              refine xe_callV (a := 88) [.int (nI 4), .int (nI (sk b n p))] dX8_readsPaper_135 ml_X8_148 mf_X8_fail (wK_i h.1.1) (c_X8_fail (d + 3) (T := (mv T (sk b n p))) ((show FrM fsP asP T (mv T (sk b n p)) from (FrM.si FrM.rf (by decide) _)).mi h.1) (wi_i (fun q => absurd q.1 (by decide)) h.2.2.2.2.2.2) (nI 4) (nI (sk b n p))) rfl rfl (Nat.le_of_ble_eq_true rfl) (Nat.le_of_ble_eq_true rfl) ?_
              rintro _ _ ⟨rfl, rfl⟩
              refine xe (fun _ _ kK => x_aload_n dX8_readsPaper_138 rfl 2 rfl kK) ?_
              refine xe (fun _ _ kK => x_dup dX8_readsPaper_139 rfl kK) ?_
              refine xe (fun _ _ kK => x_get dX8_readsPaper_140 fl_X8_138 (wK_i (wK_i (wK_i h.1.1))) (gvl_i fz_8_2.2.2 (show e_i (flk (mv T (sk b n p)) 4 (sk b n p)) 514 88 = nI (sk b n p) from rfl)) kK) ?_
              refine xe (fun _ _ kK => x_iconst dX8_readsPaper_143 (show _ = nI 1 by decide) kK) ?_
              refine xe (fun _ _ kK => x_iadd dX8_readsPaper_144 kK) ?_
              refine xe_ti (show _ = nI ((sk b n p) + 1) from nI_add (sk b n p) 1) ?_
              refine xe (fun _ _ kK => x_puti dX8_readsPaper_145 ⟨fl_X8_138, fz_8_2.1, fz_8_2.2.1⟩ (Or.inl fz_8_2.2.2) rfl rfl (wK_i (wK_i (wK_i h.1.1))) kK) ?_
              refine xe (fun _ _ kK => x_aload_n dX8_readsPaper_148 rfl 2 rfl kK) ?_
              refine xe (fun _ _ kK => x_dup dX8_readsPaper_149 rfl kK) ?_
              refine xe (fun _ _ kK => x_get dX8_readsPaper_150 fl_X8_180 (wK_i (wK_i (wK_i (wK_i h.1.1)))) (gvl_i fz_8_30.2.2 (show e_i (s_i (flk (mv T (sk b n p)) 4 (sk b n p)) 514 88 (nI ((sk b n p) + 1))) 542 88 = nI (xs2.length + 1) from (wi_i (fun q => absurd q.1 (by decide)) (wi_i (fun q => absurd q.1 (by decide)) (wi_i (fun q => absurd q.1 (by decide)) (wi_i (fun q => absurd q.1 (by decide)) hdp)))))) kK) ?_
              refine xe (fun _ _ kK => x_iconst dX8_readsPaper_153 (show _ = nI 1 by decide) kK) ?_
              refine xe (fun _ _ kK => x_isub dX8_readsPaper_154 kK) ?_
              refine xe_ti (show _ = nI ((xs2.length + 1) - 1) from pk_sub (by omega)) ?_
              refine xe (fun _ _ kK => x_puti dX8_readsPaper_155 ⟨fl_X8_180, fz_8_30.1, fz_8_30.2.1⟩ (Or.inl fz_8_30.2.2) rfl rfl (wK_i (wK_i (wK_i (wK_i h.1.1)))) kK) ?_
              refine xe (fun _ _ kK => x_aload_n dX8_readsPaper_158 rfl 2 rfl kK) ?_
              refine xe (fun _ _ kK => x_get dX8_readsPaper_159 fl_X8_132 (wK_i (wK_i (wK_i (wK_i (wK_i h.1.1))))) (gvl_i fz_8_4.2.2 (show e_i (s_i (s_i (flk (mv T (sk b n p)) 4 (sk b n p)) 514 88 (nI ((sk b n p) + 1))) 542 88 (nI ((xs2.length + 1) - 1))) 516 88 = nI 4 from rfl)) kK) ?_
              refine xe (fun _ _ kK => x_if_neT (tgt := 178) dX8_readsPaper_162 (by decide) (by decide) kK) ?_
              refine xe (fun _ _ kK => x_goto (tgt := 33) dX8_readsPaper_178 (by decide) kK) ?_
              refine xe (fun _ _ kK => x_iload_n dX8_readsPaper_33 rfl 1 rfl kK) ?_
              refine xe (fun _ _ kK => x_if_eqF (tgt := 181) dX8_readsPaper_34 (by decide) (by decide) kK) ?_
              refine xe (fun _ _ kK => x_aload_n dX8_readsPaper_37 rfl 2 rfl kK) ?_
              refine xe (fun _ _ kK => x_get dX8_readsPaper_38 fl_X8_132 (wK_i (wK_i (wK_i (wK_i (wK_i h.1.1))))) (gvl_i fz_8_4.2.2 (show e_i (s_i (s_i (flk (mv T (sk b n p)) 4 (sk b n p)) 514 88 (nI ((sk b n p) + 1))) 542 88 (nI ((xs2.length + 1) - 1))) 516 88 = nI 4 from rfl)) kK) ?_
              refine xe (fun _ _ kK => x_if_neT (tgt := 181) dX8_readsPaper_41 (by decide) (by decide) kK) ?_
              exact xe_retv dX8_readsPaper_181 rfl (⟨rfl, (FrM.si (FrM.si (FrM.si (FrM.si (FrM.si FrM.rf (by decide) _) (by decide) _) (by decide) _) (by decide) _) (by decide) _), (fun j hj => ⟨(wai_i (wai_i (wai_i (wai_i (wai_i rfl))))), (wai_i (wai_i (wai_i (wai_i (wai_i rfl))))), (wal_i (wal_i (wal_i (wal_i (wal_i rfl)))))⟩), by rw [qLoop_inl (show qStep s b n p pa (x :: x2 :: xs2) = .inl (4, sk b n p) by rw [qStep, if_neg hend, if_pos ⟨h93, by rw [hxl]; omega⟩, if_pos h126])]; exact ⟨rfl, rfl, by decide, by decide, by omega⟩⟩)
      · -- pc 103
        refine xe (fun _ _ kK => x_icmp_neT (tgt := 174) dX8_readsPaper_103 (by decide) (show ¬ pk b n (sk b n p) = nI 93 by rw [hpk]; exact fun z => h93 (cv_eq (by omega) (by omega) z)) kK) ?_
        refine xe (fun _ _ kK => x_aload_n dX8_readsPaper_174 rfl 2 rfl kK) ?_
        refine xe_callV (a := 88) [] dX8_readsPaper_175 ml_X8_245 mf_X8_entry (wK_i h.1.1) (c_X8_entry d hL1 (sk_sk b n p) hS hSB hD hr1 (hqi.mv hq0 hq1)) rfl rfl (Nat.le_of_ble_eq_true rfl) (Nat.le_of_ble_eq_true rfl) ?_
        rintro _ T9 ⟨rfl, hF9, hW9, hP9⟩
        cases hpf : qEntry s b n (sk b n p) pa x xs with
        | inl x9 =>
          obtain ⟨k9, q9⟩ := x9
          rw [hpf] at hP9
          obtain ⟨g1, g2, g3, g4, g5⟩ := hP9
          refine xe (fun _ _ kK => x_goto (tgt := 33) dX8_readsPaper_178 (by decide) kK) ?_
          refine xe (fun _ _ kK => x_iload_n dX8_readsPaper_33 rfl 1 rfl kK) ?_
          refine xe (fun _ _ kK => x_if_eqF (tgt := 181) dX8_readsPaper_34 (by decide) (by decide) kK) ?_
          refine xe (fun _ _ kK => x_aload_n dX8_readsPaper_37 rfl 2 rfl kK) ?_
          refine xe (fun _ _ kK => x_get dX8_readsPaper_38 fl_X8_132 (hF9.mi h.1).1 (gvl_i fz_8_4.2.2 (show e_i T9 516 88 = nI k9 from g1)) kK) ?_
          refine xe (fun _ _ kK => x_if_neT (tgt := 181) dX8_readsPaper_41 (by decide) (fun z9 => by have := cv_z (by omega) z9; omega) kK) ?_
          exact xe_retv dX8_readsPaper_181 rfl (⟨rfl, FrM.tr (FrM.si FrM.rf (by decide) _) hF9, (fun j hj => hW9 j hj), by rw [qLoop_inl (show qStep s b n p pa (x :: xs) = .inl (k9, q9) by rw [qStep, if_neg hend, if_neg (fun z9 => h93 z9.1)]; rw [hpf]; rfl)]; exact ⟨g1, g2, g3, g4, g5⟩⟩)
        | inr y9 =>
          obtain ⟨p9, pa9, gs9⟩ := y9
          rw [hpf] at hP9
          obtain ⟨g1, g2, g3⟩ := hP9
          obtain ⟨j1, j2, j3⟩ := qEntry_ok hD (hqi.mv hq0 hq1) hpf
          refine xe (fun _ _ kK => x_goto (tgt := 33) dX8_readsPaper_178 (by decide) kK) ?_
          have hF8 : FrM fsP asP T T9 := FrM.tr (FrM.si FrM.rf (by decide) _) hF9
          refine Xe.imp (xe_loc (by simp) (ih (n - p9) (by have := j1.1; omega) fu T9 p9 pa9 gs9 rfl g1 (hS.of hF8 (by decide) (by decide) (by decide)) g2 j1 j3 (by omega))) ?_
          rintro _ T8 ⟨rfl, u1, uw, u2⟩
          refine ⟨rfl, FrM.tr hF8 u1, LowN.tr (fun j hj => hW9 j hj) uw, ?_⟩
          rw [qLoop_go (show qStep s b n p pa (x :: xs) = .inr (some (p9, pa9, gs9)) by rw [qStep, if_neg hend, if_neg (fun z9 => h93 z9.1)]; rw [hpf]; rfl)]
          cases hpl : qLoop s b n fu p9 pa9 gs9 with
          | inl x8 => rw [hpl] at u2; exact u2
          | inr x8 => rw [hpl] at u2; exact ⟨u2.1, u2.2.1.trans g3, u2.2.2⟩
