/-! the reference's PAPERS: how many, and each as nodes -/
abbrev PS : Type := Nat × (Nat → Pa)
def off (pp : Nat → Pa) : Nat → Nat
  | 0 => 0
  | i + 1 => off pp i + (pp i).1
def PpOk (s : Sh) (ps : PS) : Prop := ps.1 ≤ 30 ∧ ∀ i, i < ps.1 → PaOk s.1 (ps.2 i) ∧ 4 * (ps.2 i).1 ≤ 404 ∧ 0 < (ps.2 i).1
theorem off_le {s : Sh} {ps : PS} (h : PpOk s ps) : ∀ i, i ≤ ps.1 → off ps.2 i ≤ 101 * i := by
  intro i
  induction i with
  | zero => intro _; exact Nat.le_refl _
  | succ i ih =>
    intro hi
    have := ih (by omega)
    have := (h.2 i (by omega)).2.1
    show off ps.2 i + (ps.2 i).1 ≤ _
    omega
theorem off_mono (pp : Nat → Pa) : ∀ (k i : Nat), off pp i ≤ off pp (i + k) := by
  intro k
  induction k with
  | zero => intro i; exact Nat.le_refl _
  | succ k ih => intro i; have := ih i; show off pp i ≤ off pp (i + k) + (pp (i + k)).1; omega
theorem off_mono' (pp : Nat → Pa) {i j : Nat} (h : i ≤ j) : off pp i ≤ off pp j := by
  have := off_mono pp (j - i) i
  rwa [show i + (j - i) = j by omega] at this
def MP (T : TH) (ps : PS) : Prop := e_i T 543 88 = nI ps.1 ∧ (0 < ps.1 → ∀ i, i ≤ ps.1 → e_ai T 102 i = nI (off ps.2 i)) ∧ ∀ i, i < ps.1 → PN T (off ps.2 i) (ps.2 i)
theorem MP.of {T T1 : TH} {ps : PS} (h : MP T ps) (h1 : e_i T1 543 88 = e_i T 543 88) (h2 : ∀ i, i ≤ ps.1 → 0 < ps.1 → e_ai T1 102 i = e_ai T 102 i) (h3 : LowN T T1 (off ps.2 ps.1)) : MP T1 ps := by
  refine ⟨h1.trans h.1, fun h0 i hi => (h2 i hi h0).trans (h.2.1 h0 i hi), fun i hi x hx => ?_⟩
  have hl : off ps.2 i + x < off ps.2 ps.1 := by
    have := off_mono' ps.2 (show i + 1 ≤ ps.1 by omega)
    have e : off ps.2 (i + 1) = off ps.2 i + (ps.2 i).1 := rfl
    omega
  obtain ⟨k1, k2, k3⟩ := h3 _ hl
  rw [k1, k2, k3]
  exact h.2.2 i hi x hx
def addP (ps : PS) (pa : Pa) : PS := (ps.1 + 1, va_up ps.2 ps.1 pa)
theorem off_up {pp : Nat → Pa} {k : Nat} {pa : Pa} : ∀ i, i ≤ k → off (va_up pp k pa) i = off pp i := by
  intro i
  induction i with
  | zero => intro _; rfl
  | succ i ih =>
    intro hi
    show off (va_up pp k pa) i + (va_up pp k pa i).1 = off pp i + (pp i).1
    rw [ih (by omega), va_up_ne _ _ (by omega)]
abbrev fsQ : List Nat := [513, 514, 515, 516, 517, 518, 519, 542, 548, 543]
abbrev asQ : List Nat := [100, 103, 104, 105, 102]

set_option maxHeartbeats 4000000 in
theorem c_X8_readsPaper (d : Nat) {T : TH} {n o np : Nat} {b : Nat → Nat} {s : Sh} {dp : Nat → Nat} (h : LX T n b 0) (hS : MSh T s) (hSB : ShB s) (hD : ShD s dp) (hnp : e_i T 543 88 = nI np) (hnp3 : np < 31) (hfr : e_ai T 102 np = nI o) (ho : o ≤ 5000) : Xe m_X8_readsPaper (d + 4) 0 [(0, .ref 88)] [] T (fun r T1 => r = none ∧ FrM fsP asP T T1 ∧ LowN T T1 o ∧ match qPaper s b n with
      | .inl (k, q) => EndL T1 k q
      | .inr pa' => e_i T1 516 88 = nI 0 ∧ e_i T1 517 88 = e_i T 517 88 ∧ e_i T1 548 88 = nI (o + pa'.1) ∧ PN T1 o pa' ∧ PaOk s.1 pa' ∧ 4 * pa'.1 ≤ 404) := by
  refine xe (fun _ _ kK => x_aload_n dX8_readsPaper_0 rfl 0 rfl kK) ?_
  refine xe (fun _ _ kK => x_iconst dX8_readsPaper_1 (show _ = nI 0 by decide) kK) ?_
  refine xe (fun _ _ kK => x_puti dX8_readsPaper_2 ⟨fl_X8_180, fz_8_30.1, fz_8_30.2.1⟩ (Or.inl fz_8_30.2.2) rfl rfl h.1.1 kK) ?_
  refine xe (fun _ _ kK => x_aload_n dX8_readsPaper_5 rfl 0 rfl kK) ?_
  refine xe (fun _ _ kK => x_aload_n dX8_readsPaper_6 rfl 0 rfl kK) ?_
  refine xe (fun _ _ kK => x_get dX8_readsPaper_7 fl_X8_74 (wK_i h.1.1) (gvl_r1 fz_8_32.2.2 (show e_r (s_i T 542 88 (nI 0)) 544 88 = some 102 from (wr_i (h.1.2.1 32)))) kK) ?_
  refine xe (fun _ _ kK => x_aload_n dX8_readsPaper_10 rfl 0 rfl kK) ?_
  refine xe (fun _ _ kK => x_get dX8_readsPaper_11 fl_X8_214 (wK_i h.1.1) (gvl_i fz_8_31.2.2 (show e_i (s_i T 542 88 (nI 0)) 543 88 = nI np from (wi_i (fun q => absurd q.1 (by decide)) hnp))) kK) ?_
  refine xe (fun _ _ kK => x_iald dX8_readsPaper_14 (wK_i (h.1.2.2.1 13 (by decide))) (show (nI np) = nI np from rfl) (wN_i (mi_len h.1 13 (by decide) (show np < 31 by omega))) (show e_ai (s_i T 542 88 (nI 0)) 102 np = nI o from (wai_i hfr)) kK) ?_
  refine xe (fun _ _ kK => x_puti dX8_readsPaper_15 ⟨fl_X8_217, fz_8_36.1, fz_8_36.2.1⟩ (Or.inl fz_8_36.2.2) rfl rfl (wK_i h.1.1) kK) ?_
  refine xe (fun _ _ kK => x_aload_n dX8_readsPaper_18 rfl 0 rfl kK) ?_
  refine xe (fun _ _ kK => x_get dX8_readsPaper_19 fl_X8_68 (wK_i (wK_i h.1.1)) (gvl_r1 fz_8_28.2.2 (show e_r (s_i (s_i T 542 88 (nI 0)) 548 88 (nI o)) 540 88 = some 100 from (wr_i (wr_i (h.1.2.1 28))))) kK) ?_
  refine xe (fun _ _ kK => x_iconst dX8_readsPaper_22 (show _ = nI 0 by decide) kK) ?_
  refine xe (fun _ _ kK => x_aload_n dX8_readsPaper_23 rfl 0 rfl kK) ?_
  refine xe (fun _ _ kK => x_iconst dX8_readsPaper_24 (show _ = (-1) by decide) kK) ?_
  refine xe (fun _ _ kK => x_iconst dX8_readsPaper_25 (show _ = (-1) by decide) kK) ?_
  refine xe (fun _ _ kK => x_lconst dX8_readsPaper_26 (show _ = lN 0 by decide) kK) ?_
  refine xe_callV (a := 88) [.int (-1), .int (-1), .long (lN 0)] dX8_readsPaper_27 ml_X8_235 mf_X8_node (wK_i (wK_i h.1.1)) (c_X8_node (d + 3) (T := (s_i (s_i T 542 88 (nI 0)) 548 88 (nI o))) (m := o) ((show FrM fsP asP T (s_i (s_i T 542 88 (nI 0)) 548 88 (nI o)) from (FrM.si (FrM.si FrM.rf (by decide) _) (by decide) _)).mi h.1) rfl (by omega) (-1) (-1) (lN 0)) rfl rfl (Nat.le_of_ble_eq_true rfl) (Nat.le_of_ble_eq_true rfl) ?_
  rintro _ _ ⟨rfl, rfl⟩
  refine xe_ti (show _ = nI o from by rw [Nat.add_sub_cancel]) ?_
  refine xe (fun _ _ kK => x_iast dX8_readsPaper_30 (wK_i (wK_al (wK_ai (wK_ai (wK_i (wK_i (h.1.2.2.1 11 (by decide)))))))) (show (nI 0) = nI 0 from rfl) (wN_i (wN_al (wN_ai (wN_ai (wN_i (wN_i (mi_len h.1 11 (by decide) (show 0 < 8 by omega)))))))) kK) ?_
  refine xe (fun _ _ kK => x_iconst dX8_readsPaper_31 (show _ = nI 1 by decide) kK) ?_
  refine xe (fun _ _ kK => x_istore_n dX8_readsPaper_32 rfl (by decide) (show _ = [(1, .int (nI 1)), (0, .ref 88)] from rfl) kK) ?_
  have hF : FrM fsP asP T (s_ai (s_i (s_al (s_ai (s_ai (s_i (s_i T 542 88 (nI 0)) 548 88 (nI o)) 103 o (-1)) 104 o (-1)) 105 o (lN 0)) 548 88 (nI (o + 1))) 100 0 (nI o)) := (FrM.sai (FrM.si (FrM.sal (FrM.sai (FrM.sai (FrM.si (FrM.si FrM.rf (by decide) _) (by decide) _) (by decide) _ _) (by decide) _ _) (by decide) _ _) (by decide) _) (by decide) _ _)
  have hL : LX (s_ai (s_i (s_al (s_ai (s_ai (s_i (s_i T 542 88 (nI 0)) 548 88 (nI o)) 103 o (-1)) 104 o (-1)) 105 o (lN 0)) 548 88 (nI (o + 1))) 100 0 (nI o)) n b 0 := (LX.ofP h hF (wi_ai (wi_i (fun q => absurd q.1 (by decide)) (wi_al (wi_ai (wi_ai (wi_i (fun q => absurd q.1 (by decide)) (wi_i (fun q => absurd q.1 (by decide)) h.2.2.1))))))) (Nat.zero_le _) (wi_ai (wi_i (fun q => absurd q.1 (by decide)) (wi_al (wi_ai (wi_ai (wi_i (fun q => absurd q.1 (by decide)) (wi_i (fun q => absurd q.1 (by decide)) h.2.2.2.2.2.2))))))))
  have hPN : PN (s_ai (s_i (s_al (s_ai (s_ai (s_i (s_i T 542 88 (nI 0)) 548 88 (nI o)) 103 o (-1)) 104 o (-1)) 105 o (lN 0)) 548 88 (nI (o + 1))) 100 0 (nI o)) o Pa0 := by
    intro x hx
    have h1 : x < 1 := hx
    have h2 : x = 0 := by omega
    subst h2
    refine ⟨?_, ?_, ?_⟩ <;> simp [q_i_i, q_i_ai, q_i_al, q_ai_ai, q_ai_i, q_ai_al, q_al_al, q_al_i, q_al_ai] <;> rfl
  have hR : RP (s_ai (s_i (s_al (s_ai (s_ai (s_i (s_i T 542 88 (nI 0)) 548 88 (nI o)) 103 o (-1)) 104 o (-1)) 105 o (lN 0)) 548 88 (nI (o + 1))) 100 0 (nI o)) o Pa0 [0] := ⟨rfl, rfl, ⟨rfl, trivial⟩, hPN⟩
  have hI : QI s dp n 0 o Pa0 [0] := ⟨Nat.zero_le _, h.2.2.2.2.2.1, by decide, by decide, fun x hx => ⟨fun y hy => (by cases hy), fun f hf => (by cases hf)⟩, ⟨rfl, by decide, trivial⟩, ho⟩
  refine Xe.imp (xe_loc (by simp) (l_X8_readsPaper d hSB hD n (n + 1) _ 0 Pa0 [0] rfl hL (hS.of hF (by decide) (by decide) (by decide)) hR hI (by simp) (by omega))) ?_
  rintro _ T9 ⟨rfl, u1, uw, u2⟩
  refine ⟨rfl, FrM.tr hF u1, LowN.tr (fun j hj => ⟨(wai_ai (fun q => absurd q.1 (by decide)) (wai_i (wai_al (wai_ai (fun q => absurd q.1 (by decide)) (wai_ai (by omega) (wai_i (wai_i rfl))))))), (wai_ai (fun q => absurd q.1 (by decide)) (wai_i (wai_al (wai_ai (by omega) (wai_ai (fun q => absurd q.1 (by decide)) (wai_i (wai_i rfl))))))), (wal_ai (wal_i (wal_al (by omega) (wal_ai (wal_ai (wal_i (wal_i rfl)))))))⟩) uw, ?_⟩
  unfold qPaper
  cases hpl : qLoop s b n (n + 1) 0 Pa0 [0] with
  | inl x8 => rw [hpl] at u2; exact u2
  | inr x8 => rw [hpl] at u2; exact ⟨u2.1, u2.2.1.trans (wi_ai (wi_i (fun q => absurd q.1 (by decide)) (wi_al (wi_ai (wi_ai (wi_i (fun q => absurd q.1 (by decide)) (wi_i (fun q => absurd q.1 (by decide)) rfl))))))), u2.2.2⟩

set_option maxHeartbeats 4000000 in
theorem c_X8_paper0 (d : Nat) {T : TH} (hM : MI T) (hs : e_i T 525 88 = nI 0) : Xe m_X8_paper d 0 [(0, .ref 88)] [] T (fun r T1 => r = some (.int (-2)) ∧ T1 = s_i T 513 88 (nI 0)) := by
  refine xe (fun _ _ kK => x_aload_n dX8_paper_0 rfl 0 rfl kK) ?_
  refine xe (fun _ _ kK => x_get dX8_paper_1 fl_X8_204 hM.1 (gvl_z fz_8_13.2.2 (show e_i T 525 88 = nI 0 from hs)) kK) ?_
  refine xe (fun _ _ kK => x_if_eqT (tgt := 16) dX8_paper_4 (by decide) nI_0 kK) ?_
  refine xe (fun _ _ kK => x_aload_n dX8_paper_16 rfl 0 rfl kK) ?_
  refine xe (fun _ _ kK => x_iconst dX8_paper_17 (show _ = nI 0 by decide) kK) ?_
  refine xe (fun _ _ kK => x_puti dX8_paper_18 ⟨fl_X8_129, fz_8_1.1, fz_8_1.2.1⟩ (Or.inl fz_8_1.2.2) rfl rfl hM.1 kK) ?_
  refine xe (fun _ _ kK => x_bipush dX8_paper_21 (show _ = (-2) by decide) kK) ?_
  exact xe_reti dX8_paper_23 rfl (⟨rfl, rfl⟩)

set_option maxHeartbeats 4000000 in
theorem c_X8_paper30 (d : Nat) {T : TH} (hM : MI T) (hs : e_i T 525 88 = nI 1) (hp : e_i T 543 88 = nI 30) : Xe m_X8_paper d 0 [(0, .ref 88)] [] T (fun r T1 => r = some (.int (-2)) ∧ T1 = s_i T 513 88 (nI 0)) := by
  refine xe (fun _ _ kK => x_aload_n dX8_paper_0 rfl 0 rfl kK) ?_
  refine xe (fun _ _ kK => x_get dX8_paper_1 fl_X8_204 hM.1 (gvl_z fz_8_13.2.2 (show e_i T 525 88 = nI 1 from hs)) kK) ?_
  refine xe (fun _ _ kK => x_if_eqF (tgt := 16) dX8_paper_4 (by decide) (by decide) kK) ?_
  refine xe (fun _ _ kK => x_aload_n dX8_paper_7 rfl 0 rfl kK) ?_
  refine xe (fun _ _ kK => x_get dX8_paper_8 fl_X8_214 hM.1 (gvl_i fz_8_31.2.2 (show e_i T 543 88 = nI 30 from hp)) kK) ?_
  refine xe (fun _ _ kK => x_bipush dX8_paper_11 (show _ = nI 30 by decide) kK) ?_
  refine xe (fun _ _ kK => x_icmp_neF (tgt := 24) dX8_paper_13 (by decide) rfl kK) ?_
  refine xe (fun _ _ kK => x_aload_n dX8_paper_16 rfl 0 rfl kK) ?_
  refine xe (fun _ _ kK => x_iconst dX8_paper_17 (show _ = nI 0 by decide) kK) ?_
  refine xe (fun _ _ kK => x_puti dX8_paper_18 ⟨fl_X8_129, fz_8_1.1, fz_8_1.2.1⟩ (Or.inl fz_8_1.2.2) rfl rfl hM.1 kK) ?_
  refine xe (fun _ _ kK => x_bipush dX8_paper_21 (show _ = (-2) by decide) kK) ?_
  exact xe_reti dX8_paper_23 rfl (⟨rfl, rfl⟩)

set_option maxHeartbeats 4000000 in
theorem c_X8_paper (d : Nat) {T : TH} {n : Nat} {b : Nat → Nat} {s : Sh} {dp : Nat → Nat} {ps : PS} (hM : MI T) (hB : Bt T n b) (ht : e_i T 513 88 = nI n) (hn4 : n ≤ 400) (hs : e_i T 525 88 = nI 1) (hS : MSh T s) (hSB : ShB s) (hD : ShD s dp) (hP : MP T ps) (hpk : PpOk s ps) (hp30 : ps.1 < 30) : Xe m_X8_paper (d + 6) 0 [(0, .ref 88)] [] T (fun r T1 => match qPaper s b n with
      | .inl (k, q) => r = some (.int (-1)) ∧ FrM fsQ asQ T T1 ∧ e_i T1 513 88 = nI 0 ∧ e_i T1 518 88 = nI k ∧ e_i T1 519 88 = nI q ∧ MP T1 ps
      | .inr pa => r = some (.int (nI (ps.1 + 1))) ∧ FrM fsQ asQ T T1 ∧ e_i T1 513 88 = nI 0 ∧ e_i T1 518 88 = nI 0 ∧ e_i T1 519 88 = -1 ∧ MP T1 (addP ps pa) ∧ PaOk s.1 pa ∧ 4 * pa.1 ≤ 404) := by
  have hof := off_le hpk ps.1 (Nat.le_refl _)
  refine xe (fun _ _ kK => x_aload_n dX8_paper_0 rfl 0 rfl kK) ?_
  refine xe (fun _ _ kK => x_get dX8_paper_1 fl_X8_204 hM.1 (gvl_z fz_8_13.2.2 (show e_i T 525 88 = nI 1 from hs)) kK) ?_
  refine xe (fun _ _ kK => x_if_eqF (tgt := 16) dX8_paper_4 (by decide) (by decide) kK) ?_
  refine xe (fun _ _ kK => x_aload_n dX8_paper_7 rfl 0 rfl kK) ?_
  refine xe (fun _ _ kK => x_get dX8_paper_8 fl_X8_214 hM.1 (gvl_i fz_8_31.2.2 (show e_i T 543 88 = nI ps.1 from hP.1)) kK) ?_
  refine xe (fun _ _ kK => x_bipush dX8_paper_11 (show _ = nI 30 by decide) kK) ?_
  refine xe (fun _ _ kK => x_icmp_neT (tgt := 24) dX8_paper_13 (by decide) (fun z => by have := cv_eq (by omega) (by omega) z; omega) kK) ?_
  refine xe (fun _ _ kK => x_aload_n dX8_paper_24 rfl 0 rfl kK) ?_
  refine xe_callV (a := 88) [] dX8_paper_25 ml_X8_195 mf_X8_begins hM.1 (c_X8_begins (d + 5) hM) rfl rfl (Nat.le_of_ble_eq_true rfl) (Nat.le_of_ble_eq_true rfl) ?_
  rintro _ _ ⟨rfl, rfl⟩
  refine xe (fun _ _ kK => x_aload_n dX8_paper_28 rfl 0 rfl kK) ?_
  refine xe (fun _ _ kK => x_get dX8_paper_29 fl_X8_214 (wK_i (wK_i (wK_i (wK_i (wK_i hM.1))))) (gvl_i fz_8_31.2.2 (show e_i (s_i (s_i (s_i (s_i (s_i T 514 88 (nI 0)) 515 88 (e_i T 513 88)) 513 88 (nI 0)) 516 88 (nI 0)) 517 88 (-1)) 543 88 = nI ps.1 from (wi_i (fun q => absurd q.1 (by decide)) (wi_i (fun q => absurd q.1 (by decide)) (wi_i (fun q => absurd q.1 (by decide)) (wi_i (fun q => absurd q.1 (by decide)) (wi_i (fun q => absurd q.1 (by decide)) hP.1))))))) kK) ?_
  have hM1 : MI (s_i (s_i (s_i (s_i (s_i T 514 88 (nI 0)) 515 88 (e_i T 513 88)) 513 88 (nI 0)) 516 88 (nI 0)) 517 88 (-1)) := (show FrM fsQ asQ T (s_i (s_i (s_i (s_i (s_i T 514 88 (nI 0)) 515 88 (e_i T 513 88)) 513 88 (nI 0)) 516 88 (nI 0)) 517 88 (-1)) from (FrM.si (FrM.si (FrM.si (FrM.si (FrM.si FrM.rf (by decide) _) (by decide) _) (by decide) _) (by decide) _) (by decide) _)).mi hM
  refine xe_if_ne (tgt := 42) dX8_paper_32 (by decide) (fun h32 => ?_) (fun h32 => ?_)
  · -- pc 42
    have h32 := cv_nz (by omega) h32
    have hF2 : FrM fsQ asQ T (s_i (s_i (s_i (s_i (s_i T 514 88 (nI 0)) 515 88 (e_i T 513 88)) 513 88 (nI 0)) 516 88 (nI 0)) 517 88 (-1)) := (FrM.si (FrM.si (FrM.si (FrM.si (FrM.si FrM.rf (by decide) _) (by decide) _) (by decide) _) (by decide) _) (by decide) _)
    have hL : LX (s_i (s_i (s_i (s_i (s_i T 514 88 (nI 0)) 515 88 (e_i T 513 88)) 513 88 (nI 0)) 516 88 (nI 0)) 517 88 (-1)) n b 0 := ⟨hF2.mi hM, fun j hj => by rw [hF2.ai (by decide)]; exact hB j hj, rfl, ht, Nat.zero_le _, hn4, rfl⟩
    have hS2 : MSh (s_i (s_i (s_i (s_i (s_i T 514 88 (nI 0)) 515 88 (e_i T 513 88)) 513 88 (nI 0)) 516 88 (nI 0)) 517 88 (-1)) s := hS.of hF2 (by decide) (by decide) (by decide)
    have hfr : e_ai (s_i (s_i (s_i (s_i (s_i T 514 88 (nI 0)) 515 88 (e_i T 513 88)) 513 88 (nI 0)) 516 88 (nI 0)) 517 88 (-1)) 102 ps.1 = nI (off ps.2 ps.1) := hP.2.1 (by omega) ps.1 (Nat.le_refl _)
    have hr2 : ∀ i, i ≤ ps.1 → 0 < ps.1 → e_ai (s_i (s_i (s_i (s_i (s_i T 514 88 (nI 0)) 515 88 (e_i T 513 88)) 513 88 (nI 0)) 516 88 (nI 0)) 517 88 (-1)) 102 i = e_ai T 102 i := fun _ _ _ => rfl
    generalize hT2 : (s_i (s_i (s_i (s_i (s_i T 514 88 (nI 0)) 515 88 (e_i T 513 88)) 513 88 (nI 0)) 516 88 (nI 0)) 517 88 (-1)) = T2 at hF2 hL hS2 hfr hr2 ⊢
    have hp2 : e_i T2 543 88 = nI ps.1 := by rw [← hT2]; exact (wi_i (fun q => absurd q.1 (by decide)) (wi_i (fun q => absurd q.1 (by decide)) (wi_i (fun q => absurd q.1 (by decide)) (wi_i (fun q => absurd q.1 (by decide)) (wi_i (fun q => absurd q.1 (by decide)) hP.1)))))
    have ht2 : e_i T2 513 88 = nI 0 ∧ e_i T2 517 88 = -1 := by rw [← hT2]; exact ⟨rfl, rfl⟩
    have hl2 : LowN T T2 (off ps.2 ps.1) := by rw [← hT2]; exact (fun j hj => ⟨(wai_i (wai_i (wai_i (wai_i (wai_i rfl))))), (wai_i (wai_i (wai_i (wai_i (wai_i rfl))))), (wal_i (wal_i (wal_i (wal_i (wal_i rfl)))))⟩)
    refine xe (fun _ _ kK => x_aload_n dX8_paper_42 rfl 0 rfl kK) ?_
    refine xe_callV (a := 88) [] dX8_paper_43 ml_X8_248 mf_X8_readsPaper hL.1.1 (c_X8_readsPaper (d + 1) (np := ps.1) (o := off ps.2 ps.1) hL hS2 hSB hD hp2 (by omega) hfr (by omega)) rfl rfl (Nat.le_of_ble_eq_true rfl) (Nat.le_of_ble_eq_true rfl) ?_
    rintro _ T3 ⟨rfl, hF3, hW3, hP3⟩
    have hM3 : MI T3 := hF3.mi hL.1
    refine xe (fun _ _ kK => x_aload_n dX8_paper_46 rfl 0 rfl kK) ?_
    refine xe_callV (a := 88) [] dX8_paper_47 ml_X8_201 mf_X8_told hM3.1 (c_X8_told (d + 5) hM3) rfl rfl (Nat.le_of_ble_eq_true rfl) (Nat.le_of_ble_eq_true rfl) ?_
    rintro _ _ ⟨rfl, rfl⟩
    have hF9 : FrM fsQ asQ T T3 := FrM.tr hF2 (hF3.mono (by decide) (by decide))
    have hp3 : e_i T3 543 88 = e_i T 543 88 := (hF3.i (by decide)).trans (hp2.trans hP.1.symm)
    have ht3 : e_i T3 513 88 = nI 0 := (hF3.i (by decide)).trans ht2.1
    have hM9 : MP T3 ps := hP.of hp3 (fun i hi h0 => by rw [hF3.ai (by decide)]; exact hr2 i hi h0) (hl2.tr hW3)
    cases hps : qPaper s b n with
    | inl x9 =>
      obtain ⟨k9, q9⟩ := x9
      rw [hps] at hP3
      obtain ⟨g1, g2, g3, g4, g5⟩ := hP3
      refine xe (fun _ _ kK => x_aload_n dX8_paper_50 rfl 0 rfl kK) ?_
      refine xe (fun _ _ kK => x_get dX8_paper_51 fl_X8_132 (wK_i (wK_i hM3.1)) (gvl_i fz_8_4.2.2 (show e_i (s_i (s_i T3 518 88 (e_i T3 516 88)) 519 88 (e_i T3 517 88)) 516 88 = nI k9 from (wi_i (fun q => absurd q.1 (by decide)) (wi_i (fun q => absurd q.1 (by decide)) g1)))) kK) ?_
      refine xe (fun _ _ kK => x_if_eqF (tgt := 59) dX8_paper_54 (by decide) (fun z9 => by have := cv_z (by omega) z9; omega) kK) ?_
      refine xe (fun _ _ kK => x_iconst dX8_paper_57 (show _ = (-1) by decide) kK) ?_
      exact xe_reti dX8_paper_58 rfl (⟨rfl, FrM.si (FrM.si hF9 (by decide) _) (by decide) _, (wi_i (fun q => absurd q.1 (by decide)) (wi_i (fun q => absurd q.1 (by decide)) ht3)), g1, g2, hM9.of rfl (fun _ _ _ => rfl) (fun j hj => ⟨rfl, rfl, rfl⟩)⟩)
    | inr pa9 =>
      rw [hps] at hP3
      obtain ⟨g1, g2, g3, g4, g5, g6⟩ := hP3
      refine xe (fun _ _ kK => x_aload_n dX8_paper_50 rfl 0 rfl kK) ?_
      refine xe (fun _ _ kK => x_get dX8_paper_51 fl_X8_132 (wK_i (wK_i hM3.1)) (gvl_i fz_8_4.2.2 (show e_i (s_i (s_i T3 518 88 (e_i T3 516 88)) 519 88 (e_i T3 517 88)) 516 88 = nI 0 from (wi_i (fun q => absurd q.1 (by decide)) (wi_i (fun q => absurd q.1 (by decide)) g1)))) kK) ?_
      refine xe (fun _ _ kK => x_if_eqT (tgt := 59) dX8_paper_54 (by decide) nI_0 kK) ?_
      refine xe (fun _ _ kK => x_aload_n dX8_paper_59 rfl 0 rfl kK) ?_
      refine xe (fun _ _ kK => x_dup dX8_paper_60 rfl kK) ?_
      refine xe (fun _ _ kK => x_get dX8_paper_61 fl_X8_214 (wK_i (wK_i hM3.1)) (gvl_i fz_8_31.2.2 (show e_i (s_i (s_i T3 518 88 (e_i T3 516 88)) 519 88 (e_i T3 517 88)) 543 88 = nI ps.1 from (wi_i (fun q => absurd q.1 (by decide)) (wi_i (fun q => absurd q.1 (by decide)) (hp3.trans hP.1))))) kK) ?_
      refine xe (fun _ _ kK => x_iconst dX8_paper_64 (show _ = nI 1 by decide) kK) ?_
      refine xe (fun _ _ kK => x_iadd dX8_paper_65 kK) ?_
      refine xe_ti (show _ = nI (ps.1 + 1) from nI_add ps.1 1) ?_
      refine xe (fun _ _ kK => x_puti dX8_paper_66 ⟨fl_X8_214, fz_8_31.1, fz_8_31.2.1⟩ (Or.inl fz_8_31.2.2) rfl rfl (wK_i (wK_i hM3.1)) kK) ?_
      refine xe (fun _ _ kK => x_aload_n dX8_paper_69 rfl 0 rfl kK) ?_
      refine xe (fun _ _ kK => x_get dX8_paper_70 fl_X8_74 (wK_i (wK_i (wK_i hM3.1))) (gvl_r1 fz_8_32.2.2 (show e_r (s_i (s_i (s_i T3 518 88 (e_i T3 516 88)) 519 88 (e_i T3 517 88)) 543 88 (nI (ps.1 + 1))) 544 88 = some 102 from (wr_i (wr_i (wr_i (hM3.2.1 32)))))) kK) ?_
      refine xe (fun _ _ kK => x_aload_n dX8_paper_73 rfl 0 rfl kK) ?_
      refine xe (fun _ _ kK => x_get dX8_paper_74 fl_X8_214 (wK_i (wK_i (wK_i hM3.1))) (gvl_i fz_8_31.2.2 (show e_i (s_i (s_i (s_i T3 518 88 (e_i T3 516 88)) 519 88 (e_i T3 517 88)) 543 88 (nI (ps.1 + 1))) 543 88 = nI (ps.1 + 1) from rfl)) kK) ?_
      refine xe (fun _ _ kK => x_aload_n dX8_paper_77 rfl 0 rfl kK) ?_
      refine xe (fun _ _ kK => x_get dX8_paper_78 fl_X8_217 (wK_i (wK_i (wK_i hM3.1))) (gvl_i fz_8_36.2.2 (show e_i (s_i (s_i (s_i T3 518 88 (e_i T3 516 88)) 519 88 (e_i T3 517 88)) 543 88 (nI (ps.1 + 1))) 548 88 = nI (off ps.2 ps.1 + pa9.1) from (wi_i (fun q => absurd q.1 (by decide)) (wi_i (fun q => absurd q.1 (by decide)) (wi_i (fun q => absurd q.1 (by decide)) g3))))) kK) ?_
      refine xe (fun _ _ kK => x_iast dX8_paper_81 (wK_i (wK_i (wK_i (hM3.2.2.1 13 (by decide))))) (show (nI (ps.1 + 1)) = nI (ps.1 + 1) from rfl) (wN_i (wN_i (wN_i (mi_len hM3 13 (by decide) (show ps.1 + 1 < 31 by omega))))) kK) ?_
      refine xe (fun _ _ kK => x_aload_n dX8_paper_82 rfl 0 rfl kK) ?_
      refine xe (fun _ _ kK => x_get dX8_paper_83 fl_X8_214 (wK_ai (wK_i (wK_i (wK_i hM3.1)))) (gvl_i fz_8_31.2.2 (show e_i (s_ai (s_i (s_i (s_i T3 518 88 (e_i T3 516 88)) 519 88 (e_i T3 517 88)) 543 88 (nI (ps.1 + 1))) 102 (ps.1 + 1) (nI (off ps.2 ps.1 + pa9.1))) 543 88 = nI (ps.1 + 1) from rfl)) kK) ?_
      refine xe_reti dX8_paper_86 rfl (⟨rfl, FrM.sai (FrM.si (FrM.si (FrM.si hF9 (by decide) _) (by decide) _) (by decide) _) (by decide) _ _, (wi_ai (wi_i (fun q => absurd q.1 (by decide)) (wi_i (fun q => absurd q.1 (by decide)) (wi_i (fun q => absurd q.1 (by decide)) ht3)))), g1, g2.trans ht2.2, ⟨rfl, fun _ i hi => ?_, fun i hi => ?_⟩, g5, g6⟩)
      · show e_ai (s_ai (s_i (s_i (s_i T3 518 88 (e_i T3 516 88)) 519 88 (e_i T3 517 88)) 543 88 (nI (ps.1 + 1))) 102 (ps.1 + 1) (nI (off ps.2 ps.1 + pa9.1))) 102 i = nI (off (va_up ps.2 ps.1 pa9) i)
        have hi9 : i ≤ ps.1 + 1 := hi
        by_cases q9 : i = ps.1 + 1
        · subst q9; rw [show off (va_up ps.2 ps.1 pa9) (ps.1 + 1) = off (va_up ps.2 ps.1 pa9) ps.1 + (va_up ps.2 ps.1 pa9 ps.1).1 from rfl, off_up _ (Nat.le_refl _), va_up_self]; simp [q_i_i, q_i_ai, q_i_al, q_ai_ai, q_ai_i, q_ai_al, q_al_al, q_al_i, q_al_ai]
        · rw [off_up _ (by omega)]; simp [q_i_i, q_i_ai, q_i_al, q_ai_ai, q_ai_i, q_ai_al, q_al_al, q_al_i, q_al_ai, q9]; by_cases h0 : 0 < ps.1
          · exact hM9.2.1 h0 i (by omega)
          · rw [hF3.ai (by decide)]; have e0 : i = ps.1 := by omega
            rw [e0]; exact hfr
      · show PN (s_ai (s_i (s_i (s_i T3 518 88 (e_i T3 516 88)) 519 88 (e_i T3 517 88)) 543 88 (nI (ps.1 + 1))) 102 (ps.1 + 1) (nI (off ps.2 ps.1 + pa9.1))) (off (va_up ps.2 ps.1 pa9) i) (va_up ps.2 ps.1 pa9 i)
        have hi9 : i < ps.1 + 1 := hi
        rw [off_up _ (by omega)]
        by_cases q9 : i = ps.1
        · subst q9; rw [va_up_self]; exact g4.of (by funext j; simp [q_ai_ai, q_ai_i]) (by funext j; simp [q_ai_ai, q_ai_i]) rfl
        · rw [va_up_ne _ _ q9]; exact (hM9.2.2 i (by omega)).of (by funext j; simp [q_ai_ai, q_ai_i]) (by funext j; simp [q_ai_ai, q_ai_i]) rfl
  · -- pc 35
    have h32 := cv_z (by omega) h32
    refine xe (fun _ _ kK => x_aload_n dX8_paper_35 rfl 0 rfl kK) ?_
    refine xe (fun _ _ kK => x_get dX8_paper_36 fl_X8_74 (wK_i (wK_i (wK_i (wK_i (wK_i hM.1))))) (gvl_r1 fz_8_32.2.2 (show e_r (s_i (s_i (s_i (s_i (s_i T 514 88 (nI 0)) 515 88 (e_i T 513 88)) 513 88 (nI 0)) 516 88 (nI 0)) 517 88 (-1)) 544 88 = some 102 from (wr_i (wr_i (wr_i (wr_i (wr_i (hM.2.1 32)))))))) kK) ?_
    refine xe (fun _ _ kK => x_iconst dX8_paper_39 (show _ = nI 0 by decide) kK) ?_
    refine xe (fun _ _ kK => x_iconst dX8_paper_40 (show _ = nI 0 by decide) kK) ?_
    refine xe (fun _ _ kK => x_iast dX8_paper_41 (wK_i (wK_i (wK_i (wK_i (wK_i (hM.2.2.1 13 (by decide))))))) (show (nI 0) = nI 0 from rfl) (wN_i (wN_i (wN_i (wN_i (wN_i (mi_len hM 13 (by decide) (show 0 < 31 by omega))))))) kK) ?_
    refine xe (fun _ _ kK => x_aload_n dX8_paper_42 rfl 0 rfl kK) ?_
    have hF2 : FrM fsQ asQ T (s_ai (s_i (s_i (s_i (s_i (s_i T 514 88 (nI 0)) 515 88 (e_i T 513 88)) 513 88 (nI 0)) 516 88 (nI 0)) 517 88 (-1)) 102 0 (nI 0)) := (FrM.sai (FrM.si (FrM.si (FrM.si (FrM.si (FrM.si FrM.rf (by decide) _) (by decide) _) (by decide) _) (by decide) _) (by decide) _) (by decide) _ _)
    have hL : LX (s_ai (s_i (s_i (s_i (s_i (s_i T 514 88 (nI 0)) 515 88 (e_i T 513 88)) 513 88 (nI 0)) 516 88 (nI 0)) 517 88 (-1)) 102 0 (nI 0)) n b 0 := ⟨hF2.mi hM, fun j hj => by rw [hF2.ai (by decide)]; exact hB j hj, rfl, ht, Nat.zero_le _, hn4, rfl⟩
    have hS2 : MSh (s_ai (s_i (s_i (s_i (s_i (s_i T 514 88 (nI 0)) 515 88 (e_i T 513 88)) 513 88 (nI 0)) 516 88 (nI 0)) 517 88 (-1)) 102 0 (nI 0)) s := hS.of hF2 (by decide) (by decide) (by decide)
    have hfr : e_ai (s_ai (s_i (s_i (s_i (s_i (s_i T 514 88 (nI 0)) 515 88 (e_i T 513 88)) 513 88 (nI 0)) 516 88 (nI 0)) 517 88 (-1)) 102 0 (nI 0)) 102 ps.1 = nI (off ps.2 ps.1) := by rw [h32]; rfl
    have hr2 : ∀ i, i ≤ ps.1 → 0 < ps.1 → e_ai (s_ai (s_i (s_i (s_i (s_i (s_i T 514 88 (nI 0)) 515 88 (e_i T 513 88)) 513 88 (nI 0)) 516 88 (nI 0)) 517 88 (-1)) 102 0 (nI 0)) 102 i = e_ai T 102 i := fun i hi h0 => absurd h0 (by omega)
    generalize hT2 : (s_ai (s_i (s_i (s_i (s_i (s_i T 514 88 (nI 0)) 515 88 (e_i T 513 88)) 513 88 (nI 0)) 516 88 (nI 0)) 517 88 (-1)) 102 0 (nI 0)) = T2 at hF2 hL hS2 hfr hr2 ⊢
    have hp2 : e_i T2 543 88 = nI ps.1 := by rw [← hT2]; exact (wi_ai (wi_i (fun q => absurd q.1 (by decide)) (wi_i (fun q => absurd q.1 (by decide)) (wi_i (fun q => absurd q.1 (by decide)) (wi_i (fun q => absurd q.1 (by decide)) (wi_i (fun q => absurd q.1 (by decide)) hP.1))))))
    have ht2 : e_i T2 513 88 = nI 0 ∧ e_i T2 517 88 = -1 := by rw [← hT2]; exact ⟨rfl, rfl⟩
    have hl2 : LowN T T2 (off ps.2 ps.1) := by rw [← hT2]; exact (fun j hj => ⟨(wai_ai (fun q => absurd q.1 (by decide)) (wai_i (wai_i (wai_i (wai_i (wai_i rfl)))))), (wai_ai (fun q => absurd q.1 (by decide)) (wai_i (wai_i (wai_i (wai_i (wai_i rfl)))))), (wal_ai (wal_i (wal_i (wal_i (wal_i (wal_i rfl))))))⟩)
    refine xe_callV (a := 88) [] dX8_paper_43 ml_X8_248 mf_X8_readsPaper hL.1.1 (c_X8_readsPaper (d + 1) (np := ps.1) (o := off ps.2 ps.1) hL hS2 hSB hD hp2 (by omega) hfr (by omega)) rfl rfl (Nat.le_of_ble_eq_true rfl) (Nat.le_of_ble_eq_true rfl) ?_
    rintro _ T3 ⟨rfl, hF3, hW3, hP3⟩
    have hM3 : MI T3 := hF3.mi hL.1
    refine xe (fun _ _ kK => x_aload_n dX8_paper_46 rfl 0 rfl kK) ?_
    refine xe_callV (a := 88) [] dX8_paper_47 ml_X8_201 mf_X8_told hM3.1 (c_X8_told (d + 5) hM3) rfl rfl (Nat.le_of_ble_eq_true rfl) (Nat.le_of_ble_eq_true rfl) ?_
    rintro _ _ ⟨rfl, rfl⟩
    have hF9 : FrM fsQ asQ T T3 := FrM.tr hF2 (hF3.mono (by decide) (by decide))
    have hp3 : e_i T3 543 88 = e_i T 543 88 := (hF3.i (by decide)).trans (hp2.trans hP.1.symm)
    have ht3 : e_i T3 513 88 = nI 0 := (hF3.i (by decide)).trans ht2.1
    have hM9 : MP T3 ps := hP.of hp3 (fun i hi h0 => by rw [hF3.ai (by decide)]; exact hr2 i hi h0) (hl2.tr hW3)
    cases hps : qPaper s b n with
    | inl x9 =>
      obtain ⟨k9, q9⟩ := x9
      rw [hps] at hP3
      obtain ⟨g1, g2, g3, g4, g5⟩ := hP3
      refine xe (fun _ _ kK => x_aload_n dX8_paper_50 rfl 0 rfl kK) ?_
      refine xe (fun _ _ kK => x_get dX8_paper_51 fl_X8_132 (wK_i (wK_i hM3.1)) (gvl_i fz_8_4.2.2 (show e_i (s_i (s_i T3 518 88 (e_i T3 516 88)) 519 88 (e_i T3 517 88)) 516 88 = nI k9 from (wi_i (fun q => absurd q.1 (by decide)) (wi_i (fun q => absurd q.1 (by decide)) g1)))) kK) ?_
      refine xe (fun _ _ kK => x_if_eqF (tgt := 59) dX8_paper_54 (by decide) (fun z9 => by have := cv_z (by omega) z9; omega) kK) ?_
      refine xe (fun _ _ kK => x_iconst dX8_paper_57 (show _ = (-1) by decide) kK) ?_
      exact xe_reti dX8_paper_58 rfl (⟨rfl, FrM.si (FrM.si hF9 (by decide) _) (by decide) _, (wi_i (fun q => absurd q.1 (by decide)) (wi_i (fun q => absurd q.1 (by decide)) ht3)), g1, g2, hM9.of rfl (fun _ _ _ => rfl) (fun j hj => ⟨rfl, rfl, rfl⟩)⟩)
    | inr pa9 =>
      rw [hps] at hP3
      obtain ⟨g1, g2, g3, g4, g5, g6⟩ := hP3
      refine xe (fun _ _ kK => x_aload_n dX8_paper_50 rfl 0 rfl kK) ?_
      refine xe (fun _ _ kK => x_get dX8_paper_51 fl_X8_132 (wK_i (wK_i hM3.1)) (gvl_i fz_8_4.2.2 (show e_i (s_i (s_i T3 518 88 (e_i T3 516 88)) 519 88 (e_i T3 517 88)) 516 88 = nI 0 from (wi_i (fun q => absurd q.1 (by decide)) (wi_i (fun q => absurd q.1 (by decide)) g1)))) kK) ?_
      refine xe (fun _ _ kK => x_if_eqT (tgt := 59) dX8_paper_54 (by decide) nI_0 kK) ?_
      refine xe (fun _ _ kK => x_aload_n dX8_paper_59 rfl 0 rfl kK) ?_
      refine xe (fun _ _ kK => x_dup dX8_paper_60 rfl kK) ?_
      refine xe (fun _ _ kK => x_get dX8_paper_61 fl_X8_214 (wK_i (wK_i hM3.1)) (gvl_i fz_8_31.2.2 (show e_i (s_i (s_i T3 518 88 (e_i T3 516 88)) 519 88 (e_i T3 517 88)) 543 88 = nI ps.1 from (wi_i (fun q => absurd q.1 (by decide)) (wi_i (fun q => absurd q.1 (by decide)) (hp3.trans hP.1))))) kK) ?_
      refine xe (fun _ _ kK => x_iconst dX8_paper_64 (show _ = nI 1 by decide) kK) ?_
      refine xe (fun _ _ kK => x_iadd dX8_paper_65 kK) ?_
      refine xe_ti (show _ = nI (ps.1 + 1) from nI_add ps.1 1) ?_
      refine xe (fun _ _ kK => x_puti dX8_paper_66 ⟨fl_X8_214, fz_8_31.1, fz_8_31.2.1⟩ (Or.inl fz_8_31.2.2) rfl rfl (wK_i (wK_i hM3.1)) kK) ?_
      refine xe (fun _ _ kK => x_aload_n dX8_paper_69 rfl 0 rfl kK) ?_
      refine xe (fun _ _ kK => x_get dX8_paper_70 fl_X8_74 (wK_i (wK_i (wK_i hM3.1))) (gvl_r1 fz_8_32.2.2 (show e_r (s_i (s_i (s_i T3 518 88 (e_i T3 516 88)) 519 88 (e_i T3 517 88)) 543 88 (nI (ps.1 + 1))) 544 88 = some 102 from (wr_i (wr_i (wr_i (hM3.2.1 32)))))) kK) ?_
      refine xe (fun _ _ kK => x_aload_n dX8_paper_73 rfl 0 rfl kK) ?_
      refine xe (fun _ _ kK => x_get dX8_paper_74 fl_X8_214 (wK_i (wK_i (wK_i hM3.1))) (gvl_i fz_8_31.2.2 (show e_i (s_i (s_i (s_i T3 518 88 (e_i T3 516 88)) 519 88 (e_i T3 517 88)) 543 88 (nI (ps.1 + 1))) 543 88 = nI (ps.1 + 1) from rfl)) kK) ?_
      refine xe (fun _ _ kK => x_aload_n dX8_paper_77 rfl 0 rfl kK) ?_
      refine xe (fun _ _ kK => x_get dX8_paper_78 fl_X8_217 (wK_i (wK_i (wK_i hM3.1))) (gvl_i fz_8_36.2.2 (show e_i (s_i (s_i (s_i T3 518 88 (e_i T3 516 88)) 519 88 (e_i T3 517 88)) 543 88 (nI (ps.1 + 1))) 548 88 = nI (off ps.2 ps.1 + pa9.1) from (wi_i (fun q => absurd q.1 (by decide)) (wi_i (fun q => absurd q.1 (by decide)) (wi_i (fun q => absurd q.1 (by decide)) g3))))) kK) ?_
      refine xe (fun _ _ kK => x_iast dX8_paper_81 (wK_i (wK_i (wK_i (hM3.2.2.1 13 (by decide))))) (show (nI (ps.1 + 1)) = nI (ps.1 + 1) from rfl) (wN_i (wN_i (wN_i (mi_len hM3 13 (by decide) (show ps.1 + 1 < 31 by omega))))) kK) ?_
      refine xe (fun _ _ kK => x_aload_n dX8_paper_82 rfl 0 rfl kK) ?_
      refine xe (fun _ _ kK => x_get dX8_paper_83 fl_X8_214 (wK_ai (wK_i (wK_i (wK_i hM3.1)))) (gvl_i fz_8_31.2.2 (show e_i (s_ai (s_i (s_i (s_i T3 518 88 (e_i T3 516 88)) 519 88 (e_i T3 517 88)) 543 88 (nI (ps.1 + 1))) 102 (ps.1 + 1) (nI (off ps.2 ps.1 + pa9.1))) 543 88 = nI (ps.1 + 1) from rfl)) kK) ?_
      refine xe_reti dX8_paper_86 rfl (⟨rfl, FrM.sai (FrM.si (FrM.si (FrM.si hF9 (by decide) _) (by decide) _) (by decide) _) (by decide) _ _, (wi_ai (wi_i (fun q => absurd q.1 (by decide)) (wi_i (fun q => absurd q.1 (by decide)) (wi_i (fun q => absurd q.1 (by decide)) ht3)))), g1, g2.trans ht2.2, ⟨rfl, fun _ i hi => ?_, fun i hi => ?_⟩, g5, g6⟩)
      · show e_ai (s_ai (s_i (s_i (s_i T3 518 88 (e_i T3 516 88)) 519 88 (e_i T3 517 88)) 543 88 (nI (ps.1 + 1))) 102 (ps.1 + 1) (nI (off ps.2 ps.1 + pa9.1))) 102 i = nI (off (va_up ps.2 ps.1 pa9) i)
        have hi9 : i ≤ ps.1 + 1 := hi
        by_cases q9 : i = ps.1 + 1
        · subst q9; rw [show off (va_up ps.2 ps.1 pa9) (ps.1 + 1) = off (va_up ps.2 ps.1 pa9) ps.1 + (va_up ps.2 ps.1 pa9 ps.1).1 from rfl, off_up _ (Nat.le_refl _), va_up_self]; simp [q_i_i, q_i_ai, q_i_al, q_ai_ai, q_ai_i, q_ai_al, q_al_al, q_al_i, q_al_ai]
        · rw [off_up _ (by omega)]; simp [q_i_i, q_i_ai, q_i_al, q_ai_ai, q_ai_i, q_ai_al, q_al_al, q_al_i, q_al_ai, q9]; by_cases h0 : 0 < ps.1
          · exact hM9.2.1 h0 i (by omega)
          · rw [hF3.ai (by decide)]; have e0 : i = ps.1 := by omega
            rw [e0]; exact hfr
      · show PN (s_ai (s_i (s_i (s_i T3 518 88 (e_i T3 516 88)) 519 88 (e_i T3 517 88)) 543 88 (nI (ps.1 + 1))) 102 (ps.1 + 1) (nI (off ps.2 ps.1 + pa9.1))) (off (va_up ps.2 ps.1 pa9) i) (va_up ps.2 ps.1 pa9 i)
        have hi9 : i < ps.1 + 1 := hi
        rw [off_up _ (by omega)]
        by_cases q9 : i = ps.1
        · subst q9; rw [va_up_self]; exact g4.of (by funext j; simp [q_ai_ai, q_ai_i]) (by funext j; simp [q_ai_ai, q_ai_i]) rfl
        · rw [va_up_ne _ _ q9]; exact (hM9.2.2 i (by omega)).of (by funext j; simp [q_ai_ai, q_ai_i]) (by funext j; simp [q_ai_ai, q_ai_i]) rfl
