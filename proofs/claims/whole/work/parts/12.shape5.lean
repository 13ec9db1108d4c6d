/-- the reference holds the SHAPE s -/
def MSh (T : TH) (s : Sh) : Prop := e_i T 526 88 = nI s.1 ∧ e_i T 527 88 = nI s.2.1 ∧ (∀ f, f < s.1 → e_ai T 90 f = oI (s.2.2.1 f) ∧ e_al T 91 f = lN (s.2.2.2.1 f) ∧ e_ai T 92 f = nI (s.2.2.2.2.1 f) ∧ e_ai T 93 f = nI (s.2.2.2.2.2.1 f)) ∧ ∀ c, c < s.2.1 → e_ai T 94 c = nI (s.2.2.2.2.2.2 c)
abbrev fsT : List Nat := [513, 514, 515, 516, 517, 518, 519, 533, 534, 542]
abbrev fsS : List Nat := [513, 514, 515, 516, 517, 518, 519, 533, 534, 542, 525, 526, 527, 543]
abbrev asS : List Nat := [95, 96, 97, 98, 99, 100, 101, 90, 91, 92, 93, 94]

set_option maxHeartbeats 4000000 in
theorem c_X8_readsShape (d : Nat) {T : TH} {n : Nat} {b : Nat → Nat} (h : LX T n b 0) : Xe m_X8_readsShape (d + 4) 0 [(0, .ref 88)] [] T (fun r T1 => r = none ∧ FrM fsL asL T T1 ∧ match pShape b n with
      | .inl (k, q) => EndL T1 k q
      | .inr s' => e_i T1 516 88 = nI 0 ∧ e_i T1 517 88 = e_i T 517 88 ∧ RS T1 s' []) := by
  refine xe (fun _ _ kK => x_aload_n dX8_readsShape_0 rfl 0 rfl kK) ?_
  refine xe (fun _ _ kK => x_iconst dX8_readsShape_1 (show _ = nI 0 by decide) kK) ?_
  refine xe (fun _ _ kK => x_puti dX8_readsShape_2 ⟨fl_X8_183, fz_8_21.1, fz_8_21.2.1⟩ (Or.inl fz_8_21.2.2) rfl rfl h.1.1 kK) ?_
  refine xe (fun _ _ kK => x_aload_n dX8_readsShape_5 rfl 0 rfl kK) ?_
  refine xe (fun _ _ kK => x_iconst dX8_readsShape_6 (show _ = nI 0 by decide) kK) ?_
  refine xe (fun _ _ kK => x_puti dX8_readsShape_7 ⟨fl_X8_186, fz_8_22.1, fz_8_22.2.1⟩ (Or.inl fz_8_22.2.2) rfl rfl (wK_i h.1.1) kK) ?_
  refine xe (fun _ _ kK => x_aload_n dX8_readsShape_10 rfl 0 rfl kK) ?_
  refine xe (fun _ _ kK => x_iconst dX8_readsShape_11 (show _ = nI 0 by decide) kK) ?_
  refine xe (fun _ _ kK => x_puti dX8_readsShape_12 ⟨fl_X8_180, fz_8_30.1, fz_8_30.2.1⟩ (Or.inl fz_8_30.2.2) rfl rfl (wK_i (wK_i h.1.1)) kK) ?_
  refine xe (fun _ _ kK => x_aload_n dX8_readsShape_15 rfl 0 rfl kK) ?_
  refine xe (fun _ _ kK => x_get dX8_readsShape_16 fl_X8_68 (wK_i (wK_i (wK_i h.1.1))) (gvl_r1 fz_8_28.2.2 (show e_r (s_i (s_i (s_i T 533 88 (nI 0)) 534 88 (nI 0)) 542 88 (nI 0)) 540 88 = some 100 from (wr_i (wr_i (wr_i (h.1.2.1 28)))))) kK) ?_
  refine xe (fun _ _ kK => x_iconst dX8_readsShape_19 (show _ = nI 0 by decide) kK) ?_
  refine xe (fun _ _ kK => x_iconst dX8_readsShape_20 (show _ = (-1) by decide) kK) ?_
  refine xe (fun _ _ kK => x_iast dX8_readsShape_21 (wK_i (wK_i (wK_i (h.1.2.2.1 11 (by decide))))) (show (nI 0) = nI 0 from rfl) (wN_i (wN_i (wN_i (mi_len h.1 11 (by decide) (show 0 < 8 by omega))))) kK) ?_
  refine xe (fun _ _ kK => x_aload_n dX8_readsShape_22 rfl 0 rfl kK) ?_
  refine xe (fun _ _ kK => x_get dX8_readsShape_23 fl_X8_71 (wK_ai (wK_i (wK_i (wK_i h.1.1)))) (gvl_r1 fz_8_29.2.2 (show e_r (s_ai (s_i (s_i (s_i T 533 88 (nI 0)) 534 88 (nI 0)) 542 88 (nI 0)) 100 0 (-1)) 541 88 = some 101 from (wr_ai (wr_i (wr_i (wr_i (h.1.2.1 29))))))) kK) ?_
  refine xe (fun _ _ kK => x_iconst dX8_readsShape_26 (show _ = nI 0 by decide) kK) ?_
  refine xe (fun _ _ kK => x_iconst dX8_readsShape_27 (show _ = nI 0 by decide) kK) ?_
  refine xe (fun _ _ kK => x_iast dX8_readsShape_28 (wK_ai (wK_i (wK_i (wK_i (h.1.2.2.1 12 (by decide)))))) (show (nI 0) = nI 0 from rfl) (wN_ai (wN_i (wN_i (wN_i (mi_len h.1 12 (by decide) (show 0 < 8 by omega)))))) kK) ?_
  refine xe (fun _ _ kK => x_iconst dX8_readsShape_29 (show _ = nI 1 by decide) kK) ?_
  refine xe (fun _ _ kK => x_istore_n dX8_readsShape_30 rfl (by decide) (show _ = [(1, .int (nI 1)), (0, .ref 88)] from rfl) kK) ?_
  have hL : LX (s_ai (s_ai (s_i (s_i (s_i T 533 88 (nI 0)) 534 88 (nI 0)) 542 88 (nI 0)) 100 0 (-1)) 101 0 (nI 0)) n b 0 := (LX.of h (FrM.sai (FrM.sai (FrM.si (FrM.si (FrM.si FrM.rf (by decide) _) (by decide) _) (by decide) _) (by decide) _ _) (by decide) _ _) (wi_ai (wi_ai (wi_i (fun q => absurd q.1 (by decide)) (wi_i (fun q => absurd q.1 (by decide)) (wi_i (fun q => absurd q.1 (by decide)) h.2.2.1))))) (Nat.zero_le _) (wi_ai (wi_ai (wi_i (fun q => absurd q.1 (by decide)) (wi_i (fun q => absurd q.1 (by decide)) (wi_i (fun q => absurd q.1 (by decide)) h.2.2.2.2.2.2))))))
  have hR : RS (s_ai (s_ai (s_i (s_i (s_i T 533 88 (nI 0)) 534 88 (nI 0)) 542 88 (nI 0)) 100 0 (-1)) 101 0 (nI 0)) Sh0 [] := ⟨rfl, rfl, rfl, fun f hf => absurd hf (Nat.not_lt_zero f), fun f hf => absurd hf (Nat.not_lt_zero f), fun c hc => absurd hc (Nat.not_lt_zero c), rfl, fun _ => 0, fun i hi => by have : i = 0 := Nat.le_zero.mp hi; subst this; exact ⟨rfl, Nat.le_refl _⟩, by simp [emp, Sh0], fun i hi => absurd hi (Nat.not_lt_zero i)⟩
  have hI : PI n 0 Sh0 [] := ⟨Nat.zero_le _, h.2.2.2.2.2.1, Nat.le_refl _, by decide, by decide, fun g hg => absurd hg List.not_mem_nil, fun f hf => absurd hf (Nat.not_lt_zero f), fun f g hf => absurd hf (Nat.not_lt_zero f), List.Pairwise.nil⟩
  refine Xe.imp (xe_loc (by simp) (l_X8_readsShape d n (n + 1) _ 0 Sh0 [] rfl hL hR hI (by omega))) ?_
  rintro _ T9 ⟨rfl, u1, u2⟩
  refine ⟨rfl, FrM.tr (FrM.sai (FrM.sai (FrM.si (FrM.si (FrM.si FrM.rf (by decide) _) (by decide) _) (by decide) _) (by decide) _ _) (by decide) _ _) u1, ?_⟩
  unfold pShape
  cases hpl : pLoop b n (n + 1) 0 Sh0 [] with
  | inl x8 => rw [hpl] at u2; exact u2
  | inr x8 => rw [hpl] at u2; exact ⟨u2.1, u2.2.1.trans (wi_ai (wi_ai (wi_i (fun q => absurd q.1 (by decide)) (wi_i (fun q => absurd q.1 (by decide)) (wi_i (fun q => absurd q.1 (by decide)) rfl))))), u2.2.2⟩

set_option maxHeartbeats 4000000 in
theorem l_X8_copyF (d : Nat) {s : Sh} (hs : s.1 ≤ 60) {P : Option Value → TH → Prop} : ∀ (m k : Nat) (T : TH), s.1 - k = m → k ≤ s.1 → MI T → e_i T 526 88 = nI s.1 → (∀ f, f < s.1 → e_ai T 95 f = oI (s.2.2.1 f) ∧ e_al T 96 f = lN (s.2.2.2.1 f) ∧ e_ai T 97 f = nI (s.2.2.2.2.1 f) ∧ e_ai T 98 f = nI (s.2.2.2.2.2.1 f)) → (∀ f, f < k → e_ai T 90 f = oI (s.2.2.1 f) ∧ e_al T 91 f = lN (s.2.2.2.1 f) ∧ e_ai T 92 f = nI (s.2.2.2.2.1 f) ∧ e_ai T 93 f = nI (s.2.2.2.2.2.1 f)) →
    (∀ T', FrM [] [90, 91, 92, 93] T T' → (∀ f, f < s.1 → e_ai T' 90 f = oI (s.2.2.1 f) ∧ e_al T' 91 f = lN (s.2.2.2.1 f) ∧ e_ai T' 92 f = nI (s.2.2.2.2.1 f) ∧ e_ai T' 93 f = nI (s.2.2.2.2.2.1 f)) → Xe m_X8_shape d 106 [(1, .int (nI s.1)), (0, .ref 88)] [] T' P) → Xe m_X8_shape d 44 [(1, .int (nI k)), (0, .ref 88)] [] T P := by
  intro m
  induction m using Nat.strongRecOn with
  | ind m ih =>
    intro k T hm hks hM hf hsrc hdone hno
    subst hm
    refine xe (fun _ _ kK => x_iload_n dX8_shape_44 rfl 0 rfl kK) ?_
    refine xe (fun _ _ kK => x_aload_n dX8_shape_45 rfl 1 rfl kK) ?_
    refine xe (fun _ _ kK => x_get dX8_shape_46 fl_X8_208 hM.1 (gvl_i fz_8_14.2.2 (show e_i T 526 88 = nI s.1 from hf)) kK) ?_
    refine xe_icmp_ge (tgt := 106) dX8_shape_49 (by decide) (fun h49 => ?_) (fun h49 => ?_)
    · -- pc 106
      have h49 := cv_le (by omega) (by omega) h49
      have hk9 : k = s.1 := by omega
      subst hk9
      exact hno T FrM.rf hdone
    · -- pc 52
      have h49 := cv_nle (by omega) (by omega) h49
      refine xe (fun _ _ kK => x_aload_n dX8_shape_52 rfl 1 rfl kK) ?_
      refine xe (fun _ _ kK => x_get dX8_shape_53 fl_X8_37 hM.1 (gvl_r1 fz_8_16.2.2 (show e_r T 528 88 = some 90 from (hM.2.1 16))) kK) ?_
      refine xe (fun _ _ kK => x_iload_n dX8_shape_56 rfl 0 rfl kK) ?_
      refine xe (fun _ _ kK => x_aload_n dX8_shape_57 rfl 1 rfl kK) ?_
      refine xe (fun _ _ kK => x_get dX8_shape_58 fl_X8_53 hM.1 (gvl_r1 fz_8_23.2.2 (show e_r T 535 88 = some 95 from (hM.2.1 23))) kK) ?_
      refine xe (fun _ _ kK => x_iload_n dX8_shape_61 rfl 0 rfl kK) ?_
      refine xe (fun _ _ kK => x_iald dX8_shape_62 (hM.2.2.1 6 (by decide)) (show (nI k) = nI k from rfl) (mi_len hM 6 (by decide) (show k < 80 by omega)) (show e_ai T 95 k = oI (s.2.2.1 k) from (hsrc k h49).1) kK) ?_
      refine xe (fun _ _ kK => x_iast dX8_shape_63 (hM.2.2.1 1 (by decide)) (show (nI k) = nI k from rfl) (mi_len hM 1 (by decide) (show k < 80 by omega)) kK) ?_
      refine xe (fun _ _ kK => x_aload_n dX8_shape_64 rfl 1 rfl kK) ?_
      refine xe (fun _ _ kK => x_get dX8_shape_65 fl_X8_40 (wK_ai hM.1) (gvl_r1 fz_8_17.2.2 (show e_r (s_ai T 90 k (oI (s.2.2.1 k))) 529 88 = some 91 from (wr_ai (hM.2.1 17)))) kK) ?_
      refine xe (fun _ _ kK => x_iload_n dX8_shape_68 rfl 0 rfl kK) ?_
      refine xe (fun _ _ kK => x_aload_n dX8_shape_69 rfl 1 rfl kK) ?_
      refine xe (fun _ _ kK => x_get dX8_shape_70 fl_X8_56 (wK_ai hM.1) (gvl_r1 fz_8_24.2.2 (show e_r (s_ai T 90 k (oI (s.2.2.1 k))) 536 88 = some 96 from (wr_ai (hM.2.1 24)))) kK) ?_
      refine xe (fun _ _ kK => x_iload_n dX8_shape_73 rfl 0 rfl kK) ?_
      refine xe (fun _ _ kK => x_lald dX8_shape_74 (wK_ai (hM.2.2.1 7 (by decide))) (show (nI k) = nI k from rfl) (wN_ai (mi_len hM 7 (by decide) (show k < 80 by omega))) (show e_al (s_ai T 90 k (oI (s.2.2.1 k))) 96 k = lN (s.2.2.2.1 k) from (wal_ai (hsrc k h49).2.1)) kK) ?_
      refine xe (fun _ _ kK => x_last dX8_shape_75 (wK_ai (hM.2.2.1 2 (by decide))) (show (nI k) = nI k from rfl) (wN_ai (mi_len hM 2 (by decide) (show k < 80 by omega))) kK) ?_
      refine xe (fun _ _ kK => x_aload_n dX8_shape_76 rfl 1 rfl kK) ?_
      refine xe (fun _ _ kK => x_get dX8_shape_77 fl_X8_44 (wK_al (wK_ai hM.1)) (gvl_r1 fz_8_18.2.2 (show e_r (s_al (s_ai T 90 k (oI (s.2.2.1 k))) 91 k (lN (s.2.2.2.1 k))) 530 88 = some 92 from (wr_al (wr_ai (hM.2.1 18))))) kK) ?_
      refine xe (fun _ _ kK => x_iload_n dX8_shape_80 rfl 0 rfl kK) ?_
      refine xe (fun _ _ kK => x_aload_n dX8_shape_81 rfl 1 rfl kK) ?_
      refine xe (fun _ _ kK => x_get dX8_shape_82 fl_X8_59 (wK_al (wK_ai hM.1)) (gvl_r1 fz_8_25.2.2 (show e_r (s_al (s_ai T 90 k (oI (s.2.2.1 k))) 91 k (lN (s.2.2.2.1 k))) 537 88 = some 97 from (wr_al (wr_ai (hM.2.1 25))))) kK) ?_
      refine xe (fun _ _ kK => x_iload_n dX8_shape_85 rfl 0 rfl kK) ?_
      refine xe (fun _ _ kK => x_iald dX8_shape_86 (wK_al (wK_ai (hM.2.2.1 8 (by decide)))) (show (nI k) = nI k from rfl) (wN_al (wN_ai (mi_len hM 8 (by decide) (show k < 80 by omega)))) (show e_ai (s_al (s_ai T 90 k (oI (s.2.2.1 k))) 91 k (lN (s.2.2.2.1 k))) 97 k = nI (s.2.2.2.2.1 k) from (wai_al (wai_ai (fun q => absurd q.1 (by decide)) (hsrc k h49).2.2.1))) kK) ?_
      refine xe (fun _ _ kK => x_iast dX8_shape_87 (wK_al (wK_ai (hM.2.2.1 3 (by decide)))) (show (nI k) = nI k from rfl) (wN_al (wN_ai (mi_len hM 3 (by decide) (show k < 80 by omega)))) kK) ?_
      refine xe (fun _ _ kK => x_aload_n dX8_shape_88 rfl 1 rfl kK) ?_
      refine xe (fun _ _ kK => x_get dX8_shape_89 fl_X8_47 (wK_ai (wK_al (wK_ai hM.1))) (gvl_r1 fz_8_19.2.2 (show e_r (s_ai (s_al (s_ai T 90 k (oI (s.2.2.1 k))) 91 k (lN (s.2.2.2.1 k))) 92 k (nI (s.2.2.2.2.1 k))) 531 88 = some 93 from (wr_ai (wr_al (wr_ai (hM.2.1 19)))))) kK) ?_
      refine xe (fun _ _ kK => x_iload_n dX8_shape_92 rfl 0 rfl kK) ?_
      refine xe (fun _ _ kK => x_aload_n dX8_shape_93 rfl 1 rfl kK) ?_
      refine xe (fun _ _ kK => x_get dX8_shape_94 fl_X8_62 (wK_ai (wK_al (wK_ai hM.1))) (gvl_r1 fz_8_26.2.2 (show e_r (s_ai (s_al (s_ai T 90 k (oI (s.2.2.1 k))) 91 k (lN (s.2.2.2.1 k))) 92 k (nI (s.2.2.2.2.1 k))) 538 88 = some 98 from (wr_ai (wr_al (wr_ai (hM.2.1 26)))))) kK) ?_
      refine xe (fun _ _ kK => x_iload_n dX8_shape_97 rfl 0 rfl kK) ?_
      refine xe (fun _ _ kK => x_iald dX8_shape_98 (wK_ai (wK_al (wK_ai (hM.2.2.1 9 (by decide))))) (show (nI k) = nI k from rfl) (wN_ai (wN_al (wN_ai (mi_len hM 9 (by decide) (show k < 80 by omega))))) (show e_ai (s_ai (s_al (s_ai T 90 k (oI (s.2.2.1 k))) 91 k (lN (s.2.2.2.1 k))) 92 k (nI (s.2.2.2.2.1 k))) 98 k = nI (s.2.2.2.2.2.1 k) from (wai_ai (fun q => absurd q.1 (by decide)) (wai_al (wai_ai (fun q => absurd q.1 (by decide)) (hsrc k h49).2.2.2)))) kK) ?_
      refine xe (fun _ _ kK => x_iast dX8_shape_99 (wK_ai (wK_al (wK_ai (hM.2.2.1 4 (by decide))))) (show (nI k) = nI k from rfl) (wN_ai (wN_al (wN_ai (mi_len hM 4 (by decide) (show k < 80 by omega))))) kK) ?_
      refine xe (fun _ _ kK => x_iinc dX8_shape_100 0 rfl (show (nI k) + Int32.ofInt 1 = nI (k + 1) from nI_add k 1) (by decide) (show _ = [(1, .int (nI (k + 1))), (0, .ref 88)] from rfl) kK) ?_
      refine xe (fun _ _ kK => x_goto (tgt := 44) dX8_shape_103 (by decide) kK) ?_
      refine xe_loc (by simp) (ih (s.1 - (k + 1)) (by omega) (k + 1) (s_ai (s_ai (s_al (s_ai T 90 k (oI (s.2.2.1 k))) 91 k (lN (s.2.2.2.1 k))) 92 k (nI (s.2.2.2.2.1 k))) 93 k (nI (s.2.2.2.2.2.1 k))) rfl (by omega) ((show FrM [] [90, 91, 92, 93] T (s_ai (s_ai (s_al (s_ai T 90 k (oI (s.2.2.1 k))) 91 k (lN (s.2.2.2.1 k))) 92 k (nI (s.2.2.2.2.1 k))) 93 k (nI (s.2.2.2.2.2.1 k))) from (FrM.sai (FrM.sai (FrM.sal (FrM.sai FrM.rf (by decide) _ _) (by decide) _ _) (by decide) _ _) (by decide) _ _)).mi hM) (wi_ai (wi_ai (wi_al (wi_ai hf)))) (fun f hf9 => ⟨(wai_ai (fun q => absurd q.1 (by decide)) (wai_ai (fun q => absurd q.1 (by decide)) (wai_al (wai_ai (fun q => absurd q.1 (by decide)) (hsrc f hf9).1)))), (wal_ai (wal_ai (wal_al (fun q => absurd q.1 (by decide)) (wal_ai (hsrc f hf9).2.1)))), (wai_ai (fun q => absurd q.1 (by decide)) (wai_ai (fun q => absurd q.1 (by decide)) (wai_al (wai_ai (fun q => absurd q.1 (by decide)) (hsrc f hf9).2.2.1)))), (wai_ai (fun q => absurd q.1 (by decide)) (wai_ai (fun q => absurd q.1 (by decide)) (wai_al (wai_ai (fun q => absurd q.1 (by decide)) (hsrc f hf9).2.2.2))))⟩) (fun f hf9 => ?_) (fun T9 hF9 hd9 => hno T9 (FrM.tr (FrM.sai (FrM.sai (FrM.sal (FrM.sai FrM.rf (by decide) _ _) (by decide) _ _) (by decide) _ _) (by decide) _ _) hF9) hd9))
      by_cases q9 : f = k
      · subst q9; exact ⟨by simp [q_i_i, q_i_ai, q_i_al, q_ai_ai, q_ai_i, q_ai_al, q_al_al, q_al_i, q_al_ai], by simp [q_i_i, q_i_ai, q_i_al, q_ai_ai, q_ai_i, q_ai_al, q_al_al, q_al_i, q_al_ai], by simp [q_i_i, q_i_ai, q_i_al, q_ai_ai, q_ai_i, q_ai_al, q_al_al, q_al_i, q_al_ai], by simp [q_i_i, q_i_ai, q_i_al, q_ai_ai, q_ai_i, q_ai_al, q_al_al, q_al_i, q_al_ai]⟩
      · have := hdone f (by omega); exact ⟨by simp [q_i_i, q_i_ai, q_i_al, q_ai_ai, q_ai_i, q_ai_al, q_al_al, q_al_i, q_al_ai, q9, this.1], by simp [q_i_i, q_i_ai, q_i_al, q_ai_ai, q_ai_i, q_ai_al, q_al_al, q_al_i, q_al_ai, q9, this.2.1], by simp [q_i_i, q_i_ai, q_i_al, q_ai_ai, q_ai_i, q_ai_al, q_al_al, q_al_i, q_al_ai, q9, this.2.2.1], by simp [q_i_i, q_i_ai, q_i_al, q_ai_ai, q_ai_i, q_ai_al, q_al_al, q_al_i, q_al_ai, q9, this.2.2.2]⟩

set_option maxHeartbeats 4000000 in
theorem l_X8_copyL (d : Nat) {s : Sh} (hs : s.2.1 ≤ 12) {P : Option Value → TH → Prop} : ∀ (m k : Nat) (T : TH), s.2.1 - k = m → k ≤ s.2.1 → MI T → e_i T 527 88 = nI s.2.1 → (∀ c, c < s.2.1 → e_ai T 99 c = nI (s.2.2.2.2.2.2 c)) → (∀ c, c < k → e_ai T 94 c = nI (s.2.2.2.2.2.2 c)) →
    (∀ T', FrM [] [94] T T' → (∀ c, c < s.2.1 → e_ai T' 94 c = nI (s.2.2.2.2.2.2 c)) → Xe m_X8_shape d 134 [(1, .int (nI s.2.1)), (0, .ref 88)] [] T' P) → Xe m_X8_shape d 108 [(1, .int (nI k)), (0, .ref 88)] [] T P := by
  intro m
  induction m using Nat.strongRecOn with
  | ind m ih =>
    intro k T hm hks hM hf hsrc hdone hno
    subst hm
    refine xe (fun _ _ kK => x_iload_n dX8_shape_108 rfl 0 rfl kK) ?_
    refine xe (fun _ _ kK => x_aload_n dX8_shape_109 rfl 1 rfl kK) ?_
    refine xe (fun _ _ kK => x_get dX8_shape_110 fl_X8_211 hM.1 (gvl_i fz_8_15.2.2 (show e_i T 527 88 = nI s.2.1 from hf)) kK) ?_
    refine xe_icmp_ge (tgt := 134) dX8_shape_113 (by decide) (fun h113 => ?_) (fun h113 => ?_)
    · -- pc 134
      have h113 := cv_le (by omega) (by omega) h113
      have hk9 : k = s.2.1 := by omega
      subst hk9
      exact hno T FrM.rf hdone
    · -- pc 116
      have h113 := cv_nle (by omega) (by omega) h113
      refine xe (fun _ _ kK => x_aload_n dX8_shape_116 rfl 1 rfl kK) ?_
      refine xe (fun _ _ kK => x_get dX8_shape_117 fl_X8_50 hM.1 (gvl_r1 fz_8_20.2.2 (show e_r T 532 88 = some 94 from (hM.2.1 20))) kK) ?_
      refine xe (fun _ _ kK => x_iload_n dX8_shape_120 rfl 0 rfl kK) ?_
      refine xe (fun _ _ kK => x_aload_n dX8_shape_121 rfl 1 rfl kK) ?_
      refine xe (fun _ _ kK => x_get dX8_shape_122 fl_X8_65 hM.1 (gvl_r1 fz_8_27.2.2 (show e_r T 539 88 = some 99 from (hM.2.1 27))) kK) ?_
      refine xe (fun _ _ kK => x_iload_n dX8_shape_125 rfl 0 rfl kK) ?_
      refine xe (fun _ _ kK => x_iald dX8_shape_126 (hM.2.2.1 10 (by decide)) (show (nI k) = nI k from rfl) (mi_len hM 10 (by decide) (show k < 12 by omega)) (show e_ai T 99 k = nI (s.2.2.2.2.2.2 k) from (hsrc k h113)) kK) ?_
      refine xe (fun _ _ kK => x_iast dX8_shape_127 (hM.2.2.1 5 (by decide)) (show (nI k) = nI k from rfl) (mi_len hM 5 (by decide) (show k < 12 by omega)) kK) ?_
      refine xe (fun _ _ kK => x_iinc dX8_shape_128 0 rfl (show (nI k) + Int32.ofInt 1 = nI (k + 1) from nI_add k 1) (by decide) (show _ = [(1, .int (nI (k + 1))), (0, .ref 88)] from rfl) kK) ?_
      refine xe (fun _ _ kK => x_goto (tgt := 108) dX8_shape_131 (by decide) kK) ?_
      refine xe_loc (by simp) (ih (s.2.1 - (k + 1)) (by omega) (k + 1) (s_ai T 94 k (nI (s.2.2.2.2.2.2 k))) rfl (by omega) ((show FrM [] [94] T (s_ai T 94 k (nI (s.2.2.2.2.2.2 k))) from (FrM.sai FrM.rf (by decide) _ _)).mi hM) (wi_ai hf) (fun f hf9 => (wai_ai (fun q => absurd q.1 (by decide)) (hsrc f hf9))) (fun f hf9 => ?_) (fun T9 hF9 hd9 => hno T9 (FrM.tr (FrM.sai FrM.rf (by decide) _ _) hF9) hd9))
      by_cases q9 : f = k
      · subst q9; simp [q_i_i, q_i_ai, q_i_al, q_ai_ai, q_ai_i, q_ai_al, q_al_al, q_al_i, q_al_ai]
      · have := hdone f (by omega); simp [q_i_i, q_i_ai, q_i_al, q_ai_ai, q_ai_i, q_ai_al, q_al_al, q_al_i, q_al_ai, q9, this]
