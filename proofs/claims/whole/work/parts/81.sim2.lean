/-! each call that changes: the class and the reference change alike -/
theorem FrM.sc {fs as : List Nat} {T T1 : TH} (h : FrM fs as T T1) : e_sc T1 = e_sc T := h.2.2.2.2.2.2.2.1
theorem FrM.up {fs as : List Nat} {T T0 T1 : TH} {cp : Nat → Nat} {k : Nat} (h : FrM fs as T0 T1) (hs : Rs T cp k) (h1 : e_n T0 ≤ e_n T + 3) (h2 : e_s T0 ≤ e_s T + 79) : Rs T1 cp (k + 1) := hs.up (by rw [h.2.2.2.2.2.1]; exact h1) (by rw [h.2.2.2.2.2.2.1]; exact h2)
theorem CIn.tape {T T1 : TH} {A : Nat → Nat → Nat} {cp : Nat → Nat} {cu sp n n' : Nat} {s : Sh} {en : Nat → Nat} {lo : Nat → Option Nat} {ps : PS} {b b' : Nat → Nat} {tx : List Nat} {fk fq : Int32} (h : CIn T A cp cu sp s en lo ps n b tx fk fq) (hF : FrG [(257, 1)] [2] T T1) (h1 : e_i T1 257 1 = nI n') (h2 : n' ≤ 400) (h3 : CBt T1 n' b') : CIn T1 A cp cu sp s en lo ps n' b' tx fk fq := by
  obtain ⟨⟨c1, c2, c3, c4, c5⟩, ⟨t1, t2, t3, t4, t5⟩, ⟨s1, s2, s3, s4⟩, hA, hR, hX⟩ := h
  have hG := hF.A (S := fun x => x = 1 ∨ x = 2) (by simp) (by simp)
  have h12 := s3.2.2.1
  refine ⟨⟨hF.ci c1, by rw [hF.2.1]; exact c2, by rw [hF.2.1]; exact c3, c4, (hF.i (by simp)).trans c5⟩, ⟨h3, h1, h2, (hF.i (by simp)).trans t4, (hF.i (by simp)).trans t5⟩, ⟨s1.ofA hG (fun a _ _ => by omega), s2.ofA hG (fun a _ _ => by omega), s3, s4⟩, hA.ofG hF, fun c hc => ⟨(hR c hc).1.ofA hG (by omega) (fun k hk => ?_), (hR c hc).2.ofA hG (by omega)⟩, hX.ofA hG (by omega) (by omega)⟩
  have := (hA.2.1 c k (by omega) hk).2.2.2.2
  omega
theorem RIn.tape {T T1 : TH} {hs : Bool} {s : Sh} {ps : PS} {n n' : Nat} {b b' : Nat → Nat} {tx : List Nat} {fk fq : Int32} (h : RIn T hs s ps n b tx fk fq) (hF : FrM [513] [89] T T1) (h1 : e_i T1 513 88 = nI n') (h2 : Bt T1 n' b') : RIn T1 hs s ps n' b' tx fk fq := by
  obtain ⟨m, r2, r3, r4, r6, r7, r8, r9⟩ := id h
  exact h.frm hF h2 h1 ⟨(hF.i (by simp)).trans r4.1, (hF.i (by simp)).trans r4.2⟩ (r6.of hF (by decide) (by decide)) (r9.ofF hF (by decide) (by decide) (by decide) (by decide) (by decide)) (by decide) (by decide) (fun e => (r8 e).2.2)
/-- only the tape changes -/
theorem sim_t {Z : Nat × (Nat → Int32)} {mx mr : MR} {As : List Value} {T : TH} {k : Nat} {V : Value} {A : Nat → Nat → Nat} {cp : Nat → Nat} {cu sp n n' : Nat} {hs : Bool} {s : Sh} {en : Nat → Nat} {lo : Nat → Option Nat} {ps : PS} {b b' : Nat → Nat} {tx : List Nat} {fk fq : Int32} (hz : e_sc T = Z) (hC : CIn T A cp cu sp s en lo ps n b tx fk fq) (hR : RIn T hs s ps n b tx fk fq) (hRs : Rs T cp k) (hn : n' ≤ 400) (hc : Xe mx 999 0 (lv_args 0 (.ref 0 :: As)) [] T (fun r T1 => r = some V ∧ FrG [(257, 1)] [2] T T1 ∧ e_i T1 257 1 = nI n' ∧ CBt T1 n' b')) (hr : ∀ T1, RIn T1 hs s ps n b tx fk fq → Xe mr 999 0 (lv_args 0 (.ref 88 :: As)) [] T1 (fun r T2 => r = some V ∧ FrM [513] [89] T1 T2 ∧ e_i T2 513 88 = nI n' ∧ Bt T2 n' b')) : Sim Z mx mr As T k V := by
  refine ⟨_, hc, ?_⟩
  rintro T1 ⟨f1, f2, f3⟩
  have hG := f1.A (S := fun x => x = 1 ∨ x = 2) (by simp) (by simp)
  have hR1 := hR.ofA hG (fun x _ _ => by omega)
  refine ⟨hR1.1.1, hG.1.trans hz, (hr T1 hR1).imp ?_⟩
  rintro r T2 ⟨e, g1, g2, g3⟩
  exact ⟨e, g1.sc.trans (hG.1.trans hz), hs, s, en, lo, ps, n', b', tx, fk, fq, A, cp, cu, sp, (hC.tape f1 f2 hn f3).ofM g1 (by decide), hR1.tape g1 g2 g3, g1.up hRs (by rw [f1.2.2.2.2.1]; omega) (by rw [f1.2.2.2.2.2.1]; omega)⟩
theorem sim_feed {Z : Nat × (Nat → Int32)} {T : TH} {k : Nat} (h : LIn Z T k) (a1 a2 a3 a4 a5 : Int32) : ∃ v, Sim Z m_X7_feed m_X8_feed [.int a1, .int a2, .int a3, .int a4, .int a5] T k (.int v) := by
  obtain ⟨hz, hs, s, en, lo, ps, n, b, tx, fk, fq, A, cp, cu, sp, hC, hR, hRs⟩ := id h
  have hc := c_X7_feed 998 hC.1.1 hC.2.1.2.1 hC.2.1.2.2.1 hC.2.1.1 a1 a2 a3 a4 a5
  by_cases h20 : n + 20 ≤ 400
  · rw [if_pos h20] at hc
    refine ⟨_, sim_t hz hC hR hRs h20 hc (fun T1 hR1 => ?_)⟩
    have hr := c_X8_feed 999 hR1.1 hR1.2.2.1 hC.2.1.2.2.1 hR1.2.1 a1 a2 a3 a4 a5
    rw [if_pos h20] at hr
    exact hr
  · rw [if_neg h20] at hc
    have hr := c_X8_feed 999 hR.1 hR.2.2.1 hC.2.1.2.2.1 hR.2.1 a1 a2 a3 a4 a5
    rw [if_neg h20] at hr
    exact ⟨_, sim_q h hc (frT hr)⟩
theorem s257 (T : TH) (v : Int32) : FrG [(257, 1)] [2] T (s_i T 257 1 v) ∧ e_i (s_i T 257 1 v) 257 1 = v := ⟨FrG.rf.si (by simp) v, ei_s _ _ _ _⟩
theorem s513 (T : TH) (v : Int32) : FrM [513] [89] T (s_i T 513 88 v) ∧ e_i (s_i T 513 88 v) 513 88 = v := ⟨FrM.rf.si (by simp) v, ei_s _ _ _ _⟩
theorem sim_end {Z : Nat × (Nat → Int32)} {T : TH} {k : Nat} (h : LIn Z T k) (x : Int32) : ∃ v, Sim Z m_X7_end m_X8_end [.int x] T k (.int v) := by
  obtain ⟨hz, hs, s, en, lo, ps, n, b, tx, fk, fq, A, cp, cu, sp, hC, hR, hRs⟩ := id h
  have hn := hC.2.1.2.2.1
  have hc := c_X7_end 999 hC.1.1 hC.2.1.2.1 hn x
  cases hi : ix x (n + 1) with
  | none =>
    rw [hi] at hc
    have hr := c_X8_end 999 hR.1 hR.2.2.1 hn x
    rw [hi] at hr
    exact ⟨_, sim_q h hc (frT hr)⟩
  | some j =>
    rw [hi] at hc
    have hj := (ix_lt hi).1
    refine ⟨bI true, sim_t (n' := j) (b' := b) hz hC hR hRs (by omega) (hc.imp ?_) (fun T1 hR1 => ?_)⟩
    · rintro r T1 ⟨e, rfl⟩
      exact ⟨e, (s257 _ _).1, (s257 _ _).2, fun i hi => hC.2.1.1 i (by omega)⟩
    · have hr := c_X8_end 999 hR1.1 hR1.2.2.1 hn x
      rw [hi] at hr
      refine hr.imp ?_
      rintro r T2 ⟨e, rfl⟩
      exact ⟨e, (s513 _ _).1, (s513 _ _).2, fun i hi => hR1.2.1 i (by omega)⟩
theorem sim_shape {Z : Nat × (Nat → Int32)} {T : TH} {k : Nat} (h : LIn Z T k) : ∃ v, Sim Z m_X7_shape m_X8_shape [] T k (.int v) := by
  obtain ⟨hz, hs, s, en, lo, ps, n, b, tx, fk, fq, A, cp, cu, sp, hC, hR, hRs⟩ := id h
  obtain ⟨⟨c1, c2, c3, c4, c5⟩, ⟨t1, t2, t3, t4, t5⟩, ⟨s1, s2, s3, s4⟩, hA, hTb, hX⟩ := id hC
  have hAk : ∀ c k, c < 12 → k < 4 → A c k < e_n T ∧ (A c k = 5 + 5 * c + k ∨ 120 ≤ A c k) := fun c k hc hk => (hA.2.1 c k hc hk).2.2.2
  have h120 := hA.2.2.2
  have hc := c_X7_shape 991 c1 c2 c3 c4 t1 t2 t3 hA
  have hr := fun (T1 : TH) (h1 : RIn T1 hs s ps n b tx fk fq) => c_X8_shape 993 h1.1 h1.2.1 h1.2.2.1 t3
  cases hp : pShape b n with
  | inl q =>
    obtain ⟨q1, q2⟩ := q
    rw [hp] at hc hr
    refine ⟨_, _, hc, ?_⟩
    rintro T1 ⟨en1, es1, f1, f2, f3, f4⟩
    have hR1 := hR.ofA f3 (fun x _ _ => by omega)
    have h12 := s3.2.2.1
    have nA : ∀ c k, c < 12 → k < 4 → ¬ (A c k = 1 ∨ (sp ≤ A c k ∧ A c k ≤ sp + 10) ∨ e_n T ≤ A c k) := fun c k hc hk => by have := hAk c k hc hk; omega
    have hC1 : CIn T1 A cp cu sp s en lo ps 0 b tx (nI q1) (nI q2) := ⟨⟨f1, (f3.r (by omega)).trans c2, (f3.r (by omega)).trans c3, c4, (f3.i (by omega)).trans c5⟩, ⟨fun j hj => by omega, f2, by omega, f4.1, f4.2⟩, ⟨s1.ofA f3 (fun a _ _ => by omega), s2.ofA f3 (fun a _ _ => by omega), s3, s4⟩, hA.ofA f3 (fun c hc => by omega) nA, fun c hc => ⟨(hTb c hc).1.ofA f3 (by omega) (fun k hk => nA c k (by omega) hk), (hTb c hc).2.ofA f3 (by omega)⟩, hX.ofA f3 (by omega) (by omega)⟩
    refine ⟨hR1.1.1, f3.1.trans hz, (hr T1 hR1).imp ?_⟩
    rintro r T2 ⟨e, g1, g2, g3, g4⟩
    exact ⟨e, g1.sc.trans (f3.1.trans hz), hs, s, en, lo, ps, 0, b, tx, nI q1, nI q2, A, cp, cu, sp, hC1.ofM g1 (by decide), hR1.frm g1 (fun j hj => by omega) g2 ⟨g3, g4⟩ (hR1.2.2.2.2.1.of g1 (by decide) (by decide)) (hR1.2.2.2.2.2.2.2.ofF g1 (by decide) (by decide) (by decide) (by decide) (by decide)) (by decide) (by decide) (fun e => (hR1.2.2.2.2.2.2.1 e).2.2), g1.up hRs (by omega) (by omega)⟩
  | inr s' =>
    rw [hp] at hc hr
    refine ⟨_, _, hc, ?_⟩
    rintro T1 ⟨en1, es1, f1, f2, f3, f4, f5, f6, f7, en', lo', u1, u2, u3, ⟨p', u4⟩, u5, u6, u7⟩
    have hR1 := hR.ofA f3 (fun x _ _ => by rintro (h | h | ⟨c, h, h'⟩ | h | h) <;> omega)
    have hS' := PShp.of u3 u4
    have h0 := hS'.pos u5
    have nX : ∀ a, (a = 64 ∨ a = 65) → ¬ (a = 0 ∨ a = 1 ∨ (∃ c, c < 12 ∧ a = 4 + 5 * c) ∨ (sp ≤ a ∧ a ≤ sp + 10) ∨ e_n T ≤ a) := fun a ha => by rintro (h | h | ⟨c, h, h'⟩ | h | h) <;> omega
    have ht0 : ∀ c, tOf s' (0, ps.2) c = [] := fun c => rfl
    have hC1 : CIn T1 A cp sp cu s' en' lo' (0, ps.2) 0 b tx (nI 0) (-1) := ⟨⟨f1.1, f1.2.1, f6, by omega, f7⟩, ⟨fun j hj => by omega, f2, by omega, f4, f5⟩, ⟨u1, u2, hS', ⟨by show 0 ≤ 30; omega, fun i hi => absurd hi (Nat.not_lt_zero _)⟩⟩, u6, fun c hc => by rw [ht0]; exact u7 c hc, hX.ofA f3 (nX 64 (by omega)) (nX 65 (by omega))⟩
    refine ⟨hR1.1.1, f3.1.trans hz, (hr T1 hR1).imp ?_⟩
    rintro r T2 ⟨e, g1, g2, g3, g4, g5, g6, g7⟩
    refine ⟨e, g1.sc.trans (f3.1.trans hz), true, s', en', lo', (0, ps.2), 0, b, tx, nI 0, -1, A, cp, sp, cu, hC1.ofM g1 (by decide), ⟨g1.mi hR1.1, fun j hj => by omega, g2, ⟨g3, g4⟩, hR1.2.2.2.2.1.of g1 (by decide) (by decide), fun _ => ⟨g5, g7, h0⟩, fun e => (by cases e), ⟨g6, fun h => absurd h (Nat.lt_irrefl _), fun i hi => absurd hi (Nat.not_lt_zero _)⟩⟩, g1.up hRs (by omega) (by omega)⟩
theorem sim_drop {Z : Nat × (Nat → Int32)} {T : TH} {k : Nat} (h : LIn Z T k) (x : Int32) : ∃ v, Sim Z m_X7_drop m_X8_drop [.int x] T k (.int v) := by
  obtain ⟨hz, hs, s, en, lo, ps, n, b, tx, fk, fq, A, cp, cu, sp, hC, hR, hRs⟩ := id h
  obtain ⟨⟨c1, c2, c3, c4, c5⟩, ⟨t1, t2, t3, t4, t5⟩, ⟨s1, s2, s3, s4⟩, hA, hTb, hX⟩ := id hC
  have hpk := (s4.pg s3).1
  have hr := fun (T1 : TH) (h1 : RIn T1 hs s ps n b tx fk fq) => c_X8_drop 998 h1.1 h1.2.2.2.2.2.2.2 hpk x
  cases hi : ix x ps.1 with
  | none =>
    rw [hi] at hr
    exact ⟨_, sim_q h (c_X7_drop0 998 c1 c5 s4.1 hi) (frT (hr T hR))⟩
  | some i =>
    obtain ⟨hin, rfl, -⟩ := ix_lt hi
    have hc := c_X7_drop 997 (RR := fun c => tOf s ps c) hC.cu hA (fun c hc k hk => by have := (tOf_ok s3 s4 hc).2.2.2 k hk; have := s4.1; omega) (fun c hc => (hTb c hc).1) c5 s4.1 hin
    rw [hi] at hr
    have h12 := s3.2.2.1
    have nT : ∀ a, (a < 4 ∨ (64 ≤ a ∧ a < 120)) → ¬ TS A a := fun a ha => by
      rintro (⟨c, h1, h2⟩ | ⟨c, k, h1, h2, h3⟩)
      · omega
      · have := (hA.2.1 c k h1 h2).2.2.2.2; omega
    refine ⟨nI (ps.1 - 1), fun T2 => ∃ T1, FgA T T1 A cp i s.2.1 (fun c => tOf s ps c) s.2.1 ∧ T2 = s_i T1 453 0 (nI (ps.1 - 1)), hc.imp (fun r T2 => ?_), ?_⟩
    · rintro ⟨T1, h1, h2, h3⟩
      exact ⟨h2, T1, h1, h3⟩
    rintro _ ⟨T1, ⟨k1, k2, k3, k4, k5, k6⟩, rfl⟩
    have hG : FrG [(453, 0)] [] T1 (s_i T1 453 0 (nI (ps.1 - 1))) := FrG.rf.si (by simp) _
    have hv : e_i (s_i T1 453 0 (nI (ps.1 - 1))) 453 0 = nI (ps.1 - 1) := ei_s _ _ _ _
    have hF : FrA (fun x => x = 0 ∨ TS A x) T (s_i T1 453 0 (nI (ps.1 - 1))) := (k1.mono (fun a h => Or.inr h)).tr (hG.A (by simp) (by simp))
    have hR1 := hR.ofA hF (fun x h1 h2 => by rintro (h | h); omega; exact nT x (by omega) h)
    have nS : ∀ a, (0 < a ∧ a < 4 ∨ (64 ≤ a ∧ a < 120)) → ¬ (a = 0 ∨ TS A a) := fun a ha => by rintro (h | h); omega; exact nT a (by omega) h
    have hC1 : CIn (s_i T1 453 0 (nI (ps.1 - 1))) A cp cu sp s en lo (dropP ps i) n b tx fk fq := by
      refine ⟨⟨hG.ci (c1.ofA k1 (fun a _ _ => nT a (by omega))), by rw [hG.2.1, k1.r (nT 0 (by omega))]; exact c2, by rw [hG.2.1, k1.r (nT 0 (by omega))]; exact c3, c4, hv⟩, ⟨t1.ofA hF (nS 2 (by omega)), (hF.i (nS 1 (by omega))).trans t2, t3, (hF.i (nS 1 (by omega))).trans t4, (hF.i (nS 1 (by omega))).trans t5⟩, ⟨s1.ofA hF (fun a _ _ => nS a (by omega)), s2.ofA hF (fun a _ _ => nS a (by omega)), s3, s4.drop i⟩, k4.ofG hG, fun c hc => ?_, hX.ofA hF (nS _ (by omega)) (nS _ (by omega))⟩
      have h5 := k5 c hc
      rw [if_pos hc, ← tOf_drop s3.1 hc hin] at h5
      have hi6 : ∀ g, g ≠ 196 → g ≠ 453 → e_i (s_i T1 453 0 (nI (ps.1 - 1))) g (4 + 5 * c) = e_i T g (4 + 5 * c) := fun g h1 h2 => (hG.i (by simp)).trans (k6 c g h1)
      obtain ⟨l1, l2, l3, l4⟩ := (hTb c hc).2
      exact ⟨h5.ofG hG (by simp) (by simp), (hi6 197 (by omega) (by omega)).trans l1, (hi6 198 (by omega) (by omega)).trans l2, (hi6 199 (by omega) (by omega)).trans l3, (hi6 200 (by omega) (by omega)).trans l4⟩
    refine ⟨hR1.1.1, hF.1.trans hz, (hr _ hR1).imp ?_⟩
    rintro r T2 ⟨e, g1, g2⟩
    refine ⟨e, g1.sc.trans (hF.1.trans hz), hs, s, en, lo, dropP ps i, n, b, tx, fk, fq, A, cp, cu, sp, hC1.ofM g1 (by decide), ?_, g1.up hRs (by rw [hG.2.2.2.2.1, k2]; omega) (by rw [hG.2.2.2.2.2.1, k3]; omega)⟩
    obtain ⟨m, r2, r3, r4, r6, r7, r8, r9⟩ := id hR1
    exact hR1.frm g1 (fun j hj => by rw [g1.ai (by decide)]; exact r2 j hj) ((g1.i (by simp)).trans r3) ⟨(g1.i (by simp)).trans r4.1, (g1.i (by simp)).trans r4.2⟩ (r6.of g1 (by decide) (by decide)) g2 (by decide) (by decide) (fun e => by have := (r8 e).2.2; show ps.1 - 1 = 0; omega)
theorem sim_paper {Z : Nat × (Nat → Int32)} {T : TH} {k : Nat} (h : LIn Z T k) : ∃ v, Sim Z m_X7_paper m_X8_paper [] T k (.int v) := by
  obtain ⟨hz, hs, s, en, lo, ps, n, b, tx, fk, fq, A, cp, cu, sp, hC, hR, hRs⟩ := id h
  obtain ⟨⟨c1, c2, c3, c4, c5⟩, ⟨t1, t2, t3, t4, t5⟩, ⟨s1, s2, s3, s4⟩, hA, hTb, hX⟩ := id hC
  have h12 := s3.2.2.1
  have no : (s.2.1 = 0 ∨ 30 ≤ ps.1) → (∀ T1, RIn T1 hs s ps n b tx fk fq → Xe m_X8_paper 999 0 [(0, .ref 88)] [] T1 (fun r T2 => r = some (.int (-2)) ∧ T2 = s_i T1 513 88 (nI 0))) → ∃ v, Sim Z m_X7_paper m_X8_paper [] T k (.int v) := fun hno hr => by
    refine ⟨-2, sim_t (n' := 0) (b' := b) hz hC hR hRs (by omega) ((c_X7_paper0 999 (s := s) hC.cu c5 s4.1 hno).imp ?_) (fun T1 hR1 => (hr T1 hR1).imp ?_)⟩
    · rintro r T1 ⟨e, rfl⟩
      exact ⟨e, (s257 _ _).1, (s257 _ _).2, fun i hi => by omega⟩
    · rintro r T2 ⟨e, rfl⟩
      exact ⟨e, (s513 _ _).1, (s513 _ _).2, fun i hi => by omega⟩
  cases hs with
  | false =>
    obtain ⟨q1, q2, q3⟩ := hR.2.2.2.2.2.2.1 rfl
    exact no (Or.inl q2) (fun T1 hR1 => c_X8_paper0 999 hR1.1 (hR1.2.2.2.2.2.2.1 rfl).1)
  | true =>
  obtain ⟨w1, w2, w3⟩ := hR.2.2.2.2.2.1 rfl
  by_cases h30 : 30 ≤ ps.1
  · refine no (Or.inr h30) (fun T1 hR1 => c_X8_paper30 999 hR1.1 (hR1.2.2.2.2.2.1 rfl).1 ?_)
    have := s4.1
    have e : ps.1 = 30 := by omega
    rw [hR1.2.2.2.2.2.2.2.1, e]
  have h30' : ps.1 < 30 := by omega
  have hc := c_X7_paper 988 (R0 := fun c => tOf s ps c) hC.cu c5 h30' w3 t1 t2 t3 s1 s2 s3.1 s3.2.1 s3.2.2.2.1 s3.2.2.2.2 hA (fun c hc => (hTb c hc).1) (fun c hc => by have : (tOf s ps c).length ≤ 100 * ps.1 := tbl_len100 s4 hc ps.1 (Nat.le_refl _); show (tOf s ps c).length ≤ 2900; omega) (fun c hc => (tOf_ok s3 s4 hc).2.2.2)
  obtain ⟨sg1, -, ⟨dp, sg2⟩, -⟩ := s3.sg
  have hr := fun (T1 : TH) (h1 : RIn T1 true s ps n b tx fk fq) => c_X8_paper 993 h1.1 h1.2.1 h1.2.2.1 t3 (h1.2.2.2.2.2.1 rfl).1 (h1.2.2.2.2.2.1 rfl).2.1 sg1 sg2 h1.2.2.2.2.2.2.2 (s4.pg s3).1 h30'
  have nP : ∀ a, (a = 2 ∨ a = 3 ∨ (64 ≤ a ∧ a < 120)) → ¬ P2 a := fun a ha => by rintro (h | h | h | h) <;> omega
  have hRs' : ∀ {T1 T2 : TH} {cp' : Nat → Nat} {fs as : List Nat}, (e_n T1 + smC cp 12 ≤ e_n T + 3 + smC cp' 12 ∧ e_s T1 + 12 * smC cp 12 ≤ e_s T + 79 + 12 * smC cp' 12) → FrM fs as T1 T2 → Rs T2 cp' (k + 1) := fun {T1 T2 cp' fs as} hh hF => by
    have h1 := hRs.1
    have h2 := hRs.2
    exact ⟨by rw [hF.2.2.2.2.2.1]; omega, by rw [hF.2.2.2.2.2.2.1]; omega⟩
  have hcl : ∀ {T1 : TH} {A' : Nat → Nat → Nat} {cp' : Nat → Nat} {fk' fq' : Int32} {ps' : PS}, PPst T T1 A' cp cp' → e_i T1 257 1 = nI 0 → e_i T1 259 1 = fk' → e_i T1 260 1 = fq' → e_i T1 453 0 = nI ps'.1 → PPs s ps' → (∀ c, c < s.2.1 → TbR T1 A' cp' c (tOf s ps' c)) → CIn T1 A' cp' cu sp s en lo ps' 0 b tx fk' fq' := fun {T1 A' cp' fk' fq' ps'} hP e1 e2 e3 e4 e5 e6 => by
    obtain ⟨p1, p2, p3, p4, p5, p6, p7⟩ := hP
    refine ⟨⟨p1, p6.trans c2, p7.trans c3, c4, e4⟩, ⟨fun i hi => by omega, e1, by omega, e2, e3⟩, ⟨s1.ofA p3 (fun a _ _ => nP a (by omega)), s2.ofA p3 (fun a _ _ => nP a (by omega)), s3, e5⟩, p2, fun c hc => ⟨e6 c hc, ?_⟩, hX.ofA p3 (nP _ (by omega)) (nP _ (by omega))⟩
    obtain ⟨l1, l2, l3, l4⟩ := (hTb c hc).2
    exact ⟨(p4 c 197 (by omega) (by omega)).trans l1, (p4 c 198 (by omega) (by omega)).trans l2, (p4 c 199 (by omega) (by omega)).trans l3, (p4 c 200 (by omega) (by omega)).trans l4⟩
  cases hp : qPaper s b n with
  | inl q =>
    obtain ⟨q1, q2⟩ := q
    rw [hp] at hc hr
    refine ⟨_, _, hc, ?_⟩
    rintro T1 ⟨A', cp', f1, f2, f3, f4, f5⟩
    have hR1 := hR.ofA f1.2.2.1 (fun x _ _ => nP x (by omega))
    refine ⟨hR1.1.1, f1.2.2.1.1.trans hz, (hr T1 hR1).imp ?_⟩
    rintro r T2 ⟨e, g1, g2, g3, g4, g5⟩
    exact ⟨e, g1.sc.trans (f1.2.2.1.1.trans hz), true, s, en, lo, ps, 0, b, tx, nI q1, nI q2, A', cp', cu, sp, (hcl f1 f2 f3.1 f3.2 f4 s4 f5).ofM g1 (by decide), hR1.frm g1 (fun j hj => by omega) g2 ⟨g3, g4⟩ (hR1.2.2.2.2.1.of g1 (by decide) (by decide)) g5 (by decide) (by decide) (fun e => by cases e), hRs' f1.2.2.2.2.1 g1⟩
  | inr pa =>
    rw [hp] at hc hr
    refine ⟨_, _, hc, ?_⟩
    rintro T1 ⟨A', cp', f1, f2, f3, f3', f4, f5, f6, f7, f8, f9⟩
    have hR1 := hR.ofA f1.2.2.1 (fun x _ _ => nP x (by omega))
    refine ⟨hR1.1.1, f1.2.2.1.1.trans hz, (hr T1 hR1).imp ?_⟩
    rintro r T2 ⟨e, g1, g2, g3, g4, g5, g6, g7⟩
    have hps := PPs.add s3 s4 h30' t3 f6 f7 f8 f9 g6 g7 (fun c hc => (f5 c hc).2)
    exact ⟨e, g1.sc.trans (f1.2.2.1.1.trans hz), true, s, en, lo, addP ps pa, 0, b, tx, nI 0, -1, A', cp', cu, sp, (hcl (ps' := addP ps pa) f1 f2 f3 f3' f4 hps (fun c hc => by rw [tOf_add]; exact (f5 c hc).1)).ofM g1 (by decide), hR1.frm g1 (fun j hj => by omega) g2 ⟨g3, g4⟩ (hR1.2.2.2.2.1.of g1 (by decide) (by decide)) g5 (by decide) (by decide) (fun e => by cases e), hRs' f1.2.2.2.2.1 g1⟩
theorem sim_text {Z : Nat × (Nat → Int32)} {T : TH} {k : Nat} (h : LIn Z T k) (x bits : Int32) : ∃ v, Sim Z m_X7_text m_X8_text [.int x, .int bits] T k (.int v) := by
  obtain ⟨hz, hs, s, en, lo, ps, n, b, tx, fk, fq, A, cp, cu, sp, hC, hR, hRs⟩ := id h
  obtain ⟨⟨c1, c2, c3, c4, c5⟩, ⟨t1, t2, t3, t4, t5⟩, ⟨s1, s2, s3, s4⟩, hA, hTb, hX⟩ := id hC
  have h12 := s3.2.2.1
  have h120 := hA.2.2.2
  cases hs with
  | false =>
    obtain ⟨q1, q2, q3⟩ := hR.2.2.2.2.2.2.1 rfl
    have hp := hR.2.2.2.2.2.2.2.1
    rw [q3] at hp
    exact ⟨_, sim_q h (c_X7_text0 998 c1 c5 s4.1 (by rw [q3]; exact ix0)) (frT (c_X8_text0 998 hR.1 hp x bits))⟩
  | true =>
  have hr := fun (T1 : TH) (h1 : RIn T1 true s ps n b tx fk fq) => c_X8_text 997 (h1.mqh s3 s4) (fun i hi => s4.px hi) x bits
  cases hi : ix x ps.1 with
  | none =>
    rw [hi] at hr
    exact ⟨_, sim_q h (c_X7_text0 998 c1 c5 s4.1 hi) (frT (hr T hR))⟩
  | some i =>
    obtain ⟨hin, rfl, -⟩ := ix_lt hi
    rw [hi] at hr
    have hPT := (s4.2 i hin).1
    have hl := txN_400 (wn := wnB s bits) (s4.2 i hin).2.1 hPT.2.2.2.1 (s4.2 i hin).2.2.2.1 5
    have hc := c_X7_text 977 (bits := bits) hC.cu c5 s4.1 hin s1 s2 hA hTb hX (s4.wz (by omega) s3) hPT (fun c hc => text_start s3.1 hc hin) (text_blocks s3.1 hin) hl
    refine ⟨_, _, hc, ?_⟩
    rintro T1 ⟨f1, f2, f3, f4, f5⟩
    have hR1 := hR.ofA f5 (fun x _ _ => by omega)
    have nA : ∀ c k, c < 12 → k < 4 → ¬ (A c k = 64 ∨ A c k = 65 ∨ e_n T ≤ A c k) := fun c k hc hk => by have := (hA.2.1 c k hc hk).2.2.2; omega
    have hC1 : CIn T1 A cp cu sp s en lo ps n b (txN s (ps.2 i) (wnB s bits) 5 0) fk fq := ⟨⟨f1, (f5.r (by omega)).trans c2, (f5.r (by omega)).trans c3, c4, (f5.i (by omega)).trans c5⟩, ⟨t1.ofA f5 (by omega), (f5.i (by omega)).trans t2, t3, (f5.i (by omega)).trans t4, (f5.i (by omega)).trans t5⟩, ⟨s1.ofA f5 (fun a _ _ => by omega), s2.ofA f5 (fun a _ _ => by omega), s3, s4⟩, hA.ofA f5 (fun c hc => by omega) nA, fun c hc => ⟨(hTb c hc).1.ofA f5 (by omega) (fun k hk => nA c k (by omega) hk), (hTb c hc).2.ofA f5 (by omega)⟩, f2⟩
    refine ⟨hR1.1.1, f5.1.trans hz, (hr T1 hR1).imp ?_⟩
    rintro r T2 ⟨e, g1, g2⟩
    obtain ⟨m, r2, r3, r4, r6, r7, r8, r9⟩ := id hR1
    exact ⟨e, g1.sc.trans (f5.1.trans hz), true, s, en, lo, ps, n, b, txt s (ps.2 i) bits, fk, fq, A, cp, cu, sp, hC1.ofM g1 (by decide), hR1.frm g1 (fun j hj => by rw [g1.ai (by decide)]; exact r2 j hj) ((g1.i (by simp)).trans r3) ⟨(g1.i (by simp)).trans r4.1, (g1.i (by simp)).trans r4.2⟩ g2 (r9.ofF g1 (by decide) (by decide) (by decide) (by decide) (by decide)) (by decide) (by decide) (fun e => by cases e), g1.up hRs (by omega) (by omega)⟩
