theorem pLoop_ok {b : Nat → Nat} {n : Nat} : ∀ (f p : Nat) (s : Sh) (gs : List Nat) {s' : Sh}, PI n p s gs → pLoop b n f p s gs = .inr s' → ∃ p', PI n p' s' [] ∧ s'.1 ≠ 0 := by
  intro f
  induction f with
  | zero => intro p s gs s' _ h; cases h
  | succ f ih =>
    intro p s gs s' hpi h
    rw [pLoop_step rfl] at h
    have hq0 := sk_ge b n p
    have hq1 := sk_n (b := b) hpi.1
    cases hst : pStep b n p s gs with
    | inl x => rw [hst] at h; cases h
    | inr o =>
      rw [hst] at h
      cases o with
      | none =>
        cases h
        unfold pStep at hst
        split at hst
        · split at hst
          · cases hst
          · rename_i z
            have z' : gs = [] := Classical.byContradiction z
            subst z'
            split at hst
            · cases hst
            · rename_i z2; exact ⟨_, hpi, z2⟩
        · split at hst
          · split at hst
            · split at hst
              · cases hst
              · cases hm : pMark b n (sk b n p + 1) with
                | inl x => rw [hm] at hst; cases hst
                | inr y => rw [hm] at hst; cases hst
            · rename_i g gs2 _
              cases hm : pField b n (sk b n p) s (g :: gs2) with
              | inl x => rw [hm] at hst; cases hst
              | inr y => rw [hm] at hst; cases hst
          · cases hm : pField b n (sk b n p) s [] with
            | inl x => rw [hm] at hst; cases hst
            | inr y => rw [hm] at hst; cases hst
      | some y =>
        obtain ⟨p9, s9, gs9⟩ := y
        refine ih p9 s9 gs9 ?_ h
        unfold pStep at hst
        split at hst
        · split at hst
          · cases hst
          · split at hst <;> cases hst
        · rename_i hend
          split at hst
          · split at hst
            · split at hst
              · cases hst
              · cases hm : pMark b n (sk b n p + 1) with
                | inl x => rw [hm] at hst; cases hst
                | inr y =>
                  obtain ⟨m, p'⟩ := y
                  rw [hm] at hst
                  cases hst
                  obtain ⟨j1, j2, -⟩ := pMark_ok (by omega) hm
                  exact (hpi.mv hq0 hq1).close (by omega) j2
            · rename_i g gs2 _
              cases hm : pField b n (sk b n p) s (g :: gs2) with
              | inl x => rw [hm] at hst; cases hst
              | inr y => rw [hm] at hst; cases hst; exact (pField_ok (hpi.mv hq0 hq1) hm).1
          · cases hm : pField b n (sk b n p) s [] with
            | inl x => rw [hm] at hst; cases hst
            | inr y => rw [hm] at hst; cases hst; exact (pField_ok (hpi.mv hq0 hq1) hm).1
theorem PI0 {n : Nat} (h : n ≤ 400) : PI n 0 Sh0 [] := ⟨Nat.zero_le _, h, Nat.le_refl _, by decide, by decide, fun g hg => absurd hg List.not_mem_nil, fun f hf => absurd hf (Nat.not_lt_zero f), fun f g hf => absurd hf (Nat.not_lt_zero f), List.Pairwise.nil⟩
theorem pShape_ok {b : Nat → Nat} {n : Nat} {s : Sh} (hn : n ≤ 400) (h : pShape b n = .inr s) : s.1 ≤ 57 ∧ s.2.1 ≤ 12 ∧ s.1 ≠ 0 := by
  obtain ⟨p', h1, h2⟩ := pLoop_ok (n + 1) 0 Sh0 [] (PI0 hn) h
  have := h1.2.2.1
  have := h1.1
  have h3 : ([] : List Nat).length = 0 := rfl
  exact ⟨by omega, h1.2.2.2.2.1, h2⟩

set_option maxHeartbeats 4000000 in
theorem c_X8_shape (d : Nat) {T : TH} {n : Nat} {b : Nat → Nat} (hM : MI T) (hB : Bt T n b) (ht : e_i T 513 88 = nI n) (hn4 : n ≤ 400) : Xe m_X8_shape (d + 6) 0 [(0, .ref 88)] [] T (fun r T1 => match pShape b n with
      | .inl (k, q) => r = some (.int (-1)) ∧ FrM fsT asL T T1 ∧ e_i T1 513 88 = nI 0 ∧ e_i T1 518 88 = nI k ∧ e_i T1 519 88 = nI q
      | .inr s => r = some (.int (nI s.2.1)) ∧ FrM fsS asS T T1 ∧ e_i T1 513 88 = nI 0 ∧ e_i T1 518 88 = nI 0 ∧ e_i T1 519 88 = -1 ∧ e_i T1 525 88 = nI 1 ∧ e_i T1 543 88 = nI 0 ∧ MSh T1 s) := by
  refine xe (fun _ _ kK => x_aload_n dX8_shape_0 rfl 0 rfl kK) ?_
  refine xe_callV (a := 88) [] dX8_shape_1 ml_X8_195 mf_X8_begins hM.1 (c_X8_begins (d + 5) hM) rfl rfl (Nat.le_of_ble_eq_true rfl) (Nat.le_of_ble_eq_true rfl) ?_
  rintro _ _ ⟨rfl, rfl⟩
  have hL : LX (s_i (s_i (s_i (s_i (s_i T 514 88 (nI 0)) 515 88 (e_i T 513 88)) 513 88 (nI 0)) 516 88 (nI 0)) 517 88 (-1)) n b 0 := ⟨(show FrM fsT [] T (s_i (s_i (s_i (s_i (s_i T 514 88 (nI 0)) 515 88 (e_i T 513 88)) 513 88 (nI 0)) 516 88 (nI 0)) 517 88 (-1)) from (FrM.si (FrM.si (FrM.si (FrM.si (FrM.si FrM.rf (by decide) _) (by decide) _) (by decide) _) (by decide) _) (by decide) _)).mi hM, hB, rfl, ht, Nat.zero_le _, hn4, rfl⟩
  refine xe (fun _ _ kK => x_aload_n dX8_shape_4 rfl 0 rfl kK) ?_
  refine xe_callV (a := 88) [] dX8_shape_5 ml_X8_198 mf_X8_readsShape (wK_i (wK_i (wK_i (wK_i (wK_i hM.1))))) (c_X8_readsShape (d + 1) hL) rfl rfl (Nat.le_of_ble_eq_true rfl) (Nat.le_of_ble_eq_true rfl) ?_
  rintro _ T2 ⟨rfl, hF2, hP2⟩
  have hM2 : MI T2 := hF2.mi hL.1
  refine xe (fun _ _ kK => x_aload_n dX8_shape_8 rfl 0 rfl kK) ?_
  refine xe_callV (a := 88) [] dX8_shape_9 ml_X8_201 mf_X8_told hM2.1 (c_X8_told (d + 5) hM2) rfl rfl (Nat.le_of_ble_eq_true rfl) (Nat.le_of_ble_eq_true rfl) ?_
  rintro _ _ ⟨rfl, rfl⟩
  have hF3 : FrM fsT asL T (s_i (s_i T2 518 88 (e_i T2 516 88)) 519 88 (e_i T2 517 88)) := FrM.si (FrM.si (FrM.tr ((FrM.si (FrM.si (FrM.si (FrM.si (FrM.si FrM.rf (by decide) _) (by decide) _) (by decide) _) (by decide) _) (by decide) _)) (hF2.mono (by decide) (fun _ h9 => h9))) (by decide) _) (by decide) _
  cases hps : pShape b n with
  | inl x9 =>
    obtain ⟨k9, q9⟩ := x9
    rw [hps] at hP2
    obtain ⟨g1, g2, g3, g4, g5⟩ := hP2
    refine xe (fun _ _ kK => x_aload_n dX8_shape_12 rfl 0 rfl kK) ?_
    refine xe (fun _ _ kK => x_get dX8_shape_13 fl_X8_132 (wK_i (wK_i hM2.1)) (gvl_i fz_8_4.2.2 (show e_i (s_i (s_i T2 518 88 (e_i T2 516 88)) 519 88 (e_i T2 517 88)) 516 88 = nI k9 from (wi_i (fun q => absurd q.1 (by decide)) (wi_i (fun q => absurd q.1 (by decide)) g1)))) kK) ?_
    refine xe (fun _ _ kK => x_if_eqF (tgt := 21) dX8_shape_16 (by decide) (fun z9 => by have := cv_z (by omega) z9; omega) kK) ?_
    refine xe (fun _ _ kK => x_iconst dX8_shape_19 (show _ = (-1) by decide) kK) ?_
    exact xe_reti dX8_shape_20 rfl (⟨rfl, hF3, (wi_i (fun q => absurd q.1 (by decide)) (wi_i (fun q => absurd q.1 (by decide)) ((hF2.i (by decide)).trans rfl))), g1, g2⟩)
  | inr s9 =>
    rw [hps] at hP2
    obtain ⟨g1, g2, g3⟩ := hP2
    obtain ⟨j1, j2, j3⟩ := pShape_ok hn4 hps
    refine xe (fun _ _ kK => x_aload_n dX8_shape_12 rfl 0 rfl kK) ?_
    refine xe (fun _ _ kK => x_get dX8_shape_13 fl_X8_132 (wK_i (wK_i hM2.1)) (gvl_i fz_8_4.2.2 (show e_i (s_i (s_i T2 518 88 (e_i T2 516 88)) 519 88 (e_i T2 517 88)) 516 88 = nI 0 from (wi_i (fun q => absurd q.1 (by decide)) (wi_i (fun q => absurd q.1 (by decide)) g1)))) kK) ?_
    refine xe (fun _ _ kK => x_if_eqT (tgt := 21) dX8_shape_16 (by decide) nI_0 kK) ?_
    refine xe (fun _ _ kK => x_aload_n dX8_shape_21 rfl 0 rfl kK) ?_
    refine xe (fun _ _ kK => x_iconst dX8_shape_22 (show _ = nI 1 by decide) kK) ?_
    refine xe (fun _ _ kK => x_puti dX8_shape_23 ⟨fl_X8_204, fz_8_13.1, fz_8_13.2.1⟩ (Or.inr fz_8_13.2.2) rfl rfl (wK_i (wK_i hM2.1)) kK) ?_
    refine xe (fun _ _ kK => x_aload_n dX8_shape_26 rfl 0 rfl kK) ?_
    refine xe (fun _ _ kK => x_aload_n dX8_shape_27 rfl 0 rfl kK) ?_
    refine xe (fun _ _ kK => x_get dX8_shape_28 fl_X8_183 (wK_i (wK_i (wK_i hM2.1))) (gvl_i fz_8_21.2.2 (show e_i (s_i (s_i (s_i T2 518 88 (e_i T2 516 88)) 519 88 (e_i T2 517 88)) 525 88 (nI 1)) 533 88 = nI s9.1 from (wi_i (fun q => absurd q.1 (by decide)) (wi_i (fun q => absurd q.1 (by decide)) (wi_i (fun q => absurd q.1 (by decide)) g3.1))))) kK) ?_
    refine xe (fun _ _ kK => x_puti dX8_shape_31 ⟨fl_X8_208, fz_8_14.1, fz_8_14.2.1⟩ (Or.inl fz_8_14.2.2) rfl rfl (wK_i (wK_i (wK_i hM2.1))) kK) ?_
    refine xe (fun _ _ kK => x_aload_n dX8_shape_34 rfl 0 rfl kK) ?_
    refine xe (fun _ _ kK => x_aload_n dX8_shape_35 rfl 0 rfl kK) ?_
    refine xe (fun _ _ kK => x_get dX8_shape_36 fl_X8_186 (wK_i (wK_i (wK_i (wK_i hM2.1)))) (gvl_i fz_8_22.2.2 (show e_i (s_i (s_i (s_i (s_i T2 518 88 (e_i T2 516 88)) 519 88 (e_i T2 517 88)) 525 88 (nI 1)) 526 88 (nI s9.1)) 534 88 = nI s9.2.1 from (wi_i (fun q => absurd q.1 (by decide)) (wi_i (fun q => absurd q.1 (by decide)) (wi_i (fun q => absurd q.1 (by decide)) (wi_i (fun q => absurd q.1 (by decide)) g3.2.1)))))) kK) ?_
    refine xe (fun _ _ kK => x_puti dX8_shape_39 ⟨fl_X8_211, fz_8_15.1, fz_8_15.2.1⟩ (Or.inl fz_8_15.2.2) rfl rfl (wK_i (wK_i (wK_i (wK_i hM2.1)))) kK) ?_
    refine xe (fun _ _ kK => x_iconst dX8_shape_42 (show _ = nI 0 by decide) kK) ?_
    refine xe (fun _ _ kK => x_istore_n dX8_shape_43 rfl (by decide) (show _ = [(1, .int (nI 0)), (0, .ref 88)] from rfl) kK) ?_
    have hM4 : MI (s_i (s_i (s_i (s_i (s_i T2 518 88 (e_i T2 516 88)) 519 88 (e_i T2 517 88)) 525 88 (nI 1)) 526 88 (nI s9.1)) 527 88 (nI s9.2.1)) := (show FrM fsS [] T2 (s_i (s_i (s_i (s_i (s_i T2 518 88 (e_i T2 516 88)) 519 88 (e_i T2 517 88)) 525 88 (nI 1)) 526 88 (nI s9.1)) 527 88 (nI s9.2.1)) from (FrM.si (FrM.si (FrM.si (FrM.si (FrM.si FrM.rf (by decide) _) (by decide) _) (by decide) _) (by decide) _) (by decide) _)).mi hM2
    refine l_X8_copyF (d + 6) (s := s9) (by omega) s9.1 0 (s_i (s_i (s_i (s_i (s_i T2 518 88 (e_i T2 516 88)) 519 88 (e_i T2 517 88)) 525 88 (nI 1)) 526 88 (nI s9.1)) 527 88 (nI s9.2.1)) rfl (Nat.zero_le _) hM4 rfl (fun f hf => ⟨(wai_i (wai_i (wai_i (wai_i (wai_i (g3.2.2.2.1 f hf).1))))), (wal_i (wal_i (wal_i (wal_i (wal_i (g3.2.2.2.1 f hf).2.1))))), (wai_i (wai_i (wai_i (wai_i (wai_i (g3.2.2.2.1 f hf).2.2))))), (wai_i (wai_i (wai_i (wai_i (wai_i (g3.2.2.2.2.1 f hf List.not_mem_nil))))))⟩) (fun f hf => absurd hf (Nat.not_lt_zero f)) (fun T5 hF5 hc5 => ?_)
    refine xe (fun _ _ kK => x_iconst dX8_shape_106 (show _ = nI 0 by decide) kK) ?_
    refine xe (fun _ _ kK => x_istore_n dX8_shape_107 rfl (by decide) (show _ = [(1, .int (nI 0)), (0, .ref 88)] from rfl) kK) ?_
    refine xe_loc (L' := [(1, .int (nI 0)), (0, .ref 88)]) (by simp) ?_
    refine l_X8_copyL (d + 6) (s := s9) j2 s9.2.1 0 T5 rfl (Nat.zero_le _) (hF5.mi hM4) (hF5.i (by decide)) (fun c hc => by rw [hF5.ai (by decide)]; exact (wai_i (wai_i (wai_i (wai_i (wai_i (g3.2.2.2.2.2.1 c hc))))))) (fun c hc => absurd hc (Nat.not_lt_zero c)) (fun T6 hF6 hc6 => ?_)
    refine xe (fun _ _ kK => x_aload_n dX8_shape_134 rfl 1 rfl kK) ?_
    refine xe (fun _ _ kK => x_iconst dX8_shape_135 (show _ = nI 0 by decide) kK) ?_
    refine xe (fun _ _ kK => x_puti dX8_shape_136 ⟨fl_X8_214, fz_8_31.1, fz_8_31.2.1⟩ (Or.inl fz_8_31.2.2) rfl rfl (hF6.mi (hF5.mi hM4)).1 kK) ?_
    refine xe (fun _ _ kK => x_aload_n dX8_shape_139 rfl 1 rfl kK) ?_
    refine xe (fun _ _ kK => x_get dX8_shape_140 fl_X8_211 (wK_i (hF6.mi (hF5.mi hM4)).1) (gvl_i fz_8_15.2.2 (show e_i (s_i T6 543 88 (nI 0)) 527 88 = nI s9.2.1 from (wi_i (fun q => absurd q.1 (by decide)) ((hF6.i (by decide)).trans (hF5.i (by decide)))))) kK) ?_
    exact xe_reti dX8_shape_143 rfl (⟨rfl, FrM.si (FrM.tr (FrM.tr (FrM.si (FrM.si (FrM.si (hF3.mono (by decide) (by decide)) (by decide) _) (by decide) _) (by decide) _) (hF5.mono (by decide) (by decide))) (hF6.mono (by decide) (by decide))) (by decide) _, ((wi_i (fun q => absurd q.1 (by decide)) ((hF6.i (by decide)).trans ((hF5.i (by decide)).trans ((hF2.i (by decide)).trans rfl))))), ((wi_i (fun q => absurd q.1 (by decide)) ((hF6.i (by decide)).trans ((hF5.i (by decide)).trans g1)))), ((wi_i (fun q => absurd q.1 (by decide)) ((hF6.i (by decide)).trans ((hF5.i (by decide)).trans (g2.trans rfl))))), ((wi_i (fun q => absurd q.1 (by decide)) ((hF6.i (by decide)).trans ((hF5.i (by decide)).trans rfl)))), rfl, ⟨((wi_i (fun q => absurd q.1 (by decide)) ((hF6.i (by decide)).trans ((hF5.i (by decide)).trans rfl)))), ((wi_i (fun q => absurd q.1 (by decide)) ((hF6.i (by decide)).trans ((hF5.i (by decide)).trans rfl)))), fun f hf => ⟨by show e_ai T6 90 f = _; rw [hF6.ai (by decide)]; exact (hc5 f hf).1, by show e_al T6 91 f = _; rw [hF6.al (by decide)]; exact (hc5 f hf).2.1, by show e_ai T6 92 f = _; rw [hF6.ai (by decide)]; exact (hc5 f hf).2.2.1, by show e_ai T6 93 f = _; rw [hF6.ai (by decide)]; exact (hc5 f hf).2.2.2⟩, hc6⟩⟩)
