set_option maxHeartbeats 4000000 in
theorem c_X2_readOpen (d : Nat) {T : TH} {n x rd p : Nat} {b : Nat → Nat} {s : Sh} {gs : List Nat} {en : Nat → Nat} {lo : Nat → Option Nat} (hL : LC T n b x) (hR : RC T rd p gs) (hS : CSp T p s en lo) (hp : p = 66 ∨ p = 77) (hs60 : s.1 ≤ 60) (hx : x < n) (hg4 : gs.length ≤ 4) {f : Nat} : Xe m_X2_readOpen (d + 2) 0 [(0, .ref rd), (1, .int (nI f))] [] T (if gs.length = 4 then (fun r T1 => r = some (.int (nI 0)) ∧ T1 = cfl T 3 x) else (fun r T1 => r = some (.int (nI 1)) ∧ FrG [(258, 1), (130, rd), (131, rd)] [] T T1 ∧ LC T1 n b (x + 1) ∧ RC T1 rd p (f :: gs))) := by
  have hpn := hL.2.2.2.2.1
  have hn4 := hL.2.2.2.2.2
  refine xe (fun _ _ kK => x_aload_n dX2_readOpen_0 rfl 0 rfl kK) ?_
  refine xe (fun _ _ kK => x_get dX2_readOpen_1 fl_X2_23 hR.1 (gvl_i fz_2_3.2.2 (show e_i T 131 rd = nI gs.length from hR.2.2.2.2)) kK) ?_
  refine xe (fun _ _ kK => x_iconst dX2_readOpen_4 (show _ = nI 4 by decide) kK) ?_
  refine xe_icmp_lt (tgt := 17) dX2_readOpen_5 (by decide) (fun h5 => ?_) (fun h5 => ?_)
  · -- pc 17
    have h5 := cv_lt (by omega) (by omega) h5
    rw [if_neg (show ¬ gs.length = 4 by omega)]
    refine xe (fun _ _ kK => x_aload_n dX2_readOpen_17 rfl 0 rfl kK) ?_
    refine xe (fun _ _ kK => x_get dX2_readOpen_18 fl_X2_9 hR.1 (gvl_r1 fz_2_0.2.2 (show e_r T 128 rd = some 1 from hR.2.1)) kK) ?_
    refine xe (fun _ _ kK => x_dup dX2_readOpen_21 rfl kK) ?_
    refine xe (fun _ _ kK => x_get dX2_readOpen_22 fl_X2_66 hL.1.2.2.2.2.1 (gvl_i fz_4_2.2.2 (show e_i T 258 1 = nI x from hL.2.2.1)) kK) ?_
    refine xe (fun _ _ kK => x_iconst dX2_readOpen_25 (show _ = nI 1 by decide) kK) ?_
    refine xe (fun _ _ kK => x_iadd dX2_readOpen_26 kK) ?_
    refine xe_ti (show _ = nI (x + 1) from nI_add x 1) ?_
    refine xe (fun _ _ kK => x_puti dX2_readOpen_27 ⟨fl_X2_66, fz_4_2.1, fz_4_2.2.1⟩ (Or.inl fz_4_2.2.2) rfl rfl hL.1.2.2.2.2.1 kK) ?_
    refine xe (fun _ _ kK => x_aload_n dX2_readOpen_30 rfl 0 rfl kK) ?_
    refine xe (fun _ _ kK => x_iload_n dX2_readOpen_31 rfl 1 rfl kK) ?_
    refine xe (fun _ _ kK => x_puti dX2_readOpen_32 ⟨fl_X2_19, fz_2_2.1, fz_2_2.2.1⟩ (Or.inl fz_2_2.2.2) rfl rfl (wK_i hR.1) kK) ?_
    refine xe (fun _ _ kK => x_aload_n dX2_readOpen_35 rfl 0 rfl kK) ?_
    refine xe (fun _ _ kK => x_dup dX2_readOpen_36 rfl kK) ?_
    refine xe (fun _ _ kK => x_get dX2_readOpen_37 fl_X2_23 (wK_i (wK_i hR.1)) (gvl_i fz_2_3.2.2 (show e_i (s_i (s_i T 258 1 (nI (x + 1))) 130 rd (nI f)) 131 rd = nI gs.length from (wi_i (fun q => absurd q.1 (by decide)) (wi_i (fun q => absurd q.1 (by decide)) hR.2.2.2.2)))) kK) ?_
    refine xe (fun _ _ kK => x_iconst dX2_readOpen_40 (show _ = nI 1 by decide) kK) ?_
    refine xe (fun _ _ kK => x_iadd dX2_readOpen_41 kK) ?_
    refine xe_ti (show _ = nI (gs.length + 1) from nI_add gs.length 1) ?_
    refine xe (fun _ _ kK => x_puti dX2_readOpen_42 ⟨fl_X2_23, fz_2_3.1, fz_2_3.2.1⟩ (Or.inl fz_2_3.2.2) rfl rfl (wK_i (wK_i hR.1)) kK) ?_
    refine xe (fun _ _ kK => x_iconst dX2_readOpen_45 (show _ = nI 1 by decide) kK) ?_
    have hF : FrG [(258, 1), (130, rd), (131, rd)] [] T (s_i (s_i (s_i T 258 1 (nI (x + 1))) 130 rd (nI f)) 131 rd (nI (gs.length + 1))) := (FrG.si (FrG.si (FrG.si FrG.rf (by simp) _) (by simp) _) (by simp) _)
    exact xe_retz dX2_readOpen_46 rfl (by first | exact Or.inl rfl | exact Or.inr rfl) (⟨rfl, hF, hL.of hF (by simp) (by simp) (wi_i (fun q => absurd q.1 (by decide)) (wi_i (fun q => absurd q.1 (by decide)) (ei_s _ _ _ _))) (by omega), by rw [hF.1]; exact hR.1, by rw [hF.2.1]; exact hR.2.1, by rw [hF.2.1]; exact hR.2.2.1, by simp [q_i_i, q_i_l, q_i_ai, q_i_al, q_ai_ai, q_ai_i, q_ai_l, q_ai_al, q_al_al, q_al_i, q_al_ai, q_al_l, q_l_i, q_l_l, q_l_ai, q_l_al]; rfl, by simp [q_i_i, q_i_l, q_i_ai, q_i_al, q_ai_ai, q_ai_i, q_ai_l, q_ai_al, q_al_al, q_al_i, q_al_ai, q_al_l, q_l_i, q_l_l, q_l_ai, q_l_al]⟩)
  · -- pc 8
    have h5 := cv_nlt (by omega) (by omega) h5
    rw [if_pos (show gs.length = 4 by omega)]
    refine xe (fun _ _ kK => x_aload_n dX2_readOpen_8 rfl 0 rfl kK) ?_
    refine xe (fun _ _ kK => x_get dX2_readOpen_9 fl_X2_9 hR.1 (gvl_r1 fz_2_0.2.2 (show e_r T 128 rd = some 1 from hR.2.1)) kK) ?_
    refine xe (fun _ _ kK => x_iconst dX2_readOpen_12 (show _ = nI 3 by decide) kK) ?_
    refine xe_callV (a := 1) [.int (nI 3)] dX2_readOpen_13 ml_X2_56 mf_X4_failHere hL.1.2.2.2.2.1 (c_X4_failHere d hL.1 hL.2.2.1 3) rfl rfl (Nat.le_of_ble_eq_true rfl) (Nat.le_of_ble_eq_true rfl) ?_
    rintro _ _ ⟨rfl, rfl⟩
    exact xe_retz dX2_readOpen_16 rfl (by first | exact Or.inl rfl | exact Or.inr rfl) (⟨rfl, rfl⟩)

/-- a leaf's KIND and MARK from x on: what is wrong, or kind, mark, the place behind -/
def pLeaf (b : Nat → Nat) (n x nL : Nat) : (Nat × Nat) ⊕ (Nat × Nat × Nat) :=
  if we b n x = x then .inl (1, x) else
  match kdOf (wd b x (we b n x)) with
  | none => .inl (1, x)
  | some kd => if nL = 12 then .inl (3, x) else
    match pMark b n (we b n x) with
    | .inl z => .inl z
    | .inr (m, p') => .inr (kd, m, p')
theorem kdOf_lt {v : Option Nat} {k : Nat} (h : kdOf v = some k) : k < 2 := by
  unfold kdOf at h
  split at h
  · cases h; omega
  · split at h
    · cases h; omega
    · cases h
theorem kdOf_iff (w : Nat) : kdOf (some w) = if w = 10786 then some 0 else if w = 464134 then some 1 else none := by
  unfold kdOf w_num w_word
  simp

set_option maxHeartbeats 4000000 in
theorem c_X2_readLeaf (d : Nat) {T : TH} {n x rd p : Nat} {b : Nat → Nat} {s : Sh} {gs : List Nat} {en : Nat → Nat} {lo : Nat → Option Nat} (hL : LC T n b x) (hR : RC T rd p gs) (hS : CSp T p s en lo) (hp : p = 66 ∨ p = 77) (hs60 : s.1 ≤ 60) (hsk : sk b n x = x) {f : Nat} (hf : f < s.1) (hc12 : s.2.1 ≤ 12) : Xe m_X2_readLeaf (d + 4) 0 [(0, .ref rd), (1, .int (nI f))] [] T (fun r T1 => match pLeaf b n x s.2.1 with
    | .inl (k, q) => r = some (.int (nI 0)) ∧ FrG [(258, 1), (259, 1), (260, 1), (261, 1), (262, 1), (263, 1), (74, p), (75, p), (130, rd), (131, rd)] [p + 1, p + 2, p + 3, p + 4, p + 5, p + 9, p + 10] T T1 ∧ FailC T1 k q ∧ ∃ s9 en9 lo9, CSp T1 p s9 en9 lo9 ∧ s9.1 = s.1 ∧ s9.2.2.1 = s.2.2.1 ∧ ((∀ g, g < s.1 → s.2.2.2.2.2.1 g ≤ 2) → ∀ g, g < s.1 → s9.2.2.2.2.2.1 g ≤ 2)
    | .inr (kd, m, p2) => r = some (.int (nI 1)) ∧ FrG [(258, 1), (259, 1), (260, 1), (261, 1), (262, 1), (263, 1), (74, p), (75, p), (130, rd), (131, rd)] [p + 1, p + 2, p + 3, p + 4, p + 5, p + 9, p + 10] T T1 ∧ LC T1 n b p2 ∧ RC T1 rd p gs ∧ CSp T1 p (s.1, s.2.1 + 1, s.2.2.1, s.2.2.2.1, va_up s.2.2.2.2.1 f kd, va_up s.2.2.2.2.2.1 f m, va_up s.2.2.2.2.2.2 s.2.1 f) en (va_up lo f (some s.2.1)) ∧ OkC T T1) := by
  have hpn := hL.2.2.2.2.1
  have hn4 := hL.2.2.2.2.2
  have he0 := we_ge b n x
  have he1 := we_n (b := b) hpn
  have hcw : cwc b x (we b n x) < 27 ^ 8 := cwc_lt
  rw [p278] at hcw
  refine xe (fun _ _ kK => x_aload_n dX2_readLeaf_0 rfl 0 rfl kK) ?_
  refine xe (fun _ _ kK => x_get dX2_readLeaf_1 fl_X2_9 hR.1 (gvl_r1 fz_2_0.2.2 (show e_r T 128 rd = some 1 from hR.2.1)) kK) ?_
  refine xe_callV (a := 1) [] dX2_readLeaf_4 ml_X2_103 mf_X4_readWord hL.1.2.2.2.2.1 (by have := c_X4_readWord (d + 1) hL; rw [hsk] at this; exact this) rfl rfl (Nat.le_of_ble_eq_true rfl) (Nat.le_of_ble_eq_true rfl) ?_
  rintro _ T1 ⟨rfl, hG1, hW1⟩
  have hF1 : FrG [(258, 1), (259, 1), (260, 1), (261, 1), (262, 1), (263, 1)] [] T T1 := hG1.mono (by decide) (by decide)
  have hL1 : LC T1 n b (we b n x) := hL.of hF1 (by decide) (by decide) hW1.1 he1
  have hR1 := hR.of hF1 (by simp) (by simp)
  have hS1 := hS.of hF1 (by simp) (by simp) (by simp)
  have hO1 : OkC T T1 := OkC.of hG1 (by decide) (by decide)
  have hkc := kd_cw b x (we b n x)
  rw [kdOf_iff] at hkc
  have hz : (we b n x) = x → kdOf (wd b x (we b n x)) = none := fun z9 => by rw [z9]; unfold wd; rw [if_neg (by omega), wc_self]; rfl
  refine xe (fun _ _ kK => x_aload_n dX2_readLeaf_7 rfl 0 rfl kK) ?_
  refine xe (fun _ _ kK => x_get dX2_readLeaf_8 fl_X2_9 hR1.1 (gvl_r1 fz_2_0.2.2 (show e_r T1 128 rd = some 1 from hR1.2.1)) kK) ?_
  refine xe (fun _ _ kK => x_get dX2_readLeaf_11 fl_X2_82 hL1.1.2.2.2.2.1 (gvl_l fz_4_7.2.2 (show e_l T1 263 1 = lN (cwc b x (we b n x)) from hW1.2.2.2)) kK) ?_
  refine xe (fun _ _ kK => x_ldc2 dX2_readLeaf_14 kl_X2_120 kK) ?_
  refine xe_tl (show _ = lN 10786 from by decide) ?_
  refine xe (fun _ _ kK => x_lcmp dX2_readLeaf_17 kK) ?_
  refine xe_if_ne (tgt := 25) dX2_readLeaf_18 (by decide) (fun h18 => ?_) (fun h18 => ?_)
  · -- pc 25
    have h18 := lc_ne h18
    have h18 := cvl_ne (by omega) (by omega) h18
    rw [if_neg h18] at hkc
    refine xe (fun _ _ kK => x_iconst dX2_readLeaf_25 (show _ = nI 0 by decide) kK) ?_
    refine xe (fun _ _ kK => x_istore_n dX2_readLeaf_26 rfl (by decide) (show _ = [(2, .int (nI 0)), (0, .ref rd), (1, .int (nI f))] from rfl) kK) ?_
    refine xe (fun _ _ kK => x_iload_n dX2_readLeaf_27 rfl 0 rfl kK) ?_
    refine xe (fun _ _ kK => x_if_neF (tgt := 61) dX2_readLeaf_28 (by decide) (by decide) kK) ?_
    refine xe (fun _ _ kK => x_aload_n dX2_readLeaf_31 rfl 1 rfl kK) ?_
    refine xe (fun _ _ kK => x_get dX2_readLeaf_32 fl_X2_9 hR1.1 (gvl_r1 fz_2_0.2.2 (show e_r T1 128 rd = some 1 from hR1.2.1)) kK) ?_
    refine xe (fun _ _ kK => x_get dX2_readLeaf_35 fl_X2_82 hL1.1.2.2.2.2.1 (gvl_l fz_4_7.2.2 (show e_l T1 263 1 = lN (cwc b x (we b n x)) from hW1.2.2.2)) kK) ?_
    refine xe (fun _ _ kK => x_ldc2 dX2_readLeaf_38 kl_X2_122 kK) ?_
    refine xe_tl (show _ = lN 464134 from by decide) ?_
    refine xe (fun _ _ kK => x_lcmp dX2_readLeaf_41 kK) ?_
    refine xe_if_eq (tgt := 61) dX2_readLeaf_42 (by decide) (fun h42 => ?_) (fun h42 => ?_)
    · -- pc 61
      have h42 := lc_eq h42
      have h42 := cvl_eq (by omega) (by omega) h42
      rw [if_pos h42] at hkc
      refine xe (fun _ _ kK => x_aload_n dX2_readLeaf_61 rfl 1 rfl kK) ?_
      refine xe (fun _ _ kK => x_get dX2_readLeaf_62 fl_X2_15 hR1.1 (gvl_r1 fz_2_1.2.2 (show e_r T1 129 rd = some p from hR1.2.2.1)) kK) ?_
      refine xe (fun _ _ kK => x_iload_n dX2_readLeaf_65 rfl 2 rfl kK) ?_
      refine xe (fun _ _ kK => x_iload_n dX2_readLeaf_66 rfl 0 rfl kK) ?_
      refine xe (fun _ _ kK => x_if_eqT (tgt := 74) dX2_readLeaf_67 (by decide) (by decide) kK) ?_
      have hkd : kdOf (wd b x (we b n x)) = some 1 := hkc.symm
      have hne : ¬ (we b n x) = x := fun z9 => by have := hz z9; rw [hkd] at this; cases this
      refine xe (fun _ _ kK => x_iconst dX2_readLeaf_74 (show _ = nI 2 by decide) kK) ?_
      by_cases h12 : s.2.1 = 12
      · -- pc 75
        refine xe_callV (a := p) [.int (nI f), .int (nI 2)] dX2_readLeaf_75 ml_X2_124 mf_X1_makeLeaf hS1.1.1 (by have := c_X1_makeLeaf (d + 2) (kd := 1) hS1 hs60 hf hc12; rw [if_pos h12] at this; exact this) rfl rfl (Nat.le_of_ble_eq_true rfl) (Nat.le_of_ble_eq_true rfl) ?_
        rintro _ T9 ⟨rfl, hTq9⟩
        refine xe_T hTq9 ?_
        refine xe (fun _ _ kK => x_if_neF (tgt := 97) dX2_readLeaf_78 (by decide) (by decide) kK) ?_
        refine xe (fun _ _ kK => x_aload_n dX2_readLeaf_81 rfl 1 rfl kK) ?_
        refine xe (fun _ _ kK => x_get dX2_readLeaf_82 fl_X2_9 hR1.1 (gvl_r1 fz_2_0.2.2 (show e_r T1 128 rd = some 1 from hR1.2.1)) kK) ?_
        refine xe (fun _ _ kK => x_iconst dX2_readLeaf_85 (show _ = nI 3 by decide) kK) ?_
        refine xe (fun _ _ kK => x_aload_n dX2_readLeaf_86 rfl 1 rfl kK) ?_
        refine xe (fun _ _ kK => x_get dX2_readLeaf_87 fl_X2_9 hR1.1 (gvl_r1 fz_2_0.2.2 (show e_r T1 128 rd = some 1 from hR1.2.1)) kK) ?_
        refine xe (fun _ _ kK => x_get dX2_readLeaf_90 fl_X2_90 hL1.1.2.2.2.2.1 (gvl_i fz_4_5.2.2 (show e_i T1 261 1 = nI x from hW1.2.1)) kK) ?_
        refine xe_callV (a := 1) [.int (nI 3), .int (nI x)] dX2_readLeaf_93 ml_X2_93 mf_X4_fail hL1.1.2.2.2.2.1 (c_X4_fail (d + 3) hL1.1 (nI 3) (nI x)) rfl rfl (Nat.le_of_ble_eq_true rfl) (Nat.le_of_ble_eq_true rfl) ?_
        rintro _ _ ⟨rfl, rfl⟩
        have hpl : pLeaf b n x s.2.1 = .inl (3, x) := by unfold pLeaf; rw [if_neg hne, hkd]; exact if_pos h12
        rw [hpl]
        exact xe_retz dX2_readLeaf_96 rfl (by first | exact Or.inl rfl | exact Or.inr rfl) (⟨rfl, (FrG.si (FrG.si (hF1.mono (by simp) (by simp)) (by simp) _) (by simp) _), ⟨rfl, rfl⟩, s, en, lo, hS1.of (A := []) (I := [(258, 1), (259, 1), (260, 1), (261, 1), (262, 1), (263, 1)]) (FrG.si (FrG.si FrG.rf (by decide) _) (by decide) _) (by simp) (by simp) (by simp), rfl, rfl, fun z9 => z9⟩)
      · -- pc 75
        refine xe_callV (a := p) [.int (nI f), .int (nI 2)] dX2_readLeaf_75 ml_X2_124 mf_X1_makeLeaf hS1.1.1 (by have := c_X1_makeLeaf (d + 2) (kd := 1) hS1 hs60 hf hc12; rw [if_neg h12] at this; exact this) rfl rfl (Nat.le_of_ble_eq_true rfl) (Nat.le_of_ble_eq_true rfl) ?_
        rintro _ T2 ⟨rfl, hG2, hS2⟩
        have hL2 : LC T2 n b (we b n x) := hL1.of hG2 (by simp <;> omega) (by simp) ((hG2.i (by simp)).trans hW1.1) he1
        have hR2 := hR1.of hG2 (by simp) (by simp)
        have hO2 : OkC T T2 := hO1.tr (OkC.of hG2 (by simp) (by simp))
        have hF2 : FrG [(258, 1), (259, 1), (260, 1), (261, 1), (262, 1), (263, 1), (74, p), (75, p), (130, rd), (131, rd)] [p + 1, p + 2, p + 3, p + 4, p + 5, p + 9, p + 10] T T2 := FrG.tr (hF1.mono (by simp) (by simp)) (hG2.mono (by simp) (by simp))
        refine xe (fun _ _ kK => x_if_neT (tgt := 97) dX2_readLeaf_78 (by decide) (by decide) kK) ?_
        refine xe (fun _ _ kK => x_aload_n dX2_readLeaf_97 rfl 1 rfl kK) ?_
        refine xe (fun _ _ kK => x_iload_n dX2_readLeaf_98 rfl 2 rfl kK) ?_
        have hpl : pLeaf b n x s.2.1 = (match pMark b n (we b n x) with | .inl z => (Sum.inl z : (Nat × Nat) ⊕ (Nat × Nat × Nat)) | .inr (m, p2) => .inr (1, m, p2)) := by unfold pLeaf; rw [if_neg hne, hkd]; exact if_neg h12
        rw [hpl]
        have hmk := c_X2_readMark d (f := f) hL2 hR2 hS2 hp hs60 hf
        cases hpm : pMark b n (we b n x) with
        | inl z =>
          obtain ⟨k, q⟩ := z
          rw [hpm] at hmk
          refine xe_callV (a := rd) [.int (nI f)] dX2_readLeaf_99 ml_X2_76 mf_X2_readMark hR2.1 (hmk) rfl rfl (Nat.le_of_ble_eq_true rfl) (Nat.le_of_ble_eq_true rfl) ?_
          rintro _ T3 ⟨rfl, hF3, hE3, s9, hS9, e1, e2, e3⟩
          exact xe_retz dX2_readLeaf_102 rfl (by first | exact Or.inl rfl | exact Or.inr rfl) (⟨rfl, FrG.tr hF2 hF3, hE3, s9, _, _, hS9, e1, e2, e3⟩)
        | inr z =>
          obtain ⟨m, p2⟩ := z
          rw [hpm] at hmk
          refine xe_callV (a := rd) [.int (nI f)] dX2_readLeaf_99 ml_X2_76 mf_X2_readMark hR2.1 (hmk) rfl rfl (Nat.le_of_ble_eq_true rfl) (Nat.le_of_ble_eq_true rfl) ?_
          rintro _ T3 ⟨rfl, hF3, hL3, hR3, hS3, hO3⟩
          exact xe_retz dX2_readLeaf_102 rfl (by first | exact Or.inl rfl | exact Or.inr rfl) (⟨rfl, FrG.tr hF2 hF3, hL3, hR3, hS3, hO2.tr hO3⟩)
    · -- pc 45
      have h42 := lc_nen h42
      have h42 := cvl_ne (by omega) (by omega) h42
      rw [if_neg h42] at hkc
      refine xe (fun _ _ kK => x_aload_n dX2_readLeaf_45 rfl 1 rfl kK) ?_
      refine xe (fun _ _ kK => x_get dX2_readLeaf_46 fl_X2_9 hR1.1 (gvl_r1 fz_2_0.2.2 (show e_r T1 128 rd = some 1 from hR1.2.1)) kK) ?_
      refine xe (fun _ _ kK => x_iconst dX2_readLeaf_49 (show _ = nI 1 by decide) kK) ?_
      refine xe (fun _ _ kK => x_aload_n dX2_readLeaf_50 rfl 1 rfl kK) ?_
      refine xe (fun _ _ kK => x_get dX2_readLeaf_51 fl_X2_9 hR1.1 (gvl_r1 fz_2_0.2.2 (show e_r T1 128 rd = some 1 from hR1.2.1)) kK) ?_
      refine xe (fun _ _ kK => x_get dX2_readLeaf_54 fl_X2_90 hL1.1.2.2.2.2.1 (gvl_i fz_4_5.2.2 (show e_i T1 261 1 = nI x from hW1.2.1)) kK) ?_
      have hpl : pLeaf b n x s.2.1 = .inl (1, x) := by
        unfold pLeaf
        split
        · rfl
        · rw [← hkc]
      refine xe_callV (a := 1) [.int (nI 1), .int (nI x)] dX2_readLeaf_57 ml_X2_93 mf_X4_fail hL1.1.2.2.2.2.1 (c_X4_fail (d + 3) hL1.1 (nI 1) (nI x)) rfl rfl (Nat.le_of_ble_eq_true rfl) (Nat.le_of_ble_eq_true rfl) ?_
      rintro _ _ ⟨rfl, rfl⟩
      rw [hpl]
      exact xe_retz dX2_readLeaf_60 rfl (by first | exact Or.inl rfl | exact Or.inr rfl) (⟨rfl, (FrG.si (FrG.si (hF1.mono (by simp) (by simp)) (by simp) _) (by simp) _), ⟨rfl, rfl⟩, s, en, lo, hS1.of (A := []) (I := [(258, 1), (259, 1), (260, 1), (261, 1), (262, 1), (263, 1)]) (FrG.si (FrG.si FrG.rf (by decide) _) (by decide) _) (by simp) (by simp) (by simp), rfl, rfl, fun z9 => z9⟩)
  · -- pc 21
    have h18 := lc_eqn h18
    have h18 := cvl_eq (by omega) (by omega) h18
    rw [if_pos h18] at hkc
    refine xe (fun _ _ kK => x_iconst dX2_readLeaf_21 (show _ = nI 1 by decide) kK) ?_
    refine xe (fun _ _ kK => x_goto (tgt := 26) dX2_readLeaf_22 (by decide) kK) ?_
    refine xe (fun _ _ kK => x_istore_n dX2_readLeaf_26 rfl (by decide) (show _ = [(2, .int (nI 1)), (0, .ref rd), (1, .int (nI f))] from rfl) kK) ?_
    refine xe (fun _ _ kK => x_iload_n dX2_readLeaf_27 rfl 0 rfl kK) ?_
    refine xe (fun _ _ kK => x_if_neT (tgt := 61) dX2_readLeaf_28 (by decide) (by decide) kK) ?_
    refine xe (fun _ _ kK => x_aload_n dX2_readLeaf_61 rfl 1 rfl kK) ?_
    refine xe (fun _ _ kK => x_get dX2_readLeaf_62 fl_X2_15 hR1.1 (gvl_r1 fz_2_1.2.2 (show e_r T1 129 rd = some p from hR1.2.2.1)) kK) ?_
    refine xe (fun _ _ kK => x_iload_n dX2_readLeaf_65 rfl 2 rfl kK) ?_
    refine xe (fun _ _ kK => x_iload_n dX2_readLeaf_66 rfl 0 rfl kK) ?_
    refine xe (fun _ _ kK => x_if_eqF (tgt := 74) dX2_readLeaf_67 (by decide) (by decide) kK) ?_
    have hkd : kdOf (wd b x (we b n x)) = some 0 := hkc.symm
    have hne : ¬ (we b n x) = x := fun z9 => by have := hz z9; rw [hkd] at this; cases this
    refine xe (fun _ _ kK => x_iconst dX2_readLeaf_70 (show _ = nI 1 by decide) kK) ?_
    refine xe (fun _ _ kK => x_goto (tgt := 75) dX2_readLeaf_71 (by decide) kK) ?_
    by_cases h12 : s.2.1 = 12
    · -- pc 75
      refine xe_callV (a := p) [.int (nI f), .int (nI 1)] dX2_readLeaf_75 ml_X2_124 mf_X1_makeLeaf hS1.1.1 (by have := c_X1_makeLeaf (d + 2) (kd := 0) hS1 hs60 hf hc12; rw [if_pos h12] at this; exact this) rfl rfl (Nat.le_of_ble_eq_true rfl) (Nat.le_of_ble_eq_true rfl) ?_
      rintro _ T9 ⟨rfl, hTq9⟩
      refine xe_T hTq9 ?_
      refine xe (fun _ _ kK => x_if_neF (tgt := 97) dX2_readLeaf_78 (by decide) (by decide) kK) ?_
      refine xe (fun _ _ kK => x_aload_n dX2_readLeaf_81 rfl 1 rfl kK) ?_
      refine xe (fun _ _ kK => x_get dX2_readLeaf_82 fl_X2_9 hR1.1 (gvl_r1 fz_2_0.2.2 (show e_r T1 128 rd = some 1 from hR1.2.1)) kK) ?_
      refine xe (fun _ _ kK => x_iconst dX2_readLeaf_85 (show _ = nI 3 by decide) kK) ?_
      refine xe (fun _ _ kK => x_aload_n dX2_readLeaf_86 rfl 1 rfl kK) ?_
      refine xe (fun _ _ kK => x_get dX2_readLeaf_87 fl_X2_9 hR1.1 (gvl_r1 fz_2_0.2.2 (show e_r T1 128 rd = some 1 from hR1.2.1)) kK) ?_
      refine xe (fun _ _ kK => x_get dX2_readLeaf_90 fl_X2_90 hL1.1.2.2.2.2.1 (gvl_i fz_4_5.2.2 (show e_i T1 261 1 = nI x from hW1.2.1)) kK) ?_
      refine xe_callV (a := 1) [.int (nI 3), .int (nI x)] dX2_readLeaf_93 ml_X2_93 mf_X4_fail hL1.1.2.2.2.2.1 (c_X4_fail (d + 3) hL1.1 (nI 3) (nI x)) rfl rfl (Nat.le_of_ble_eq_true rfl) (Nat.le_of_ble_eq_true rfl) ?_
      rintro _ _ ⟨rfl, rfl⟩
      have hpl : pLeaf b n x s.2.1 = .inl (3, x) := by unfold pLeaf; rw [if_neg hne, hkd]; exact if_pos h12
      rw [hpl]
      exact xe_retz dX2_readLeaf_96 rfl (by first | exact Or.inl rfl | exact Or.inr rfl) (⟨rfl, (FrG.si (FrG.si (hF1.mono (by simp) (by simp)) (by simp) _) (by simp) _), ⟨rfl, rfl⟩, s, en, lo, hS1.of (A := []) (I := [(258, 1), (259, 1), (260, 1), (261, 1), (262, 1), (263, 1)]) (FrG.si (FrG.si FrG.rf (by decide) _) (by decide) _) (by simp) (by simp) (by simp), rfl, rfl, fun z9 => z9⟩)
    · -- pc 75
      refine xe_callV (a := p) [.int (nI f), .int (nI 1)] dX2_readLeaf_75 ml_X2_124 mf_X1_makeLeaf hS1.1.1 (by have := c_X1_makeLeaf (d + 2) (kd := 0) hS1 hs60 hf hc12; rw [if_neg h12] at this; exact this) rfl rfl (Nat.le_of_ble_eq_true rfl) (Nat.le_of_ble_eq_true rfl) ?_
      rintro _ T2 ⟨rfl, hG2, hS2⟩
      have hL2 : LC T2 n b (we b n x) := hL1.of hG2 (by simp <;> omega) (by simp) ((hG2.i (by simp)).trans hW1.1) he1
      have hR2 := hR1.of hG2 (by simp) (by simp)
      have hO2 : OkC T T2 := hO1.tr (OkC.of hG2 (by simp) (by simp))
      have hF2 : FrG [(258, 1), (259, 1), (260, 1), (261, 1), (262, 1), (263, 1), (74, p), (75, p), (130, rd), (131, rd)] [p + 1, p + 2, p + 3, p + 4, p + 5, p + 9, p + 10] T T2 := FrG.tr (hF1.mono (by simp) (by simp)) (hG2.mono (by simp) (by simp))
      refine xe (fun _ _ kK => x_if_neT (tgt := 97) dX2_readLeaf_78 (by decide) (by decide) kK) ?_
      refine xe (fun _ _ kK => x_aload_n dX2_readLeaf_97 rfl 1 rfl kK) ?_
      refine xe (fun _ _ kK => x_iload_n dX2_readLeaf_98 rfl 2 rfl kK) ?_
      have hpl : pLeaf b n x s.2.1 = (match pMark b n (we b n x) with | .inl z => (Sum.inl z : (Nat × Nat) ⊕ (Nat × Nat × Nat)) | .inr (m, p2) => .inr (0, m, p2)) := by unfold pLeaf; rw [if_neg hne, hkd]; exact if_neg h12
      rw [hpl]
      have hmk := c_X2_readMark d (f := f) hL2 hR2 hS2 hp hs60 hf
      cases hpm : pMark b n (we b n x) with
      | inl z =>
        obtain ⟨k, q⟩ := z
        rw [hpm] at hmk
        refine xe_callV (a := rd) [.int (nI f)] dX2_readLeaf_99 ml_X2_76 mf_X2_readMark hR2.1 (hmk) rfl rfl (Nat.le_of_ble_eq_true rfl) (Nat.le_of_ble_eq_true rfl) ?_
        rintro _ T3 ⟨rfl, hF3, hE3, s9, hS9, e1, e2, e3⟩
        exact xe_retz dX2_readLeaf_102 rfl (by first | exact Or.inl rfl | exact Or.inr rfl) (⟨rfl, FrG.tr hF2 hF3, hE3, s9, _, _, hS9, e1, e2, e3⟩)
      | inr z =>
        obtain ⟨m, p2⟩ := z
        rw [hpm] at hmk
        refine xe_callV (a := rd) [.int (nI f)] dX2_readLeaf_99 ml_X2_76 mf_X2_readMark hR2.1 (hmk) rfl rfl (Nat.le_of_ble_eq_true rfl) (Nat.le_of_ble_eq_true rfl) ?_
        rintro _ T3 ⟨rfl, hF3, hL3, hR3, hS3, hO3⟩
        exact xe_retz dX2_readLeaf_102 rfl (by first | exact Or.inl rfl | exact Or.inr rfl) (⟨rfl, FrG.tr hF2 hF3, hL3, hR3, hS3, hO2.tr hO3⟩)
