/-! the class's reader of SHAPES -/
def RC (T : TH) (rd p : Nat) (gs : List Nat) : Prop := e_K T rd = 3 ∧ e_r T 128 rd = some 1 ∧ e_r T 129 rd = some p ∧ e_i T 130 rd = oI gs.head? ∧ e_i T 131 rd = nI gs.length
theorem RC.of {I : List (Nat × Nat)} {A : List Nat} {T T1 : TH} {rd p : Nat} {gs : List Nat} (h : RC T rd p gs) (hF : FrG I A T T1) (h1 : (130, rd) ∉ I) (h2 : (131, rd) ∉ I) : RC T1 rd p gs :=
  ⟨by rw [hF.1]; exact h.1, by rw [hF.2.1]; exact h.2.1, by rw [hF.2.1]; exact h.2.2.1, (hF.i h1).trans h.2.2.2.1, (hF.i h2).trans h.2.2.2.2⟩
def FailC (T1 : TH) (k q : Nat) : Prop := e_i T1 259 1 = nI k ∧ e_i T1 260 1 = nI q
def OkC (T T1 : TH) : Prop := e_i T1 259 1 = e_i T 259 1 ∧ e_i T1 260 1 = e_i T 260 1
theorem OkC.tr {T T1 T2 : TH} (h : OkC T T1) (k : OkC T1 T2) : OkC T T2 := ⟨k.1.trans h.1, k.2.trans h.2⟩
theorem OkC.of {I : List (Nat × Nat)} {A : List Nat} {T T1 : TH} (hF : FrG I A T T1) (h1 : (259, 1) ∉ I) (h2 : (260, 1) ∉ I) : OkC T T1 := ⟨hF.i h1, hF.i h2⟩
theorem kd_cw (b : Nat → Nat) (q e : Nat) : kdOf (some (cwc b q e)) = kdOf (wd b q e) := by
  unfold cwc wd
  split
  · rfl
  · rfl
theorem mk_cw (b : Nat → Nat) (q e : Nat) : mkOf (some (cwc b q e)) = mkOf (wd b q e) := by
  unfold cwc wd
  split
  · rfl
  · rfl
theorem cwc_lt {b : Nat → Nat} {n q : Nat} : cwc b q (we b n q) < 27 ^ 8 := by
  unfold cwc
  split
  · decide
  · have := we_ge b n q; exact wc_lt8 (by omega)
theorem dup_fnd (W : Nat → Option Nat) (N : Nat → Nat) (o : Option Nat) (v : Nat) : ∀ (c k : Nat), (fnd (fun f => decide (W f = o ∧ N f = v)) c k = none ↔ ∀ f, k ≤ f → f < k + c → ¬ (W f = o ∧ N f = v)) := by
  intro c
  induction c with
  | zero => intro k; exact ⟨fun _ f h1 h2 => absurd h2 (by omega), fun _ => rfl⟩
  | succ c ih =>
    intro k
    rw [fnd]
    by_cases h : W k = o ∧ N k = v
    · rw [if_pos (by simpa using h)]
      exact ⟨fun z => (by cases z), fun z => absurd h (z k (Nat.le_refl _) (by omega))⟩
    · rw [if_neg (by simpa using h), ih]
      refine ⟨fun z f h1 h2 => ?_, fun z f h1 h2 => z f (by omega) (by omega)⟩
      rcases Nat.lt_or_ge k f with q | q
      · exact z f q (by omega)
      · have e : f = k := by omega
        subst e; exact h
theorem dupF_iff (W : Nat → Option Nat) (N : Nat → Nat) (o : Option Nat) (v : Nat) : ∀ k, (dupF W N o v k = false ↔ ∀ f, f < k → ¬ (W f = o ∧ N f = v)) := by
  intro k
  induction k with
  | zero => exact ⟨fun _ f hf => absurd hf (Nat.not_lt_zero _), fun _ => rfl⟩
  | succ k ih =>
    rw [dupF, Bool.or_eq_false_iff, ih]
    constructor
    · rintro ⟨h1, h2⟩ f hf
      rcases Nat.lt_or_ge f k with q | q
      · exact h1 f q
      · have e : f = k := by omega
        subst e
        rintro ⟨a, c⟩
        rw [decide_eq_true a, decide_eq_true c] at h2
        cases h2
    · intro h
      refine ⟨fun f hf => h f (by omega), ?_⟩
      have := h k (by omega)
      by_cases a : W k = o
      · rw [decide_eq_true a, Bool.true_and]; exact decide_eq_false (fun c => this ⟨a, c⟩)
      · rw [decide_eq_false a, Bool.false_and]
/-- a shape that can be measured -/
def MeOk (s : Sh) : Prop := s.1 ≤ 60 ∧ (∀ f g, f < s.1 → s.2.2.1 f = some g → g < f) ∧ ∀ f, f < s.1 → s.2.2.2.2.2.1 f ≤ 2

set_option maxHeartbeats 4000000 in
theorem c_X2_markOf (d : Nat) {T : TH} {w : Nat} (hw : w < 2 ^ 63) : Xe m_X2_markOf d 0 [(0, .long (lN w))] [] T (fun r T1 => r = some (.int (oI ((mkOf (some w)).map (· + 1)))) ∧ T1 = T) := by
  have hcs : w < 2 ^ 63 := hw
  refine xe (fun _ _ kK => x_lload_n dX2_markOf_0 rfl 0 rfl kK) ?_
  refine xe (fun _ _ kK => x_ldc2 dX2_markOf_1 kl_X2_137 kK) ?_
  refine xe_tl (show _ = lN 11318 from by decide) ?_
  refine xe (fun _ _ kK => x_lcmp dX2_markOf_4 kK) ?_
  refine xe_if_ne (tgt := 10) dX2_markOf_5 (by decide) (fun h5 => ?_) (fun h5 => ?_)
  · -- pc 10
    have h5 := lc_ne h5
    have h5 := cvl_ne (by omega) (by omega) h5
    refine xe (fun _ _ kK => x_lload_n dX2_markOf_10 rfl 0 rfl kK) ?_
    refine xe (fun _ _ kK => x_ldc2 dX2_markOf_11 kl_X2_139 kK) ?_
    refine xe_tl (show _ = lN 11387 from by decide) ?_
    refine xe (fun _ _ kK => x_lcmp dX2_markOf_14 kK) ?_
    refine xe_if_ne (tgt := 20) dX2_markOf_15 (by decide) (fun h15 => ?_) (fun h15 => ?_)
    · -- pc 20
      have h15 := lc_ne h15
      have h15 := cvl_ne (by omega) (by omega) h15
      refine xe (fun _ _ kK => x_lload_n dX2_markOf_20 rfl 0 rfl kK) ?_
      refine xe (fun _ _ kK => x_ldc2 dX2_markOf_21 kl_X2_141 kK) ?_
      refine xe_tl (show _ = lN 257011 from by decide) ?_
      refine xe (fun _ _ kK => x_lcmp dX2_markOf_24 kK) ?_
      refine xe_if_ne (tgt := 32) dX2_markOf_25 (by decide) (fun h25 => ?_) (fun h25 => ?_)
      · -- pc 32
        have h25 := lc_ne h25
        have h25 := cvl_ne (by omega) (by omega) h25
        refine xe (fun _ _ kK => x_iconst dX2_markOf_32 (show _ = (-1) by decide) kK) ?_
        exact xe_reti dX2_markOf_33 rfl (⟨by unfold mkOf; rw [if_neg (show ¬ some w = some w_one from fun z => h5 (Option.some.inj z)), if_neg (show ¬ some w = some w_opt from fun z => h15 (Option.some.inj z)), if_neg (show ¬ some w = some w_many from fun z => h25 (Option.some.inj z))]; rfl, rfl⟩)
      · -- pc 28
        have h25 := lc_eqn h25
        have h25 := cvl_eq (by omega) (by omega) h25
        refine xe (fun _ _ kK => x_iconst dX2_markOf_28 (show _ = nI 3 by decide) kK) ?_
        refine xe (fun _ _ kK => x_goto (tgt := 33) dX2_markOf_29 (by decide) kK) ?_
        exact xe_reti dX2_markOf_33 rfl (⟨by unfold mkOf; rw [if_neg (show ¬ some w = some w_one from fun z => h5 (Option.some.inj z)), if_neg (show ¬ some w = some w_opt from fun z => h15 (Option.some.inj z)), if_pos (show some w = some w_many from congrArg some h25)]; rfl, rfl⟩)
    · -- pc 18
      have h15 := lc_eqn h15
      have h15 := cvl_eq (by omega) (by omega) h15
      refine xe (fun _ _ kK => x_iconst dX2_markOf_18 (show _ = nI 2 by decide) kK) ?_
      exact xe_reti dX2_markOf_19 rfl (⟨by unfold mkOf; rw [if_neg (show ¬ some w = some w_one from fun z => h5 (Option.some.inj z)), if_pos (show some w = some w_opt from congrArg some h15)]; rfl, rfl⟩)
  · -- pc 8
    have h5 := lc_eqn h5
    have h5 := cvl_eq (by omega) (by omega) h5
    refine xe (fun _ _ kK => x_iconst dX2_markOf_8 (show _ = nI 1 by decide) kK) ?_
    exact xe_reti dX2_markOf_9 rfl (⟨by unfold mkOf; rw [if_pos (show some w = some w_one from congrArg some h5)]; rfl, rfl⟩)

theorem mkOf_le {v : Option Nat} {m : Nat} (h : mkOf v = some m) : m ≤ 2 := by
  unfold mkOf at h
  split at h
  · cases h; omega
  · split at h
    · cases h; omega
    · split at h
      · cases h; omega
      · cases h

set_option maxHeartbeats 4000000 in
theorem c_X2_isKeyWord (d : Nat) {T : TH} {w : Nat} (hw : w < 2 ^ 63) : Xe m_X2_isKeyWord (d + 1) 0 [(0, .long (lN w))] [] T (fun r T1 => r = some (.int (bI (isKw w))) ∧ T1 = T) := by
  refine xe (fun _ _ kK => x_lload_n dX2_isKeyWord_0 rfl 0 rfl kK) ?_
  refine xe (fun _ _ kK => x_ldc2 dX2_isKeyWord_1 kl_X2_120 kK) ?_
  refine xe_tl (show _ = lN 10786 from by decide) ?_
  refine xe (fun _ _ kK => x_lcmp dX2_isKeyWord_4 kK) ?_
  refine xe_if_eq (tgt := 24) dX2_isKeyWord_5 (by decide) (fun h5 => ?_) (fun h5 => ?_)
  · -- pc 24
    have h5 := lc_eq h5
    have h5 := cvl_eq (by omega) (by omega) h5
    refine xe (fun _ _ kK => x_iconst dX2_isKeyWord_24 (show _ = nI 1 by decide) kK) ?_
    refine xe (fun _ _ kK => x_goto (tgt := 29) dX2_isKeyWord_25 (by decide) kK) ?_
    exact xe_retz dX2_isKeyWord_29 rfl (by first | exact Or.inl rfl | exact Or.inr rfl) (⟨r_1 (by unfold isKw; simp; exact Or.inl (Or.inl (Or.inl (Or.inl h5)))), rfl⟩)
  · -- pc 8
    have h5 := lc_nen h5
    have h5 := cvl_ne (by omega) (by omega) h5
    refine xe (fun _ _ kK => x_lload_n dX2_isKeyWord_8 rfl 0 rfl kK) ?_
    refine xe (fun _ _ kK => x_ldc2 dX2_isKeyWord_9 kl_X2_122 kK) ?_
    refine xe_tl (show _ = lN 464134 from by decide) ?_
    refine xe (fun _ _ kK => x_lcmp dX2_isKeyWord_12 kK) ?_
    refine xe_if_eq (tgt := 24) dX2_isKeyWord_13 (by decide) (fun h13 => ?_) (fun h13 => ?_)
    · -- pc 24
      have h13 := lc_eq h13
      have h13 := cvl_eq (by omega) (by omega) h13
      refine xe (fun _ _ kK => x_iconst dX2_isKeyWord_24 (show _ = nI 1 by decide) kK) ?_
      refine xe (fun _ _ kK => x_goto (tgt := 29) dX2_isKeyWord_25 (by decide) kK) ?_
      exact xe_retz dX2_isKeyWord_29 rfl (by first | exact Or.inl rfl | exact Or.inr rfl) (⟨r_1 (by unfold isKw; simp; exact Or.inl (Or.inl (Or.inl (Or.inr h13)))), rfl⟩)
    · -- pc 16
      have h13 := lc_nen h13
      have h13 := cvl_ne (by omega) (by omega) h13
      refine xe (fun _ _ kK => x_lload_n dX2_isKeyWord_16 rfl 0 rfl kK) ?_
      refine xe_callS [.long (lN w)] dX2_isKeyWord_17 ml_X2_127 mf_X2_markOf (c_X2_markOf d hw) rfl rfl (Nat.le_of_ble_eq_true rfl) (Nat.le_of_ble_eq_true rfl) ?_
      rintro _ T9 ⟨rfl, hTq9⟩
      refine xe_T hTq9 ?_
      refine xe (fun _ _ kK => x_iconst dX2_isKeyWord_20 (show _ = (-1) by decide) kK) ?_
      have hmk : mkOf (some w) = none ↔ (w ≠ w_one ∧ w ≠ w_opt ∧ w ≠ w_many) := by
        unfold mkOf; by_cases u1 : w = w_one
        · simp [u1]
        · by_cases u2 : w = w_opt
          · simp [u2, w_opt, w_one]
          · by_cases u3 : w = w_many
            · simp [u3, w_many, w_one, w_opt]
            · simp [u1, u2, u3]
      cases hm : mkOf (some w) with
      | none =>
        obtain ⟨u1, u2, u3⟩ := hmk.mp hm
        show Xe m_X2_isKeyWord (d + 1) 21 [(0, .long (lN w))] [.int (-1), .int (-1)] T _
        refine xe (fun _ _ kK => x_icmp_eqT (tgt := 28) dX2_isKeyWord_21 (by decide) rfl kK) ?_
        refine xe (fun _ _ kK => x_iconst dX2_isKeyWord_28 (show _ = nI 0 by decide) kK) ?_
        exact xe_retz dX2_isKeyWord_29 rfl (by first | exact Or.inl rfl | exact Or.inr rfl) (⟨r_0 (by unfold isKw; simp; exact ⟨⟨⟨⟨h5, h13⟩, u1⟩, u2⟩, u3⟩), rfl⟩)
      | some m =>
        have hm3 : m ≤ 2 := mkOf_le hm
        show Xe m_X2_isKeyWord (d + 1) 21 [(0, .long (lN w))] [.int (-1), .int (nI (m + 1))] T _
        refine xe (fun _ _ kK => x_icmp_eqF (tgt := 28) dX2_isKeyWord_21 (by decide) (nI_m1 (by omega)) kK) ?_
        refine xe (fun _ _ kK => x_iconst dX2_isKeyWord_24 (show _ = nI 1 by decide) kK) ?_
        refine xe (fun _ _ kK => x_goto (tgt := 29) dX2_isKeyWord_25 (by decide) kK) ?_
        exact xe_retz dX2_isKeyWord_29 rfl (by first | exact Or.inl rfl | exact Or.inr rfl) (⟨r_1 (by cases hk : isKw w with | true => rfl | false => (unfold isKw at hk; simp at hk; have := hmk.mpr ⟨hk.1.1.2, hk.1.2, hk.2⟩; rw [hm] at this; cases this)), rfl⟩)

theorem fnd_sp {p : Nat → Bool} : ∀ {c k j : Nat}, fnd p c k = some j → k ≤ j ∧ j < k + c ∧ p j = true := by
  intro c
  induction c with
  | zero => intro k j h; cases h
  | succ c ih =>
    intro k j h
    rw [fnd] at h
    split at h
    · rename_i z; cases h; exact ⟨Nat.le_refl _, by omega, z⟩
    · have := ih h; exact ⟨by omega, by omega, this.2.2⟩
theorem fnd_oB {p : Nat → Bool} {c : Nat} (hc : c < 2 ^ 31) : oB (fnd p c 0) := fun j hj => by have := fnd_sp hj; omega

set_option maxHeartbeats 4000000 in
theorem c_X2_readName (d : Nat) {T : TH} {n x rd p : Nat} {b : Nat → Nat} {s : Sh} {gs : List Nat} {en : Nat → Nat} {lo : Nat → Option Nat} (hL : LC T n b x) (hR : RC T rd p gs) (hS : CSp T p s en lo) (hp : p = 66 ∨ p = 77) (hs60 : s.1 ≤ 60) (hgb : oB gs.head?) (hWb : ∀ f, f < s.1 → oB (s.2.2.1 f)) (hNb : ∀ f, f < s.1 → s.2.2.2.1 f < 27 ^ 8) : Xe m_X2_readName (d + 3) 0 [(0, .ref rd)] [] T (if (we b n (sk b n x)) = (sk b n x) then (fun r T1 => FrG [(258, 1), (259, 1), (260, 1), (261, 1), (262, 1), (263, 1)] [] T T1 ∧ r = some (.int (nI 0)) ∧ FailC T1 1 (sk b n x)) else if (sk b n x) + 8 < (we b n (sk b n x)) then (fun r T1 => FrG [(258, 1), (259, 1), (260, 1), (261, 1), (262, 1), (263, 1)] [] T T1 ∧ r = some (.int (nI 0)) ∧ FailC T1 1 ((sk b n x) + 8)) else if isKw (wc b (sk b n x) (we b n (sk b n x))) = true then (fun r T1 => FrG [(258, 1), (259, 1), (260, 1), (261, 1), (262, 1), (263, 1)] [] T T1 ∧ r = some (.int (nI 0)) ∧ FailC T1 1 (sk b n x)) else if dupF s.2.2.1 s.2.2.2.1 gs.head? (wc b (sk b n x) (we b n (sk b n x))) s.1 = true then (fun r T1 => FrG [(258, 1), (259, 1), (260, 1), (261, 1), (262, 1), (263, 1)] [] T T1 ∧ r = some (.int (nI 0)) ∧ FailC T1 2 (sk b n x)) else (fun r T1 => FrG [(258, 1), (259, 1), (260, 1), (261, 1), (262, 1), (263, 1)] [] T T1 ∧ r = some (.int (nI 1)) ∧ OkC T T1 ∧ WR T1 b (sk b n x) (we b n (sk b n x)))) := by
  have hpn := hL.2.2.2.2.1
  have hn4 := hL.2.2.2.2.2
  have hq1 := sk_n (b := b) hpn
  have he0 := we_ge b n (sk b n x)
  have he1 := we_n (b := b) hq1
  have hcw : cwc b (sk b n x) (we b n (sk b n x)) < 27 ^ 8 := cwc_lt
  rw [p278] at hcw
  refine xe (fun _ _ kK => x_aload_n dX2_readName_0 rfl 0 rfl kK) ?_
  refine xe (fun _ _ kK => x_get dX2_readName_1 fl_X2_9 hR.1 (gvl_r1 fz_2_0.2.2 (show e_r T 128 rd = some 1 from hR.2.1)) kK) ?_
  refine xe_callV (a := 1) [] dX2_readName_4 ml_X2_103 mf_X4_readWord hL.1.2.2.2.2.1 (c_X4_readWord d hL) rfl rfl (Nat.le_of_ble_eq_true rfl) (Nat.le_of_ble_eq_true rfl) ?_
  rintro _ T1 ⟨rfl, hG1, hW1⟩
  have hF1 : FrG [(258, 1), (259, 1), (260, 1), (261, 1), (262, 1), (263, 1)] [] T T1 := hG1.mono (by decide) (by decide)
  have hL1 : LC T1 n b (we b n (sk b n x)) := hL.of hF1 (by decide) (by decide) hW1.1 he1
  have hR1 := hR.of hF1 (by simp) (by simp)
  have hS1 := hS.of hF1 (by simp) (by simp) (by simp)
  have hO1 : OkC T T1 := OkC.of hG1 (by decide) (by decide)
  refine xe (fun _ _ kK => x_aload_n dX2_readName_7 rfl 0 rfl kK) ?_
  refine xe (fun _ _ kK => x_get dX2_readName_8 fl_X2_9 hR1.1 (gvl_r1 fz_2_0.2.2 (show e_r T1 128 rd = some 1 from hR1.2.1)) kK) ?_
  refine xe (fun _ _ kK => x_get dX2_readName_11 fl_X2_106 hL1.1.2.2.2.2.1 (gvl_i fz_4_6.2.2 (show e_i T1 262 1 = nI ((we b n (sk b n x)) - (sk b n x)) from hW1.2.2.1)) kK) ?_
  refine xe_if_eq (tgt := 30) dX2_readName_14 (by decide) (fun h14 => ?_) (fun h14 => ?_)
  · -- pc 30
    have h14 := cv_z (by omega) h14
    have e9 : (we b n (sk b n x)) = (sk b n x) := by omega
    refine xe (fun _ _ kK => x_aload_n dX2_readName_30 rfl 0 rfl kK) ?_
    refine xe (fun _ _ kK => x_get dX2_readName_31 fl_X2_9 hR1.1 (gvl_r1 fz_2_0.2.2 (show e_r T1 128 rd = some 1 from hR1.2.1)) kK) ?_
    refine xe (fun _ _ kK => x_iconst dX2_readName_34 (show _ = nI 1 by decide) kK) ?_
    refine xe (fun _ _ kK => x_aload_n dX2_readName_35 rfl 0 rfl kK) ?_
    refine xe (fun _ _ kK => x_get dX2_readName_36 fl_X2_9 hR1.1 (gvl_r1 fz_2_0.2.2 (show e_r T1 128 rd = some 1 from hR1.2.1)) kK) ?_
    refine xe (fun _ _ kK => x_get dX2_readName_39 fl_X2_90 hL1.1.2.2.2.2.1 (gvl_i fz_4_5.2.2 (show e_i T1 261 1 = nI (sk b n x) from hW1.2.1)) kK) ?_
    refine xe_callV (a := 1) [.int (nI 1), .int (nI (sk b n x))] dX2_readName_42 ml_X2_93 mf_X4_fail hL1.1.2.2.2.2.1 (c_X4_fail (d + 2) hL1.1 (nI 1) (nI ((sk b n x)))) rfl rfl (Nat.le_of_ble_eq_true rfl) (Nat.le_of_ble_eq_true rfl) ?_
    rintro _ _ ⟨rfl, rfl⟩
    rw [if_pos e9]
    exact xe_retz dX2_readName_45 rfl (by first | exact Or.inl rfl | exact Or.inr rfl) (⟨(FrG.si (FrG.si hF1 (by decide) _) (by decide) _), rfl, rfl, rfl⟩)
  · -- pc 17
    have h14 := cv_nz (by omega) h14
    have e9 : ¬ (we b n (sk b n x)) = (sk b n x) := by omega
    refine xe (fun _ _ kK => x_aload_n dX2_readName_17 rfl 0 rfl kK) ?_
    refine xe (fun _ _ kK => x_get dX2_readName_18 fl_X2_9 hR1.1 (gvl_r1 fz_2_0.2.2 (show e_r T1 128 rd = some 1 from hR1.2.1)) kK) ?_
    refine xe (fun _ _ kK => x_get dX2_readName_21 fl_X2_82 hL1.1.2.2.2.2.1 (gvl_l fz_4_7.2.2 (show e_l T1 263 1 = lN (cwc b (sk b n x) (we b n (sk b n x))) from hW1.2.2.2)) kK) ?_
    refine xe_callS [.long (lN (cwc b (sk b n x) (we b n (sk b n x))))] dX2_readName_24 ml_X2_109 mf_X2_isKeyWord (c_X2_isKeyWord (d + 1) (w := cwc b (sk b n x) (we b n (sk b n x))) (by omega)) rfl rfl (Nat.le_of_ble_eq_true rfl) (Nat.le_of_ble_eq_true rfl) ?_
    rintro _ T9 ⟨rfl, hTq9⟩
    refine xe_T hTq9 ?_
    rw [if_neg e9]
    by_cases h8 : (sk b n x) + 8 < (we b n (sk b n x))
    · -- pc 27
      have ec : cwc b (sk b n x) (we b n (sk b n x)) = 0 := if_pos (by omega)
      rw [ec, if_pos h8]
      refine xe (fun _ _ kK => x_if_eqT (tgt := 46) dX2_readName_27 (by decide) (by decide) kK) ?_
      refine xe (fun _ _ kK => x_aload_n dX2_readName_46 rfl 0 rfl kK) ?_
      refine xe (fun _ _ kK => x_get dX2_readName_47 fl_X2_9 hR1.1 (gvl_r1 fz_2_0.2.2 (show e_r T1 128 rd = some 1 from hR1.2.1)) kK) ?_
      refine xe (fun _ _ kK => x_get dX2_readName_50 fl_X2_106 hL1.1.2.2.2.2.1 (gvl_i fz_4_6.2.2 (show e_i T1 262 1 = nI ((we b n (sk b n x)) - (sk b n x)) from hW1.2.2.1)) kK) ?_
      refine xe (fun _ _ kK => x_bipush dX2_readName_53 (show _ = nI 8 by decide) kK) ?_
      refine xe (fun _ _ kK => x_icmp_leF (tgt := 66) dX2_readName_55 (by decide) (fun z9 => by have := cv_le (by omega) (by omega) z9; omega) kK) ?_
      refine xe (fun _ _ kK => x_aload_n dX2_readName_58 rfl 0 rfl kK) ?_
      refine xe (fun _ _ kK => x_get dX2_readName_59 fl_X2_9 hR1.1 (gvl_r1 fz_2_0.2.2 (show e_r T1 128 rd = some 1 from hR1.2.1)) kK) ?_
      refine xe_callV (a := 1) [] dX2_readName_62 ml_X2_113 mf_X4_failAtLetterTooMany hL1.1.2.2.2.2.1 (c_X4_tooMany (d + 1) hL1.1 hW1.2.1) rfl rfl (Nat.le_of_ble_eq_true rfl) (Nat.le_of_ble_eq_true rfl) ?_
      rintro _ _ ⟨rfl, rfl⟩
      exact xe_retz dX2_readName_65 rfl (by first | exact Or.inl rfl | exact Or.inr rfl) (⟨(FrG.si (FrG.si hF1 (by decide) _) (by decide) _), rfl, rfl, rfl⟩)
    · -- pc 27
      have ec : cwc b (sk b n x) (we b n (sk b n x)) = (wc b (sk b n x) (we b n (sk b n x))) := if_neg (by omega)
      rw [ec, if_neg h8]
      rw [ec] at hcw
      refine xe_if_eq (tgt := 46) dX2_readName_27 (by decide) (fun h27 => ?_) (fun h27 => ?_)
      · -- pc 46
        have h27 := cv_b0 h27
        rw [if_neg (by rw [h27]; decide)]
        refine xe (fun _ _ kK => x_aload_n dX2_readName_46 rfl 0 rfl kK) ?_
        refine xe (fun _ _ kK => x_get dX2_readName_47 fl_X2_9 hR1.1 (gvl_r1 fz_2_0.2.2 (show e_r T1 128 rd = some 1 from hR1.2.1)) kK) ?_
        refine xe (fun _ _ kK => x_get dX2_readName_50 fl_X2_106 hL1.1.2.2.2.2.1 (gvl_i fz_4_6.2.2 (show e_i T1 262 1 = nI ((we b n (sk b n x)) - (sk b n x)) from hW1.2.2.1)) kK) ?_
        refine xe (fun _ _ kK => x_bipush dX2_readName_53 (show _ = nI 8 by decide) kK) ?_
        refine xe (fun _ _ kK => x_icmp_leT (tgt := 66) dX2_readName_55 (by decide) ((nI_leI (by omega) (by omega)).mpr (by omega)) kK) ?_
        refine xe (fun _ _ kK => x_aload_n dX2_readName_66 rfl 0 rfl kK) ?_
        refine xe (fun _ _ kK => x_get dX2_readName_67 fl_X2_15 hR1.1 (gvl_r1 fz_2_1.2.2 (show e_r T1 129 rd = some p from hR1.2.2.1)) kK) ?_
        refine xe (fun _ _ kK => x_aload_n dX2_readName_70 rfl 0 rfl kK) ?_
        refine xe (fun _ _ kK => x_get dX2_readName_71 fl_X2_19 hR1.1 (gvl_i fz_2_2.2.2 (show e_i T1 130 rd = oI gs.head? from hR1.2.2.2.1)) kK) ?_
        refine xe (fun _ _ kK => x_aload_n dX2_readName_74 rfl 0 rfl kK) ?_
        refine xe (fun _ _ kK => x_get dX2_readName_75 fl_X2_9 hR1.1 (gvl_r1 fz_2_0.2.2 (show e_r T1 128 rd = some 1 from hR1.2.1)) kK) ?_
        refine xe (fun _ _ kK => x_get dX2_readName_78 fl_X2_82 hL1.1.2.2.2.2.1 (gvl_l fz_4_7.2.2 (show e_l T1 263 1 = lN (wc b (sk b n x) (we b n (sk b n x))) from (ec ▸ hW1.2.2.2))) kK) ?_
        refine xe_callV (a := p) [.int (oI gs.head?), .long (lN (wc b (sk b n x) (we b n (sk b n x))))] dX2_readName_81 ml_X2_116 mf_X1_find hS1.1.1 (c_X1_find (d + 2) hS1 hs60 (o := gs.head?) (w := (wc b (sk b n x) (we b n (sk b n x)))) hgb (by omega) hWb (fun f hf => by have := hNb f hf; rw [p278] at this; omega)) rfl rfl (Nat.le_of_ble_eq_true rfl) (Nat.le_of_ble_eq_true rfl) ?_
        rintro _ T9 ⟨rfl, hTq9⟩
        refine xe_T hTq9 ?_
        refine xe (fun _ _ kK => x_iconst dX2_readName_84 (show _ = (-1) by decide) kK) ?_
        by_cases hd9 : dupF s.2.2.1 s.2.2.2.1 gs.head? (wc b (sk b n x) (we b n (sk b n x))) s.1 = true
        · -- pc 85
          have hne : fnd (fun f => decide (s.2.2.1 f = gs.head? ∧ s.2.2.2.1 f = (wc b (sk b n x) (we b n (sk b n x))))) s.1 0 ≠ none := fun z9 => by
            have := (dupF_iff s.2.2.1 s.2.2.2.1 gs.head? (wc b (sk b n x) (we b n (sk b n x))) s.1).mpr (fun f hf => (dup_fnd s.2.2.1 s.2.2.2.1 gs.head? (wc b (sk b n x) (we b n (sk b n x))) s.1 0).mp z9 f (Nat.zero_le _) (by omega))
            rw [hd9] at this; cases this
          rw [if_pos hd9]
          refine xe (fun _ _ kK => x_icmp_eqF (tgt := 104) dX2_readName_85 (by decide) (fun z9 => hne (cv_on z9 (fnd_oB (by omega)))) kK) ?_
          refine xe (fun _ _ kK => x_aload_n dX2_readName_88 rfl 0 rfl kK) ?_
          refine xe (fun _ _ kK => x_get dX2_readName_89 fl_X2_9 hR1.1 (gvl_r1 fz_2_0.2.2 (show e_r T1 128 rd = some 1 from hR1.2.1)) kK) ?_
          refine xe (fun _ _ kK => x_iconst dX2_readName_92 (show _ = nI 2 by decide) kK) ?_
          refine xe (fun _ _ kK => x_aload_n dX2_readName_93 rfl 0 rfl kK) ?_
          refine xe (fun _ _ kK => x_get dX2_readName_94 fl_X2_9 hR1.1 (gvl_r1 fz_2_0.2.2 (show e_r T1 128 rd = some 1 from hR1.2.1)) kK) ?_
          refine xe (fun _ _ kK => x_get dX2_readName_97 fl_X2_90 hL1.1.2.2.2.2.1 (gvl_i fz_4_5.2.2 (show e_i T1 261 1 = nI (sk b n x) from hW1.2.1)) kK) ?_
          refine xe_callV (a := 1) [.int (nI 2), .int (nI (sk b n x))] dX2_readName_100 ml_X2_93 mf_X4_fail hL1.1.2.2.2.2.1 (c_X4_fail (d + 2) hL1.1 (nI 2) (nI ((sk b n x)))) rfl rfl (Nat.le_of_ble_eq_true rfl) (Nat.le_of_ble_eq_true rfl) ?_
          rintro _ _ ⟨rfl, rfl⟩
          exact xe_retz dX2_readName_103 rfl (by first | exact Or.inl rfl | exact Or.inr rfl) (⟨(FrG.si (FrG.si hF1 (by decide) _) (by decide) _), rfl, rfl, rfl⟩)
        · -- pc 85
          have hno : fnd (fun f => decide (s.2.2.1 f = gs.head? ∧ s.2.2.2.1 f = (wc b (sk b n x) (we b n (sk b n x))))) s.1 0 = none := (dup_fnd s.2.2.1 s.2.2.2.1 gs.head? (wc b (sk b n x) (we b n (sk b n x))) s.1 0).mpr (fun f _ hf => (dupF_iff s.2.2.1 s.2.2.2.1 gs.head? (wc b (sk b n x) (we b n (sk b n x))) s.1).mp (by simpa using hd9) f (by omega))
          rw [hno, if_neg hd9]
          refine xe (fun _ _ kK => x_icmp_eqT (tgt := 104) dX2_readName_85 (by decide) rfl kK) ?_
          refine xe (fun _ _ kK => x_iconst dX2_readName_104 (show _ = nI 1 by decide) kK) ?_
          exact xe_retz dX2_readName_105 rfl (by first | exact Or.inl rfl | exact Or.inr rfl) (⟨hF1, rfl, hO1, hW1⟩)
      · -- pc 30
        have h27 := cv_b1 h27
        rw [if_pos h27]
        refine xe (fun _ _ kK => x_aload_n dX2_readName_30 rfl 0 rfl kK) ?_
        refine xe (fun _ _ kK => x_get dX2_readName_31 fl_X2_9 hR1.1 (gvl_r1 fz_2_0.2.2 (show e_r T1 128 rd = some 1 from hR1.2.1)) kK) ?_
        refine xe (fun _ _ kK => x_iconst dX2_readName_34 (show _ = nI 1 by decide) kK) ?_
        refine xe (fun _ _ kK => x_aload_n dX2_readName_35 rfl 0 rfl kK) ?_
        refine xe (fun _ _ kK => x_get dX2_readName_36 fl_X2_9 hR1.1 (gvl_r1 fz_2_0.2.2 (show e_r T1 128 rd = some 1 from hR1.2.1)) kK) ?_
        refine xe (fun _ _ kK => x_get dX2_readName_39 fl_X2_90 hL1.1.2.2.2.2.1 (gvl_i fz_4_5.2.2 (show e_i T1 261 1 = nI (sk b n x) from hW1.2.1)) kK) ?_
        refine xe_callV (a := 1) [.int (nI 1), .int (nI (sk b n x))] dX2_readName_42 ml_X2_93 mf_X4_fail hL1.1.2.2.2.2.1 (c_X4_fail (d + 2) hL1.1 (nI 1) (nI ((sk b n x)))) rfl rfl (Nat.le_of_ble_eq_true rfl) (Nat.le_of_ble_eq_true rfl) ?_
        rintro _ _ ⟨rfl, rfl⟩
        exact xe_retz dX2_readName_45 rfl (by first | exact Or.inl rfl | exact Or.inr rfl) (⟨(FrG.si (FrG.si hF1 (by decide) _) (by decide) _), rfl, rfl, rfl⟩)

set_option maxHeartbeats 4000000 in
theorem c_X2_readMark (d : Nat) {T : TH} {n x rd p : Nat} {b : Nat → Nat} {s : Sh} {gs : List Nat} {en : Nat → Nat} {lo : Nat → Option Nat} (hL : LC T n b x) (hR : RC T rd p gs) (hS : CSp T p s en lo) (hp : p = 66 ∨ p = 77) (hs60 : s.1 ≤ 60) {f : Nat} (hf : f < s.1) : Xe m_X2_readMark (d + 3) 0 [(0, .ref rd), (1, .int (nI f))] [] T (fun r T1 => match pMark b n x with
    | .inl (k, q) => r = some (.int (nI 0)) ∧ FrG [(258, 1), (259, 1), (260, 1), (261, 1), (262, 1), (263, 1), (74, p), (75, p), (130, rd), (131, rd)] [p + 1, p + 2, p + 3, p + 4, p + 5, p + 9, p + 10] T T1 ∧ FailC T1 k q ∧ ∃ s9, CSp T1 p s9 en lo ∧ s9.1 = s.1 ∧ s9.2.2.1 = s.2.2.1 ∧ ((∀ g, g < s.1 → s.2.2.2.2.2.1 g ≤ 2) → ∀ g, g < s.1 → s9.2.2.2.2.2.1 g ≤ 2)
    | .inr (m, p2) => r = some (.int (nI 1)) ∧ FrG [(258, 1), (259, 1), (260, 1), (261, 1), (262, 1), (263, 1), (74, p), (75, p), (130, rd), (131, rd)] [p + 1, p + 2, p + 3, p + 4, p + 5, p + 9, p + 10] T T1 ∧ LC T1 n b p2 ∧ RC T1 rd p gs ∧ CSp T1 p (s.1, s.2.1, s.2.2.1, s.2.2.2.1, s.2.2.2.2.1, va_up s.2.2.2.2.2.1 f m, s.2.2.2.2.2.2) en lo ∧ OkC T T1) := by
  have hpn := hL.2.2.2.2.1
  have hn4 := hL.2.2.2.2.2
  have hq1 := sk_n (b := b) hpn
  have he0 := we_ge b n (sk b n x)
  have he1 := we_n (b := b) hq1
  have hcw : cwc b (sk b n x) (we b n (sk b n x)) < 27 ^ 8 := cwc_lt
  rw [p278] at hcw
  refine xe (fun _ _ kK => x_aload_n dX2_readMark_0 rfl 0 rfl kK) ?_
  refine xe (fun _ _ kK => x_get dX2_readMark_1 fl_X2_9 hR.1 (gvl_r1 fz_2_0.2.2 (show e_r T 128 rd = some 1 from hR.2.1)) kK) ?_
  refine xe_callV (a := 1) [] dX2_readMark_4 ml_X2_103 mf_X4_readWord hL.1.2.2.2.2.1 (c_X4_readWord d hL) rfl rfl (Nat.le_of_ble_eq_true rfl) (Nat.le_of_ble_eq_true rfl) ?_
  rintro _ T1 ⟨rfl, hG1, hW1⟩
  have hF1 : FrG [(258, 1), (259, 1), (260, 1), (261, 1), (262, 1), (263, 1)] [] T T1 := hG1.mono (by decide) (by decide)
  have hL1 : LC T1 n b (we b n (sk b n x)) := hL.of hF1 (by decide) (by decide) hW1.1 he1
  have hR1 := hR.of hF1 (by simp) (by simp)
  have hS1 := hS.of hF1 (by simp) (by simp) (by simp)
  have hO1 : OkC T T1 := OkC.of hG1 (by decide) (by decide)
  refine xe (fun _ _ kK => x_aload_n dX2_readMark_7 rfl 0 rfl kK) ?_
  refine xe (fun _ _ kK => x_get dX2_readMark_8 fl_X2_9 hR1.1 (gvl_r1 fz_2_0.2.2 (show e_r T1 128 rd = some 1 from hR1.2.1)) kK) ?_
  refine xe (fun _ _ kK => x_get dX2_readMark_11 fl_X2_82 hL1.1.2.2.2.2.1 (gvl_l fz_4_7.2.2 (show e_l T1 263 1 = lN (cwc b (sk b n x) (we b n (sk b n x))) from hW1.2.2.2)) kK) ?_
  refine xe_callS [.long (lN (cwc b (sk b n x) (we b n (sk b n x))))] dX2_readMark_14 ml_X2_127 mf_X2_markOf (c_X2_markOf (d + 2) (w := cwc b (sk b n x) (we b n (sk b n x))) (by omega)) rfl rfl (Nat.le_of_ble_eq_true rfl) (Nat.le_of_ble_eq_true rfl) ?_
  rintro _ T9 ⟨rfl, hTq9⟩
  refine xe_T hTq9 ?_
  rw [mk_cw]
  unfold pMark
  have hmz : (we b n (sk b n x)) = (sk b n x) → mkOf (wd b (sk b n x) (we b n (sk b n x))) = none := fun z9 => by rw [z9]; unfold wd; rw [if_neg (by omega), wc_self]; rfl
  cases hm : mkOf (wd b (sk b n x) (we b n (sk b n x))) with
  | none =>
    show Xe m_X2_readMark (d + 3) 17 [(0, .ref rd), (1, .int (nI f))] [.int (-1)] T1 _
    refine xe (fun _ _ kK => x_istore_n dX2_readMark_17 rfl (by decide) (show _ = [(2, .int (-1)), (0, .ref rd), (1, .int (nI f))] from rfl) kK) ?_
    refine xe (fun _ _ kK => x_iload_n dX2_readMark_18 rfl 0 rfl kK) ?_
    refine xe (fun _ _ kK => x_iconst dX2_readMark_19 (show _ = (-1) by decide) kK) ?_
    refine xe (fun _ _ kK => x_icmp_eqT (tgt := 34) dX2_readMark_20 (by decide) rfl kK) ?_
    refine xe (fun _ _ kK => x_aload_n dX2_readMark_34 rfl 1 rfl kK) ?_
    refine xe (fun _ _ kK => x_get dX2_readMark_35 fl_X2_9 hR1.1 (gvl_r1 fz_2_0.2.2 (show e_r T1 128 rd = some 1 from hR1.2.1)) kK) ?_
    refine xe (fun _ _ kK => x_iconst dX2_readMark_38 (show _ = nI 1 by decide) kK) ?_
    refine xe (fun _ _ kK => x_aload_n dX2_readMark_39 rfl 1 rfl kK) ?_
    refine xe (fun _ _ kK => x_get dX2_readMark_40 fl_X2_9 hR1.1 (gvl_r1 fz_2_0.2.2 (show e_r T1 128 rd = some 1 from hR1.2.1)) kK) ?_
    refine xe (fun _ _ kK => x_get dX2_readMark_43 fl_X2_90 hL1.1.2.2.2.2.1 (gvl_i fz_4_5.2.2 (show e_i T1 261 1 = nI (sk b n x) from hW1.2.1)) kK) ?_
    refine xe_callV (a := 1) [.int (nI 1), .int (nI (sk b n x))] dX2_readMark_46 ml_X2_93 mf_X4_fail hL1.1.2.2.2.2.1 (c_X4_fail (d + 2) hL1.1 (nI 1) (nI ((sk b n x)))) rfl rfl (Nat.le_of_ble_eq_true rfl) (Nat.le_of_ble_eq_true rfl) ?_
    rintro _ _ ⟨rfl, rfl⟩
    have hrs : (if (we b n (sk b n x)) = (sk b n x) then (Sum.inl (1, (sk b n x)) : (Nat × Nat) ⊕ (Nat × Nat)) else match (none : Option Nat) with | none => .inl (1, (sk b n x)) | some m => if sk b n (we b n (sk b n x)) < n ∧ b (sk b n (we b n (sk b n x))) = 59 then .inr (m, sk b n (we b n (sk b n x)) + 1) else .inl (1, sk b n (we b n (sk b n x)))) = .inl (1, (sk b n x)) := by split <;> rfl
    rw [hrs]
    exact xe_retz dX2_readMark_49 rfl (by first | exact Or.inl rfl | exact Or.inr rfl) (⟨rfl, (FrG.si (FrG.si (hF1.mono (by simp) (by simp)) (by simp) _) (by simp) _), ⟨rfl, rfl⟩, s, hS1.of (A := []) (I := [(258, 1), (259, 1), (260, 1), (261, 1), (262, 1), (263, 1)]) (FrG.si (FrG.si FrG.rf (by decide) _) (by decide) _) (by simp) (by simp) (by simp), rfl, rfl, fun z9 => z9⟩)
  | some m =>
    have hm3 := mkOf_le hm
    show Xe m_X2_readMark (d + 3) 17 [(0, .ref rd), (1, .int (nI f))] [.int (nI (m + 1))] T1 _
    have hne : ¬ (we b n (sk b n x)) = (sk b n x) := fun z9 => by have := hmz z9; rw [hm] at this; cases this
    rw [if_neg hne]
    show Xe _ _ _ _ _ _ (fun r T9 => match (if sk b n (we b n (sk b n x)) < n ∧ b (sk b n (we b n (sk b n x))) = 59 then (Sum.inr (m, sk b n (we b n (sk b n x)) + 1) : (Nat × Nat) ⊕ (Nat × Nat)) else .inl (1, sk b n (we b n (sk b n x)))) with | .inl (k, q) => _ | .inr (m, p2) => _)
    refine xe (fun _ _ kK => x_istore_n dX2_readMark_17 rfl (by decide) (show _ = [(2, .int (nI (m + 1))), (0, .ref rd), (1, .int (nI f))] from rfl) kK) ?_
    refine xe (fun _ _ kK => x_iload_n dX2_readMark_18 rfl 0 rfl kK) ?_
    refine xe (fun _ _ kK => x_iconst dX2_readMark_19 (show _ = (-1) by decide) kK) ?_
    refine xe (fun _ _ kK => x_icmp_eqF (tgt := 34) dX2_readMark_20 (by decide) (nI_m1 (by omega)) kK) ?_
    refine xe (fun _ _ kK => x_aload_n dX2_readMark_23 rfl 1 rfl kK) ?_
    refine xe (fun _ _ kK => x_get dX2_readMark_24 fl_X2_15 hR1.1 (gvl_r1 fz_2_1.2.2 (show e_r T1 129 rd = some p from hR1.2.2.1)) kK) ?_
    refine xe (fun _ _ kK => x_iload_n dX2_readMark_27 rfl 2 rfl kK) ?_
    refine xe_callV (a := p) [.int (nI f)] dX2_readMark_28 ml_X2_63 mf_X1_isField hS1.1.1 (c_X1_isField (d + 2) hS1.1 hS1.2.1 (by omega) (nI f)) rfl rfl (Nat.le_of_ble_eq_true rfl) (Nat.le_of_ble_eq_true rfl) ?_
    rintro _ T9 ⟨rfl, hTq9⟩
    refine xe_T hTq9 ?_
    rw [ix_in hf (by omega)]
    refine xe (fun _ _ kK => x_if_neT (tgt := 50) dX2_readMark_31 (by decide) (show ¬ bI true = 0 by decide) kK) ?_
    refine xe (fun _ _ kK => x_aload_n dX2_readMark_50 rfl 1 rfl kK) ?_
    refine xe (fun _ _ kK => x_get dX2_readMark_51 fl_X2_15 hR1.1 (gvl_r1 fz_2_1.2.2 (show e_r T1 129 rd = some p from hR1.2.2.1)) kK) ?_
    refine xe (fun _ _ kK => x_get dX2_readMark_54 fl_X2_131 hS1.1.1 (gvl_r1 fz_1_2.2.2 (show e_r T1 66 p = some (p + 3) from (hS1.1.2.1 2 (by decide)))) kK) ?_
    refine xe (fun _ _ kK => x_iload_n dX2_readMark_57 rfl 2 rfl kK) ?_
    refine xe (fun _ _ kK => x_iload_n dX2_readMark_58 rfl 0 rfl kK) ?_
    refine xe (fun _ _ kK => x_iast dX2_readMark_59 (show e_K _ (p + 3) = 20 from (hS1.1.2.2.1 2 (by decide))) (show (nI f) = nI f from rfl) (shi_len hS1.1 2 (by decide) (show f < 66 by omega)) kK) ?_
    refine xe (fun _ _ kK => x_aload_n dX2_readMark_60 rfl 1 rfl kK) ?_
    refine xe (fun _ _ kK => x_get dX2_readMark_61 fl_X2_9 (wK_ai hR1.1) (gvl_r1 fz_2_0.2.2 (show e_r (s_ai T1 (p + 3) f (nI (m + 1))) 128 rd = some 1 from (wr_ai hR1.2.1))) kK) ?_
    refine xe (fun _ _ kK => x_bipush dX2_readMark_64 (show _ = nI 59 by decide) kK) ?_
    have hF2 : FrG [(258, 1), (259, 1), (260, 1), (261, 1), (262, 1), (263, 1), (74, p), (75, p), (130, rd), (131, rd)] [p + 1, p + 2, p + 3, p + 4, p + 5, p + 9, p + 10] T (s_ai T1 (p + 3) f (nI (m + 1))) := (FrG.sai (hF1.mono (by simp) (by simp)) (by simp) _ _)
    have hG2 : FrG [] [p + 3] T1 (s_ai T1 (p + 3) f (nI (m + 1))) := (FrG.sai FrG.rf (by simp) _ _)
    have hS2 : CSp (s_ai T1 (p + 3) f (nI (m + 1))) p (s.1, s.2.1, s.2.2.1, s.2.2.2.1, s.2.2.2.2.1, va_up s.2.2.2.2.2.1 f m, s.2.2.2.2.2.2) en lo := ⟨hG2.shi hS1.1, (hG2.i (by simp)).trans hS1.2.1, (hG2.i (by simp)).trans hS1.2.2.1, fun g hg => ?_, fun c hc => by rw [hG2.ai (by simp)]; exact hS1.2.2.2.2 c hc⟩
    rotate_left
    · have h1 := hS1.2.2.2.1 g hg
      show _ = lN (s.2.2.2.1 g) ∧ _ = nI (s.2.2.2.2.1 g + 1) ∧ _ = nI (va_up s.2.2.2.2.2.1 f m g + 1) ∧ _ = oI (s.2.2.1 g) ∧ _ = nI (en g) ∧ _ = oI (lo g)
      by_cases e9 : g = f
      · subst e9; simp [q_i_i, q_i_l, q_i_ai, q_i_al, q_ai_ai, q_ai_i, q_ai_l, q_ai_al, q_al_al, q_al_i, q_al_ai, q_al_l, q_l_i, q_l_l, q_l_ai, q_l_al, va_up]; exact ⟨h1.1, h1.2.1, h1.2.2.2.1, h1.2.2.2.2.1, h1.2.2.2.2.2⟩
      · simp [q_i_i, q_i_l, q_i_ai, q_i_al, q_ai_ai, q_ai_i, q_ai_l, q_ai_al, q_al_al, q_al_i, q_al_ai, q_al_l, q_l_i, q_l_l, q_l_ai, q_l_al, va_up, e9]; exact h1
    have hL2 : LC (s_ai T1 (p + 3) f (nI (m + 1))) n b (we b n (sk b n x)) := hL1.of hG2 (by simp <;> omega) (by simp) ((hG2.i (by simp)).trans hW1.1) he1
    have hR2 : RC (s_ai T1 (p + 3) f (nI (m + 1))) rd p gs := hR1.of hG2 (by simp) (by simp)
    have hO2 : OkC T (s_ai T1 (p + 3) f (nI (m + 1))) := hO1.tr (OkC.of hG2 (by simp) (by simp))
    generalize hT2 : (s_ai T1 (p + 3) f (nI (m + 1))) = T2 at hF2 hS2 hL2 hR2 hO2 ⊢
    have hq2 := sk_n (b := b) he1
    by_cases h5 : sk b n (we b n (sk b n x)) < n ∧ b (sk b n (we b n (sk b n x))) = 59
    · -- pc 66
      refine xe_callV (a := 1) [.int (nI 59)] dX2_readMark_66 ml_X2_134 mf_X4_pass hL2.1.2.2.2.2.1 (by have := c_X4_pass d hL2 (c := 59) (by decide); rw [if_pos h5] at this; exact this) rfl rfl (Nat.le_of_ble_eq_true rfl) (Nat.le_of_ble_eq_true rfl) ?_
      rintro _ _ ⟨rfl, rfl⟩
      rw [if_pos h5]
      have hG3 : FrG [(258, 1)] [] T2 (cmv T2 (sk b n (we b n (sk b n x)) + 1)) := FrG.si FrG.rf (by decide) _
      exact xe_retz dX2_readMark_69 rfl (by first | exact Or.inl rfl | exact Or.inr rfl) (⟨rfl, FrG.tr hF2 (hG3.mono (by simp) (by simp)), hL2.mv (by omega), hR2.of hG3 (by simp) (by simp), hS2.of hG3 (by simp) (by simp) (by simp), hO2.tr (OkC.of hG3 (by decide) (by decide))⟩)
    · -- pc 66
      refine xe_callV (a := 1) [.int (nI 59)] dX2_readMark_66 ml_X2_134 mf_X4_pass hL2.1.2.2.2.2.1 (by have := c_X4_pass d hL2 (c := 59) (by decide); rw [if_neg h5] at this; exact this) rfl rfl (Nat.le_of_ble_eq_true rfl) (Nat.le_of_ble_eq_true rfl) ?_
      rintro _ _ ⟨rfl, rfl⟩
      rw [if_neg h5]
      have hG3 : FrG [(258, 1), (259, 1), (260, 1), (261, 1), (262, 1), (263, 1)] [] T2 (cfl (cmv T2 (sk b n (we b n (sk b n x)))) 1 (sk b n (we b n (sk b n x)))) := (FrG.si (FrG.si (FrG.si FrG.rf (by decide) _) (by decide) _) (by decide) _)
      exact xe_retz dX2_readMark_69 rfl (by first | exact Or.inl rfl | exact Or.inr rfl) (⟨rfl, FrG.tr hF2 (hG3.mono (by simp) (by simp)), ⟨rfl, rfl⟩, _, hS2.of hG3 (by simp) (by simp) (by simp), rfl, rfl, fun z9 g hg => by show va_up s.2.2.2.2.2.1 f m g ≤ 2; unfold va_up; split; exact hm3; exact z9 g hg⟩)
