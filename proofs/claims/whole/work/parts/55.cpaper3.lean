/-! an ENTRY, as a function of what is there -/
def eVal (b : Nat → Nat) (n q k : Nat) : Nat ⊕ (Nat × Int64) := match qVal b n q k with
  | .inl p2 => .inl p2
  | .inr (v, e2) => match qSign b n e2 59 with
    | .inl p3 => .inl p3
    | .inr p3 => .inr (p3, v)
def eTail (s : Sh) (b : Nat → Nat) (n q f : Nat) : (Nat × Nat) ⊕ (Nat × Nat × Option Int64) := match srt b n q with
  | none => .inl (1, q)
  | some k => if ¬ k = s.2.2.2.2.1 f then .inl (5, q) else if k = 2 then .inr (q + 1, f, none) else match eVal b n q k with
    | .inl p2 => .inl (1, p2)
    | .inr (p3, v) => .inr (p3, f, some v)
def eEntry (s : Sh) (b : Nat → Nat) (n q : Nat) (o : Option Nat) (th : Nat → Bool) : (Nat × Nat) ⊕ (Nat × Nat × Option Int64) :=
  if we b n q = q then .inl (1, q) else
  match findF s o (wd b q (we b n q)) with
  | none => .inl (2, q)
  | some f => if ¬ s.2.2.2.2.2.1 f = 2 ∧ th f = true then .inl (3, q) else
    match qSign b n (we b n q) 58 with
    | .inl p1 => .inl (1, p1)
    | .inr p1 => eTail s b n (sk b n p1) f
/-- what comes of a leaf's value -/
def VlP (T : TH) (rd cu i : Nat) (s : Sh) (en : Nat → Nat) (lo : Nat → Option Nat) (n : Nat) (b : Nat → Nat) (o : Option Nat) (dep : Nat) (th : Nat → Bool) (lv cp : Nat → Nat) (RR : Nat → List Row) (c f lev : Nat) (z : Nat ⊕ (Nat × Int64)) (r : Option Value) (T1 : TH) : Prop := match z with
  | .inl p => r = some (.int (nI 0)) ∧ PJ T T1 s i cp RR 1 p
  | .inr (p3, v) => r = some (.int (nI 1)) ∧ ∃ A' cp', PRs T1 rd cu i s en lo n b p3 o dep th lv A' cp' (va_up RR c (RR c ++ [(lev, dgo s (some f), true, v, i)])) ∧ PFr T T1 cp cp'
theorem VlP.pre {T T0 T1 : TH} {rd cu i n dep c f lev : Nat} {s : Sh} {en : Nat → Nat} {lo : Nat → Option Nat} {b : Nat → Nat} {o : Option Nat} {th : Nat → Bool} {lv cp : Nat → Nat} {RR : Nat → List Row} {z : Nat ⊕ (Nat × Int64)} {r : Option Value} (h : VlP T0 rd cu i s en lo n b o dep th lv cp RR c f lev z r T1) (hF : PFr T T0 cp cp) : VlP T rd cu i s en lo n b o dep th lv cp RR c f lev z r T1 := by
  match z, h with
  | .inl p, ⟨h1, h2⟩ => exact ⟨h1, h2.pre hF (fun _ _ => Jk.rf)⟩
  | .inr (p3, v), ⟨h1, A', cp', h2, h3⟩ => exact ⟨h1, A', cp', h2, hF.tr h3⟩

set_option maxHeartbeats 4000000 in
theorem c_X0_kindBegunBy (d : Nat) {T : TH} {n q : Nat} {b : Nat → Nat} (hB : ∀ j, j < n → b j < 256) : Xe m_X0_kindBegunBy (d + 1) 0 [(0, .int (pk b n q))] [] T (fun r T1 => r = some (.int (match srt b n q with
    | none => -1
    | some k => nI (k + 1))) ∧ T1 = T) := by
  refine xe (fun _ _ kK => x_iload_n dX0_kindBegunBy_0 rfl 0 rfl kK) ?_
  refine xe (fun _ _ kK => x_bipush dX0_kindBegunBy_1 (show _ = nI 45 by decide) kK) ?_
  refine xe_icmp_eq (tgt := 13) dX0_kindBegunBy_3 (by decide) (fun h3 => ?_) (fun h3 => ?_)
  · -- pc 13
    have hq : q < n ∧ b q = 45 := Classical.byContradiction (fun z => pk_not hB (by decide) z h3)
    refine xe (fun _ _ kK => x_iconst dX0_kindBegunBy_13 (show _ = nI 1 by decide) kK) ?_
    have hs : srt b n q = some 0 := by unfold srt; rw [if_pos (Or.inr hq)]
    exact xe_reti dX0_kindBegunBy_14 rfl (⟨by rw [hs] <;> rfl, rfl⟩)
  · -- pc 6
    have hq : ¬ (q < n ∧ b q = 45) := fun z => h3 (pk_is z)
    refine xe (fun _ _ kK => x_iload_n dX0_kindBegunBy_6 rfl 0 rfl kK) ?_
    refine xe_callSN [.int (pk b n q)] dX0_kindBegunBy_7 ml_X0_133 mf_X7_isDigit (c_X7_isDigit_pk d T hB) rfl rfl (Nat.le_of_ble_eq_true rfl) (Nat.le_of_ble_eq_true rfl) ?_
    rintro _ T9 ⟨rfl, hTq9⟩
    refine xe_T hTq9 ?_
    refine xe_if_eq (tgt := 15) dX0_kindBegunBy_10 (by decide) (fun h10 => ?_) (fun h10 => ?_)
    · -- pc 15
      have h10 := cv_b0 h10
      refine xe (fun _ _ kK => x_iload_n dX0_kindBegunBy_15 rfl 0 rfl kK) ?_
      refine xe_callSN [.int (pk b n q)] dX0_kindBegunBy_16 ml_X0_136 mf_X7_isLetter (c_X7_isLetter_pk d T hB) rfl rfl (Nat.le_of_ble_eq_true rfl) (Nat.le_of_ble_eq_true rfl) ?_
      rintro _ T9 ⟨rfl, hTq9⟩
      refine xe_T hTq9 ?_
      refine xe_if_eq (tgt := 24) dX0_kindBegunBy_19 (by decide) (fun h19 => ?_) (fun h19 => ?_)
      · -- pc 24
        have h19 := cv_b0 h19
        refine xe (fun _ _ kK => x_iload_n dX0_kindBegunBy_24 rfl 0 rfl kK) ?_
        refine xe (fun _ _ kK => x_bipush dX0_kindBegunBy_25 (show _ = nI 91 by decide) kK) ?_
        refine xe_icmp_ne (tgt := 34) dX0_kindBegunBy_27 (by decide) (fun h27 => ?_) (fun h27 => ?_)
        · -- pc 34
          have hr : ¬ (q < n ∧ b q = 91) := fun z => h27 (pk_is z)
          refine xe (fun _ _ kK => x_iconst dX0_kindBegunBy_34 (show _ = (-1) by decide) kK) ?_
          have hs : srt b n q = none := by unfold srt; rw [if_neg (by rw [h10]; simp; exact fun z => fun z2 => hq ⟨z, z2⟩), h19, if_neg (by decide), if_neg hr]
          exact xe_reti dX0_kindBegunBy_35 rfl (⟨by rw [hs] <;> rfl, rfl⟩)
        · -- pc 30
          have hr : q < n ∧ b q = 91 := Classical.byContradiction (fun z => pk_not hB (by decide) z h27)
          refine xe (fun _ _ kK => x_iconst dX0_kindBegunBy_30 (show _ = nI 3 by decide) kK) ?_
          refine xe (fun _ _ kK => x_goto (tgt := 35) dX0_kindBegunBy_31 (by decide) kK) ?_
          have hs : srt b n q = some 2 := by unfold srt; rw [if_neg (by rw [h10]; simp; exact fun z => fun z2 => hq ⟨z, z2⟩), h19, if_neg (by decide), if_pos hr]
          exact xe_reti dX0_kindBegunBy_35 rfl (⟨by rw [hs] <;> rfl, rfl⟩)
      · -- pc 22
        have h19 := cv_b1 h19
        refine xe (fun _ _ kK => x_iconst dX0_kindBegunBy_22 (show _ = nI 2 by decide) kK) ?_
        have hs : srt b n q = some 1 := by unfold srt; rw [if_neg (by rw [h10]; simp; exact fun z => fun z2 => hq ⟨z, z2⟩), h19, if_pos rfl]
        exact xe_reti dX0_kindBegunBy_23 rfl (⟨by rw [hs] <;> rfl, rfl⟩)
    · -- pc 13
      have h10 := cv_b1 h10
      refine xe (fun _ _ kK => x_iconst dX0_kindBegunBy_13 (show _ = nI 1 by decide) kK) ?_
      have hs : srt b n q = some 0 := by unfold srt; rw [if_pos (Or.inl h10)]
      exact xe_reti dX0_kindBegunBy_14 rfl (⟨by rw [hs] <;> rfl, rfl⟩)

set_option maxHeartbeats 4000000 in
theorem c_X0_readLetters (d : Nat) {T : TH} {rd cu i n x dep : Nat} {s : Sh} {en : Nat → Nat} {lo : Nat → Option Nat} {b : Nat → Nat} {o : Option Nat} {th : Nat → Bool} {lv : Nat → Nat} {A : Nat → Nat → Nat} {cp : Nat → Nat} {RR : Nat → List Row} (h : PRs T rd cu i s en lo n b x o dep th lv A cp RR) (hZ : PZ cu i s en lo) {c f lev : Nat} (hf : f < s.1) (hlo : lo f = some c) (hc : c < s.2.1) (hl3 : (RR c).length < 3000) (hx : x < n) (hsk : sk b n x = x) : Xe m_X0_readLetters (d + 6) 0 [(0, .ref rd), (1, .int (nI f)), (2, .int (nI lev))] [] T (VlP T rd cu i s en lo n b o dep th lv cp RR c f lev (eVal b n x 1)) := by
  obtain ⟨hL, hS, hK, hC0, hV0, hA, hR, ⟨hs1, hs2, hs3⟩, hf1, hf2⟩ := id h
  obtain ⟨hu, hV, ⟨hs60, h12⟩, hi30, hWl, hNb⟩ := id hZ
  have hpn := hL.2.2.2.2.1
  have hn4 := hL.2.2.2.2.2
  have he0 := we_ge b n x
  have he1 := we_n (b := b) hpn
  refine xe (fun _ _ kK => x_aload_n dX0_readLetters_0 rfl 0 rfl kK) ?_
  refine xe (fun _ _ kK => x_get dX0_readLetters_1 fl_X0_9 hC0.1 (gvl_r1 fz_0_0.2.2 (show e_r T 0 rd = some 1 from hC0.2.1)) kK) ?_
  refine xe_callV (a := 1) [] dX0_readLetters_4 ml_X0_110 mf_X4_readWord hL.1.2.2.2.2.1 (c_X4_readWord (d + 3) hL) rfl rfl (Nat.le_of_ble_eq_true rfl) (Nat.le_of_ble_eq_true rfl) ?_
  rintro _ T1 ⟨rfl, hF1, hW1⟩
  rw [hsk] at hW1
  have hP1 := h.mv hu hF1 (by simp) hW1.1 he1
  obtain ⟨hLa, hSa, hKa, hC0a, hV0a, hAa, hRa, ⟨hs1a, hs2a, hs3a⟩, hf1a, hf2a⟩ := id hP1
  have hFF1 : PFr T T1 cp cp := PFr.ofG hF1 (by simp) (by simp)
  refine xe (fun _ _ kK => x_aload_n dX0_readLetters_7 rfl 0 rfl kK) ?_
  refine xe (fun _ _ kK => x_get dX0_readLetters_8 fl_X0_9 hC0a.1 (gvl_r1 fz_0_0.2.2 (show e_r T1 0 rd = some 1 from hC0a.2.1)) kK) ?_
  refine xe (fun _ _ kK => x_get dX0_readLetters_11 fl_X0_121 hLa.1.2.2.2.2.1 (gvl_i fz_4_6.2.2 (show e_i T1 262 1 = nI ((we b n x) - x) from hW1.2.2.1)) kK) ?_
  refine xe (fun _ _ kK => x_bipush dX0_readLetters_14 (show _ = nI 8 by decide) kK) ?_
  refine xe_icmp_le (tgt := 27) dX0_readLetters_16 (by decide) (fun h16 => ?_) (fun h16 => ?_)
  · -- pc 27
    have h16 := cv_le (by omega) (by omega) h16
    have hcw : cwc b x (we b n x) = wc b x (we b n x) := by unfold cwc; rw [if_neg (by omega)]
    refine xe (fun _ _ kK => x_aload_n dX0_readLetters_27 rfl 0 rfl kK) ?_
    refine xe (fun _ _ kK => x_aload_n dX0_readLetters_28 rfl 0 rfl kK) ?_
    refine xe (fun _ _ kK => x_get dX0_readLetters_29 fl_X0_15 hC0a.1 (gvl_r1 fz_0_1.2.2 (show e_r T1 1 rd = some cu from hC0a.2.2.1)) kK) ?_
    refine xe (fun _ _ kK => x_get dX0_readLetters_32 fl_X0_144 hSa.1.1 (gvl_r1 fz_1_8.2.2 (show e_r T1 72 cu = some (cu + 9) from (hSa.1.2.1 8 (by decide)))) kK) ?_
    refine xe (fun _ _ kK => x_iload_n dX0_readLetters_35 rfl 1 rfl kK) ?_
    refine xe (fun _ _ kK => x_iald dX0_readLetters_36 (show e_K _ (cu + 9) = 20 from (hSa.1.2.2.1 8 (by decide))) (show (nI f) = nI f from rfl) (shi_len hSa.1 8 (by decide) (show f < 66 by omega)) (show e_ai T1 (cu + 9) f = nI c from ((hSa.2.2.2.1 f hf).2.2.2.2.2.trans (by rw [hlo]; rfl))) kK) ?_
    refine xe (fun _ _ kK => x_iload_n dX0_readLetters_37 rfl 2 rfl kK) ?_
    refine xe (fun _ _ kK => x_aload_n dX0_readLetters_38 rfl 0 rfl kK) ?_
    refine xe (fun _ _ kK => x_get dX0_readLetters_39 fl_X0_15 hC0a.1 (gvl_r1 fz_0_1.2.2 (show e_r T1 1 rd = some cu from hC0a.2.2.1)) kK) ?_
    refine xe (fun _ _ kK => x_get dX0_readLetters_42 fl_X0_147 hSa.1.1 (gvl_r1 fz_1_5.2.2 (show e_r T1 69 cu = some (cu + 6) from (hSa.1.2.1 5 (by decide)))) kK) ?_
    refine xe (fun _ _ kK => x_iload_n dX0_readLetters_45 rfl 1 rfl kK) ?_
    refine xe (fun _ _ kK => x_iald dX0_readLetters_46 (show e_K _ (cu + 6) = 20 from (hSa.1.2.2.1 5 (by decide))) (show (nI f) = nI f from rfl) (shi_len hSa.1 5 (by decide) (show f < 66 by omega)) (show e_ai T1 (cu + 6) f = nI (dgo s (some f)) from (hKa f hf _ (hV.up hf).1).1) kK) ?_
    refine xe (fun _ _ kK => x_aload_n dX0_readLetters_47 rfl 0 rfl kK) ?_
    refine xe (fun _ _ kK => x_get dX0_readLetters_48 fl_X0_9 hC0a.1 (gvl_r1 fz_0_0.2.2 (show e_r T1 0 rd = some 1 from hC0a.2.1)) kK) ?_
    refine xe (fun _ _ kK => x_get dX0_readLetters_51 fl_X0_113 hLa.1.2.2.2.2.1 (gvl_l fz_4_7.2.2 (show e_l T1 263 1 = lN (wc b x (we b n x)) from (hW1.2.2.2.trans (by rw [hcw])))) kK) ?_
    refine xe_callV (a := rd) [.int (nI c), .int (nI lev), .int (nI (dgo s (some f))), .long (lN (wc b x (we b n x)))] dX0_readLetters_54 ml_X0_150 mf_X0_lay hC0a.1 (c_X0_lay (d + 1) hP1 hZ (c := c) (lev := lev) (t := dgo s (some f)) (v := lN (wc b x (we b n x))) hc hl3 true) rfl rfl (Nat.le_of_ble_eq_true rfl) (Nat.le_of_ble_eq_true rfl) ?_
    rintro _ T3 ⟨rfl, A3, cp3, hP3, hF3⟩
    refine xe (fun _ _ kK => x_aload_n dX0_readLetters_57 rfl 0 rfl kK) ?_
    refine xe (fun _ _ kK => x_get dX0_readLetters_58 fl_X0_9 hP3.2.2.2.1.1 (gvl_r1 fz_0_0.2.2 (show e_r T3 0 rd = some 1 from hP3.2.2.2.1.2.1)) kK) ?_
    refine xe (fun _ _ kK => x_bipush dX0_readLetters_61 (show _ = nI 59 by decide) kK) ?_
    have hps := c_X4_pass (d + 3) hP3.1 (c := 59) (by decide)
    have hE := hP3.1.2.2.2.2.1
    by_cases hq : sk b n (we b n x) < n ∧ b (sk b n (we b n x)) = 59
    · -- pc 63
      rw [if_pos hq] at hps
      refine xe_callV (a := 1) [.int (nI 59)] dX0_readLetters_63 ml_X0_81 mf_X4_pass hP3.1.1.2.2.2.2.1 (hps) rfl rfl (Nat.le_of_ble_eq_true rfl) (Nat.le_of_ble_eq_true rfl) ?_
      rintro _ _ ⟨rfl, rfl⟩
      have hev : eVal b n x 1 = .inr (sk b n (we b n x) + 1, lN (wc b x (we b n x))) := by unfold eVal qVal; rw [if_neg (by decide), if_neg (by omega)]; show (match qSign b n (we b n x) 59 with | .inl p3 => _ | .inr p3 => _) = _; unfold qSign; rw [if_pos hq]
      rw [hev]
      have hG4 : FrG [(258, 1)] [] T3 (cmv T3 (sk b n (we b n x) + 1)) := FrG.si FrG.rf (by simp) _
      exact xe_retz dX0_readLetters_66 rfl (by first | exact Or.inl rfl | exact Or.inr rfl) (⟨rfl, A3, cp3, hP3.mv hu hG4 (by simp) rfl (by omega), (hFF1.tr hF3).tr (PFr.ofG hG4 (by simp) (by simp))⟩)
    · -- pc 63
      rw [if_neg hq] at hps
      refine xe_callV (a := 1) [.int (nI 59)] dX0_readLetters_63 ml_X0_81 mf_X4_pass hP3.1.1.2.2.2.2.1 (hps) rfl rfl (Nat.le_of_ble_eq_true rfl) (Nat.le_of_ble_eq_true rfl) ?_
      rintro _ _ ⟨rfl, rfl⟩
      have hev : eVal b n x 1 = .inl (sk b n (we b n x)) := by unfold eVal qVal; rw [if_neg (by decide), if_neg (by omega)]; show (match qSign b n (we b n x) 59 with | .inl p3 => _ | .inr p3 => _) = _; unfold qSign; rw [if_neg hq]
      rw [hev]
      have hsn := sk_n (b := b) hE
      have hG4 : FrG [(258, 1)] [] T3 (cmv T3 (sk b n (we b n x))) := FrG.si FrG.rf (by simp) _
      exact xe_retz dX0_readLetters_66 rfl (by first | exact Or.inl rfl | exact Or.inr rfl) (⟨rfl, ((hP3.mv hu hG4 (by simp) rfl hsn).fail 1 (sk b n (we b n x))).pre ((hFF1.tr hF3).tr (PFr.ofG hG4 (by simp) (by simp))) (fun c' _ => Jk.up rfl c')⟩)
  · -- pc 19
    have h16 := cv_nle (by omega) (by omega) h16
    refine xe (fun _ _ kK => x_aload_n dX0_readLetters_19 rfl 0 rfl kK) ?_
    refine xe (fun _ _ kK => x_get dX0_readLetters_20 fl_X0_9 hC0a.1 (gvl_r1 fz_0_0.2.2 (show e_r T1 0 rd = some 1 from hC0a.2.1)) kK) ?_
    refine xe_callV (a := 1) [] dX0_readLetters_23 ml_X0_154 mf_X4_failAtLetterTooMany hLa.1.2.2.2.2.1 (c_X4_tooMany (d + 4) hLa.1 hW1.2.1) rfl rfl (Nat.le_of_ble_eq_true rfl) (Nat.le_of_ble_eq_true rfl) ?_
    rintro _ _ ⟨rfl, rfl⟩
    have hev : eVal b n x 1 = .inl (x + 8) := by unfold eVal qVal; rw [if_neg (by decide), if_pos (by omega)]
    rw [hev]
    exact xe_retz dX0_readLetters_26 rfl (by first | exact Or.inl rfl | exact Or.inr rfl) (⟨rfl, (hP1.fail 1 (x + 8)).pre hFF1 (fun _ _ => Jk.rf)⟩)

set_option maxHeartbeats 4000000 in
theorem l_X0_readNumber (d : Nat) {rd cu i n dep : Nat} {s : Sh} {en : Nat → Nat} {lo : Nat → Option Nat} {b : Nat → Nat} {o : Option Nat} {th : Nat → Bool} {lv : Nat → Nat} {A : Nat → Nat → Nat} {cp : Nat → Nat} {RR : Nat → List Row} (hZ : PZ cu i s en lo) {q f lev nb : Nat} {P : Option Value → TH → Prop} : ∀ (m k : Nat) (T : TH), 6 - k = m → k ≤ 6 → q + k ≤ de b n q → PRs T rd cu i s en lo n b (q + k) o dep th lv A cp RR → (∀ (k' : Nat) (T1 : TH), PRs T1 rd cu i s en lo n b (q + k') o dep th lv A cp RR → FrG [(258, 1)] [] T T1 → k' ≤ 6 → q + k' ≤ de b n q → (k' = 6 ∨ q + k' = de b n q) → Xe m_X0_readNumber (d + 6) 100 [(5, .long (lN (dv b q (q + k')))), (4, .int (nI k')), (3, .int (nI nb)), (0, .ref rd), (1, .int (nI f)), (2, .int (nI lev))] [] T1 P) → Xe m_X0_readNumber (d + 6) 41 [(5, .long (lN (dv b q (q + k)))), (4, .int (nI k)), (3, .int (nI nb)), (0, .ref rd), (1, .int (nI f)), (2, .int (nI lev))] [] T P := by
  intro m
  induction m using Nat.strongRecOn with
  | ind m ih =>
    intro k T hm hk6 hde h hno
    subst hm
    obtain ⟨hL, hS, hK, hC0, hV0, hA, hR, ⟨hs1, hs2, hs3⟩, hf1, hf2⟩ := id h
    obtain ⟨hu, hV, ⟨hs60, h12⟩, hi30, hWl, hNb⟩ := id hZ
    have hpn := hL.2.2.2.2.1
    have hn4 := hL.2.2.2.2.2
    have hB : ∀ j, j < n → b j < 256 := fun j hj => (hL.2.1 j hj).2
    refine xe (fun _ _ kK => x_iload dX0_readNumber_41 1 rfl kK) ?_
    refine xe (fun _ _ kK => x_bipush dX0_readNumber_43 (show _ = nI 6 by decide) kK) ?_
    refine xe_icmp_ge (tgt := 100) dX0_readNumber_45 (by decide) (fun h45 => ?_) (fun h45 => ?_)
    · -- pc 100
      have h45 := cv_le (by omega) (by omega) h45
      exact hno k T h FrG.rf hk6 hde (Or.inl (by omega))
    · -- pc 48
      have h45 := cv_nle (by omega) (by omega) h45
      refine xe (fun _ _ kK => x_aload_n dX0_readNumber_48 rfl 3 rfl kK) ?_
      refine xe (fun _ _ kK => x_get dX0_readNumber_49 fl_X0_9 hC0.1 (gvl_r1 fz_0_0.2.2 (show e_r T 0 rd = some 1 from hC0.2.1)) kK) ?_
      refine xe_callV (a := 1) [] dX0_readNumber_52 ml_X0_139 mf_X4_here hL.1.2.2.2.2.1 (c_X4_here (d + 5) hL) rfl rfl (Nat.le_of_ble_eq_true rfl) (Nat.le_of_ble_eq_true rfl) ?_
      rintro _ T9 ⟨rfl, hTq9⟩
      refine xe_T hTq9 ?_
      refine xe_callSN [.int (pk b n (q + k))] dX0_readNumber_55 ml_X0_133 mf_X7_isDigit (c_X7_isDigit_pk (d + 5) T hB) rfl rfl (Nat.le_of_ble_eq_true rfl) (Nat.le_of_ble_eq_true rfl) ?_
      rintro _ T9 ⟨rfl, hTq9⟩
      refine xe_T hTq9 ?_
      refine xe_if_eq (tgt := 100) dX0_readNumber_58 (by decide) (fun h58 => ?_) (fun h58 => ?_)
      · -- pc 100
        have h58 := cv_b0 h58
        have hst : q + k = de b n q := by
          have h1 := de_mid (b := b) (n := n) k q hde
          rcases Nat.lt_or_ge (q + k) n with z | z
          · have : isD (b (q + k)) = false := by unfold pD at h58; simpa [z] using h58
            rw [de_stop this] at h1; exact h1
          · rw [de_out z] at h1; exact h1
        exact hno k T h FrG.rf hk6 hde (Or.inr hst)
      · -- pc 61
        have h58 := cv_b1 h58
        have hd2 : q + k < n ∧ isD (b (q + k)) = true := by unfold pD at h58; simpa using h58
        have hd3 := isD_le hd2.2
        have hpk : pk b n (q + k) = nI (b (q + k)) := by rw [pk, if_pos hd2.1]
        have hde2 : q + (k + 1) ≤ de b n q := by have h1 := de_mid (b := b) (n := n) k q hde; have := de_pos hd2.1 hd2.2; omega
        refine xe (fun _ _ kK => x_lload dX0_readNumber_61 0 rfl kK) ?_
        refine xe (fun _ _ kK => x_ldc2 dX0_readNumber_63 kl_X0_142 kK) ?_
        refine xe_tl (show _ = lN 10 from by decide) ?_
        refine xe (fun _ _ kK => x_lmul dX0_readNumber_66 kK) ?_
        refine xe_tl (show _ = lN ((dv b q (q + k)) * 10) from lN_mul (dv b q (q + k)) 10) ?_
        refine xe (fun _ _ kK => x_aload_n dX0_readNumber_67 rfl 3 rfl kK) ?_
        refine xe (fun _ _ kK => x_get dX0_readNumber_68 fl_X0_9 hC0.1 (gvl_r1 fz_0_0.2.2 (show e_r T 0 rd = some 1 from hC0.2.1)) kK) ?_
        refine xe_callV (a := 1) [] dX0_readNumber_71 ml_X0_139 mf_X4_here hL.1.2.2.2.2.1 (by have := c_X4_here (d + 5) hL; rw [hpk] at this; exact this) rfl rfl (Nat.le_of_ble_eq_true rfl) (Nat.le_of_ble_eq_true rfl) ?_
        rintro _ T9 ⟨rfl, hTq9⟩
        refine xe_T hTq9 ?_
        refine xe (fun _ _ kK => x_bipush dX0_readNumber_74 (show _ = nI 48 by decide) kK) ?_
        refine xe (fun _ _ kK => x_isub dX0_readNumber_76 kK) ?_
        refine xe_ti (show _ = nI (b (q + k) - 48) from pk_sub hd3.1) ?_
        refine xe (fun _ _ kK => x_i2l dX0_readNumber_77 kK) ?_
        refine xe_tl (show _ = lN (b (q + k) - 48) from nI_l (by omega)) ?_
        refine xe (fun _ _ kK => x_ladd dX0_readNumber_78 kK) ?_
        refine xe_tl (show _ = lN (((dv b q (q + k)) * 10) + (b (q + k) - 48)) from lN_add ((dv b q (q + k)) * 10) (b (q + k) - 48)) ?_
        refine xe (fun _ _ kK => x_lstore dX0_readNumber_79 (by decide) (show _ = [(5, .long (lN (((dv b q (q + k)) * 10) + (b (q + k) - 48)))), (4, .int (nI k)), (3, .int (nI nb)), (0, .ref rd), (1, .int (nI f)), (2, .int (nI lev))] from rfl) kK) ?_
        refine xe (fun _ _ kK => x_aload_n dX0_readNumber_81 rfl 3 rfl kK) ?_
        refine xe (fun _ _ kK => x_get dX0_readNumber_82 fl_X0_9 hC0.1 (gvl_r1 fz_0_0.2.2 (show e_r T 0 rd = some 1 from hC0.2.1)) kK) ?_
        refine xe (fun _ _ kK => x_dup dX0_readNumber_85 rfl kK) ?_
        refine xe (fun _ _ kK => x_get dX0_readNumber_86 fl_X0_75 hL.1.2.2.2.2.1 (gvl_i fz_4_2.2.2 (show e_i T 258 1 = nI (q + k) from hL.2.2.1)) kK) ?_
        refine xe (fun _ _ kK => x_iconst dX0_readNumber_89 (show _ = nI 1 by decide) kK) ?_
        refine xe (fun _ _ kK => x_iadd dX0_readNumber_90 kK) ?_
        refine xe_ti (show _ = nI ((q + k) + 1) from nI_add (q + k) 1) ?_
        refine xe (fun _ _ kK => x_puti dX0_readNumber_91 ⟨fl_X0_75, fz_4_2.1, fz_4_2.2.1⟩ (Or.inl fz_4_2.2.2) rfl rfl hL.1.2.2.2.2.1 kK) ?_
        refine xe (fun _ _ kK => x_iinc dX0_readNumber_94 1 rfl (show (nI k) + Int32.ofInt 1 = nI (k + 1) from nI_add k 1) (by decide) (show _ = [(4, .int (nI (k + 1))), (5, .long (lN (((dv b q (q + k)) * 10) + (b (q + k) - 48)))), (3, .int (nI nb)), (0, .ref rd), (1, .int (nI f)), (2, .int (nI lev))] from rfl) kK) ?_
        refine xe (fun _ _ kK => x_goto (tgt := 41) dX0_readNumber_97 (by decide) kK) ?_
        have hG : FrG [(258, 1)] [] T (s_i T 258 1 (nI ((q + k) + 1))) := (FrG.si FrG.rf (by simp) _)
        have hP2 := h.mv hu hG (by simp) (show e_i (s_i T 258 1 (nI ((q + k) + 1))) 258 1 = nI (q + (k + 1)) from rfl) (by omega)
        refine xe_loc (L' := [(5, .long (lN (dv b q (q + (k + 1))))), (4, .int (nI (k + 1))), (3, .int (nI nb)), (0, .ref rd), (1, .int (nI f)), (2, .int (nI lev))]) (by rw [show q + (k + 1) = q + k + 1 by omega, dv_step (by omega), show 10 * dv b q (q + k) + (b (q + k) - 48) = dv b q (q + k) * 10 + (b (q + k) - 48) by omega]; simp) ?_
        exact ih (6 - (k + 1)) (by omega) (k + 1) _ rfl (by omega) hde2 hP2 (fun k' T9 h9 hF9 => hno k' T9 h9 (FrG.tr hG hF9))

set_option maxHeartbeats 4000000 in
theorem c_X0_readNumber (d : Nat) {T : TH} {rd cu i n x dep : Nat} {s : Sh} {en : Nat → Nat} {lo : Nat → Option Nat} {b : Nat → Nat} {o : Option Nat} {th : Nat → Bool} {lv : Nat → Nat} {A : Nat → Nat → Nat} {cp : Nat → Nat} {RR : Nat → List Row} (h : PRs T rd cu i s en lo n b x o dep th lv A cp RR) (hZ : PZ cu i s en lo) {c f lev : Nat} (hf : f < s.1) (hlo : lo f = some c) (hc : c < s.2.1) (hl3 : (RR c).length < 3000) (hx : x < n) : Xe m_X0_readNumber (d + 6) 0 [(0, .ref rd), (1, .int (nI f)), (2, .int (nI lev))] [] T (VlP T rd cu i s en lo n b o dep th lv cp RR c f lev (eVal b n x 0)) := by
  obtain ⟨hL, hS, hK, hC0, hV0, hA, hR, ⟨hs1, hs2, hs3⟩, hf1, hf2⟩ := id h
  obtain ⟨hu, hV, ⟨hs60, h12⟩, hi30, hWl, hNb⟩ := id hZ
  have hpn := hL.2.2.2.2.1
  have hn4 := hL.2.2.2.2.2
  have hB : ∀ j, j < n → b j < 256 := fun j hj => (hL.2.1 j hj).2
  refine xe (fun _ _ kK => x_aload_n dX0_readNumber_0 rfl 0 rfl kK) ?_
  refine xe (fun _ _ kK => x_get dX0_readNumber_1 fl_X0_9 hC0.1 (gvl_r1 fz_0_0.2.2 (show e_r T 0 rd = some 1 from hC0.2.1)) kK) ?_
  refine xe_callV (a := 1) [] dX0_readNumber_4 ml_X0_139 mf_X4_here hL.1.2.2.2.2.1 (c_X4_here (d + 5) hL) rfl rfl (Nat.le_of_ble_eq_true rfl) (Nat.le_of_ble_eq_true rfl) ?_
  rintro _ T9 ⟨rfl, hTq9⟩
  refine xe_T hTq9 ?_
  refine xe (fun _ _ kK => x_bipush dX0_readNumber_7 (show _ = nI 45 by decide) kK) ?_
  by_cases h45 : b x = 45
  · -- pc 9
    refine xe (fun _ _ kK => x_icmp_neF (tgt := 16) dX0_readNumber_9 (by decide) (pk_is ⟨hx, h45⟩) kK) ?_
    refine xe (fun _ _ kK => x_iconst dX0_readNumber_12 (show _ = nI 1 by decide) kK) ?_
    refine xe (fun _ _ kK => x_goto (tgt := 17) dX0_readNumber_13 (by decide) kK) ?_
    refine xe (fun _ _ kK => x_istore_n dX0_readNumber_17 rfl (by decide) (show _ = [(3, .int (nI 1)), (0, .ref rd), (1, .int (nI f)), (2, .int (nI lev))] from rfl) kK) ?_
    refine xe (fun _ _ kK => x_iload_n dX0_readNumber_18 rfl 0 rfl kK) ?_
    refine xe (fun _ _ kK => x_if_eqF (tgt := 35) dX0_readNumber_19 (by decide) (show ¬ nI 1 = 0 by decide) kK) ?_
    refine xe (fun _ _ kK => x_aload_n dX0_readNumber_22 rfl 1 rfl kK) ?_
    refine xe (fun _ _ kK => x_get dX0_readNumber_23 fl_X0_9 hC0.1 (gvl_r1 fz_0_0.2.2 (show e_r T 0 rd = some 1 from hC0.2.1)) kK) ?_
    refine xe (fun _ _ kK => x_dup dX0_readNumber_26 rfl kK) ?_
    refine xe (fun _ _ kK => x_get dX0_readNumber_27 fl_X0_75 hL.1.2.2.2.2.1 (gvl_i fz_4_2.2.2 (show e_i T 258 1 = nI x from hL.2.2.1)) kK) ?_
    refine xe (fun _ _ kK => x_iconst dX0_readNumber_30 (show _ = nI 1 by decide) kK) ?_
    refine xe (fun _ _ kK => x_iadd dX0_readNumber_31 kK) ?_
    refine xe_ti (show _ = nI (x + 1) from nI_add x 1) ?_
    refine xe (fun _ _ kK => x_puti dX0_readNumber_32 ⟨fl_X0_75, fz_4_2.1, fz_4_2.2.1⟩ (Or.inl fz_4_2.2.2) rfl rfl hL.1.2.2.2.2.1 kK) ?_
    refine xe (fun _ _ kK => x_iconst dX0_readNumber_35 (show _ = nI 0 by decide) kK) ?_
    refine xe (fun _ _ kK => x_istore dX0_readNumber_36 (by decide) (show _ = [(4, .int (nI 0)), (3, .int (nI 1)), (0, .ref rd), (1, .int (nI f)), (2, .int (nI lev))] from rfl) kK) ?_
    refine xe (fun _ _ kK => x_lconst dX0_readNumber_38 (show _ = lN 0 by decide) kK) ?_
    refine xe (fun _ _ kK => x_lstore dX0_readNumber_39 (by decide) (show _ = [(5, .long (lN 0)), (4, .int (nI 0)), (3, .int (nI 1)), (0, .ref rd), (1, .int (nI f)), (2, .int (nI lev))] from rfl) kK) ?_
    have hG0 : FrG [(258, 1)] [] T (s_i T 258 1 (nI (x + 1))) := (FrG.si FrG.rf (by simp) _)
    have hP0 : PRs (s_i T 258 1 (nI (x + 1))) rd cu i s en lo n b (x + 1 + 0) o dep th lv A cp RR := h.mv hu hG0 (by simp) rfl (by omega)
    generalize hT0 : (s_i T 258 1 (nI (x + 1))) = T0 at hG0 hP0 ⊢
    have hde := de_ge b n (x + 1)
    refine xe_loc (L' := [(5, .long (lN (dv b (x + 1) ((x + 1) + 0)))), (4, .int (nI 0)), (3, .int (nI 1)), (0, .ref rd), (1, .int (nI f)), (2, .int (nI lev))]) (by rw [Nat.add_zero, dv_self]; simp) ?_
    refine l_X0_readNumber d hZ (q := (x + 1)) 6 0 T0 rfl (by omega) (by omega) hP0 (fun k' T1 h1 hG1 hk6 hkd hke => ?_)
    obtain ⟨hLa, hSa, hKa, hC0a, hV0a, hAa, hRa, ⟨hs1a, hs2a, hs3a⟩, hf1a, hf2a⟩ := id h1
    have hpna := hLa.2.2.2.2.1
    have hFF1 : PFr T T1 cp cp := PFr.ofG (FrG.tr hG0 hG1) (by simp) (by simp)
    have hd1 := de_mid (b := b) (n := n) k' (x + 1) hkd
    refine xe (fun _ _ kK => x_iload dX0_readNumber_100 1 rfl kK) ?_
    refine xe_if_eq (tgt := 118) dX0_readNumber_102 (by decide) (fun h102 => ?_) (fun h102 => ?_)
    · -- pc 118
      have h102 := cv_z (by omega) h102
      refine xe (fun _ _ kK => x_aload_n dX0_readNumber_118 rfl 3 rfl kK) ?_
      refine xe (fun _ _ kK => x_get dX0_readNumber_119 fl_X0_9 hC0a.1 (gvl_r1 fz_0_0.2.2 (show e_r T1 0 rd = some 1 from hC0a.2.1)) kK) ?_
      refine xe (fun _ _ kK => x_iconst dX0_readNumber_122 (show _ = nI 1 by decide) kK) ?_
      refine xe_callV (a := 1) [.int (nI 1)] dX0_readNumber_123 ml_X0_63 mf_X4_failHere hLa.1.2.2.2.2.1 (c_X4_failHere (d + 4) hLa.1 hLa.2.2.1 1) rfl rfl (Nat.le_of_ble_eq_true rfl) (Nat.le_of_ble_eq_true rfl) ?_
      rintro _ _ ⟨rfl, rfl⟩
      have hev : eVal b n x 0 = .inl ((x + 1) + k') := by unfold eVal qVal; rw [if_pos rfl, (show nst b x = (x + 1) by unfold nst; rw [if_pos h45])]; rw [if_pos (by omega)]; subst h102; rfl
      rw [hev]
      exact xe_retz dX0_readNumber_126 rfl (by first | exact Or.inl rfl | exact Or.inr rfl) (⟨rfl, (h1.fail 1 ((x + 1) + k')).pre hFF1 (fun _ _ => Jk.rf)⟩)
    · -- pc 105
      have h102 := cv_nz (by omega) h102
      refine xe (fun _ _ kK => x_aload_n dX0_readNumber_105 rfl 3 rfl kK) ?_
      refine xe (fun _ _ kK => x_get dX0_readNumber_106 fl_X0_9 hC0a.1 (gvl_r1 fz_0_0.2.2 (show e_r T1 0 rd = some 1 from hC0a.2.1)) kK) ?_
      refine xe_callV (a := 1) [] dX0_readNumber_109 ml_X0_139 mf_X4_here hLa.1.2.2.2.2.1 (c_X4_here (d + 5) hLa) rfl rfl (Nat.le_of_ble_eq_true rfl) (Nat.le_of_ble_eq_true rfl) ?_
      rintro _ T9 ⟨rfl, hTq9⟩
      refine xe_T hTq9 ?_
      refine xe_callSN [.int (pk b n ((x + 1) + k'))] dX0_readNumber_112 ml_X0_133 mf_X7_isDigit (c_X7_isDigit_pk (d + 5) T1 hB) rfl rfl (Nat.le_of_ble_eq_true rfl) (Nat.le_of_ble_eq_true rfl) ?_
      rintro _ T9 ⟨rfl, hTq9⟩
      refine xe_T hTq9 ?_
      refine xe_if_eq (tgt := 127) dX0_readNumber_115 (by decide) (fun h115 => ?_) (fun h115 => ?_)
      · -- pc 127
        have h115 := cv_b0 h115
        have hkE : (x + 1) + k' = de b n (x + 1) := by
          rcases Nat.lt_or_ge ((x + 1) + k') n with z | z
          · have : isD (b ((x + 1) + k')) = false := by unfold pD at h115; simpa [z] using h115
            rw [de_stop this] at hd1; exact hd1
          · rw [de_out z] at hd1; exact hd1
        refine xe (fun _ _ kK => x_aload_n dX0_readNumber_127 rfl 3 rfl kK) ?_
        refine xe (fun _ _ kK => x_aload_n dX0_readNumber_128 rfl 3 rfl kK) ?_
        refine xe (fun _ _ kK => x_get dX0_readNumber_129 fl_X0_15 hC0a.1 (gvl_r1 fz_0_1.2.2 (show e_r T1 1 rd = some cu from hC0a.2.2.1)) kK) ?_
        refine xe (fun _ _ kK => x_get dX0_readNumber_132 fl_X0_144 hSa.1.1 (gvl_r1 fz_1_8.2.2 (show e_r T1 72 cu = some (cu + 9) from (hSa.1.2.1 8 (by decide)))) kK) ?_
        refine xe (fun _ _ kK => x_iload_n dX0_readNumber_135 rfl 4 rfl kK) ?_
        refine xe (fun _ _ kK => x_iald dX0_readNumber_136 (show e_K _ (cu + 9) = 20 from (hSa.1.2.2.1 8 (by decide))) (show (nI f) = nI f from rfl) (shi_len hSa.1 8 (by decide) (show f < 66 by omega)) (show e_ai T1 (cu + 9) f = nI c from ((hSa.2.2.2.1 f hf).2.2.2.2.2.trans (by rw [hlo]; rfl))) kK) ?_
        refine xe (fun _ _ kK => x_iload_n dX0_readNumber_137 rfl 5 rfl kK) ?_
        refine xe (fun _ _ kK => x_aload_n dX0_readNumber_138 rfl 3 rfl kK) ?_
        refine xe (fun _ _ kK => x_get dX0_readNumber_139 fl_X0_15 hC0a.1 (gvl_r1 fz_0_1.2.2 (show e_r T1 1 rd = some cu from hC0a.2.2.1)) kK) ?_
        refine xe (fun _ _ kK => x_get dX0_readNumber_142 fl_X0_147 hSa.1.1 (gvl_r1 fz_1_5.2.2 (show e_r T1 69 cu = some (cu + 6) from (hSa.1.2.1 5 (by decide)))) kK) ?_
        refine xe (fun _ _ kK => x_iload_n dX0_readNumber_145 rfl 4 rfl kK) ?_
        refine xe (fun _ _ kK => x_iald dX0_readNumber_146 (show e_K _ (cu + 6) = 20 from (hSa.1.2.2.1 5 (by decide))) (show (nI f) = nI f from rfl) (shi_len hSa.1 5 (by decide) (show f < 66 by omega)) (show e_ai T1 (cu + 6) f = nI (dgo s (some f)) from (hKa f hf _ (hV.up hf).1).1) kK) ?_
        refine xe (fun _ _ kK => x_iload_n dX0_readNumber_147 rfl 2 rfl kK) ?_
        refine xe (fun _ _ kK => x_if_eqF (tgt := 157) dX0_readNumber_148 (by decide) (show ¬ nI 1 = 0 by decide) kK) ?_
        refine xe (fun _ _ kK => x_lload dX0_readNumber_151 0 rfl kK) ?_
        refine xe (fun _ _ kK => x_lneg dX0_readNumber_153 kK) ?_
        refine xe (fun _ _ kK => x_goto (tgt := 159) dX0_readNumber_154 (by decide) kK) ?_
        refine xe_callV (a := rd) [.int (nI c), .int (nI lev), .int (nI (dgo s (some f))), .long (-(lN (dv b (x + 1) ((x + 1) + k'))))] dX0_readNumber_159 ml_X0_150 mf_X0_lay hC0a.1 (c_X0_lay (d + 1) h1 hZ (c := c) (lev := lev) (t := dgo s (some f)) (v := (-(lN (dv b (x + 1) ((x + 1) + k'))))) hc hl3 true) rfl rfl (Nat.le_of_ble_eq_true rfl) (Nat.le_of_ble_eq_true rfl) ?_
        rintro _ T3 ⟨rfl, A3, cp3, hP3, hF3⟩
        refine xe (fun _ _ kK => x_aload_n dX0_readNumber_162 rfl 3 rfl kK) ?_
        refine xe (fun _ _ kK => x_get dX0_readNumber_163 fl_X0_9 hP3.2.2.2.1.1 (gvl_r1 fz_0_0.2.2 (show e_r T3 0 rd = some 1 from hP3.2.2.2.1.2.1)) kK) ?_
        refine xe (fun _ _ kK => x_bipush dX0_readNumber_166 (show _ = nI 59 by decide) kK) ?_
        have hps := c_X4_pass (d + 3) hP3.1 (c := 59) (by decide)
        have hE := hP3.1.2.2.2.2.1
        by_cases hq : sk b n ((x + 1) + k') < n ∧ b (sk b n ((x + 1) + k')) = 59
        · -- pc 168
          rw [if_pos hq] at hps
          refine xe_callV (a := 1) [.int (nI 59)] dX0_readNumber_168 ml_X0_81 mf_X4_pass hP3.1.1.2.2.2.2.1 (hps) rfl rfl (Nat.le_of_ble_eq_true rfl) (Nat.le_of_ble_eq_true rfl) ?_
          rintro _ _ ⟨rfl, rfl⟩
          have hev : eVal b n x 0 = .inr (sk b n ((x + 1) + k') + 1, (-(lN (dv b (x + 1) ((x + 1) + k'))))) := by unfold eVal qVal; rw [if_pos rfl, (show nst b x = (x + 1) by unfold nst; rw [if_pos h45]), ← hkE, if_neg (by omega), if_neg (by omega)]; rw [show nvl b x ((x + 1) + k') = (-(lN (dv b (x + 1) ((x + 1) + k')))) by unfold nvl; rw [if_pos h45, (show nst b x = (x + 1) by unfold nst; rw [if_pos h45])]]; show (match qSign b n ((x + 1) + k') 59 with | .inl p3 => _ | .inr p3 => _) = _; unfold qSign; rw [if_pos hq]
          rw [hev]
          have hG4 : FrG [(258, 1)] [] T3 (cmv T3 (sk b n ((x + 1) + k') + 1)) := FrG.si FrG.rf (by simp) _
          exact xe_retz dX0_readNumber_171 rfl (by first | exact Or.inl rfl | exact Or.inr rfl) (⟨rfl, A3, cp3, hP3.mv hu hG4 (by simp) rfl (by omega), (hFF1.tr hF3).tr (PFr.ofG hG4 (by simp) (by simp))⟩)
        · -- pc 168
          rw [if_neg hq] at hps
          refine xe_callV (a := 1) [.int (nI 59)] dX0_readNumber_168 ml_X0_81 mf_X4_pass hP3.1.1.2.2.2.2.1 (hps) rfl rfl (Nat.le_of_ble_eq_true rfl) (Nat.le_of_ble_eq_true rfl) ?_
          rintro _ _ ⟨rfl, rfl⟩
          have hev : eVal b n x 0 = .inl (sk b n ((x + 1) + k')) := by unfold eVal qVal; rw [if_pos rfl, (show nst b x = (x + 1) by unfold nst; rw [if_pos h45]), ← hkE, if_neg (by omega), if_neg (by omega)]; rw [show nvl b x ((x + 1) + k') = (-(lN (dv b (x + 1) ((x + 1) + k')))) by unfold nvl; rw [if_pos h45, (show nst b x = (x + 1) by unfold nst; rw [if_pos h45])]]; show (match qSign b n ((x + 1) + k') 59 with | .inl p3 => _ | .inr p3 => _) = _; unfold qSign; rw [if_neg hq]
          rw [hev]
          have hsn := sk_n (b := b) hE
          have hG4 : FrG [(258, 1)] [] T3 (cmv T3 (sk b n ((x + 1) + k'))) := FrG.si FrG.rf (by simp) _
          exact xe_retz dX0_readNumber_171 rfl (by first | exact Or.inl rfl | exact Or.inr rfl) (⟨rfl, ((hP3.mv hu hG4 (by simp) rfl hsn).fail 1 (sk b n ((x + 1) + k'))).pre ((hFF1.tr hF3).tr (PFr.ofG hG4 (by simp) (by simp))) (fun c' _ => Jk.up rfl c')⟩)
      · -- pc 118
        have h115 := cv_b1 h115
        have hd9 : (x + 1) + k' < n ∧ isD (b ((x + 1) + k')) = true := by unfold pD at h115; simpa using h115
        have hgt := de_pos hd9.1 hd9.2
        have hk9 : k' = 6 := by omega
        refine xe (fun _ _ kK => x_aload_n dX0_readNumber_118 rfl 3 rfl kK) ?_
        refine xe (fun _ _ kK => x_get dX0_readNumber_119 fl_X0_9 hC0a.1 (gvl_r1 fz_0_0.2.2 (show e_r T1 0 rd = some 1 from hC0a.2.1)) kK) ?_
        refine xe (fun _ _ kK => x_iconst dX0_readNumber_122 (show _ = nI 1 by decide) kK) ?_
        refine xe_callV (a := 1) [.int (nI 1)] dX0_readNumber_123 ml_X0_63 mf_X4_failHere hLa.1.2.2.2.2.1 (c_X4_failHere (d + 4) hLa.1 hLa.2.2.1 1) rfl rfl (Nat.le_of_ble_eq_true rfl) (Nat.le_of_ble_eq_true rfl) ?_
        rintro _ _ ⟨rfl, rfl⟩
        have hev : eVal b n x 0 = .inl ((x + 1) + k') := by unfold eVal qVal; rw [if_pos rfl, (show nst b x = (x + 1) by unfold nst; rw [if_pos h45])]; rw [if_neg (by omega), if_pos (by omega), hk9]
        rw [hev]
        exact xe_retz dX0_readNumber_126 rfl (by first | exact Or.inl rfl | exact Or.inr rfl) (⟨rfl, (h1.fail 1 ((x + 1) + k')).pre hFF1 (fun _ _ => Jk.rf)⟩)
  · -- pc 9
    refine xe (fun _ _ kK => x_icmp_neT (tgt := 16) dX0_readNumber_9 (by decide) (pk_not hB (by decide) (fun z => h45 z.2)) kK) ?_
    refine xe (fun _ _ kK => x_iconst dX0_readNumber_16 (show _ = nI 0 by decide) kK) ?_
    refine xe (fun _ _ kK => x_istore_n dX0_readNumber_17 rfl (by decide) (show _ = [(3, .int (nI 0)), (0, .ref rd), (1, .int (nI f)), (2, .int (nI lev))] from rfl) kK) ?_
    refine xe (fun _ _ kK => x_iload_n dX0_readNumber_18 rfl 0 rfl kK) ?_
    refine xe (fun _ _ kK => x_if_eqT (tgt := 35) dX0_readNumber_19 (by decide) nI_0 kK) ?_
    refine xe (fun _ _ kK => x_iconst dX0_readNumber_35 (show _ = nI 0 by decide) kK) ?_
    refine xe (fun _ _ kK => x_istore dX0_readNumber_36 (by decide) (show _ = [(4, .int (nI 0)), (3, .int (nI 0)), (0, .ref rd), (1, .int (nI f)), (2, .int (nI lev))] from rfl) kK) ?_
    refine xe (fun _ _ kK => x_lconst dX0_readNumber_38 (show _ = lN 0 by decide) kK) ?_
    refine xe (fun _ _ kK => x_lstore dX0_readNumber_39 (by decide) (show _ = [(5, .long (lN 0)), (4, .int (nI 0)), (3, .int (nI 0)), (0, .ref rd), (1, .int (nI f)), (2, .int (nI lev))] from rfl) kK) ?_
    have hde := de_ge b n x
    refine xe_loc (L' := [(5, .long (lN (dv b x (x + 0)))), (4, .int (nI 0)), (3, .int (nI 0)), (0, .ref rd), (1, .int (nI f)), (2, .int (nI lev))]) (by rw [Nat.add_zero, dv_self]; simp) ?_
    refine l_X0_readNumber d hZ (q := x) 6 0 T rfl (by omega) (by omega) h (fun k' T1 h1 hG1 hk6 hkd hke => ?_)
    obtain ⟨hLa, hSa, hKa, hC0a, hV0a, hAa, hRa, ⟨hs1a, hs2a, hs3a⟩, hf1a, hf2a⟩ := id h1
    have hpna := hLa.2.2.2.2.1
    have hFF1 : PFr T T1 cp cp := PFr.ofG (hG1) (by simp) (by simp)
    have hd1 := de_mid (b := b) (n := n) k' x hkd
    refine xe (fun _ _ kK => x_iload dX0_readNumber_100 1 rfl kK) ?_
    refine xe_if_eq (tgt := 118) dX0_readNumber_102 (by decide) (fun h102 => ?_) (fun h102 => ?_)
    · -- pc 118
      have h102 := cv_z (by omega) h102
      refine xe (fun _ _ kK => x_aload_n dX0_readNumber_118 rfl 3 rfl kK) ?_
      refine xe (fun _ _ kK => x_get dX0_readNumber_119 fl_X0_9 hC0a.1 (gvl_r1 fz_0_0.2.2 (show e_r T1 0 rd = some 1 from hC0a.2.1)) kK) ?_
      refine xe (fun _ _ kK => x_iconst dX0_readNumber_122 (show _ = nI 1 by decide) kK) ?_
      refine xe_callV (a := 1) [.int (nI 1)] dX0_readNumber_123 ml_X0_63 mf_X4_failHere hLa.1.2.2.2.2.1 (c_X4_failHere (d + 4) hLa.1 hLa.2.2.1 1) rfl rfl (Nat.le_of_ble_eq_true rfl) (Nat.le_of_ble_eq_true rfl) ?_
      rintro _ _ ⟨rfl, rfl⟩
      have hev : eVal b n x 0 = .inl (x + k') := by unfold eVal qVal; rw [if_pos rfl, (show nst b x = x by unfold nst; rw [if_neg h45])]; rw [if_pos (by omega)]; subst h102; rfl
      rw [hev]
      exact xe_retz dX0_readNumber_126 rfl (by first | exact Or.inl rfl | exact Or.inr rfl) (⟨rfl, (h1.fail 1 (x + k')).pre hFF1 (fun _ _ => Jk.rf)⟩)
    · -- pc 105
      have h102 := cv_nz (by omega) h102
      refine xe (fun _ _ kK => x_aload_n dX0_readNumber_105 rfl 3 rfl kK) ?_
      refine xe (fun _ _ kK => x_get dX0_readNumber_106 fl_X0_9 hC0a.1 (gvl_r1 fz_0_0.2.2 (show e_r T1 0 rd = some 1 from hC0a.2.1)) kK) ?_
      refine xe_callV (a := 1) [] dX0_readNumber_109 ml_X0_139 mf_X4_here hLa.1.2.2.2.2.1 (c_X4_here (d + 5) hLa) rfl rfl (Nat.le_of_ble_eq_true rfl) (Nat.le_of_ble_eq_true rfl) ?_
      rintro _ T9 ⟨rfl, hTq9⟩
      refine xe_T hTq9 ?_
      refine xe_callSN [.int (pk b n (x + k'))] dX0_readNumber_112 ml_X0_133 mf_X7_isDigit (c_X7_isDigit_pk (d + 5) T1 hB) rfl rfl (Nat.le_of_ble_eq_true rfl) (Nat.le_of_ble_eq_true rfl) ?_
      rintro _ T9 ⟨rfl, hTq9⟩
      refine xe_T hTq9 ?_
      refine xe_if_eq (tgt := 127) dX0_readNumber_115 (by decide) (fun h115 => ?_) (fun h115 => ?_)
      · -- pc 127
        have h115 := cv_b0 h115
        have hkE : x + k' = de b n x := by
          rcases Nat.lt_or_ge (x + k') n with z | z
          · have : isD (b (x + k')) = false := by unfold pD at h115; simpa [z] using h115
            rw [de_stop this] at hd1; exact hd1
          · rw [de_out z] at hd1; exact hd1
        refine xe (fun _ _ kK => x_aload_n dX0_readNumber_127 rfl 3 rfl kK) ?_
        refine xe (fun _ _ kK => x_aload_n dX0_readNumber_128 rfl 3 rfl kK) ?_
        refine xe (fun _ _ kK => x_get dX0_readNumber_129 fl_X0_15 hC0a.1 (gvl_r1 fz_0_1.2.2 (show e_r T1 1 rd = some cu from hC0a.2.2.1)) kK) ?_
        refine xe (fun _ _ kK => x_get dX0_readNumber_132 fl_X0_144 hSa.1.1 (gvl_r1 fz_1_8.2.2 (show e_r T1 72 cu = some (cu + 9) from (hSa.1.2.1 8 (by decide)))) kK) ?_
        refine xe (fun _ _ kK => x_iload_n dX0_readNumber_135 rfl 4 rfl kK) ?_
        refine xe (fun _ _ kK => x_iald dX0_readNumber_136 (show e_K _ (cu + 9) = 20 from (hSa.1.2.2.1 8 (by decide))) (show (nI f) = nI f from rfl) (shi_len hSa.1 8 (by decide) (show f < 66 by omega)) (show e_ai T1 (cu + 9) f = nI c from ((hSa.2.2.2.1 f hf).2.2.2.2.2.trans (by rw [hlo]; rfl))) kK) ?_
        refine xe (fun _ _ kK => x_iload_n dX0_readNumber_137 rfl 5 rfl kK) ?_
        refine xe (fun _ _ kK => x_aload_n dX0_readNumber_138 rfl 3 rfl kK) ?_
        refine xe (fun _ _ kK => x_get dX0_readNumber_139 fl_X0_15 hC0a.1 (gvl_r1 fz_0_1.2.2 (show e_r T1 1 rd = some cu from hC0a.2.2.1)) kK) ?_
        refine xe (fun _ _ kK => x_get dX0_readNumber_142 fl_X0_147 hSa.1.1 (gvl_r1 fz_1_5.2.2 (show e_r T1 69 cu = some (cu + 6) from (hSa.1.2.1 5 (by decide)))) kK) ?_
        refine xe (fun _ _ kK => x_iload_n dX0_readNumber_145 rfl 4 rfl kK) ?_
        refine xe (fun _ _ kK => x_iald dX0_readNumber_146 (show e_K _ (cu + 6) = 20 from (hSa.1.2.2.1 5 (by decide))) (show (nI f) = nI f from rfl) (shi_len hSa.1 5 (by decide) (show f < 66 by omega)) (show e_ai T1 (cu + 6) f = nI (dgo s (some f)) from (hKa f hf _ (hV.up hf).1).1) kK) ?_
        refine xe (fun _ _ kK => x_iload_n dX0_readNumber_147 rfl 2 rfl kK) ?_
        refine xe (fun _ _ kK => x_if_eqT (tgt := 157) dX0_readNumber_148 (by decide) nI_0 kK) ?_
        refine xe (fun _ _ kK => x_lload dX0_readNumber_157 0 rfl kK) ?_
        refine xe_callV (a := rd) [.int (nI c), .int (nI lev), .int (nI (dgo s (some f))), .long (lN (dv b x (x + k')))] dX0_readNumber_159 ml_X0_150 mf_X0_lay hC0a.1 (c_X0_lay (d + 1) h1 hZ (c := c) (lev := lev) (t := dgo s (some f)) (v := lN (dv b x (x + k'))) hc hl3 true) rfl rfl (Nat.le_of_ble_eq_true rfl) (Nat.le_of_ble_eq_true rfl) ?_
        rintro _ T3 ⟨rfl, A3, cp3, hP3, hF3⟩
        refine xe (fun _ _ kK => x_aload_n dX0_readNumber_162 rfl 3 rfl kK) ?_
        refine xe (fun _ _ kK => x_get dX0_readNumber_163 fl_X0_9 hP3.2.2.2.1.1 (gvl_r1 fz_0_0.2.2 (show e_r T3 0 rd = some 1 from hP3.2.2.2.1.2.1)) kK) ?_
        refine xe (fun _ _ kK => x_bipush dX0_readNumber_166 (show _ = nI 59 by decide) kK) ?_
        have hps := c_X4_pass (d + 3) hP3.1 (c := 59) (by decide)
        have hE := hP3.1.2.2.2.2.1
        by_cases hq : sk b n (x + k') < n ∧ b (sk b n (x + k')) = 59
        · -- pc 168
          rw [if_pos hq] at hps
          refine xe_callV (a := 1) [.int (nI 59)] dX0_readNumber_168 ml_X0_81 mf_X4_pass hP3.1.1.2.2.2.2.1 (hps) rfl rfl (Nat.le_of_ble_eq_true rfl) (Nat.le_of_ble_eq_true rfl) ?_
          rintro _ _ ⟨rfl, rfl⟩
          have hev : eVal b n x 0 = .inr (sk b n (x + k') + 1, lN (dv b x (x + k'))) := by unfold eVal qVal; rw [if_pos rfl, (show nst b x = x by unfold nst; rw [if_neg h45]), ← hkE, if_neg (by omega), if_neg (by omega)]; rw [show nvl b x (x + k') = lN (dv b x (x + k')) by unfold nvl; rw [if_neg h45, (show nst b x = x by unfold nst; rw [if_neg h45])]]; show (match qSign b n (x + k') 59 with | .inl p3 => _ | .inr p3 => _) = _; unfold qSign; rw [if_pos hq]
          rw [hev]
          have hG4 : FrG [(258, 1)] [] T3 (cmv T3 (sk b n (x + k') + 1)) := FrG.si FrG.rf (by simp) _
          exact xe_retz dX0_readNumber_171 rfl (by first | exact Or.inl rfl | exact Or.inr rfl) (⟨rfl, A3, cp3, hP3.mv hu hG4 (by simp) rfl (by omega), (hFF1.tr hF3).tr (PFr.ofG hG4 (by simp) (by simp))⟩)
        · -- pc 168
          rw [if_neg hq] at hps
          refine xe_callV (a := 1) [.int (nI 59)] dX0_readNumber_168 ml_X0_81 mf_X4_pass hP3.1.1.2.2.2.2.1 (hps) rfl rfl (Nat.le_of_ble_eq_true rfl) (Nat.le_of_ble_eq_true rfl) ?_
          rintro _ _ ⟨rfl, rfl⟩
          have hev : eVal b n x 0 = .inl (sk b n (x + k')) := by unfold eVal qVal; rw [if_pos rfl, (show nst b x = x by unfold nst; rw [if_neg h45]), ← hkE, if_neg (by omega), if_neg (by omega)]; rw [show nvl b x (x + k') = lN (dv b x (x + k')) by unfold nvl; rw [if_neg h45, (show nst b x = x by unfold nst; rw [if_neg h45])]]; show (match qSign b n (x + k') 59 with | .inl p3 => _ | .inr p3 => _) = _; unfold qSign; rw [if_neg hq]
          rw [hev]
          have hsn := sk_n (b := b) hE
          have hG4 : FrG [(258, 1)] [] T3 (cmv T3 (sk b n (x + k'))) := FrG.si FrG.rf (by simp) _
          exact xe_retz dX0_readNumber_171 rfl (by first | exact Or.inl rfl | exact Or.inr rfl) (⟨rfl, ((hP3.mv hu hG4 (by simp) rfl hsn).fail 1 (sk b n (x + k'))).pre ((hFF1.tr hF3).tr (PFr.ofG hG4 (by simp) (by simp))) (fun c' _ => Jk.up rfl c')⟩)
      · -- pc 118
        have h115 := cv_b1 h115
        have hd9 : x + k' < n ∧ isD (b (x + k')) = true := by unfold pD at h115; simpa using h115
        have hgt := de_pos hd9.1 hd9.2
        have hk9 : k' = 6 := by omega
        refine xe (fun _ _ kK => x_aload_n dX0_readNumber_118 rfl 3 rfl kK) ?_
        refine xe (fun _ _ kK => x_get dX0_readNumber_119 fl_X0_9 hC0a.1 (gvl_r1 fz_0_0.2.2 (show e_r T1 0 rd = some 1 from hC0a.2.1)) kK) ?_
        refine xe (fun _ _ kK => x_iconst dX0_readNumber_122 (show _ = nI 1 by decide) kK) ?_
        refine xe_callV (a := 1) [.int (nI 1)] dX0_readNumber_123 ml_X0_63 mf_X4_failHere hLa.1.2.2.2.2.1 (c_X4_failHere (d + 4) hLa.1 hLa.2.2.1 1) rfl rfl (Nat.le_of_ble_eq_true rfl) (Nat.le_of_ble_eq_true rfl) ?_
        rintro _ _ ⟨rfl, rfl⟩
        have hev : eVal b n x 0 = .inl (x + k') := by unfold eVal qVal; rw [if_pos rfl, (show nst b x = x by unfold nst; rw [if_neg h45])]; rw [if_neg (by omega), if_pos (by omega), hk9]
        rw [hev]
        exact xe_retz dX0_readNumber_126 rfl (by first | exact Or.inl rfl | exact Or.inr rfl) (⟨rfl, (h1.fail 1 (x + k')).pre hFF1 (fun _ _ => Jk.rf)⟩)
