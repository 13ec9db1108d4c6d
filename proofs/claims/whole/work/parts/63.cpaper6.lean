/-! the class reads a PAPER -/
theorem qEntry_k {s : Sh} {b : Nat → Nat} {n q x k z : Nat} {pa : Pa} {xs : List Nat} (h : qEntry s b n q pa x xs = .inl (k, z)) : 0 < k ∧ k < 10 := by
  unfold qEntry at h
  split at h
  · cases h; omega
  split at h
  · cases h; omega
  split at h
  · cases h; omega
  split at h
  · cases h; omega
  unfold qTail at h
  split at h
  · cases h; omega
  split at h
  · cases h; omega
  split at h
  · cases h
  split at h
  · cases h; omega
  split at h
  · cases h; omega
  · cases h
theorem qStep_k {s : Sh} {b : Nat → Nat} {n p x k z : Nat} {pa : Pa} {xs : List Nat} (h : qStep s b n p pa (x :: xs) = .inl (k, z)) : 0 < k ∧ k < 10 := by
  unfold qStep at h
  simp only [] at h
  split at h
  · split at h
    · cases h; omega
    · split at h
      · cases h; omega
      · cases h
  split at h
  · split at h
    · cases h; omega
    · split at h
      · cases h; omega
      · cases h
  · cases hm : qEntry s b n (sk b n p) pa x xs with
    | inl y => rw [hm] at h; cases h; exact qEntry_k hm
    | inr y => rw [hm] at h; cases h
def PAL (T T1 : TH) (i : Nat) (s : Sh) (n : Nat) (cp : Nat → Nat) (R0 : Nat → List Row) (z : (Nat × Nat) ⊕ Pa) (r : Option Value) : Prop := match z with
  | .inl (k, q) => r = some (.int (nI 0)) ∧ PJ T T1 s i cp R0 k q
  | .inr pa => r = some (.int (nI 1)) ∧ ∃ A' cp', PFr T T1 cp cp' ∧ CI T1 ∧ TbA T1 A' cp' ∧ (∀ c, c < s.2.1 → TbR T1 A' cp' c (R0 c ++ rwG s.2.2.2.2.2.1 pa i (road s c) 0 0 0 0) ∧ (rwG s.2.2.2.2.2.1 pa i (road s c) 0 0 0 0).length ≤ 100) ∧ (e_i T1 259 1 = nI 0 ∧ e_i T1 260 1 = -1) ∧ TVd s pa [] (n + 2) ∧ pa.2.1 0 = none ∧ pa.2.2.1 0 = none ∧ 0 < pa.1

set_option maxHeartbeats 4000000 in
theorem l_X0_readAll (d : Nat) {T0 : TH} {rd cu i n : Nat} {s : Sh} {en : Nat → Nat} {lo : Nat → Option Nat} {b : Nat → Nat} {cp : Nat → Nat} {R0 : Nat → List Row} (hZ : PZ cu i s en lo) (hR0 : ∀ c, c < s.2.1 → (R0 c).length ≤ 2900) : ∀ (fu k : Nat) (T : TH) (x : Nat) (pa : Pa) (ps : List Nat) (o : Option Nat) (dep : Nat) (th : Nat → Bool) (lv : Nat → Nat) (A1 : Nat → Nat → Nat) (cp1 : Nat → Nat) (RR : Nat → List Row), n - x < fu → k ≤ x → PRs T rd cu i s en lo n b x o dep th lv A1 cp1 RR → REL s i R0 pa ps x o dep th lv RR → TVd s pa (0 :: ps) x → PFr T0 T cp cp1 → Xe m_X0_readAll (d + 10) 11 [(2, .int (nI k)), (1, .int (nI 1)), (0, .ref rd)] [] T (fun r T1 => PAL T0 T1 i s n cp R0 (qLoop s b n fu x pa (gsP ps)) r) := by
  intro fu
  induction fu with
  | zero => intro k T x pa ps o dep th lv A1 cp1 RR hfu; exact absurd hfu (Nat.not_lt_zero _)
  | succ fu ih =>
    intro k T x pa ps o dep th lv A1 cp1 RR hfu hk h hRel hTv hPF
    obtain ⟨hL, hS, hK, hC0, hV0, hA, hR, ⟨hs1, hs2, hs3⟩, hf1, hf2⟩ := id h
    obtain ⟨hu, hV, ⟨hs60, h12⟩, hi30, hWl, hNb⟩ := id hZ
    have hpn := hL.2.2.2.2.1
    have hn4 := hL.2.2.2.2.2
    refine xe (fun _ _ kK => x_iload_n dX0_readAll_11 rfl 0 rfl kK) ?_
    refine xe (fun _ _ kK => x_sipush dX0_readAll_12 (show _ = nI 400 by decide) kK) ?_
    refine xe (fun _ _ kK => x_icmp_gtF (tgt := 67) dX0_readAll_15 (by decide) (fun z9 => by have := cv_lt (by omega) (by omega) z9; omega) kK) ?_
    refine xe (fun _ _ kK => x_iload_n dX0_readAll_18 rfl 1 rfl kK) ?_
    refine xe (fun _ _ kK => x_if_eqF (tgt := 67) dX0_readAll_19 (by decide) (show ¬ nI 1 = 0 by decide) kK) ?_
    obtain ⟨xs, hgs, hxs⟩ := gsP_hd ps
    rw [qLoop]
    refine t_X0_part d h hZ hRel hTv hR0 (fun v9 T2 hst => ?_)
    cases hz : qStep s b n x pa (gsP ps) with
    | inl z =>
      obtain ⟨k9, q9⟩ := z
      rw [hz] at hst
      have hk9 := qStep_k (hgs ▸ hz)
      obtain ⟨hv9, hJ⟩ := hst
      cases hv9
      have hJ0 := hJ.pre hPF (fun c hc => hRel.jk hc)
      obtain ⟨A9, cp9, RR9, q1, q2, q3, q4, q5⟩ := id hJ
      obtain ⟨hK9, hr9⟩ := q1.2.2.2.2 rd (by omega) hC0.1
      rw [hC0.2.1] at hr9
      refine xe (fun _ _ kK => x_iinc dX0_readAll_61 1 rfl (show (nI k) + Int32.ofInt 1 = nI (k + 1) from nI_add k 1) (by decide) (show _ = [(2, .int (nI (k + 1))), (1, .int (nI 0)), (0, .ref rd)] from rfl) kK) ?_
      refine xe (fun _ _ kK => x_goto (tgt := 11) dX0_readAll_64 (by decide) kK) ?_
      refine xe (fun _ _ kK => x_iload_n dX0_readAll_11 rfl 0 rfl kK) ?_
      refine xe (fun _ _ kK => x_sipush dX0_readAll_12 (show _ = nI 400 by decide) kK) ?_
      refine xe_icmp_gt (tgt := 67) dX0_readAll_15 (by decide) (fun h15 => ?_) (fun h15 => ?_)
      · -- pc 67
        refine xe (fun _ _ kK => x_aload_n dX0_readAll_67 rfl 2 rfl kK) ?_
        refine xe (fun _ _ kK => x_get dX0_readAll_68 fl_X0_9 hK9 (gvl_r1 fz_0_0.2.2 (show e_r T2 0 rd = some 1 from hr9)) kK) ?_
        refine xe (fun _ _ kK => x_get dX0_readAll_71 fl_X0_60 q2.2.2.2.2.1 (gvl_i fz_4_3.2.2 (show e_i T2 259 1 = nI k9 from q5.1)) kK) ?_
        refine xe (fun _ _ kK => x_if_neT (tgt := 81) dX0_readAll_74 (by decide) (fun z9 => by have := cv_z (by omega) z9; omega) kK) ?_
        refine xe (fun _ _ kK => x_iconst dX0_readAll_81 (show _ = nI 0 by decide) kK) ?_
        exact xe_retz dX0_readAll_82 rfl (by first | exact Or.inl rfl | exact Or.inr rfl) (⟨rfl, hJ0⟩)
      · -- pc 18
        refine xe (fun _ _ kK => x_iload_n dX0_readAll_18 rfl 1 rfl kK) ?_
        refine xe (fun _ _ kK => x_if_eqT (tgt := 67) dX0_readAll_19 (by decide) rfl kK) ?_
        refine xe (fun _ _ kK => x_aload_n dX0_readAll_67 rfl 2 rfl kK) ?_
        refine xe (fun _ _ kK => x_get dX0_readAll_68 fl_X0_9 hK9 (gvl_r1 fz_0_0.2.2 (show e_r T2 0 rd = some 1 from hr9)) kK) ?_
        refine xe (fun _ _ kK => x_get dX0_readAll_71 fl_X0_60 q2.2.2.2.2.1 (gvl_i fz_4_3.2.2 (show e_i T2 259 1 = nI k9 from q5.1)) kK) ?_
        refine xe (fun _ _ kK => x_if_neT (tgt := 81) dX0_readAll_74 (by decide) (fun z9 => by have := cv_z (by omega) z9; omega) kK) ?_
        refine xe (fun _ _ kK => x_iconst dX0_readAll_81 (show _ = nI 0 by decide) kK) ?_
        exact xe_retz dX0_readAll_82 rfl (by first | exact Or.inl rfl | exact Or.inr rfl) (⟨rfl, hJ0⟩)
    | inr z =>
      cases z with
      | none =>
        rw [hz] at hst
        obtain ⟨hv9, o9, dep9, th9, lv9, A9, cp9, R9, x9, g2, g3, g4, g5, g6, g7, g8⟩ := hst
        cases hv9
        refine xe (fun _ _ kK => x_iinc dX0_readAll_61 1 rfl (show (nI k) + Int32.ofInt 1 = nI (k + 1) from nI_add k 1) (by decide) (show _ = [(2, .int (nI (k + 1))), (1, .int (nI 0)), (0, .ref rd)] from rfl) kK) ?_
        refine xe (fun _ _ kK => x_goto (tgt := 11) dX0_readAll_64 (by decide) kK) ?_
        refine xe (fun _ _ kK => x_iload_n dX0_readAll_11 rfl 0 rfl kK) ?_
        refine xe (fun _ _ kK => x_sipush dX0_readAll_12 (show _ = nI 400 by decide) kK) ?_
        refine xe_icmp_gt (tgt := 67) dX0_readAll_15 (by decide) (fun h15 => ?_) (fun h15 => ?_)
        · -- pc 67
          refine xe (fun _ _ kK => x_aload_n dX0_readAll_67 rfl 2 rfl kK) ?_
          refine xe (fun _ _ kK => x_get dX0_readAll_68 fl_X0_9 g2.2.2.2.1.1 (gvl_r1 fz_0_0.2.2 (show e_r T2 0 rd = some 1 from g2.2.2.2.1.2.1)) kK) ?_
          refine xe (fun _ _ kK => x_get dX0_readAll_71 fl_X0_60 g2.1.1.2.2.2.2.1 (gvl_i fz_4_3.2.2 (show e_i T2 259 1 = nI 0 from g2.2.2.2.2.2.2.2.2.1)) kK) ?_
          refine xe (fun _ _ kK => x_if_neF (tgt := 81) dX0_readAll_74 (by decide) nI_0 kK) ?_
          refine xe (fun _ _ kK => x_iconst dX0_readAll_77 (show _ = nI 1 by decide) kK) ?_
          refine xe (fun _ _ kK => x_goto (tgt := 82) dX0_readAll_78 (by decide) kK) ?_
          exact xe_retz dX0_readAll_82 rfl (by first | exact Or.inl rfl | exact Or.inr rfl) (⟨rfl, A9, cp9, hPF.tr g3, g2.1.1, g2.2.2.2.2.2.1, fun c hc => ⟨(g4 c hc).1 ▸ g2.2.2.2.2.2.2.1 c hc, (g4 c hc).2⟩, g2.2.2.2.2.2.2.2.2, g5, g6, g7, g8⟩)
        · -- pc 18
          refine xe (fun _ _ kK => x_iload_n dX0_readAll_18 rfl 1 rfl kK) ?_
          refine xe (fun _ _ kK => x_if_eqT (tgt := 67) dX0_readAll_19 (by decide) rfl kK) ?_
          refine xe (fun _ _ kK => x_aload_n dX0_readAll_67 rfl 2 rfl kK) ?_
          refine xe (fun _ _ kK => x_get dX0_readAll_68 fl_X0_9 g2.2.2.2.1.1 (gvl_r1 fz_0_0.2.2 (show e_r T2 0 rd = some 1 from g2.2.2.2.1.2.1)) kK) ?_
          refine xe (fun _ _ kK => x_get dX0_readAll_71 fl_X0_60 g2.1.1.2.2.2.2.1 (gvl_i fz_4_3.2.2 (show e_i T2 259 1 = nI 0 from g2.2.2.2.2.2.2.2.2.1)) kK) ?_
          refine xe (fun _ _ kK => x_if_neF (tgt := 81) dX0_readAll_74 (by decide) nI_0 kK) ?_
          refine xe (fun _ _ kK => x_iconst dX0_readAll_77 (show _ = nI 1 by decide) kK) ?_
          refine xe (fun _ _ kK => x_goto (tgt := 82) dX0_readAll_78 (by decide) kK) ?_
          exact xe_retz dX0_readAll_82 rfl (by first | exact Or.inl rfl | exact Or.inr rfl) (⟨rfl, A9, cp9, hPF.tr g3, g2.1.1, g2.2.2.2.2.2.1, fun c hc => ⟨(g4 c hc).1 ▸ g2.2.2.2.2.2.2.1 c hc, (g4 c hc).2⟩, g2.2.2.2.2.2.2.2.2, g5, g6, g7, g8⟩)
      | some z =>
        obtain ⟨p9, pa9, gs9⟩ := z
        rw [hz] at hst
        obtain ⟨hv9, hp9, ps9, o9, dep9, th9, lv9, A9, cp9, R9, hg9, g2, g3, g4, g5⟩ := hst
        cases hv9
        have hp9n := g2.1.2.2.2.2.1
        refine xe (fun _ _ kK => x_iinc dX0_readAll_61 1 rfl (show (nI k) + Int32.ofInt 1 = nI (k + 1) from nI_add k 1) (by decide) (show _ = [(2, .int (nI (k + 1))), (1, .int (nI 1)), (0, .ref rd)] from rfl) kK) ?_
        refine xe (fun _ _ kK => x_goto (tgt := 11) dX0_readAll_64 (by decide) kK) ?_
        show Xe m_X0_readAll (d + 10) 11 _ _ _ (fun r T1 => PAL T0 T1 i s n cp R0 (qLoop s b n fu p9 pa9 gs9) r)
        rw [hg9]
        exact xe_loc (by simp) (ih (k + 1) T2 p9 pa9 ps9 o9 dep9 th9 lv9 A9 cp9 R9 (by omega) (by omega) g2 g3 g4 (hPF.tr g5))
