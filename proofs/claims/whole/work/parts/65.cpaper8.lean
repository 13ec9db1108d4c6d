/-! TreeTables.paper -/
def P2 (x : Nat) : Prop := x = 0 ∨ P1 x
/-- what stays over a PAPER's reading -/
def PPst (T T1 : TH) (A' : Nat → Nat → Nat) (cp cp' : Nat → Nat) : Prop := CI T1 ∧ TbA T1 A' cp' ∧ FrA P2 T T1 ∧ (∀ c g, c < 12 → g ≠ 196 → e_i T1 g (4 + 5 * c) = e_i T g (4 + 5 * c)) ∧ (e_n T1 + smC cp 12 ≤ e_n T + 3 + smC cp' 12 ∧ e_s T1 + 12 * smC cp 12 ≤ e_s T + 79 + 12 * smC cp' 12) ∧ (e_r T1 451 0 = e_r T 451 0 ∧ e_r T1 452 0 = e_r T 452 0)
theorem rowAt_l {R J : List Row} {k : Nat} (h : k < R.length) : rowAt (R ++ J) k = rowAt R k := by unfold rowAt; simp [List.getD, List.getElem?_append_left h]
theorem rowAt_r {R J : List Row} {k : Nat} (h : R.length ≤ k) : rowAt (R ++ J) k = rowAt J (k - R.length) := by unfold rowAt; simp [List.getD, List.getElem?_append_right h]
theorem rowAt_mem {R : List Row} {k : Nat} (h : k < R.length) : rowAt R k ∈ R := List.mem_of_getElem? (rowAt_get h)
theorem fgR_keep {i : Nat} {R J : List Row} (h : ∀ k, k < R.length → (rowAt R k).2.2.2.2 < i) (hJ : ∀ r ∈ J, r.2.2.2.2 = i) : fgR i (R ++ J) = R := by
  have h' : ∀ r ∈ R, r.2.2.2.2 < i := fun r hr => by
    obtain ⟨k, hk, e⟩ := List.getElem_of_mem hr
    have := h k hk
    unfold rowAt at this
    rw [List.getD_eq_getElem?_getD, List.getElem?_eq_getElem hk, Option.getD_some, e] at this
    exact this
  rw [fgR_app]
  have e1 : fgR i J = [] := by
    unfold fgR
    rw [List.filter_eq_nil_iff.mpr (fun r hr => by simp [hJ r hr])]; rfl
  have e2 : fgR i R = R := by
    unfold fgR
    rw [List.filter_eq_self.mpr (fun r hr => by have := h' r hr; simp; omega)]
    clear h
    induction R with
    | nil => rfl
    | cons r R ih =>
      rw [List.map_cons, ih (fun q hq => h' q (List.mem_cons_of_mem _ hq))]
      have := h' r List.mem_cons_self
      unfold shR
      rw [if_neg (by omega)]
  rw [e1, e2, List.append_nil]

set_option maxHeartbeats 4000000 in
theorem c_X7_paper0 (d : Nat) {T : TH} {cu np : Nat} {s : Sh} (hU : CU T cu s.2.1) (hnp : e_i T 453 0 = nI np) (hn30 : np ≤ 30) (hno : s.2.1 = 0 ∨ 30 ≤ np) : Xe m_X7_paper d 0 [(0, .ref 0)] [] T (fun r T1 => r = some (.int (-2)) ∧ T1 = s_i T 257 1 (nI 0)) := by
  have h12 := hU.2.2.2.2
  refine xe (fun _ _ kK => x_aload_n dX7_paper_0 rfl 0 rfl kK) ?_
  refine xe (fun _ _ kK => x_get dX7_paper_1 fl_X7_33 hU.1.1 (gvl_r1 fz_7_3.2.2 (show e_r T 451 0 = some cu from hU.2.1)) kK) ?_
  refine xe (fun _ _ kK => x_get dX7_paper_4 fl_X7_60 (hU.1.sh hU.2.2.1).1 (gvl_i fz_1_11.2.2 (show e_i T 75 cu = nI s.2.1 from hU.2.2.2.1)) kK) ?_
  refine xe_if_eq (tgt := 19) dX7_paper_7 (by decide) (fun h7 => ?_) (fun h7 => ?_)
  · -- pc 19
    have h7 := cv_z (by omega) h7
    refine xe (fun _ _ kK => x_aload_n dX7_paper_19 rfl 0 rfl kK) ?_
    refine xe (fun _ _ kK => x_get dX7_paper_20 fl_X7_12 hU.1.1 (gvl_r1 fz_7_0.2.2 (show e_r T 448 0 = some 1 from hU.1.2.1)) kK) ?_
    refine xe (fun _ _ kK => x_iconst dX7_paper_23 (show _ = nI 0 by decide) kK) ?_
    refine xe (fun _ _ kK => x_puti dX7_paper_24 ⟨fl_X7_44, fz_4_1.1, fz_4_1.2.1⟩ (Or.inl fz_4_1.2.2) rfl rfl hU.1.2.2.2.2.1 kK) ?_
    refine xe (fun _ _ kK => x_bipush dX7_paper_27 (show _ = (-2) by decide) kK) ?_
    exact xe_reti dX7_paper_29 rfl (⟨rfl, rfl⟩)
  · -- pc 10
    have h7 := cv_nz (by omega) h7
    refine xe (fun _ _ kK => x_aload_n dX7_paper_10 rfl 0 rfl kK) ?_
    refine xe (fun _ _ kK => x_get dX7_paper_11 fl_X7_40 hU.1.1 (gvl_i fz_7_5.2.2 (show e_i T 453 0 = nI np from hnp)) kK) ?_
    refine xe (fun _ _ kK => x_bipush dX7_paper_14 (show _ = nI 30 by decide) kK) ?_
    refine xe (fun _ _ kK => x_icmp_ltF (tgt := 30) dX7_paper_16 (by decide) (fun z9 => by have := cv_lt (by omega) (by omega) z9; omega) kK) ?_
    refine xe (fun _ _ kK => x_aload_n dX7_paper_19 rfl 0 rfl kK) ?_
    refine xe (fun _ _ kK => x_get dX7_paper_20 fl_X7_12 hU.1.1 (gvl_r1 fz_7_0.2.2 (show e_r T 448 0 = some 1 from hU.1.2.1)) kK) ?_
    refine xe (fun _ _ kK => x_iconst dX7_paper_23 (show _ = nI 0 by decide) kK) ?_
    refine xe (fun _ _ kK => x_puti dX7_paper_24 ⟨fl_X7_44, fz_4_1.1, fz_4_1.2.1⟩ (Or.inl fz_4_1.2.2) rfl rfl hU.1.2.2.2.2.1 kK) ?_
    refine xe (fun _ _ kK => x_bipush dX7_paper_27 (show _ = (-2) by decide) kK) ?_
    exact xe_reti dX7_paper_29 rfl (⟨rfl, rfl⟩)

set_option maxHeartbeats 4000000 in
theorem c_X7_paper (d : Nat) {T : TH} {A : Nat → Nat → Nat} {cp : Nat → Nat} {cu np n : Nat} {s : Sh} {en : Nat → Nat} {lo : Nat → Option Nat} {b : Nat → Nat} {R0 : Nat → List Row} (hU : CU T cu s.2.1) (hnp : e_i T 453 0 = nI np) (hnp30 : np < 30) (hL0 : 0 < s.2.1) (hB : CBt T n b) (hn : e_i T 257 1 = nI n) (hn4 : n ≤ 400) (hS : CSp T cu s en lo) (hK : MsK T cu s s.1) (hV : ShV s [] en lo) (hs60 : s.1 ≤ 60) (hWl : ∀ f g, f < s.1 → s.2.2.1 f = some g → g < f) (hNb : ∀ f, f < s.1 → s.2.2.2.1 f < 27 ^ 8) (hA : TbA T A cp) (hR : ∀ c, c < s.2.1 → TbR T A cp c (R0 c)) (hR0 : ∀ c, c < s.2.1 → (R0 c).length ≤ 2900) (hP0 : ∀ c, c < s.2.1 → ∀ k, k < (R0 c).length → (rowAt (R0 c) k).2.2.2.2 < np) : Xe m_X7_paper (d + 11) 0 [(0, .ref 0)] [] T (fun r T1 => match qPaper s b n with
      | .inl (k, q) => r = some (.int (-1)) ∧ ∃ A' cp', PPst T T1 A' cp cp' ∧ e_i T1 257 1 = nI 0 ∧ FailC T1 k q ∧ e_i T1 453 0 = nI np ∧ ∀ c, c < s.2.1 → TbR T1 A' cp' c (R0 c)
      | .inr pa => r = some (.int (nI (np + 1))) ∧ ∃ A' cp', PPst T T1 A' cp cp' ∧ e_i T1 257 1 = nI 0 ∧ e_i T1 259 1 = nI 0 ∧ e_i T1 260 1 = -1 ∧ e_i T1 453 0 = nI (np + 1) ∧ (∀ c, c < s.2.1 → TbR T1 A' cp' c (R0 c ++ rwG s.2.2.2.2.2.1 pa np (road s c) 0 0 0 0) ∧ (rwG s.2.2.2.2.2.1 pa np (road s c) 0 0 0 0).length ≤ 100) ∧ TVd s pa [] (n + 2) ∧ pa.2.1 0 = none ∧ pa.2.2.1 0 = none ∧ 0 < pa.1) := by
  have h12 := hU.2.2.2.2
  refine xe (fun _ _ kK => x_aload_n dX7_paper_0 rfl 0 rfl kK) ?_
  refine xe (fun _ _ kK => x_get dX7_paper_1 fl_X7_33 hU.1.1 (gvl_r1 fz_7_3.2.2 (show e_r T 451 0 = some cu from hU.2.1)) kK) ?_
  refine xe (fun _ _ kK => x_get dX7_paper_4 fl_X7_60 (hU.1.sh hU.2.2.1).1 (gvl_i fz_1_11.2.2 (show e_i T 75 cu = nI s.2.1 from hU.2.2.2.1)) kK) ?_
  refine xe (fun _ _ kK => x_if_eqF (tgt := 19) dX7_paper_7 (by decide) (fun z9 => by have := cv_z (by omega) z9; omega) kK) ?_
  refine xe (fun _ _ kK => x_aload_n dX7_paper_10 rfl 0 rfl kK) ?_
  refine xe (fun _ _ kK => x_get dX7_paper_11 fl_X7_40 hU.1.1 (gvl_i fz_7_5.2.2 (show e_i T 453 0 = nI np from hnp)) kK) ?_
  refine xe (fun _ _ kK => x_bipush dX7_paper_14 (show _ = nI 30 by decide) kK) ?_
  refine xe (fun _ _ kK => x_icmp_ltT (tgt := 30) dX7_paper_16 (by decide) ((nI_ltI (by omega) (by omega)).mpr (by omega)) kK) ?_
  refine xe (fun _ _ kK => x_new dX7_paper_30 kc_X7_66 kK) ?_
  have hA0 : FrA (fun x => x = e_n T) T (s_new T (0 + 1) (nfd 0)) := FrA.rf.new rfl
  have hK0 : e_K (s_new T (0 + 1) (nfd 0)) (e_n T) = 1 := sn_K
  have hn0 : e_n (s_new T (0 + 1) (nfd 0)) = e_n T + 1 := rfl
  have hs0 : e_s (s_new T (0 + 1) (nfd 0)) = e_s T + 8 := rfl
  have h120 := hA.2.2.2
  have hno0 : ∀ a, a < 88 → (a < 4 ∨ 64 ≤ a) → ¬ a = e_n T := fun a h1 h2 => by omega
  have hU0 := hU.ofA hA0 hno0
  have hnp0 := (hA0.i (g := 453) (hno0 0 (by omega) (by omega))).trans hnp
  generalize hT0 : s_new T (0 + 1) (nfd 0) = T0 at hA0 hK0 hn0 hs0 hU0 hnp0 ⊢
  refine xe (fun _ _ kK => x_dup dX7_paper_33 rfl kK) ?_
  refine xe (fun _ _ kK => x_aload_n dX7_paper_34 rfl 0 rfl kK) ?_
  refine xe (fun _ _ kK => x_get dX7_paper_35 fl_X7_12 hU0.1.1 (gvl_r1 fz_7_0.2.2 (show e_r T0 448 0 = some 1 from hU0.1.2.1)) kK) ?_
  refine xe (fun _ _ kK => x_aload_n dX7_paper_38 rfl 0 rfl kK) ?_
  refine xe (fun _ _ kK => x_get dX7_paper_39 fl_X7_33 hU0.1.1 (gvl_r1 fz_7_3.2.2 (show e_r T0 451 0 = some cu from hU0.2.1)) kK) ?_
  refine xe (fun _ _ kK => x_aload_n dX7_paper_42 rfl 0 rfl kK) ?_
  refine xe (fun _ _ kK => x_get dX7_paper_43 fl_X7_18 hU0.1.1 (gvl_r1 fz_7_1.2.2 (show e_r T0 449 0 = some 3 from hU0.1.2.2.1)) kK) ?_
  refine xe (fun _ _ kK => x_aload_n dX7_paper_46 rfl 0 rfl kK) ?_
  refine xe (fun _ _ kK => x_get dX7_paper_47 fl_X7_40 hU0.1.1 (gvl_i fz_7_5.2.2 (show e_i T0 453 0 = nI np from hnp0)) kK) ?_
  refine xe_callI (a := (e_n T)) [.ref 1, .ref cu, .ref 3, .int (nI np)] dX7_paper_50 ml_X7_68 mf_X0_init (c_X0_init (d + 9) (i := np) hK0 hn0) rfl rfl (Nat.le_of_ble_eq_true rfl) (Nat.le_of_ble_eq_true rfl) ?_
  rintro _ T1 ⟨rfl, hPC, hPV, hn1, hs1, hA1⟩
  have hAA : FrA (fun x => e_n T ≤ x) T T1 := (hA0.mono (fun x hx => by omega)).tr (hA1.mono (fun x hx => hx.1))
  have hnoA : ∀ a, a < 120 → ¬ e_n T ≤ a := fun a h1 => by omega
  have hcu := hU.2.2.1
  have hU1 := hU.ofA hAA (fun a h1 h2 => hnoA a (by omega))
  have hTA1 : TbA T1 A cp := hA.ofA hAA (fun c hc => hnoA _ (by omega)) (fun c k hc hk => by have := (hA.2.1 c k hc hk).2.2.2.1; omega)
  have hAl : ∀ c k, c < 12 → k < 4 → A c k < e_n T := fun c k hc hk => (hA.2.1 c k hc hk).2.2.2.1
  have hZ : PZ cu np s en lo := ⟨hcu, hV, ⟨hs60, h12⟩, hnp30, hWl, hNb⟩
  refine xe_callV (a := (e_n T)) [] dX7_paper_53 ml_X7_71 mf_X0_readAll hPC.1 (c_X0_readAll (d + 0) hZ hR0 hU1.1 (hB.ofA hAA (hnoA 2 (by omega))) ((hAA.i (hnoA 1 (by omega))).trans hn) hn4 (hS.ofA hAA (fun a h1 h2 => hnoA a (by omega))) (hK.ofA hAA (fun a h1 h2 => hnoA a (by omega))) hPC hPV hTA1 (fun c hc => (hR c hc).ofA hAA (hnoA _ (by omega)) (fun k hk => by have := hAl c k (by omega) hk; omega)) (fun c k hc hk => Or.inl (hAl c k hc hk)) h120 (by omega)) rfl rfl (Nat.le_of_ble_eq_true rfl) (Nat.le_of_ble_eq_true rfl) ?_
  intro r2 T2 h2
  have hF0 : FrA P1 T T1 := hAA.mono (fun x hx => Or.inr (Or.inr (by omega)))
  have np0 : ¬ P1 0 := by unfold P1; omega
  have npc : ¬ P1 cu := by unfold P1; omega
  have hme0 : ∀ c g, c < 12 → g ≠ 196 → e_i T1 g (4 + 5 * c) = e_i T g (4 + 5 * c) := fun c g hc _ => hAA.i (hnoA _ (by omega))
  cases hq : qPaper s b n with
  | inl z =>
    obtain ⟨k9, q9⟩ := z
    rw [hq] at h2
    obtain ⟨rfl, A', cp', RR', hF2, hC2, hA2, hR2, hE2⟩ := h2
    have hU2 : CU T2 cu s.2.1 := ⟨hC2, (hF2.1.r np0).trans hU1.2.1, hcu, (hF2.1.i npc).trans hU1.2.2.2.1, h12⟩
    have hnp2 : e_i T2 453 0 = nI np := (hF2.1.i np0).trans ((hAA.i (hnoA 0 (by omega))).trans hnp)
    refine xe (fun _ _ kK => x_istore_n dX7_paper_56 rfl (by decide) (show _ = [(1, .int (nI 0)), (0, .ref 0)] from rfl) kK) ?_
    refine xe (fun _ _ kK => x_aload_n dX7_paper_57 rfl 1 rfl kK) ?_
    refine xe (fun _ _ kK => x_get dX7_paper_58 fl_X7_12 hU2.1.1 (gvl_r1 fz_7_0.2.2 (show e_r T2 448 0 = some 1 from hU2.1.2.1)) kK) ?_
    refine xe (fun _ _ kK => x_iconst dX7_paper_61 (show _ = nI 0 by decide) kK) ?_
    refine xe (fun _ _ kK => x_puti dX7_paper_62 ⟨fl_X7_44, fz_4_1.1, fz_4_1.2.1⟩ (Or.inl fz_4_1.2.2) rfl rfl hU2.1.2.2.2.2.1 kK) ?_
    refine xe (fun _ _ kK => x_iload_n dX7_paper_65 rfl 0 rfl kK) ?_
    refine xe (fun _ _ kK => x_if_neF (tgt := 79) dX7_paper_66 (by decide) nI_0 kK) ?_
    refine xe (fun _ _ kK => x_aload_n dX7_paper_69 rfl 1 rfl kK) ?_
    refine xe (fun _ _ kK => x_aload_n dX7_paper_70 rfl 1 rfl kK) ?_
    refine xe (fun _ _ kK => x_get dX7_paper_71 fl_X7_40 (wK_i hU2.1.1) (gvl_i fz_7_5.2.2 (show e_i (s_i T2 257 1 (nI 0)) 453 0 = nI np from (wi_i (fun q => absurd q.1 (by decide)) hnp2))) kK) ?_
    have hG3 : FrG [(257, 1)] [] T2 (s_i T2 257 1 (nI 0)) := (FrG.si FrG.rf (by simp) _)
    have hU3 : CU (s_i T2 257 1 (nI 0)) cu s.2.1 := ⟨hG3.ci hC2, hU2.2.1, hcu, (hG3.i (by simp <;> omega)).trans hU2.2.2.2.1, h12⟩
    have hA3 := hA2.ofG hG3
    have hnp3 : e_i (s_i T2 257 1 (nI 0)) 453 0 = nI np := (hG3.i (by simp)).trans hnp2
    have z257 : e_i (s_i T2 257 1 (nI 0)) 257 1 = nI 0 := by simp [q_i_i, q_i_l, q_i_ai, q_i_al, q_ai_ai, q_ai_i, q_ai_l, q_ai_al, q_al_al, q_al_i, q_al_ai, q_al_l, q_l_i, q_l_l, q_l_ai, q_l_al, q_r_r, q_r_i, q_r_l, q_r_ai, q_r_al, q_i_r, q_l_r, q_ai_r, q_al_r, q_K_i, q_K_r, q_K_l, q_K_ai, q_K_al, q_len_i, q_len_r, q_len_l, q_len_ai, q_len_al, q_n_i, q_n_r, q_n_l, q_n_ai, q_n_al, q_s_i, q_s_r, q_s_l, q_s_ai, q_s_al]
    generalize hT3 : (s_i T2 257 1 (nI 0)) = T3 at hG3 hU3 hA3 hnp3 z257 ⊢
    have hPR : ∀ c, c < s.2.1 → ∀ k, k < (RR' c).length → (rowAt (RR' c) k).2.2.2.2 < 2 ^ 31 := fun c hc k hk => by
      obtain ⟨J, hJ1, hJ2⟩ := (hR2 c hc).2
      rw [hJ1] at hk ⊢
      rcases Nat.lt_or_ge k (R0 c).length with z | z
      · have h9 := hP0 c hc k z; rw [rowAt_l z]; omega
      · have hm : rowAt (R0 c ++ J) k ∈ J := by rw [rowAt_r z]; exact rowAt_mem (by simp at hk; omega)
        rw [hJ2 _ hm]; omega
    refine xe_callV (a := 0) [.int (nI np)] dX7_paper_74 ml_X7_72 mf_X7_forgetRows hU3.1.1 (c_X7_forgetRows (d + 9) (RR := RR') (i := np) hU3 hA3 hPR (by omega) (fun c hc => (hR2 c hc).1.ofG hG3 (by simp) (by simp))) rfl rfl (Nat.le_of_ble_eq_true rfl) (Nat.le_of_ble_eq_true rfl) ?_
    rintro _ T4 ⟨rfl, hG4⟩
    refine xe (fun _ _ kK => x_iconst dX7_paper_77 (show _ = (-1) by decide) kK) ?_
    obtain ⟨f1, f2, f3, f4, f5, f6⟩ := hG4
    have hts : ∀ a, (a < 4 ∨ (64 ≤ a ∧ a < 120)) → ¬ TS A' a := fun a h => TS.no hA3 h
    have hC4 := hU3.1.ofA f1 (fun a h1 h2 => hts a (by omega))
    refine xe_reti dX7_paper_78 rfl (⟨rfl, A', cp', ⟨hC4, f4, ?_, ?_, ⟨?_, ?_⟩, ?_, ?_⟩, (f1.i (hts 1 (by omega))).trans z257, ⟨(f1.i (hts 1 (by omega))).trans ((hG3.i (by simp)).trans hE2.1), (f1.i (hts 1 (by omega))).trans ((hG3.i (by simp)).trans hE2.2)⟩, (f1.i (hts 0 (by omega))).trans hnp3, fun c hc => ?_⟩)
    · refine (hF0.mono (fun _ => Or.inr)).tr ((hF2.1.mono (fun _ => Or.inr)).tr ((hG3.A (fun q hq => ?_) (fun a ha => absurd ha List.not_mem_nil)).tr (f1.mono (fun x hx => ?_))))
      · simp at hq; rw [hq]; exact Or.inr (Or.inl rfl)
      · rcases hx with ⟨c, hc, e⟩ | ⟨c, k, hc, hk, e⟩
        · exact Or.inr (Or.inr (Or.inl (by omega)))
        · have := (hA3.2.1 c k hc hk).2.2.2.2; exact Or.inr (by unfold P1; omega)
    · intro c g hc hg; rw [f6 c g hg, hG3.i (by simp <;> omega), hF2.2.1 c g hc hg]; exact hme0 c g hc hg
    · have := hF2.2.2.1; rw [f2, hG3.2.2.2.2.1]; omega
    · have := hF2.2.2.2.1; rw [f3, hG3.2.2.2.2.2.1]; omega
    · rw [f1.r (hts 0 (by omega)), hG3.2.1, hF2.1.r np0, hAA.r (hnoA 0 (by omega))]
    · rw [f1.r (hts 0 (by omega)), hG3.2.1, hF2.1.r np0, hAA.r (hnoA 0 (by omega))]
    · have h9 := f5 c hc; rw [if_pos hc] at h9; obtain ⟨J, hJ1, hJ2⟩ := (hR2 c hc).2; rw [hJ1, fgR_keep (hP0 c hc) hJ2] at h9; exact h9
  | inr pa =>
    rw [hq] at h2
    obtain ⟨rfl, A', cp', hF2, hC2, hA2, hR2, hE2, hTv, hpa⟩ := h2
    have hU2 : CU T2 cu s.2.1 := ⟨hC2, (hF2.1.r np0).trans hU1.2.1, hcu, (hF2.1.i npc).trans hU1.2.2.2.1, h12⟩
    have hnp2 : e_i T2 453 0 = nI np := (hF2.1.i np0).trans ((hAA.i (hnoA 0 (by omega))).trans hnp)
    refine xe (fun _ _ kK => x_istore_n dX7_paper_56 rfl (by decide) (show _ = [(1, .int (nI 1)), (0, .ref 0)] from rfl) kK) ?_
    refine xe (fun _ _ kK => x_aload_n dX7_paper_57 rfl 1 rfl kK) ?_
    refine xe (fun _ _ kK => x_get dX7_paper_58 fl_X7_12 hU2.1.1 (gvl_r1 fz_7_0.2.2 (show e_r T2 448 0 = some 1 from hU2.1.2.1)) kK) ?_
    refine xe (fun _ _ kK => x_iconst dX7_paper_61 (show _ = nI 0 by decide) kK) ?_
    refine xe (fun _ _ kK => x_puti dX7_paper_62 ⟨fl_X7_44, fz_4_1.1, fz_4_1.2.1⟩ (Or.inl fz_4_1.2.2) rfl rfl hU2.1.2.2.2.2.1 kK) ?_
    refine xe (fun _ _ kK => x_iload_n dX7_paper_65 rfl 0 rfl kK) ?_
    refine xe (fun _ _ kK => x_if_neT (tgt := 79) dX7_paper_66 (by decide) (show ¬ nI 1 = 0 by decide) kK) ?_
    refine xe (fun _ _ kK => x_aload_n dX7_paper_79 rfl 1 rfl kK) ?_
    refine xe (fun _ _ kK => x_dup dX7_paper_80 rfl kK) ?_
    refine xe (fun _ _ kK => x_get dX7_paper_81 fl_X7_40 (wK_i hU2.1.1) (gvl_i fz_7_5.2.2 (show e_i (s_i T2 257 1 (nI 0)) 453 0 = nI np from (wi_i (fun q => absurd q.1 (by decide)) hnp2))) kK) ?_
    refine xe (fun _ _ kK => x_iconst dX7_paper_84 (show _ = nI 1 by decide) kK) ?_
    refine xe (fun _ _ kK => x_iadd dX7_paper_85 kK) ?_
    refine xe_ti (show _ = nI (np + 1) from nI_add np 1) ?_
    refine xe (fun _ _ kK => x_puti dX7_paper_86 ⟨fl_X7_40, fz_7_5.1, fz_7_5.2.1⟩ (Or.inl fz_7_5.2.2) rfl rfl (wK_i hU2.1.1) kK) ?_
    refine xe (fun _ _ kK => x_aload_n dX7_paper_89 rfl 1 rfl kK) ?_
    refine xe (fun _ _ kK => x_get dX7_paper_90 fl_X7_40 (wK_i (wK_i hU2.1.1)) (gvl_i fz_7_5.2.2 (show e_i (s_i (s_i T2 257 1 (nI 0)) 453 0 (nI (np + 1))) 453 0 = nI (np + 1) from rfl)) kK) ?_
    have hG3 : FrG [(257, 1), (453, 0)] [] T2 (s_i (s_i T2 257 1 (nI 0)) 453 0 (nI (np + 1))) := (FrG.si (FrG.si FrG.rf (by simp) _) (by simp) _)
    exact xe_reti dX7_paper_93 rfl (⟨rfl, A', cp', ⟨hG3.ci hC2, hA2.ofG hG3, (hF0.mono (fun _ => Or.inr)).tr ((hF2.1.mono (fun _ => Or.inr)).tr (hG3.A (fun q hq => by simp at hq; rcases hq with rfl | rfl; exact Or.inr (Or.inl rfl); exact Or.inl rfl) (fun a ha => absurd ha List.not_mem_nil))), fun c g hc hg => by rw [hG3.i (by simp <;> omega), hF2.2.1 c g hc hg]; exact hme0 c g hc hg, ⟨by have := hF2.2.2.1; rw [hG3.2.2.2.2.1]; omega, by have := hF2.2.2.2.1; rw [hG3.2.2.2.2.2.1]; omega⟩, by rw [hG3.2.1, hF2.1.r np0, hAA.r (hnoA 0 (by omega))], by rw [hG3.2.1, hF2.1.r np0, hAA.r (hnoA 0 (by omega))]⟩, by simp [q_i_i, q_i_l, q_i_ai, q_i_al, q_ai_ai, q_ai_i, q_ai_l, q_ai_al, q_al_al, q_al_i, q_al_ai, q_al_l, q_l_i, q_l_l, q_l_ai, q_l_al, q_r_r, q_r_i, q_r_l, q_r_ai, q_r_al, q_i_r, q_l_r, q_ai_r, q_al_r, q_K_i, q_K_r, q_K_l, q_K_ai, q_K_al, q_len_i, q_len_r, q_len_l, q_len_ai, q_len_al, q_n_i, q_n_r, q_n_l, q_n_ai, q_n_al, q_s_i, q_s_r, q_s_l, q_s_ai, q_s_al], (hG3.i (by simp)).trans hE2.1, (hG3.i (by simp)).trans hE2.2, by simp [q_i_i, q_i_l, q_i_ai, q_i_al, q_ai_ai, q_ai_i, q_ai_l, q_ai_al, q_al_al, q_al_i, q_al_ai, q_al_l, q_l_i, q_l_l, q_l_ai, q_l_al, q_r_r, q_r_i, q_r_l, q_r_ai, q_r_al, q_i_r, q_l_r, q_ai_r, q_al_r, q_K_i, q_K_r, q_K_l, q_K_ai, q_K_al, q_len_i, q_len_r, q_len_l, q_len_ai, q_len_al, q_n_i, q_n_r, q_n_l, q_n_ai, q_n_al, q_s_i, q_s_r, q_s_l, q_s_ai, q_s_al], fun c hc => ⟨(hR2 c hc).1.ofG hG3 (by simp) (by simp), (hR2 c hc).2⟩, hTv, hpa⟩)
