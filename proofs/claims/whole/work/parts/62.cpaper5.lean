/-! a step of the reader of PAPERS -/
theorem rwQ_pap {M : Nat → Nat} {pa : Pa} {i : Nat} {gs : List Nat} : ∀ (r : List Nat) (x t lev ag : Nat), ∀ q ∈ rwQ M pa i gs r x t lev ag, q.2.2.2.2 = i := by
  intro r
  induction r with
  | nil => intro x t lev ag q hq; rw [rwQ, List.mem_singleton] at hq; rw [hq]
  | cons f fs ih =>
    intro x t lev ag q hq
    rw [rwQ_c] at hq
    cases hc : ch pa x f (x + 1) with
    | nil =>
      rw [hc] at hq
      have hq' : q ∈ (if x ∈ gs then [] else [((lev, t, false, lN 0, i) : Row)]) := hq
      split at hq'
      · cases hq'
      · rw [List.mem_singleton.mp hq']
    | cons y ys =>
      rw [hc] at hq
      rcases List.mem_append.mp hq with z | z
      · exact ih _ _ _ _ q z
      · obtain ⟨a, -, ha⟩ := List.mem_flatMap.mp z
        exact ih _ _ _ _ q ha
theorem REL.jk {s : Sh} {i x dep : Nat} {R0 RR : Nat → List Row} {pa : Pa} {ps : List Nat} {o : Option Nat} {th : Nat → Bool} {lv : Nat → Nat} (h : REL s i R0 pa ps x o dep th lv RR) {c : Nat} (hc : c < s.2.1) : Jk i (R0 c) (RR c) := ⟨_, (h.2.2.2.2.2 c hc).1, rwQ_pap _ _ _ _ _⟩
theorem REL.mv {s : Sh} {i x x' dep : Nat} {R0 RR : Nat → List Row} {pa : Pa} {ps : List Nat} {o : Option Nat} {th : Nat → Bool} {lv : Nat → Nat} (h : REL s i R0 pa ps x o dep th lv RR) (hx : x ≤ x') : REL s i R0 pa ps x' o dep th lv RR :=
  ⟨h.1, h.2.1, h.2.2.1, h.2.2.2.1, h.2.2.2.2.1, fun c hc => ⟨(h.2.2.2.2.2 c hc).1, Nat.le_trans (h.2.2.2.2.2 c hc).2 hx⟩⟩
theorem TVd.mv {s : Sh} {pa : Pa} {S : List Nat} {x x' : Nat} (h : TVd s pa S x) (hx : x ≤ x') : TVd s pa S x' := ⟨h.1, h.2.1, h.2.2.1, h.2.2.2.1, by have := h.2.2.2.2; omega⟩
theorem REL.dep {s : Sh} {en : Nat → Nat} {lo : Nat → Option Nat} {i x dep : Nat} {R0 RR : Nat → List Row} {pa : Pa} {ps : List Nat} {o : Option Nat} {th : Nat → Bool} {lv : Nat → Nat} (h : REL s i R0 pa ps x o dep th lv RR) (hV : ShV s [] en lo) : dep ≤ 4 ∧ (∀ f, f < s.1 → s.2.2.1 f = o → s.2.2.2.2.1 f = 2 → dep ≤ 3) ∧ (o ≠ none → 1 ≤ dep) ∧ (o = none → ps = []) := by
  obtain ⟨gl, e1, e2⟩ := h.gl
  have ho := h.ho
  obtain ⟨h1, ⟨h2, h2b, h2c⟩, ⟨h3, h3b⟩, h4, h5, h6⟩ := h
  have hl : gl.length = dep := by have := congrArg List.length e1; simp at this; omega
  have hps : o = none → ps = [] := fun e => by
    rw [e] at e2
    have : gl.reverse = [] := Chn.uniq e2 (show Chn s.2.2.1 none [] from rfl)
    have : gl = [] := by simpa using this
    rw [this] at hl
    exact List.eq_nil_of_length_eq_zero (by rw [← h3b, ← hl]; rfl)
  refine ⟨?_, fun f hf hW hK => ?_, fun hne => ?_, hps⟩
  · cases o with
    | none =>
      have : gl.reverse = [] := Chn.uniq e2 (show Chn s.2.2.1 none [] from rfl)
      have : gl = [] := by simpa using this
      rw [this] at hl; simp at hl; omega
    | some g =>
      obtain ⟨l, l1, l2, l3, l4⟩ := hV.2.2.2.1 g (ho g rfl)
      have e9 := Chn.uniq e2 l1
      have hk : s.2.2.2.2.1 g = 2 := by
        have hm := lst_mem ps 0
        rcases List.mem_cons.mp hm with z | z
        · rw [z, h2] at h3; cases h3
        · have : ∀ (ps : List Nat) (z : Nat), PthOk s pa z ps → ∀ y ∈ ps, ∀ g, pa.2.1 y = some g → s.2.2.2.2.1 g = 2 := by
            intro ps
            induction ps with
            | nil => intro z _ y hy; cases hy
            | cons a ps ih =>
              intro z hP y hy g hg
              rcases List.mem_cons.mp hy with e | e
              · obtain ⟨g', g1, g2, g3, g4⟩ := hP.2.2.2.2.1
                rw [e, g1] at hg; cases hg; exact g4
              · exact ih a hP.2.2.2.2.2 y e g hg
          exact this ps 0 h1 _ z g h3.symm
      have := l3 hk
      rw [← e9, List.length_reverse] at this; omega
  · obtain ⟨l, l1, l2, l3, l4⟩ := hV.2.2.2.1 f hf
    have := l3 hK
    rw [Chn.uniq l1 (show Chn s.2.2.1 (some f) (f :: gl.reverse) from ⟨rfl, by rw [hW]; exact e2⟩)] at this
    simp at this; omega
  · cases ps with
    | nil => exact absurd (h3.trans h2) hne
    | cons a ps => simp at h3b; omega
def StpP (T T1 : TH) (rd cu i : Nat) (s : Sh) (en : Nat → Nat) (lo : Nat → Option Nat) (n : Nat) (b : Nat → Nat) (x : Nat) (pa : Pa) (cp : Nat → Nat) (R0 RR : Nat → List Row) (z : (Nat × Nat) ⊕ Option (Nat × Pa × List Nat)) (r : Option Value) : Prop := match z with
  | .inl (k, q) => r = some (.int (nI 0)) ∧ PJ T T1 s i cp RR k q
  | .inr none => r = some (.int (nI 0)) ∧ ∃ o dep th lv A' cp' R' x', PRs T1 rd cu i s en lo n b x' o dep th lv A' cp' R' ∧ PFr T T1 cp cp' ∧ (∀ c, c < s.2.1 → R' c = R0 c ++ rwG s.2.2.2.2.2.1 pa i (road s c) 0 0 0 0 ∧ (rwG s.2.2.2.2.2.1 pa i (road s c) 0 0 0 0).length ≤ 100) ∧ TVd s pa [] (n + 2) ∧ pa.2.1 0 = none ∧ pa.2.2.1 0 = none ∧ 0 < pa.1
  | .inr (some (p', pa', gs')) => r = some (.int (nI 1)) ∧ x < p' ∧ ∃ ps' o dep th lv A' cp' R', gs' = gsP ps' ∧ PRs T1 rd cu i s en lo n b p' o dep th lv A' cp' R' ∧ REL s i R0 pa' ps' p' o dep th lv R' ∧ TVd s pa' (0 :: ps') p' ∧ PFr T T1 cp cp'
theorem StpP.v {T T1 : TH} {rd cu i n x : Nat} {s : Sh} {en : Nat → Nat} {lo : Nat → Option Nat} {b : Nat → Nat} {pa : Pa} {cp : Nat → Nat} {R0 RR : Nat → List Row} {z : (Nat × Nat) ⊕ Option (Nat × Pa × List Nat)} {r : Option Value} (h : StpP T T1 rd cu i s en lo n b x pa cp R0 RR z r) : ∃ v : Int32, r = some (.int v) ∧ (v = 0 ∨ v = 1) := by
  match z, h with
  | .inl (k, q), ⟨h1, h2⟩ => exact ⟨_, h1, Or.inl rfl⟩
  | .inr none, ⟨h1, h2⟩ => exact ⟨_, h1, Or.inl rfl⟩
  | .inr (some (p', pa', gs')), ⟨h1, h2⟩ => exact ⟨_, h1, Or.inr rfl⟩
theorem qStep_sk {s : Sh} {b : Nat → Nat} {n p : Nat} {pa : Pa} {gs : List Nat} : qStep s b n (sk b n p) pa gs = qStep s b n p pa gs := by
  unfold qStep
  rw [sk_sk]
theorem gs_leaf {s : Sh} {gs : List Nat} {en : Nat → Nat} {lo : Nat → Option Nat} (hV : ShV s gs en lo) {f g : Nat} (hg : g < s.1) (hW : s.2.2.1 g = some f) : s.2.2.2.2.1 f = 2 := by
  obtain ⟨l, l1, l2, l3, l4⟩ := hV.2.2.2.1 g hg
  cases l with
  | nil => cases l1
  | cons a l =>
    have ea := Option.some.inj l1.1
    subst ea
    have h2 := l1.2
    rw [hW] at h2
    cases l with
    | nil => cases h2
    | cons b l =>
      have eb := Option.some.inj h2.1
      subst eb
      refine l4 f (by simp) (fun e => ?_)
      subst e
      have := Chn.uniq l1 (show Chn s.2.2.1 (some f) (f :: l) from h2)
      have := congrArg List.length this
      simp at this

set_option maxHeartbeats 4000000 in
theorem c_X0_readEnd1 (d : Nat) {T : TH} {g : Nat} {rd cu i n x dep : Nat} {s : Sh} {en : Nat → Nat} {lo : Nat → Option Nat} {b : Nat → Nat} {th : Nat → Bool} {lv : Nat → Nat} {A : Nat → Nat → Nat} {cp : Nat → Nat} {RR : Nat → List Row} (h : PRs T rd cu i s en lo n b x (some g) dep th lv A cp RR) (hZ : PZ cu i s en lo) (hg : g < s.1) : Xe m_X0_readEnd (d + 7) 0 [(0, .ref rd)] [] T (fun r T2 => r = some (.int (nI 0)) ∧ PJ T T2 s i cp RR 1 x) := by
  obtain ⟨hL, hS, hK, hC0, hV0, hA, hR, ⟨hs1, hs2, hs3⟩, hf1, hf2⟩ := id h
  obtain ⟨hu, hV, ⟨hs60, h12⟩, hi30, hWl, hNb⟩ := id hZ
  refine xe (fun _ _ kK => x_aload_n dX0_readEnd_0 rfl 0 rfl kK) ?_
  refine xe (fun _ _ kK => x_get dX0_readEnd_1 fl_X0_35 hC0.1 (gvl_i fz_0_6.2.2 (show e_i T 6 rd = nI g from hV0.1)) kK) ?_
  refine xe (fun _ _ kK => x_iconst dX0_readEnd_4 (show _ = (-1) by decide) kK) ?_
  refine xe (fun _ _ kK => x_icmp_eqF (tgt := 17) dX0_readEnd_5 (by decide) (nI_m1 (by omega)) kK) ?_
  refine xe (fun _ _ kK => x_aload_n dX0_readEnd_8 rfl 0 rfl kK) ?_
  refine xe (fun _ _ kK => x_get dX0_readEnd_9 fl_X0_9 hC0.1 (gvl_r1 fz_0_0.2.2 (show e_r T 0 rd = some 1 from hC0.2.1)) kK) ?_
  refine xe (fun _ _ kK => x_iconst dX0_readEnd_12 (show _ = nI 1 by decide) kK) ?_
  refine xe_callV (a := 1) [.int (nI 1)] dX0_readEnd_13 ml_X0_63 mf_X4_failHere hL.1.2.2.2.2.1 (c_X4_failHere (d + 5) hL.1 hL.2.2.1 1) rfl rfl (Nat.le_of_ble_eq_true rfl) (Nat.le_of_ble_eq_true rfl) ?_
  rintro _ _ ⟨rfl, rfl⟩
  exact xe_retz dX0_readEnd_16 rfl (by first | exact Or.inl rfl | exact Or.inr rfl) (⟨rfl, h.fail 1 x⟩)

set_option maxHeartbeats 4000000 in
theorem t_X0_part (d : Nat) {T : TH} {rd cu i n x dep : Nat} {s : Sh} {en : Nat → Nat} {lo : Nat → Option Nat} {b : Nat → Nat} {o : Option Nat} {th : Nat → Bool} {lv : Nat → Nat} {A : Nat → Nat → Nat} {cp : Nat → Nat} {RR : Nat → List Row} (h : PRs T rd cu i s en lo n b x o dep th lv A cp RR) (hZ : PZ cu i s en lo) {R0 : Nat → List Row} {pa : Pa} {ps : List Nat} (hRel : REL s i R0 pa ps x o dep th lv RR) (hTv : TVd s pa (0 :: ps) x) (hR0 : ∀ c, c < s.2.1 → (R0 c).length ≤ 2900) {k : Nat} {Q : Option Value → TH → Prop} (kk : ∀ (v9 : Int32) (T9 : TH), StpP T T9 rd cu i s en lo n b x pa cp R0 RR (qStep s b n x pa (gsP ps)) (some (.int v9)) → Xe m_X0_readAll (d + 10) 61 [(1, .int v9), (2, .int (nI k)), (0, .ref rd)] [] T9 Q) : Xe m_X0_readAll (d + 10) 22 [(2, .int (nI k)), (1, .int (nI 1)), (0, .ref rd)] [] T Q := by
  obtain ⟨hL, hS, hK, hC0, hV0, hA, hR, ⟨hs1, hs2, hs3⟩, hf1, hf2⟩ := id h
  obtain ⟨hu, hV, ⟨hs60, h12⟩, hi30, hWl, hNb⟩ := id hZ
  have hq0 := sk_ge b n x
  have hpn := hL.2.2.2.2.1
  have hn4 := hL.2.2.2.2.2
  have hq1 := sk_n (b := b) hpn
  have hB : ∀ j, j < n → b j < 256 := fun j hj => (hL.2.1 j hj).2
  refine xe (fun _ _ kK => x_aload_n dX0_readAll_22 rfl 2 rfl kK) ?_
  refine xe (fun _ _ kK => x_get dX0_readAll_23 fl_X0_9 hC0.1 (gvl_r1 fz_0_0.2.2 (show e_r T 0 rd = some 1 from hC0.2.1)) kK) ?_
  refine xe_callV (a := 1) [] dX0_readAll_26 ml_X0_46 mf_X4_next hL.1.2.2.2.2.1 (c_X4_next (d + 8) hL) rfl rfl (Nat.le_of_ble_eq_true rfl) (Nat.le_of_ble_eq_true rfl) ?_
  rintro _ _ ⟨rfl, rfl⟩
  have hG1 : FrG [(258, 1)] [] T (cmv T (sk b n x)) := FrG.si FrG.rf (by decide) _
  have hP1 := h.mv hu hG1 (by simp) rfl hq1
  have hF1 : PFr T (cmv T (sk b n x)) cp cp := PFr.ofG hG1 (by simp) (by simp)
  have hR1 := hRel.mv hq0
  have hT1 := hTv.mv hq0
  have hskq := sk_sk b n x
  rw [← qStep_sk] at kk
  generalize hq9 : sk b n x = q at hq0 hq1 hG1 hP1 hF1 hR1 hT1 hskq kk ⊢
  generalize hTe : cmv T q = T1 at hG1 hP1 hF1 ⊢
  obtain ⟨hd4, hd3, hd1, hdn⟩ := hR1.dep hV
  have ho := hR1.ho
  obtain ⟨gl, e1, e2⟩ := hR1.gl
  obtain ⟨hPth, ⟨h20, h2b, h2c⟩, ⟨h3, h3b⟩, h4, h5, h6⟩ := id hR1
  obtain ⟨xs, hgs, hxs⟩ := gsP_hd ps
  have hth : ∀ f, f < s.1 → s.2.2.1 f = pa.2.1 (lst 0 ps) → th f = pB (hasN pa (lst 0 ps) f) := fun f hf hW => h4 _ (lst_mem ps 0) f hf hW
  have hlk : pB (lackN s pa (lst 0 ps)) = pB (lkO s o th) := by rw [h3]; exact pB_c (lack_e hth)
  have hlen : ∀ c, c < s.2.1 → (RR c).length = (R0 c).length + (rwQ s.2.2.2.2.2.1 pa i (0 :: ps) (road s c) 0 0 0 0).length := fun c hc => by rw [(h6 c hc).1, List.length_append]
  have hlt : ∀ k ∈ 0 :: ps, k < pa.1 := fun k hk => (List.mem_cons.mp hk).elim (fun e => by omega) (hPth.lt k)
  have hxl := hlt _ (lst_mem ps 0)
  have hb3l : q < n ∧ 1 ≤ dep ∨ ps = [] → ∀ f, f < s.1 → s.2.2.1 f = o → th f = false → ∀ c, c < s.2.1 → f ≤ s.2.2.2.2.2.2 c ∧ s.2.2.2.2.2.2 c < en f → (lkR s en o th (lv dep, dgo s o, false, lN 0, i) RR f c).length < 3000 := by
    intro hcase f hf hW hthf c hc hon
    have hfr := (rdl_on hV hc hf).mpr hon
    rw [lkR_at hV hc e2 hf hW hfr, hlen c hc]
    have hR0c := hR0 c hc
    have h6c := (h6 c hc).2
    rcases hcase with z | z
    · omega
    · subst z
      have hz : rwQ s.2.2.2.2.2.1 pa i [0] (road s c) 0 0 0 0 = [] := by
        obtain ⟨a, ha⟩ := road_hit hV hc e2 hfr hW
        have hgl : gl = [] := by simpa using e1
        rw [hgl] at ha
        have hch : ch pa 0 f 1 = [] := Classical.byContradiction (fun z => by have hth0 : th f = pB (hasN pa 0 f) := hth f hf (hW.trans h3); rw [hth0, pB_t (hasN_ch.mpr z)] at hthf; cases hthf)
        rw [ha, List.nil_append, rwQ_c, hch, if_pos List.mem_cons_self]; rfl
      rw [hz]; simp; omega
  refine xe (fun _ _ kK => x_istore_n dX0_readAll_29 rfl (by decide) (show _ = [(3, .int (pk b n q)), (2, .int (nI k)), (1, .int (nI 1)), (0, .ref rd)] from rfl) kK) ?_
  refine xe (fun _ _ kK => x_iload_n dX0_readAll_30 rfl 0 rfl kK) ?_
  refine xe (fun _ _ kK => x_iconst dX0_readAll_31 (show _ = (-1) by decide) kK) ?_
  by_cases hxn : n ≤ q
  · -- pc 32
    rw [show pk b n q = -1 by rw [pk, if_neg (by omega)]]
    refine xe (fun _ _ kK => x_icmp_neF (tgt := 43) dX0_readAll_32 (by decide) rfl kK) ?_
    refine xe (fun _ _ kK => x_aload_n dX0_readAll_35 rfl 3 rfl kK) ?_
    have hcon := c_X0_readEnd (d + 2) hP1 hZ hd4 ho
    have hst : qStep s b n q pa (gsP ps) = (if ¬ xs.length = 0 then .inl (1, q) else if pB (lackN s pa (lst 0 ps)) = true then .inl (4, q) else .inr none) := by rw [hgs]; unfold qStep; rw [hskq]; simp only []; rw [if_pos hxn]
    rw [hst] at kk
    by_cases hon : o = none
    · -- pc 36
      have hps := hdn hon
      have hxs0 : xs.length = 0 := by rw [hxs, hps]; rfl
      rw [if_neg (fun z => z hxs0), hlk] at kk
      have hcon := hcon (hb3l (Or.inr hps))
      rw [if_neg (fun z => z hon)] at hcon
      by_cases hpb : pB (lkO s o th) = true
      · -- pc 36
        rw [if_pos hpb] at hcon kk
        refine xe_callV (a := rd) [] dX0_readAll_36 ml_X0_50 mf_X0_readEnd hP1.2.2.2.1.1 (hcon) rfl rfl (Nat.le_of_ble_eq_true rfl) (Nat.le_of_ble_eq_true rfl) ?_
        intro r9 T9 h9
        have h10 : StpP T T9 rd cu i s en lo n b x pa cp R0 RR (.inl (4, q)) r9 := ⟨h9.1, h9.2.pre hF1 (fun _ _ => Jk.rf)⟩
        obtain ⟨v9, rfl, hv9⟩ := StpP.v h10
        refine xe (fun _ _ kK => x_istore_n dX0_readAll_39 rfl (by decide) (show _ = [(1, .int v9), (3, .int (-1)), (2, .int (nI k)), (0, .ref rd)] from rfl) kK) ?_
        refine xe (fun _ _ kK => x_goto (tgt := 61) dX0_readAll_40 (by decide) kK) ?_
        exact xe_loc (by simp) (kk v9 T9 h10)
      · -- pc 36
        rw [if_neg hpb] at hcon kk
        refine xe_callV (a := rd) [] dX0_readAll_36 ml_X0_50 mf_X0_readEnd hP1.2.2.2.1.1 (hcon) rfl rfl (Nat.le_of_ble_eq_true rfl) (Nat.le_of_ble_eq_true rfl) ?_
        intro r9 T9 h9
        have h10 : StpP T T9 rd cu i s en lo n b x pa cp R0 RR (.inr none) r9 := by
          obtain ⟨g1, A', cp', g2, g3⟩ := h9
          subst hon; subst hps
          exact ⟨g1, none, dep, th, lv, A', cp', _, q, g2, hF1.tr g3, fun c hc => hR1.fin hV hWl (by omega) hc, (hT1.end (S' := []) (w := 0) (p1 := n + 2) (fun y _ hy => Or.inr (List.mem_singleton.mp hy)) (fun f hf hW hM z => hpb (pB_t ⟨f, hf, hW.trans h20, by rw [hth f hf hW]; exact pB_f (fun z2 => hasN_ch.mp z2 z), hM⟩)) (by simp; omega)), h20, h2b, h2c⟩
        obtain ⟨v9, rfl, hv9⟩ := StpP.v h10
        refine xe (fun _ _ kK => x_istore_n dX0_readAll_39 rfl (by decide) (show _ = [(1, .int v9), (3, .int (-1)), (2, .int (nI k)), (0, .ref rd)] from rfl) kK) ?_
        refine xe (fun _ _ kK => x_goto (tgt := 61) dX0_readAll_40 (by decide) kK) ?_
        exact xe_loc (by simp) (kk v9 T9 h10)
    · -- pc 36
      have hxs0 : ¬ xs.length = 0 := fun z => hon (by have : ps = [] := List.eq_nil_of_length_eq_zero (hxs.symm.trans z); rw [h3, this]; exact h20)
      rw [if_pos hxs0] at kk
      have hcon2 : Xe m_X0_readEnd (d + 2 + 7) 0 [(0, .ref rd)] [] T1 (fun r T2 => r = some (.int (nI 0)) ∧ PJ T1 T2 s i cp RR 1 q) := by
        cases o with
        | none => exact absurd rfl hon
        | some g => exact c_X0_readEnd1 (d + 2) hP1 hZ (ho g rfl)
      refine xe_callV (a := rd) [] dX0_readAll_36 ml_X0_50 mf_X0_readEnd hP1.2.2.2.1.1 (hcon2) rfl rfl (Nat.le_of_ble_eq_true rfl) (Nat.le_of_ble_eq_true rfl) ?_
      intro r9 T9 h9
      have h10 : StpP T T9 rd cu i s en lo n b x pa cp R0 RR (.inl (1, q)) r9 := ⟨h9.1, h9.2.pre hF1 (fun _ _ => Jk.rf)⟩
      obtain ⟨v9, rfl, hv9⟩ := StpP.v h10
      refine xe (fun _ _ kK => x_istore_n dX0_readAll_39 rfl (by decide) (show _ = [(1, .int v9), (3, .int (-1)), (2, .int (nI k)), (0, .ref rd)] from rfl) kK) ?_
      refine xe (fun _ _ kK => x_goto (tgt := 61) dX0_readAll_40 (by decide) kK) ?_
      exact xe_loc (by simp) (kk v9 T9 h10)
  · -- pc 32
    have hpk : pk b n q = nI (b q) := by rw [pk, if_pos (by omega)]
    have hb9 := hB q (by omega)
    rw [hpk]
    refine xe (fun _ _ kK => x_icmp_neT (tgt := 43) dX0_readAll_32 (by decide) (nI_m1 (by omega)) kK) ?_
    refine xe (fun _ _ kK => x_iload_n dX0_readAll_43 rfl 0 rfl kK) ?_
    refine xe (fun _ _ kK => x_bipush dX0_readAll_44 (show _ = nI 93 by decide) kK) ?_
    refine xe_icmp_ne (tgt := 56) dX0_readAll_46 (by decide) (fun h21 => ?_) (fun h21 => ?_)
    · -- pc 56
      have h21 := cv_ne (by omega) (by omega) h21
      refine xe (fun _ _ kK => x_aload_n dX0_readAll_56 rfl 3 rfl kK) ?_
      have hst : qStep s b n q pa (gsP ps) = (qEntry s b n q pa (lst 0 ps) xs).map id some := by rw [hgs]; unfold qStep; rw [hskq]; simp only []; rw [if_neg hxn, if_neg (fun z => h21 z.1)]
      rw [hst, qEntry_e hth, ← h3] at kk
      have hcon := c_X0_readEntry (d + 1) hP1 hZ (by omega) hskq hd4 ho hd3 (fun c hc => by have := hlen c hc; have := hR0 c hc; have := (h6 c hc).2; omega)
      cases hee : eEntry s b n q o th with
      | inl z =>
        obtain ⟨k9, q9⟩ := z
        rw [hee] at hcon kk
        refine xe_callV (a := rd) [] dX0_readAll_57 ml_X0_57 mf_X0_readEntry hP1.2.2.2.1.1 (hcon) rfl rfl (Nat.le_of_ble_eq_true rfl) (Nat.le_of_ble_eq_true rfl) ?_
        intro r9 T9 h9
        have h10 : StpP T T9 rd cu i s en lo n b x pa cp R0 RR (.inl (k9, q9)) r9 := ⟨h9.1, h9.2.pre hF1 (fun _ _ => Jk.rf)⟩
        obtain ⟨v9, rfl, hv9⟩ := StpP.v h10
        refine xe (fun _ _ kK => x_istore_n dX0_readAll_60 rfl (by decide) (show _ = [(1, .int v9), (3, .int (nI (b q))), (2, .int (nI k)), (0, .ref rd)] from rfl) kK) ?_
        exact xe_loc (by simp) (kk v9 T9 h10)
      | inr z =>
        obtain ⟨p', f, ov⟩ := z
        rw [hee] at hcon kk
        obtain ⟨f1, f2, f3, f4, f5, f6⟩ := eEntry_ok hq1 hee
        have hchf : s.2.2.2.2.2.1 f = 2 ∨ ch pa (lst 0 ps) f (lst 0 ps + 1) = [] := f3.elim Or.inl (fun z => Or.inr (Classical.byContradiction (fun z2 => by rw [hth f f1 (f2.trans h3), pB_t (hasN_ch.mpr z2)] at z; cases z)))
        cases ov with
        | none =>
          obtain ⟨f7, f8⟩ := f6
          refine xe_callV (a := rd) [] dX0_readAll_57 ml_X0_57 mf_X0_readEntry hP1.2.2.2.1.1 (hcon) rfl rfl (Nat.le_of_ble_eq_true rfl) (Nat.le_of_ble_eq_true rfl) ?_
          intro r9 T9 h9
          have h10 : StpP T T9 rd cu i s en lo n b x pa cp R0 RR (.inr (some (p', addN pa (some f) (some (lst 0 ps)) 0, pa.1 :: lst 0 ps :: xs))) r9 := by
            obtain ⟨g1, g2, g3⟩ := h9
            refine ⟨g1, by omega, ps ++ [pa.1], _, _, _, _, A, cp, RR, by rw [gsP_app, hgs], g2, hR1.grp hV hWl f1 f2 f7 (by omega), ?_, hF1.tr g3⟩
            refine hT1.add h2b (lst_mem ps 0) hxl f1 (f2.trans h3) hchf ⟨fun z => by omega, fun z => by omega⟩ (fun y hy => ?_) (Or.inl (by simp)) (by rw [if_pos f7]; simp; omega)
            simp only [List.mem_cons, List.mem_append, List.not_mem_nil, or_false]
            constructor
            · rintro (e | e | e)
              · exact Or.inl e
              · exact Or.inr e
              · omega
            · rintro (e | e)
              · exact Or.inl e
              · exact Or.inr (Or.inl e)
          obtain ⟨v9, rfl, hv9⟩ := StpP.v h10
          refine xe (fun _ _ kK => x_istore_n dX0_readAll_60 rfl (by decide) (show _ = [(1, .int v9), (3, .int (nI (b q))), (2, .int (nI k)), (0, .ref rd)] from rfl) kK) ?_
          exact xe_loc (by simp) (kk v9 T9 h10)
        | some v =>
          obtain ⟨f7, f8, f9, f10⟩ := f6
          refine xe_callV (a := rd) [] dX0_readAll_57 ml_X0_57 mf_X0_readEntry hP1.2.2.2.1.1 (hcon) rfl rfl (Nat.le_of_ble_eq_true rfl) (Nat.le_of_ble_eq_true rfl) ?_
          intro r9 T9 h9
          have h10 : StpP T T9 rd cu i s en lo n b x pa cp R0 RR (.inr (some (p', addN pa (some f) (some (lst 0 ps)) v, lst 0 ps :: xs))) r9 := by
            obtain ⟨g1, c, A', cp', g0, g2, g3⟩ := h9
            have hc : c < s.2.1 := by
              obtain ⟨c', k1, k2, k3⟩ := (hV.2.2.2.2.2.2.2.1 f f1).2 f7
              rw [g0] at k3; cases k3; exact k1
            refine ⟨g1, by omega, ps, _, _, _, _, A', cp', _, hgs.symm, g2, hR1.leaf hV hWl f1 f2 f7 g0 hc (by omega), ?_, hF1.tr g3⟩
            exact hT1.add h2b (lst_mem ps 0) hxl f1 (f2.trans h3) hchf f9 (fun y hy => Iff.rfl) (Or.inr (fun g hg z => f7 (gs_leaf hV hg z))) (by rw [if_neg f7]; omega)
          obtain ⟨v9, rfl, hv9⟩ := StpP.v h10
          refine xe (fun _ _ kK => x_istore_n dX0_readAll_60 rfl (by decide) (show _ = [(1, .int v9), (3, .int (nI (b q))), (2, .int (nI k)), (0, .ref rd)] from rfl) kK) ?_
          exact xe_loc (by simp) (kk v9 T9 h10)
    · -- pc 49
      have h21 := cv_eq (by omega) (by omega) h21
      refine xe (fun _ _ kK => x_aload_n dX0_readAll_49 rfl 3 rfl kK) ?_
      rcases List.eq_nil_or_concat ps with hps | ⟨ps0, x0, hps⟩
      · -- pc 50
        have hon : o = none := by rw [h3, hps]; exact h20
        have hxs0 : xs.length = 0 := by rw [hxs, hps]; rfl
        have hwe : we b n q = q := we_stop (by rw [h21]; decide)
        have hst : qStep s b n q pa (gsP ps) = .inl (1, q) := by rw [hgs]; unfold qStep; rw [hskq]; simp only []; rw [if_neg hxn, if_neg (fun z => z.2 hxs0)]; unfold qEntry; rw [if_pos hwe]; rfl
        rw [hst] at kk
        have hcon := c_X0_readClose (d + 2) hP1 hZ hd4 ho (hb3l (Or.inr hps)) (by omega) hd1
        subst hon
        refine xe_callV (a := rd) [] dX0_readAll_50 ml_X0_54 mf_X0_readClose hP1.2.2.2.1.1 (hcon) rfl rfl (Nat.le_of_ble_eq_true rfl) (Nat.le_of_ble_eq_true rfl) ?_
        intro r9 T9 h9
        have h10 : StpP T T9 rd cu i s en lo n b x pa cp R0 RR (.inl (1, q)) r9 := ⟨h9.1, h9.2.pre hF1 (fun _ _ => Jk.rf)⟩
        obtain ⟨v9, rfl, hv9⟩ := StpP.v h10
        refine xe (fun _ _ kK => x_goto (tgt := 60) dX0_readAll_53 (by decide) kK) ?_
        refine xe (fun _ _ kK => x_istore_n dX0_readAll_60 rfl (by decide) (show _ = [(1, .int v9), (3, .int (nI (b q))), (2, .int (nI k)), (0, .ref rd)] from rfl) kK) ?_
        exact xe_loc (by simp) (kk v9 T9 h10)
      · -- pc 50
        rw [List.concat_eq_append] at hps
        obtain ⟨g, hg1, hg2, hg3, hg4⟩ := (PthOk.app.mp (hps ▸ hPth)).2.2.2.2.2.1
        have hon : o = some g := by rw [h3, hps, lst_app]; exact hg1
        have hdep1 := hd1 (by rw [hon]; simp)
        have hxs0 : ¬ xs.length = 0 := by omega
        have hxs1 : xs = gsP ps0 := by rw [hps, gsP_app] at hgs; exact (List.cons.inj hgs).2.symm
        have hcon := c_X0_readClose (d + 2) hP1 hZ hd4 ho (hb3l (Or.inl ⟨by omega, hdep1⟩)) (by omega) hd1
        have hst : qStep s b n q pa (gsP ps) = (if pB (lackN s pa (lst 0 ps)) = true then .inl (4, q) else match qSign b n (q + 1) 59 with | .inl p1 => .inl (1, p1) | .inr p1 => .inr (some (p1, pa, xs))) := by rw [hgs]; unfold qStep; rw [hskq]; simp only []; rw [if_neg hxn, if_pos ⟨h21, hxs0⟩]; rfl
        rw [hst, hlk] at kk
        subst hon
        have hcon : Xe m_X0_readClose (d + 2 + 7) 0 [(0, .ref rd)] [] T1 (if pB (lkO s (some g) th) = true then _ else _) := hcon
        by_cases hpb : pB (lkO s (some g) th) = true
        · -- pc 50
          rw [if_pos hpb] at hcon kk
          refine xe_callV (a := rd) [] dX0_readAll_50 ml_X0_54 mf_X0_readClose hP1.2.2.2.1.1 (hcon) rfl rfl (Nat.le_of_ble_eq_true rfl) (Nat.le_of_ble_eq_true rfl) ?_
          intro r9 T9 h9
          have h10 : StpP T T9 rd cu i s en lo n b x pa cp R0 RR (.inl (4, q)) r9 := ⟨h9.1, h9.2.pre hF1 (fun _ _ => Jk.rf)⟩
          obtain ⟨v9, rfl, hv9⟩ := StpP.v h10
          refine xe (fun _ _ kK => x_goto (tgt := 60) dX0_readAll_53 (by decide) kK) ?_
          refine xe (fun _ _ kK => x_istore_n dX0_readAll_60 rfl (by decide) (show _ = [(1, .int v9), (3, .int (nI (b q))), (2, .int (nI k)), (0, .ref rd)] from rfl) kK) ?_
          exact xe_loc (by simp) (kk v9 T9 h10)
        · -- pc 50
          rw [if_neg hpb] at hcon kk
          cases hqs : qSign b n (q + 1) 59 with
          | inl p1 =>
            rw [hqs] at hcon kk
            refine xe_callV (a := rd) [] dX0_readAll_50 ml_X0_54 mf_X0_readClose hP1.2.2.2.1.1 (hcon) rfl rfl (Nat.le_of_ble_eq_true rfl) (Nat.le_of_ble_eq_true rfl) ?_
            intro r9 T9 h9
            have h10 : StpP T T9 rd cu i s en lo n b x pa cp R0 RR (.inl (1, p1)) r9 := ⟨h9.1, h9.2.pre hF1 (fun _ _ => Jk.rf)⟩
            obtain ⟨v9, rfl, hv9⟩ := StpP.v h10
            refine xe (fun _ _ kK => x_goto (tgt := 60) dX0_readAll_53 (by decide) kK) ?_
            refine xe (fun _ _ kK => x_istore_n dX0_readAll_60 rfl (by decide) (show _ = [(1, .int v9), (3, .int (nI (b q))), (2, .int (nI k)), (0, .ref rd)] from rfl) kK) ?_
            exact xe_loc (by simp) (kk v9 T9 h10)
          | inr p1 =>
            rw [hqs] at hcon kk
            obtain ⟨w1, w2⟩ := qSign_in hqs
            refine xe_callV (a := rd) [] dX0_readAll_50 ml_X0_54 mf_X0_readClose hP1.2.2.2.1.1 (hcon) rfl rfl (Nat.le_of_ble_eq_true rfl) (Nat.le_of_ble_eq_true rfl) ?_
            intro r9 T9 h9
            have h10 : StpP T T9 rd cu i s en lo n b x pa cp R0 RR (.inr (some (p1, pa, xs))) r9 := by
              obtain ⟨g1, A', cp', g2, g3⟩ := h9
              subst hps
              refine ⟨g1, by omega, ps0, _, _, _, _, A', cp', _, hxs1, g2, hR1.close hV hWl (by omega), hT1.end (w := x0) (fun y _ hy => ?_) (fun f hf hW hM z => hpb (pB_t ⟨f, hf, by rw [hW, hg1], by rw [lst_app] at hth; rw [hth f hf hW]; exact pB_f (fun z2 => hasN_ch.mp z2 z), hM⟩)) (by simp; omega), hF1.tr g3⟩
              rcases List.mem_cons.mp hy with e | e
              · exact Or.inl (e ▸ List.mem_cons_self)
              · rcases List.mem_append.mp e with e | e
                · exact Or.inl (List.mem_cons_of_mem _ e)
                · exact Or.inr (List.mem_singleton.mp e)
            obtain ⟨v9, rfl, hv9⟩ := StpP.v h10
            refine xe (fun _ _ kK => x_goto (tgt := 60) dX0_readAll_53 (by decide) kK) ?_
            refine xe (fun _ _ kK => x_istore_n dX0_readAll_60 rfl (by decide) (show _ = [(1, .int v9), (3, .int (nI (b q))), (2, .int (nI k)), (0, .ref rd)] from rfl) kK) ?_
            exact xe_loc (by simp) (kk v9 T9 h10)
