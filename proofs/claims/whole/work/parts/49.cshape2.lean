/-! frames by cells: only those of S may change -/
def FrA (S : Nat → Prop) (T T' : TH) : Prop := e_sc T' = e_sc T ∧ e_n T ≤ e_n T' ∧ ∀ a, ¬ S a → e_K T' a = e_K T a ∧ e_len T' a = e_len T a ∧ (∀ g, e_i T' g a = e_i T g a) ∧ (∀ g, e_l T' g a = e_l T g a) ∧ (∀ g, e_r T' g a = e_r T g a) ∧ e_ai T' a = e_ai T a ∧ e_al T' a = e_al T a ∧ e_ar T' a = e_ar T a
theorem FrA.rf {S : Nat → Prop} {T : TH} : FrA S T T := ⟨rfl, Nat.le_refl _, fun _ _ => ⟨rfl, rfl, fun _ => rfl, fun _ => rfl, fun _ => rfl, rfl, rfl, rfl⟩⟩
theorem FrA.tr {S : Nat → Prop} {T T1 T2 : TH} (h : FrA S T T1) (k : FrA S T1 T2) : FrA S T T2 := by
  refine ⟨k.1.trans h.1, Nat.le_trans h.2.1 k.2.1, fun a ha => ?_⟩
  obtain ⟨h1, h2, h3, h4, h5, h6, h7, h8⟩ := h.2.2 a ha
  obtain ⟨k1, k2, k3, k4, k5, k6, k7, k8⟩ := k.2.2 a ha
  exact ⟨k1.trans h1, k2.trans h2, fun g => (k3 g).trans (h3 g), fun g => (k4 g).trans (h4 g), fun g => (k5 g).trans (h5 g), k6.trans h6, k7.trans h7, k8.trans h8⟩
theorem FrA.mono {S S' : Nat → Prop} {T T1 : TH} (h : FrA S T T1) (h1 : ∀ a, S a → S' a) : FrA S' T T1 := ⟨h.1, h.2.1, fun a ha => h.2.2 a (fun z => ha (h1 a z))⟩
theorem FrG.A {I : List (Nat × Nat)} {A : List Nat} {S : Nat → Prop} {T T1 : TH} (h : FrG I A T T1) (h1 : ∀ q ∈ I, S q.2) (h2 : ∀ a ∈ A, S a) : FrA S T T1 := by
  obtain ⟨k1, k2, k3, k4, k5, k6, k7, k8, k9, k10, k11⟩ := h
  exact ⟨k7, by rw [k5]; exact Nat.le_refl _, fun a ha => ⟨by rw [k1], by rw [k3], fun g => k8 g a (fun z => ha (h1 _ z)), fun g => k9 g a (fun z => ha (h1 _ z)), fun g => by rw [k2], k10 a (fun z => ha (h2 a z)), k11 a (fun z => ha (h2 a z)), by rw [k4]⟩⟩
theorem FrM.A {fs as : List Nat} {S : Nat → Prop} {T T1 : TH} (h : FrM fs as T T1) (h1 : S 88) (h2 : ∀ a ∈ as, S a) : FrA S T T1 := by
  obtain ⟨k1, k2, k3, k4, k5, k6, k7, k8, k9, k10, k11⟩ := h
  exact ⟨k8, by rw [k6]; exact Nat.le_refl _, fun a ha => ⟨by rw [k1], by rw [k3], fun g => k9 g a (fun z => ha (z.1 ▸ h1)), fun g => by rw [k4], fun g => by rw [k2], k10 a (fun z => ha (h2 a z)), k11 a (fun z => ha (h2 a z)), by rw [k5]⟩⟩
theorem upn {α : Type} {f : Nat → α} {k j : Nat} {v : α} (h : j ≠ k) : va_up f k v j = f j := if_neg h
theorem ups {α : Type} {f : Nat → α} {k : Nat} {v : α} : va_up f k v k = v := if_pos rfl
theorem FrA.new {S : Nat → Prop} {T T1 : TH} (h : FrA S T T1) {k N : Nat} (hS : S (e_n T1)) : FrA S T (s_new T1 k N) := by
  refine h.tr ⟨rfl, Nat.le_succ _, fun a ha => ?_⟩
  have hne : a ≠ e_n T1 := fun z => ha (z ▸ hS)
  exact ⟨upn hne, upn hne, fun g => upn (f := e_i T1 g) hne, fun g => upn (f := e_l T1 g) hne, fun g => upn (f := e_r T1 g) hne, upn hne, upn hne, upn hne⟩
theorem sn_K {T : TH} {k N : Nat} : e_K (s_new T k N) (e_n T) = k := ups
theorem sn_len {T : TH} {k N : Nat} : e_len (s_new T k N) (e_n T) = N := ups
theorem sn_i {T : TH} {k N g : Nat} : e_i (s_new T k N) g (e_n T) = 0 := ups (f := e_i T g)
theorem sn_l {T : TH} {k N g : Nat} : e_l (s_new T k N) g (e_n T) = 0 := ups (f := e_l T g)
theorem sn_r {T : TH} {k N g : Nat} : e_r (s_new T k N) g (e_n T) = none := ups (f := e_r T g)
theorem sn_ai {T : TH} {k N j : Nat} : e_ai (s_new T k N) (e_n T) j = 0 := by rw [show e_ai (s_new T k N) (e_n T) = fun _ => 0 from ups]
theorem sn_al {T : TH} {k N j : Nat} : e_al (s_new T k N) (e_n T) j = 0 := by rw [show e_al (s_new T k N) (e_n T) = fun _ => 0 from ups]
theorem sn_n {T : TH} {k N : Nat} : e_n (s_new T k N) = e_n T + 1 := rfl
theorem sn_s {T : TH} {k N : Nat} : e_s (s_new T k N) = e_s T + N := rfl
theorem FrA.si {S : Nat → Prop} {T T1 : TH} (h : FrA S T T1) {a : Nat} (ha : S a) (g : Nat) (v : Int32) : FrA S T (s_i T1 g a v) := by
  refine h.tr ⟨rfl, Nat.le_refl _, fun b hb => ⟨rfl, rfl, fun g' => ?_, fun _ => rfl, fun _ => rfl, rfl, rfl, rfl⟩⟩
  rw [q_i_i, if_neg (fun (z : g' = g ∧ b = a) => hb (z.2 ▸ ha))]
theorem FrA.sr {S : Nat → Prop} {T T1 : TH} (h : FrA S T T1) {a : Nat} (ha : S a) (g : Nat) (v : Option Nat) : FrA S T (s_r T1 g a v) := by
  refine h.tr ⟨rfl, Nat.le_refl _, fun b hb => ⟨rfl, rfl, fun _ => rfl, fun _ => rfl, fun g' => ?_, rfl, rfl, rfl⟩⟩
  rw [q_r_r, if_neg (fun (z : g' = g ∧ b = a) => hb (z.2 ▸ ha))]
theorem FrA.K {S : Nat → Prop} {T T1 : TH} (h : FrA S T T1) {a : Nat} (ha : ¬ S a) : e_K T1 a = e_K T a := (h.2.2 a ha).1
theorem FrA.len {S : Nat → Prop} {T T1 : TH} (h : FrA S T T1) {a : Nat} (ha : ¬ S a) : e_len T1 a = e_len T a := (h.2.2 a ha).2.1
theorem FrA.i {S : Nat → Prop} {T T1 : TH} (h : FrA S T T1) {a : Nat} (ha : ¬ S a) {g : Nat} : e_i T1 g a = e_i T g a := (h.2.2 a ha).2.2.1 g
theorem FrA.l {S : Nat → Prop} {T T1 : TH} (h : FrA S T T1) {a : Nat} (ha : ¬ S a) {g : Nat} : e_l T1 g a = e_l T g a := (h.2.2 a ha).2.2.2.1 g
theorem FrA.r {S : Nat → Prop} {T T1 : TH} (h : FrA S T T1) {a : Nat} (ha : ¬ S a) {g : Nat} : e_r T1 g a = e_r T g a := (h.2.2 a ha).2.2.2.2.1 g
theorem FrA.ai {S : Nat → Prop} {T T1 : TH} (h : FrA S T T1) {a : Nat} (ha : ¬ S a) : e_ai T1 a = e_ai T a := (h.2.2 a ha).2.2.2.2.2.1
theorem FrA.al {S : Nat → Prop} {T T1 : TH} (h : FrA S T T1) {a : Nat} (ha : ¬ S a) : e_al T1 a = e_al T a := (h.2.2 a ha).2.2.2.2.2.2.1
theorem FrA.ar {S : Nat → Prop} {T T1 : TH} (h : FrA S T T1) {a : Nat} (ha : ¬ S a) : e_ar T1 a = e_ar T a := (h.2.2 a ha).2.2.2.2.2.2.2
theorem ShI.ofA {S : Nat → Prop} {T T1 : TH} {p : Nat} (h : ShI T p) (hF : FrA S T T1) (hS : ∀ a, p ≤ a → a ≤ p + 10 → ¬ S a) : ShI T1 p := by
  refine ⟨by rw [hF.K (hS p (by omega) (by omega))]; exact h.1, fun k hk => by rw [hF.r (hS p (by omega) (by omega))]; exact h.2.1 k hk, fun k hk => by rw [hF.K (hS _ (by omega) (by omega))]; exact h.2.2.1 k hk, fun k hk => by rw [hF.len (hS _ (by omega) (by omega))]; exact h.2.2.2 k hk⟩
theorem CI.ofA {S : Nat → Prop} {T T1 : TH} (h : CI T) (hF : FrA S T T1) (hS : ∀ a, a < 88 → (a < 4 ∨ 64 ≤ a) → ¬ S a) : CI T1 := by
  obtain ⟨h1, h2, h3, h4, h5, h6, h7, h8, h9, h10, h11, h12, h13, h14, h15, h16, h17⟩ := h
  have z0 := hS 0 (by omega) (by omega)
  have z1 := hS 1 (by omega) (by omega)
  have z2 := hS 2 (by omega) (by omega)
  have z3 := hS 3 (by omega) (by omega)
  have z4 := hS 64 (by omega) (by omega)
  have z5 := hS 65 (by omega) (by omega)
  exact ⟨by rw [hF.K z0]; exact h1, by rw [hF.r z0]; exact h2, by rw [hF.r z0]; exact h3, by rw [hF.r z0]; exact h4, by rw [hF.K z1]; exact h5, by rw [hF.r z1]; exact h6, by rw [hF.K z2]; exact h7, by rw [hF.len z2]; exact h8, by rw [hF.K z3]; exact h9, by rw [hF.len z3]; exact h10, fun c hc => by rw [hF.ar z3]; exact h11 c hc, by rw [hF.K z4]; exact h12, by rw [hF.r z4]; exact h13, by rw [hF.K z5]; exact h14, by rw [hF.len z5]; exact h15, h16.ofA hF (fun a h1 h2 => hS a (by omega) (by omega)), h17.ofA hF (fun a h1 h2 => hS a (by omega) (by omega))⟩
theorem CSp.ofA {S : Nat → Prop} {T T1 : TH} {p : Nat} {s : Sh} {en : Nat → Nat} {lo : Nat → Option Nat} (h : CSp T p s en lo) (hF : FrA S T T1) (hS : ∀ a, p ≤ a → a ≤ p + 10 → ¬ S a) : CSp T1 p s en lo := by
  refine ⟨h.1.ofA hF hS, (hF.i (hS _ (by omega) (by omega))).trans h.2.1, (hF.i (hS _ (by omega) (by omega))).trans h.2.2.1, fun f hf => ?_, fun c hc => ?_⟩
  · rw [hF.al (hS (p + 1) (by omega) (by omega)), hF.ai (hS (p + 2) (by omega) (by omega)), hF.ai (hS (p + 3) (by omega) (by omega)), hF.ai (hS (p + 4) (by omega) (by omega)), hF.ai (hS (p + 5) (by omega) (by omega)), hF.ai (hS (p + 9) (by omega) (by omega))]; exact h.2.2.2.1 f hf
  · rw [hF.ai (hS (p + 10) (by omega) (by omega))]; exact h.2.2.2.2 c hc
theorem MsK.ofA {S : Nat → Prop} {T T1 : TH} {p : Nat} {s : Sh} {k : Nat} (h : MsK T p s k) (hF : FrA S T T1) (hS : ∀ a, p ≤ a → a ≤ p + 10 → ¬ S a) : MsK T1 p s k := fun f hf l hl => by
  rw [hF.ai (hS (p + 6) (by omega) (by omega)), hF.ai (hS (p + 7) (by omega) (by omega)), hF.ai (hS (p + 8) (by omega) (by omega))]; exact h f hf l hl
theorem CBt.ofA {S : Nat → Prop} {T T1 : TH} {n : Nat} {b : Nat → Nat} (h : CBt T n b) (hF : FrA S T T1) (hS : ¬ S 2) : CBt T1 n b := fun j hj => by rw [hF.ai hS]; exact h j hj
/-! a step of the shape's text: it goes on, and a fault has a number -/
theorem pMark_k {b : Nat → Nat} {n p k q : Nat} (h : pMark b n p = .inl (k, q)) : k = 1 := by
  unfold pMark at h
  split at h
  · cases h; rfl
  · split at h
    · cases h; rfl
    · split at h
      · cases h
      · cases h; rfl
theorem pField_k {b : Nat → Nat} {n q k z : Nat} {s : Sh} {gs : List Nat} (h : pField b n q s gs = .inl (k, z)) : 0 < k ∧ k < 10 := by
  unfold pField at h
  split at h
  · cases h; omega
  split at h
  · cases h; omega
  split at h
  · cases h; omega
  split at h
  · cases h; omega
  split at h
  · split at h
    · cases h; omega
    · cases h
  split at h
  · cases h; omega
  split at h
  · cases h; omega
  split at h
  · cases h; omega
  split at h
  · rename_i hm
    cases h
    have := pMark_k hm; omega
  · cases h
theorem pStep_k {b : Nat → Nat} {n p k z : Nat} {s : Sh} {gs : List Nat} (h : pStep b n p s gs = .inl (k, z)) : 0 < k ∧ k < 10 := by
  unfold pStep at h
  split at h
  · split at h
    · cases h; omega
    · split at h <;> cases h; omega
  · split at h
    · split at h
      · split at h
        · cases h; omega
        · split at h
          · rename_i hm; cases h; have := pMark_k hm; omega
          · cases h
      · rename_i g gs2 _
        cases hm : pField b n (sk b n p) s (g :: gs2) with
        | inl x => rw [hm] at h; cases h; exact pField_k hm
        | inr y => rw [hm] at h; cases h
    · cases hm : pField b n (sk b n p) s [] with
      | inl x => rw [hm] at h; cases h; exact pField_k hm
      | inr y => rw [hm] at h; cases h
theorem pStep_ok {b : Nat → Nat} {n p p9 : Nat} {s s9 : Sh} {gs gs9 : List Nat} (hpi : PI n p s gs) (hst : pStep b n p s gs = .inr (some (p9, s9, gs9))) : PI n p9 s9 gs9 ∧ p < p9 := by
  have hq0 := sk_ge b n p
  have hq1 := sk_n (b := b) hpi.1
  unfold pStep at hst
  split at hst
  · split at hst
    · cases hst
    · split at hst <;> cases hst
  · rename_i hend
    split at hst
    · split at hst
      · split at hst
        · cases hst
        · cases hm : pMark b n (sk b n p + 1) with
          | inl x => rw [hm] at hst; cases hst
          | inr y =>
            obtain ⟨m, p'⟩ := y
            rw [hm] at hst
            cases hst
            obtain ⟨j1, j2, -⟩ := pMark_ok (by omega) hm
            exact ⟨(hpi.mv hq0 hq1).close (by omega) j2, by omega⟩
      · rename_i g gs2 _
        cases hm : pField b n (sk b n p) s (g :: gs2) with
        | inl x => rw [hm] at hst; cases hst
        | inr y => rw [hm] at hst; cases hst; have := pField_ok (hpi.mv hq0 hq1) hm; exact ⟨this.1, by omega⟩
    · cases hm : pField b n (sk b n p) s [] with
      | inl x => rw [hm] at hst; cases hst
      | inr y => rw [hm] at hst; cases hst; have := pField_ok (hpi.mv hq0 hq1) hm; exact ⟨this.1, by omega⟩
theorem pStep_end {b : Nat → Nat} {n p : Nat} {s : Sh} {gs : List Nat} (hst : pStep b n p s gs = .inr none) : gs = [] ∧ s.1 ≠ 0 := by
  unfold pStep at hst
  split at hst
  · split at hst
    · cases hst
    · rename_i z
      have z' : gs = [] := Classical.byContradiction z
      split at hst
      · cases hst
      · rename_i z2; exact ⟨z', z2⟩
  · split at hst
    · split at hst
      · split at hst
        · cases hst
        · cases hm : pMark b n (sk b n p + 1) with
          | inl x => rw [hm] at hst; cases hst
          | inr y => rw [hm] at hst; cases hst
      · rename_i g gs2 _
        cases hm : pField b n (sk b n p) s (g :: gs2) with
        | inl x => rw [hm] at hst; cases hst
        | inr y => rw [hm] at hst; cases hst
    · cases hm : pField b n (sk b n p) s [] with
      | inl x => rw [hm] at hst; cases hst
      | inr y => rw [hm] at hst; cases hst

set_option maxHeartbeats 4000000 in
theorem l_X2_readAll (d : Nat) {n rd p : Nat} {b : Nat → Nat} : ∀ (fu k : Nat) (T : TH) (x : Nat) (s : Sh) (gs : List Nat) (en : Nat → Nat) (lo : Nat → Option Nat), n - x < fu → k ≤ x → LC T n b x → RC T rd p gs → CSp T p s en lo → (p = 66 ∨ p = 77) → PI n x s gs → ShV s gs en lo → e_i T 259 1 = nI 0 → e_i T 260 1 = -1 → Xe m_X2_readAll (d + 7) 18 [(2, .int (nI k)), (1, .int (nI 1)), (0, .ref rd)] [] T (fun r T1 => FrG [(258, 1), (259, 1), (260, 1), (261, 1), (262, 1), (263, 1), (74, p), (75, p), (130, rd), (131, rd)] [p + 1, p + 2, p + 3, p + 4, p + 5, p + 9, p + 10, p + 6, p + 7, p + 8] T T1 ∧ match pLoop b n fu x s gs with
      | .inl (k, q) => r = some (.int (nI 0)) ∧ FailC T1 k q
      | .inr s' => r = some (.int (nI 1)) ∧ e_i T1 259 1 = nI 0 ∧ e_i T1 260 1 = -1 ∧ ∃ en' lo', CSp T1 p s' en' lo' ∧ ShV s' [] en' lo' ∧ MsK T1 p s' s'.1 ∧ ∃ p', PI n p' s' [] ∧ s'.1 ≠ 0) := by
  intro fu
  induction fu with
  | zero => intro k T x s gs en lo hfu; exact absurd hfu (Nat.not_lt_zero _)
  | succ fu ih =>
    intro k T x s gs en lo hfu hk hL hR hS hp hPI hV h259 h260
    have hMe := MeOk.of hPI hV
    have hpn := hPI.1
    have hn4 := hPI.2.1
    refine xe (fun _ _ kK => x_iload_n dX2_readAll_18 rfl 0 rfl kK) ?_
    refine xe (fun _ _ kK => x_sipush dX2_readAll_19 (show _ = nI 400 by decide) kK) ?_
    refine xe (fun _ _ kK => x_icmp_gtF (tgt := 74) dX2_readAll_22 (by decide) (fun z9 => by have := cv_lt (by omega) (by omega) z9; omega) kK) ?_
    refine xe (fun _ _ kK => x_iload_n dX2_readAll_25 rfl 1 rfl kK) ?_
    refine xe (fun _ _ kK => x_if_eqF (tgt := 74) dX2_readAll_26 (by decide) (show ¬ nI 1 = 0 by decide) kK) ?_
    rw [pLoop]
    refine t_X2_part d hL hR hS hp hMe.1 hPI hV (fun v9 T2 hst => ?_)
    cases hz : pStep b n x s gs with
    | inl z =>
      obtain ⟨k9, q9⟩ := z
      rw [hz] at hst
      have hk9 := pStep_k hz
      obtain ⟨hv9, hF2, hE2, s9, en9, lo9, hS9, hMe9⟩ := hst
      cases hv9
      have hR9 : e_K T2 rd = 3 ∧ e_r T2 128 rd = some 1 ∧ e_r T2 129 rd = some p := ⟨by rw [hF2.1]; exact hR.1, by rw [hF2.2.1]; exact hR.2.1, by rw [hF2.2.1]; exact hR.2.2.1⟩
      have hC9 : e_K T2 1 = 5 := (hF2.ci hL.1).2.2.2.2.1
      have hI9 := hS9.1.1
      refine xe (fun _ _ kK => x_iinc dX2_readAll_68 1 rfl (show (nI k) + Int32.ofInt 1 = nI (k + 1) from nI_add k 1) (by decide) (show _ = [(2, .int (nI (k + 1))), (1, .int (nI 0)), (0, .ref rd)] from rfl) kK) ?_
      refine xe (fun _ _ kK => x_goto (tgt := 18) dX2_readAll_71 (by decide) kK) ?_
      refine xe (fun _ _ kK => x_iload_n dX2_readAll_18 rfl 0 rfl kK) ?_
      refine xe (fun _ _ kK => x_sipush dX2_readAll_19 (show _ = nI 400 by decide) kK) ?_
      refine xe_icmp_gt (tgt := 74) dX2_readAll_22 (by decide) (fun h22 => ?_) (fun h22 => ?_)
      · -- pc 74
        refine xe (fun _ _ kK => x_aload_n dX2_readAll_74 rfl 2 rfl kK) ?_
        refine xe (fun _ _ kK => x_get dX2_readAll_75 fl_X2_15 hR9.1 (gvl_r1 fz_2_1.2.2 (show e_r T2 129 rd = some p from hR9.2.2)) kK) ?_
        refine xe_callV (a := p) [] dX2_readAll_78 ml_X2_50 mf_X1_measure hI9 (c_X1_measure (d + 4) hS9 hMe9) rfl rfl (Nat.le_of_ble_eq_true rfl) (Nat.le_of_ble_eq_true rfl) ?_
        rintro _ T3 ⟨rfl, hF3, hK3⟩
        have hA3 : FrG [(258, 1), (259, 1), (260, 1), (261, 1), (262, 1), (263, 1), (74, p), (75, p), (130, rd), (131, rd)] [p + 1, p + 2, p + 3, p + 4, p + 5, p + 9, p + 10, p + 6, p + 7, p + 8] T T3 := FrG.tr (hF2.mono (fun _ h9 => h9) (by simp)) (hF3.mono (by simp) (by simp))
        refine xe (fun _ _ kK => x_aload_n dX2_readAll_81 rfl 2 rfl kK) ?_
        refine xe (fun _ _ kK => x_get dX2_readAll_82 fl_X2_9 (by rw [hF3.1]; exact hR9.1) (gvl_r1 fz_2_0.2.2 (show e_r T3 128 rd = some 1 from (by rw [hF3.2.1]; exact hR9.2.1))) kK) ?_
        refine xe (fun _ _ kK => x_get dX2_readAll_85 fl_X2_53 (by rw [hF3.1]; exact hC9) (gvl_i fz_4_3.2.2 (show e_i T3 259 1 = nI k9 from ((hF3.i (by simp)).trans hE2.1))) kK) ?_
        refine xe (fun _ _ kK => x_if_neT (tgt := 95) dX2_readAll_88 (by decide) (fun z9 => by have := cv_z (by omega) z9; omega) kK) ?_
        refine xe (fun _ _ kK => x_iconst dX2_readAll_95 (show _ = nI 0 by decide) kK) ?_
        exact xe_retz dX2_readAll_96 rfl (by first | exact Or.inl rfl | exact Or.inr rfl) (⟨hA3, rfl, (hF3.i (by simp)).trans hE2.1, (hF3.i (by simp)).trans hE2.2⟩)
      · -- pc 25
        refine xe (fun _ _ kK => x_iload_n dX2_readAll_25 rfl 1 rfl kK) ?_
        refine xe (fun _ _ kK => x_if_eqT (tgt := 74) dX2_readAll_26 (by decide) rfl kK) ?_
        refine xe (fun _ _ kK => x_aload_n dX2_readAll_74 rfl 2 rfl kK) ?_
        refine xe (fun _ _ kK => x_get dX2_readAll_75 fl_X2_15 hR9.1 (gvl_r1 fz_2_1.2.2 (show e_r T2 129 rd = some p from hR9.2.2)) kK) ?_
        refine xe_callV (a := p) [] dX2_readAll_78 ml_X2_50 mf_X1_measure hI9 (c_X1_measure (d + 4) hS9 hMe9) rfl rfl (Nat.le_of_ble_eq_true rfl) (Nat.le_of_ble_eq_true rfl) ?_
        rintro _ T3 ⟨rfl, hF3, hK3⟩
        have hA3 : FrG [(258, 1), (259, 1), (260, 1), (261, 1), (262, 1), (263, 1), (74, p), (75, p), (130, rd), (131, rd)] [p + 1, p + 2, p + 3, p + 4, p + 5, p + 9, p + 10, p + 6, p + 7, p + 8] T T3 := FrG.tr (hF2.mono (fun _ h9 => h9) (by simp)) (hF3.mono (by simp) (by simp))
        refine xe (fun _ _ kK => x_aload_n dX2_readAll_81 rfl 2 rfl kK) ?_
        refine xe (fun _ _ kK => x_get dX2_readAll_82 fl_X2_9 (by rw [hF3.1]; exact hR9.1) (gvl_r1 fz_2_0.2.2 (show e_r T3 128 rd = some 1 from (by rw [hF3.2.1]; exact hR9.2.1))) kK) ?_
        refine xe (fun _ _ kK => x_get dX2_readAll_85 fl_X2_53 (by rw [hF3.1]; exact hC9) (gvl_i fz_4_3.2.2 (show e_i T3 259 1 = nI k9 from ((hF3.i (by simp)).trans hE2.1))) kK) ?_
        refine xe (fun _ _ kK => x_if_neT (tgt := 95) dX2_readAll_88 (by decide) (fun z9 => by have := cv_z (by omega) z9; omega) kK) ?_
        refine xe (fun _ _ kK => x_iconst dX2_readAll_95 (show _ = nI 0 by decide) kK) ?_
        exact xe_retz dX2_readAll_96 rfl (by first | exact Or.inl rfl | exact Or.inr rfl) (⟨hA3, rfl, (hF3.i (by simp)).trans hE2.1, (hF3.i (by simp)).trans hE2.2⟩)
    | inr z =>
      cases z with
      | none =>
        rw [hz] at hst
        obtain ⟨he1, he2⟩ := pStep_end hz
        obtain ⟨hv9, hF2, hO2, hS9⟩ := hst
        cases hv9
        have hR9 : e_K T2 rd = 3 ∧ e_r T2 128 rd = some 1 ∧ e_r T2 129 rd = some p := ⟨by rw [hF2.1]; exact hR.1, by rw [hF2.2.1]; exact hR.2.1, by rw [hF2.2.1]; exact hR.2.2.1⟩
        have hC9 : e_K T2 1 = 5 := (hF2.ci hL.1).2.2.2.2.1
        have hI9 := hS9.1.1
        refine xe (fun _ _ kK => x_iinc dX2_readAll_68 1 rfl (show (nI k) + Int32.ofInt 1 = nI (k + 1) from nI_add k 1) (by decide) (show _ = [(2, .int (nI (k + 1))), (1, .int (nI 0)), (0, .ref rd)] from rfl) kK) ?_
        refine xe (fun _ _ kK => x_goto (tgt := 18) dX2_readAll_71 (by decide) kK) ?_
        refine xe (fun _ _ kK => x_iload_n dX2_readAll_18 rfl 0 rfl kK) ?_
        refine xe (fun _ _ kK => x_sipush dX2_readAll_19 (show _ = nI 400 by decide) kK) ?_
        refine xe_icmp_gt (tgt := 74) dX2_readAll_22 (by decide) (fun h22 => ?_) (fun h22 => ?_)
        · -- pc 74
          refine xe (fun _ _ kK => x_aload_n dX2_readAll_74 rfl 2 rfl kK) ?_
          refine xe (fun _ _ kK => x_get dX2_readAll_75 fl_X2_15 hR9.1 (gvl_r1 fz_2_1.2.2 (show e_r T2 129 rd = some p from hR9.2.2)) kK) ?_
          refine xe_callV (a := p) [] dX2_readAll_78 ml_X2_50 mf_X1_measure hI9 (c_X1_measure (d + 4) hS9 hMe) rfl rfl (Nat.le_of_ble_eq_true rfl) (Nat.le_of_ble_eq_true rfl) ?_
          rintro _ T3 ⟨rfl, hF3, hK3⟩
          have hA3 : FrG [(258, 1), (259, 1), (260, 1), (261, 1), (262, 1), (263, 1), (74, p), (75, p), (130, rd), (131, rd)] [p + 1, p + 2, p + 3, p + 4, p + 5, p + 9, p + 10, p + 6, p + 7, p + 8] T T3 := FrG.tr (hF2.mono (fun _ h9 => h9) (by simp)) (hF3.mono (by simp) (by simp))
          refine xe (fun _ _ kK => x_aload_n dX2_readAll_81 rfl 2 rfl kK) ?_
          refine xe (fun _ _ kK => x_get dX2_readAll_82 fl_X2_9 (by rw [hF3.1]; exact hR9.1) (gvl_r1 fz_2_0.2.2 (show e_r T3 128 rd = some 1 from (by rw [hF3.2.1]; exact hR9.2.1))) kK) ?_
          refine xe (fun _ _ kK => x_get dX2_readAll_85 fl_X2_53 (by rw [hF3.1]; exact hC9) (gvl_i fz_4_3.2.2 (show e_i T3 259 1 = nI 0 from ((hF3.i (by simp)).trans (hO2.1.trans h259)))) kK) ?_
          refine xe (fun _ _ kK => x_if_neF (tgt := 95) dX2_readAll_88 (by decide) nI_0 kK) ?_
          refine xe (fun _ _ kK => x_iconst dX2_readAll_91 (show _ = nI 1 by decide) kK) ?_
          refine xe (fun _ _ kK => x_goto (tgt := 96) dX2_readAll_92 (by decide) kK) ?_
          exact xe_retz dX2_readAll_96 rfl (by first | exact Or.inl rfl | exact Or.inr rfl) (⟨hA3, rfl, (hF3.i (by simp)).trans (hO2.1.trans h259), (hF3.i (by simp)).trans (hO2.2.trans h260), en, lo, hS9.of hF3 (by simp) (by simp) (by simp), by rw [← he1]; exact hV, hK3, x, by rw [← he1]; exact hPI, he2⟩)
        · -- pc 25
          refine xe (fun _ _ kK => x_iload_n dX2_readAll_25 rfl 1 rfl kK) ?_
          refine xe (fun _ _ kK => x_if_eqT (tgt := 74) dX2_readAll_26 (by decide) rfl kK) ?_
          refine xe (fun _ _ kK => x_aload_n dX2_readAll_74 rfl 2 rfl kK) ?_
          refine xe (fun _ _ kK => x_get dX2_readAll_75 fl_X2_15 hR9.1 (gvl_r1 fz_2_1.2.2 (show e_r T2 129 rd = some p from hR9.2.2)) kK) ?_
          refine xe_callV (a := p) [] dX2_readAll_78 ml_X2_50 mf_X1_measure hI9 (c_X1_measure (d + 4) hS9 hMe) rfl rfl (Nat.le_of_ble_eq_true rfl) (Nat.le_of_ble_eq_true rfl) ?_
          rintro _ T3 ⟨rfl, hF3, hK3⟩
          have hA3 : FrG [(258, 1), (259, 1), (260, 1), (261, 1), (262, 1), (263, 1), (74, p), (75, p), (130, rd), (131, rd)] [p + 1, p + 2, p + 3, p + 4, p + 5, p + 9, p + 10, p + 6, p + 7, p + 8] T T3 := FrG.tr (hF2.mono (fun _ h9 => h9) (by simp)) (hF3.mono (by simp) (by simp))
          refine xe (fun _ _ kK => x_aload_n dX2_readAll_81 rfl 2 rfl kK) ?_
          refine xe (fun _ _ kK => x_get dX2_readAll_82 fl_X2_9 (by rw [hF3.1]; exact hR9.1) (gvl_r1 fz_2_0.2.2 (show e_r T3 128 rd = some 1 from (by rw [hF3.2.1]; exact hR9.2.1))) kK) ?_
          refine xe (fun _ _ kK => x_get dX2_readAll_85 fl_X2_53 (by rw [hF3.1]; exact hC9) (gvl_i fz_4_3.2.2 (show e_i T3 259 1 = nI 0 from ((hF3.i (by simp)).trans (hO2.1.trans h259)))) kK) ?_
          refine xe (fun _ _ kK => x_if_neF (tgt := 95) dX2_readAll_88 (by decide) nI_0 kK) ?_
          refine xe (fun _ _ kK => x_iconst dX2_readAll_91 (show _ = nI 1 by decide) kK) ?_
          refine xe (fun _ _ kK => x_goto (tgt := 96) dX2_readAll_92 (by decide) kK) ?_
          exact xe_retz dX2_readAll_96 rfl (by first | exact Or.inl rfl | exact Or.inr rfl) (⟨hA3, rfl, (hF3.i (by simp)).trans (hO2.1.trans h259), (hF3.i (by simp)).trans (hO2.2.trans h260), en, lo, hS9.of hF3 (by simp) (by simp) (by simp), by rw [← he1]; exact hV, hK3, x, by rw [← he1]; exact hPI, he2⟩)
      | some z =>
        obtain ⟨p9, s9, gs9⟩ := z
        rw [hz] at hst
        obtain ⟨hPI9, hp9⟩ := pStep_ok hPI hz
        obtain ⟨hv9, hF2, hO2, hL9, hR9, en9, lo9, hS9, hV9⟩ := hst
        cases hv9
        refine xe (fun _ _ kK => x_iinc dX2_readAll_68 1 rfl (show (nI k) + Int32.ofInt 1 = nI (k + 1) from nI_add k 1) (by decide) (show _ = [(2, .int (nI (k + 1))), (1, .int (nI 1)), (0, .ref rd)] from rfl) kK) ?_
        refine xe (fun _ _ kK => x_goto (tgt := 18) dX2_readAll_71 (by decide) kK) ?_
        have hp9n := hPI9.1
        refine Xe.imp (xe_loc (by simp) (ih (k + 1) T2 p9 s9 gs9 en9 lo9 (by omega) (by omega) hL9 hR9 hS9 hp hPI9 hV9 (hO2.1.trans h259) (hO2.2.trans h260))) (fun r9 T9 h9 => ⟨FrG.tr (hF2.mono (fun _ h9 => h9) (by simp)) h9.1, h9.2⟩)

set_option maxHeartbeats 4000000 in
theorem c_X2_readAll (d : Nat) {T : TH} {n rd p : Nat} {b : Nat → Nat} (hC : CI T) (hB : CBt T n b) (hn : e_i T 257 1 = nI n) (hn4 : n ≤ 400) (hR : RC T rd p []) (hrd : 120 ≤ rd) (hp : p = 66 ∨ p = 77) : Xe m_X2_readAll (d + 7) 0 [(0, .ref rd)] [] T (fun r T1 => FrG [(258, 1), (259, 1), (260, 1), (261, 1), (262, 1), (263, 1), (74, p), (75, p), (130, rd), (131, rd)] [p + 1, p + 2, p + 3, p + 4, p + 5, p + 9, p + 10, p + 6, p + 7, p + 8] T T1 ∧ match pShape b n with
      | .inl (k, q) => r = some (.int (nI 0)) ∧ FailC T1 k q
      | .inr s' => r = some (.int (nI 1)) ∧ e_i T1 259 1 = nI 0 ∧ e_i T1 260 1 = -1 ∧ ∃ en' lo', CSp T1 p s' en' lo' ∧ ShV s' [] en' lo' ∧ MsK T1 p s' s'.1 ∧ ∃ p', PI n p' s' [] ∧ s'.1 ≠ 0) := by
  have hI := hC.sh hp
  refine xe (fun _ _ kK => x_aload_n dX2_readAll_0 rfl 0 rfl kK) ?_
  refine xe (fun _ _ kK => x_get dX2_readAll_1 fl_X2_9 hR.1 (gvl_r1 fz_2_0.2.2 (show e_r T 128 rd = some 1 from hR.2.1)) kK) ?_
  refine xe_callV (a := 1) [] dX2_readAll_4 ml_X2_26 mf_X4_begin hC.2.2.2.2.1 (c_X4_begin (d + 6) hC) rfl rfl (Nat.le_of_ble_eq_true rfl) (Nat.le_of_ble_eq_true rfl) ?_
  rintro _ _ ⟨rfl, rfl⟩
  have hG1 : FrG [(258, 1), (259, 1), (260, 1), (261, 1), (262, 1), (263, 1), (74, p), (75, p), (130, rd), (131, rd)] [] T (s_i (s_i (s_i T 258 1 (nI 0)) 259 1 (nI 0)) 260 1 (-1)) := (FrG.si (FrG.si (FrG.si FrG.rf (by simp) _) (by simp) _) (by simp) _)
  have hI1 := hG1.shi hI
  refine xe (fun _ _ kK => x_aload_n dX2_readAll_7 rfl 0 rfl kK) ?_
  refine xe (fun _ _ kK => x_get dX2_readAll_8 fl_X2_15 (wK_i (wK_i (wK_i hR.1))) (gvl_r1 fz_2_1.2.2 (show e_r (s_i (s_i (s_i T 258 1 (nI 0)) 259 1 (nI 0)) 260 1 (-1)) 129 rd = some p from (wr_i (wr_i (wr_i hR.2.2.1))))) kK) ?_
  refine xe_callV (a := p) [] dX2_readAll_11 ml_X2_31 mf_X1_clear (wK_i (wK_i (wK_i hI.1))) (c_X1_clear (d + 6) hI1) rfl rfl (Nat.le_of_ble_eq_true rfl) (Nat.le_of_ble_eq_true rfl) ?_
  rintro _ _ ⟨rfl, rfl⟩
  have hG2 : FrG [(258, 1), (259, 1), (260, 1), (261, 1), (262, 1), (263, 1), (74, p), (75, p), (130, rd), (131, rd)] [] T (s_i (s_i (s_i (s_i (s_i T 258 1 (nI 0)) 259 1 (nI 0)) 260 1 (-1)) 74 p (nI 0)) 75 p (nI 0)) := (FrG.si (FrG.si (FrG.si (FrG.si (FrG.si FrG.rf (by simp) _) (by simp) _) (by simp) _) (by simp) _) (by simp) _)
  have hL2 : LC (s_i (s_i (s_i (s_i (s_i T 258 1 (nI 0)) 259 1 (nI 0)) 260 1 (-1)) 74 p (nI 0)) 75 p (nI 0)) n b 0 := ⟨hG2.ci hC, fun j hj => by rw [hG2.ai (by simp)]; exact hB j hj, by simp [q_i_i, q_i_l, q_i_ai, q_i_al, q_ai_ai, q_ai_i, q_ai_l, q_ai_al, q_al_al, q_al_i, q_al_ai, q_al_l, q_l_i, q_l_l, q_l_ai, q_l_al, q_r_r, q_r_i, q_r_l, q_r_ai, q_r_al, q_i_r, q_l_r, q_ai_r, q_al_r, q_K_i, q_K_r, q_K_l, q_K_ai, q_K_al, q_len_i, q_len_r, q_len_l, q_len_ai, q_len_al, q_n_i, q_n_r, q_n_l, q_n_ai, q_n_al, q_s_i, q_s_r, q_s_l, q_s_ai, q_s_al] <;> omega, by simp [q_i_i, q_i_l, q_i_ai, q_i_al, q_ai_ai, q_ai_i, q_ai_l, q_ai_al, q_al_al, q_al_i, q_al_ai, q_al_l, q_l_i, q_l_l, q_l_ai, q_l_al, q_r_r, q_r_i, q_r_l, q_r_ai, q_r_al, q_i_r, q_l_r, q_ai_r, q_al_r, q_K_i, q_K_r, q_K_l, q_K_ai, q_K_al, q_len_i, q_len_r, q_len_l, q_len_ai, q_len_al, q_n_i, q_n_r, q_n_l, q_n_ai, q_n_al, q_s_i, q_s_r, q_s_l, q_s_ai, q_s_al]; exact hn, Nat.zero_le _, hn4⟩
  have hR2 : RC (s_i (s_i (s_i (s_i (s_i T 258 1 (nI 0)) 259 1 (nI 0)) 260 1 (-1)) 74 p (nI 0)) 75 p (nI 0)) rd p [] := ⟨by rw [hG2.1]; exact hR.1, by rw [hG2.2.1]; exact hR.2.1, by rw [hG2.2.1]; exact hR.2.2.1, by simp [q_i_i, q_i_l, q_i_ai, q_i_al, q_ai_ai, q_ai_i, q_ai_l, q_ai_al, q_al_al, q_al_i, q_al_ai, q_al_l, q_l_i, q_l_l, q_l_ai, q_l_al, q_r_r, q_r_i, q_r_l, q_r_ai, q_r_al, q_i_r, q_l_r, q_ai_r, q_al_r, q_K_i, q_K_r, q_K_l, q_K_ai, q_K_al, q_len_i, q_len_r, q_len_l, q_len_ai, q_len_al, q_n_i, q_n_r, q_n_l, q_n_ai, q_n_al, q_s_i, q_s_r, q_s_l, q_s_ai, q_s_al]; exact hR.2.2.2.1, by simp [q_i_i, q_i_l, q_i_ai, q_i_al, q_ai_ai, q_ai_i, q_ai_l, q_ai_al, q_al_al, q_al_i, q_al_ai, q_al_l, q_l_i, q_l_l, q_l_ai, q_l_al, q_r_r, q_r_i, q_r_l, q_r_ai, q_r_al, q_i_r, q_l_r, q_ai_r, q_al_r, q_K_i, q_K_r, q_K_l, q_K_ai, q_K_al, q_len_i, q_len_r, q_len_l, q_len_ai, q_len_al, q_n_i, q_n_r, q_n_l, q_n_ai, q_n_al, q_s_i, q_s_r, q_s_l, q_s_ai, q_s_al]; exact hR.2.2.2.2⟩
  have hS2 : CSp (s_i (s_i (s_i (s_i (s_i T 258 1 (nI 0)) 259 1 (nI 0)) 260 1 (-1)) 74 p (nI 0)) 75 p (nI 0)) p Sh0 (fun _ => 0) (fun _ => none) := ⟨hG2.shi hI, by simp [q_i_i, q_i_l, q_i_ai, q_i_al, q_ai_ai, q_ai_i, q_ai_l, q_ai_al, q_al_al, q_al_i, q_al_ai, q_al_l, q_l_i, q_l_l, q_l_ai, q_l_al, q_r_r, q_r_i, q_r_l, q_r_ai, q_r_al, q_i_r, q_l_r, q_ai_r, q_al_r, q_K_i, q_K_r, q_K_l, q_K_ai, q_K_al, q_len_i, q_len_r, q_len_l, q_len_ai, q_len_al, q_n_i, q_n_r, q_n_l, q_n_ai, q_n_al, q_s_i, q_s_r, q_s_l, q_s_ai, q_s_al]; rfl, by simp [q_i_i, q_i_l, q_i_ai, q_i_al, q_ai_ai, q_ai_i, q_ai_l, q_ai_al, q_al_al, q_al_i, q_al_ai, q_al_l, q_l_i, q_l_l, q_l_ai, q_l_al, q_r_r, q_r_i, q_r_l, q_r_ai, q_r_al, q_i_r, q_l_r, q_ai_r, q_al_r, q_K_i, q_K_r, q_K_l, q_K_ai, q_K_al, q_len_i, q_len_r, q_len_l, q_len_ai, q_len_al, q_n_i, q_n_r, q_n_l, q_n_ai, q_n_al, q_s_i, q_s_r, q_s_l, q_s_ai, q_s_al]; rfl, fun f hf => absurd hf (Nat.not_lt_zero f), fun c hc => absurd hc (Nat.not_lt_zero c)⟩
  have h259 : e_i (s_i (s_i (s_i (s_i (s_i T 258 1 (nI 0)) 259 1 (nI 0)) 260 1 (-1)) 74 p (nI 0)) 75 p (nI 0)) 259 1 = nI 0 := by simp [q_i_i, q_i_l, q_i_ai, q_i_al, q_ai_ai, q_ai_i, q_ai_l, q_ai_al, q_al_al, q_al_i, q_al_ai, q_al_l, q_l_i, q_l_l, q_l_ai, q_l_al, q_r_r, q_r_i, q_r_l, q_r_ai, q_r_al, q_i_r, q_l_r, q_ai_r, q_al_r, q_K_i, q_K_r, q_K_l, q_K_ai, q_K_al, q_len_i, q_len_r, q_len_l, q_len_ai, q_len_al, q_n_i, q_n_r, q_n_l, q_n_ai, q_n_al, q_s_i, q_s_r, q_s_l, q_s_ai, q_s_al]
  have h260 : e_i (s_i (s_i (s_i (s_i (s_i T 258 1 (nI 0)) 259 1 (nI 0)) 260 1 (-1)) 74 p (nI 0)) 75 p (nI 0)) 260 1 = -1 := by simp [q_i_i, q_i_l, q_i_ai, q_i_al, q_ai_ai, q_ai_i, q_ai_l, q_ai_al, q_al_al, q_al_i, q_al_ai, q_al_l, q_l_i, q_l_l, q_l_ai, q_l_al, q_r_r, q_r_i, q_r_l, q_r_ai, q_r_al, q_i_r, q_l_r, q_ai_r, q_al_r, q_K_i, q_K_r, q_K_l, q_K_ai, q_K_al, q_len_i, q_len_r, q_len_l, q_len_ai, q_len_al, q_n_i, q_n_r, q_n_l, q_n_ai, q_n_al, q_s_i, q_s_r, q_s_l, q_s_ai, q_s_al]
  generalize hT9 : (s_i (s_i (s_i (s_i (s_i T 258 1 (nI 0)) 259 1 (nI 0)) 260 1 (-1)) 74 p (nI 0)) 75 p (nI 0)) = T9 at hG2 hL2 hR2 hS2 h259 h260 ⊢
  refine xe (fun _ _ kK => x_iconst dX2_readAll_14 (show _ = nI 1 by decide) kK) ?_
  refine xe (fun _ _ kK => x_istore_n dX2_readAll_15 rfl (by decide) (show _ = [(1, .int (nI 1)), (0, .ref rd)] from rfl) kK) ?_
  refine xe (fun _ _ kK => x_iconst dX2_readAll_16 (show _ = nI 0 by decide) kK) ?_
  refine xe (fun _ _ kK => x_istore_n dX2_readAll_17 rfl (by decide) (show _ = [(2, .int (nI 0)), (1, .int (nI 1)), (0, .ref rd)] from rfl) kK) ?_
  refine Xe.imp (xe_loc (by simp) (l_X2_readAll d (n + 1) 0 T9 0 Sh0 [] _ _ (by omega) (Nat.le_refl _) hL2 hR2 hS2 hp (PI0 hn4) ShV0 h259 h260)) (fun r9 T8 h9 => ⟨FrG.tr (hG2.mono (fun _ h8 => h8) (by simp)) h9.1, h9.2⟩)

set_option maxHeartbeats 4000000 in
theorem c_X2_init (d : Nat) {T : TH} {rd p : Nat} (hK : e_K T rd = 3) : Xe m_X2_init (d + 1) 0 [(0, .ref rd), (1, .ref 1), (2, .ref p)] [] T (fun r T1 => r = none ∧ T1 = s_i (s_i (s_r (s_r T 128 rd (some 1)) 129 rd (some p)) 130 rd (-1)) 131 rd (nI 0)) := by
  refine xe (fun _ _ kK => x_aload_n dX2_init_0 rfl 0 rfl kK) ?_
  refine xe (fun _ _ kK => x_objInit dX2_init_1 ml_X2_3 (Nat.le_of_ble_eq_true rfl) kK) ?_
  refine xe (fun _ _ kK => x_aload_n dX2_init_4 rfl 0 rfl kK) ?_
  refine xe (fun _ _ kK => x_aload_n dX2_init_5 rfl 1 rfl kK) ?_
  refine xe (fun _ _ kK => x_putrF dX2_init_6 ⟨fl_X2_9, fz_2_0.1, fz_2_0.2.1, rfl, rfl⟩ fz_2_0.2.2 (fun _ => rfl) (fun _ => rfl) hK kK) ?_
  refine xe (fun _ _ kK => x_aload_n dX2_init_9 rfl 0 rfl kK) ?_
  refine xe (fun _ _ kK => x_aload_n dX2_init_10 rfl 2 rfl kK) ?_
  refine xe (fun _ _ kK => x_putrF dX2_init_11 ⟨fl_X2_15, fz_2_1.1, fz_2_1.2.1, rfl, rfl⟩ fz_2_1.2.2 (fun _ => rfl) (fun _ => rfl) (wK_r hK) kK) ?_
  refine xe (fun _ _ kK => x_aload_n dX2_init_14 rfl 0 rfl kK) ?_
  refine xe (fun _ _ kK => x_iconst dX2_init_15 (show _ = (-1) by decide) kK) ?_
  refine xe (fun _ _ kK => x_puti dX2_init_16 ⟨fl_X2_19, fz_2_2.1, fz_2_2.2.1⟩ (Or.inl fz_2_2.2.2) rfl rfl (wK_r (wK_r hK)) kK) ?_
  refine xe (fun _ _ kK => x_aload_n dX2_init_19 rfl 0 rfl kK) ?_
  refine xe (fun _ _ kK => x_iconst dX2_init_20 (show _ = nI 0 by decide) kK) ?_
  refine xe (fun _ _ kK => x_puti dX2_init_21 ⟨fl_X2_23, fz_2_3.1, fz_2_3.2.1⟩ (Or.inl fz_2_3.2.2) rfl rfl (wK_i (wK_r (wK_r hK))) kK) ?_
  exact xe_retv dX2_init_24 rfl (⟨rfl, rfl⟩)
