/-! the class's reader of PAPERS -/
def smC (cp : Nat → Nat) : Nat → Nat
  | 0 => 0
  | k + 1 => smC cp k + cp k
theorem smC_up {cp cp' : Nat → Nat} {c : Nat} (h : ∀ c', c' ≠ c → cp' c' = cp c') : ∀ k, smC cp' k + (if c < k then cp c else 0) = smC cp k + (if c < k then cp' c else 0) := by
  intro k
  induction k with
  | zero => simp [smC]
  | succ k ih =>
    show smC cp' k + cp' k + _ = smC cp k + cp k + _
    by_cases e : k = c
    · subst e; rw [if_neg (by omega), if_neg (by omega)] at ih; rw [if_pos (by omega), if_pos (by omega)]; omega
    · rw [h k e]
      by_cases e2 : c < k
      · rw [if_pos e2, if_pos e2] at ih; rw [if_pos (by omega), if_pos (by omega)]; omega
      · rw [if_neg e2, if_neg e2] at ih; rw [if_neg (by omega), if_neg (by omega)]; omega
/-- what the reading of a PAPER may change -/
def P1 (x : Nat) : Prop := x = 1 ∨ (4 ≤ x ∧ x < 64) ∨ 120 ≤ x
def PFr (T T1 : TH) (cp cp' : Nat → Nat) : Prop := FrA P1 T T1 ∧ (∀ c g, c < 12 → g ≠ 196 → e_i T1 g (4 + 5 * c) = e_i T g (4 + 5 * c)) ∧ e_n T1 + smC cp 12 ≤ e_n T + smC cp' 12 ∧ e_s T1 + 12 * smC cp 12 ≤ e_s T + 12 * smC cp' 12 ∧ ∀ a, a < e_n T → e_K T a = 1 → e_K T1 a = 1 ∧ e_r T1 0 a = e_r T 0 a
theorem PFr.rf {T : TH} {cp : Nat → Nat} : PFr T T cp cp := ⟨FrA.rf, fun _ _ _ _ => rfl, Nat.le_refl _, Nat.le_refl _, fun _ _ h => ⟨h, rfl⟩⟩
theorem PFr.tr {T T1 T2 : TH} {cp cp1 cp2 : Nat → Nat} (h : PFr T T1 cp cp1) (k : PFr T1 T2 cp1 cp2) : PFr T T2 cp cp2 := ⟨h.1.tr k.1, fun c g hc hg => (k.2.1 c g hc hg).trans (h.2.1 c g hc hg), by have := h.2.2.1; have := k.2.2.1; omega, by have := h.2.2.2.1; have := k.2.2.2.1; omega, fun a ha hK => ⟨(k.2.2.2.2 a (Nat.lt_of_lt_of_le ha h.1.2.1) (h.2.2.2.2 a ha hK).1).1, (k.2.2.2.2 a (Nat.lt_of_lt_of_le ha h.1.2.1) (h.2.2.2.2 a ha hK).1).2.trans (h.2.2.2.2 a ha hK).2⟩⟩
theorem PFr.ofG {I : List (Nat × Nat)} {B : List Nat} {T T1 : TH} {cp : Nat → Nat} (hF : FrG I B T T1) (h1 : ∀ q ∈ I, q.2 = 1 ∨ 120 ≤ q.2) (h2 : ∀ a ∈ B, 120 ≤ a) : PFr T T1 cp cp :=
  ⟨hF.A (fun q hq => by have := h1 q hq; unfold P1; omega) (fun a ha => by have := h2 a ha; unfold P1; omega), fun c g hc _ => hF.i (fun z => by have := h1 _ z; omega), by rw [hF.2.2.2.2.1]; exact Nat.le_refl _, by rw [hF.2.2.2.2.2.1]; exact Nat.le_refl _, fun a _ hK => ⟨by rw [hF.1]; exact hK, by rw [hF.2.1]⟩⟩
/-- the reader's own cells: rd, its rows behind it -/
def PC (T : TH) (rd cu i : Nat) : Prop := e_K T rd = 1 ∧ e_r T 0 rd = some 1 ∧ e_r T 1 rd = some cu ∧ e_r T 2 rd = some 3 ∧ e_i T 3 rd = nI i ∧ e_r T 4 rd = some (rd + 1) ∧ e_r T 5 rd = some (rd + 2) ∧ e_K T (rd + 1) = 22 ∧ e_len T (rd + 1) = 66 ∧ e_K T (rd + 2) = 20 ∧ e_len T (rd + 2) = 5
/-- where it stands: the group, how deep, what is there, the levels -/
def PV (T : TH) (rd : Nat) (o : Option Nat) (dep : Nat) (th : Nat → Bool) (lv : Nat → Nat) : Prop := e_i T 6 rd = oI o ∧ e_i T 7 rd = nI dep ∧ (∀ f, f < 66 → e_ai T (rd + 1) f = bI (th f)) ∧ ∀ j, j ≤ dep → e_ai T (rd + 2) j = nI (lv j)
def PRs (T : TH) (rd cu i : Nat) (s : Sh) (en : Nat → Nat) (lo : Nat → Option Nat) (n : Nat) (b : Nat → Nat) (x : Nat) (o : Option Nat) (dep : Nat) (th : Nat → Bool) (lv : Nat → Nat) (A : Nat → Nat → Nat) (cp : Nat → Nat) (RR : Nat → List Row) : Prop :=
  LC T n b x ∧ CSp T cu s en lo ∧ MsK T cu s s.1 ∧ PC T rd cu i ∧ PV T rd o dep th lv ∧ TbA T A cp ∧ (∀ c, c < s.2.1 → TbR T A cp c (RR c)) ∧ ((∀ c k, c < 12 → k < 4 → A c k < rd ∨ rd + 2 < A c k) ∧ 120 ≤ rd ∧ rd + 2 < e_n T) ∧ (e_i T 259 1 = nI 0 ∧ e_i T 260 1 = -1)
/-- what stays true of the shape and the numbers -/
def PZ (cu i : Nat) (s : Sh) (en : Nat → Nat) (lo : Nat → Option Nat) : Prop := (cu = 66 ∨ cu = 77) ∧ ShV s [] en lo ∧ (s.1 ≤ 60 ∧ s.2.1 ≤ 12) ∧ i < 30 ∧ (∀ f g, f < s.1 → s.2.2.1 f = some g → g < f) ∧ ∀ f, f < s.1 → s.2.2.2.1 f < 27 ^ 8
theorem PC.ofA {S : Nat → Prop} {T T1 : TH} {rd cu i : Nat} (h : PC T rd cu i) (hF : FrA S T T1) (h0 : ¬ S rd) (h1 : ¬ S (rd + 1)) (h2 : ¬ S (rd + 2)) : PC T1 rd cu i := by
  obtain ⟨k1, k2, k3, k4, k5, k6, k7, k8, k9, k10, k11⟩ := h
  exact ⟨by rw [hF.K h0]; exact k1, by rw [hF.r h0]; exact k2, by rw [hF.r h0]; exact k3, by rw [hF.r h0]; exact k4, by rw [hF.i h0]; exact k5, by rw [hF.r h0]; exact k6, by rw [hF.r h0]; exact k7, by rw [hF.K h1]; exact k8, by rw [hF.len h1]; exact k9, by rw [hF.K h2]; exact k10, by rw [hF.len h2]; exact k11⟩
theorem PV.ofA {S : Nat → Prop} {T T1 : TH} {rd dep : Nat} {o : Option Nat} {th : Nat → Bool} {lv : Nat → Nat} (h : PV T rd o dep th lv) (hF : FrA S T T1) (h0 : ¬ S rd) (h1 : ¬ S (rd + 1)) (h2 : ¬ S (rd + 2)) : PV T1 rd o dep th lv :=
  ⟨by rw [hF.i h0]; exact h.1, by rw [hF.i h0]; exact h.2.1, fun f hf => by rw [hF.ai h1]; exact h.2.2.1 f hf, fun j hj => by rw [hF.ai h2]; exact h.2.2.2 j hj⟩
theorem PC.ofG {I : List (Nat × Nat)} {B : List Nat} {T T1 : TH} {rd cu i : Nat} (h : PC T rd cu i) (hF : FrG I B T T1) (h0 : (3, rd) ∉ I) : PC T1 rd cu i := by
  obtain ⟨k1, k2, k3, k4, k5, k6, k7, k8, k9, k10, k11⟩ := h
  unfold PC
  rw [hF.1, hF.2.1, hF.2.2.1, hF.i h0]
  exact ⟨k1, k2, k3, k4, k5, k6, k7, k8, k9, k10, k11⟩
theorem PV.ofG {I : List (Nat × Nat)} {B : List Nat} {T T1 : TH} {rd dep : Nat} {o : Option Nat} {th : Nat → Bool} {lv : Nat → Nat} (h : PV T rd o dep th lv) (hF : FrG I B T T1) (h0 : (6, rd) ∉ I) (h1 : (7, rd) ∉ I) (h2 : rd + 1 ∉ B) (h3 : rd + 2 ∉ B) : PV T1 rd o dep th lv :=
  ⟨by rw [hF.i h0]; exact h.1, by rw [hF.i h1]; exact h.2.1, fun f hf => by rw [hF.ai h2]; exact h.2.2.1 f hf, fun j hj => by rw [hF.ai h3]; exact h.2.2.2 j hj⟩
/-- the tape moves -/
theorem PRs.mv {I : List (Nat × Nat)} {T T1 : TH} {rd cu i n x x' dep : Nat} {s : Sh} {en : Nat → Nat} {lo : Nat → Option Nat} {b : Nat → Nat} {o : Option Nat} {th : Nat → Bool} {lv : Nat → Nat} {A : Nat → Nat → Nat} {cp : Nat → Nat} {RR : Nat → List Row} (h : PRs T rd cu i s en lo n b x o dep th lv A cp RR) (hu : cu = 66 ∨ cu = 77) (hF : FrG I [] T T1) (hI : ∀ q ∈ I, q.2 = 1 ∧ q.1 ≠ 257 ∧ q.1 ≠ 259 ∧ q.1 ≠ 260) (h1 : e_i T1 258 1 = nI x') (h2 : x' ≤ n) : PRs T1 rd cu i s en lo n b x' o dep th lv A cp RR := by
  obtain ⟨hL, hS, hK, hC0, hV0, hA, hR, ⟨hs1, hs2, hs3⟩, hf1, hf2⟩ := h
  have hn : ∀ g a, a ≠ 1 → (g, a) ∉ I := fun g a ha z => ha (hI _ z).1
  exact ⟨hL.of hF List.not_mem_nil (fun z => (hI _ z).2.1 rfl) h1 h2, hS.of hF (hn _ _ (by omega)) (hn _ _ (by omega)) (fun k _ => List.not_mem_nil), hK.of hF List.not_mem_nil List.not_mem_nil List.not_mem_nil, hC0.ofG hF (hn _ _ (by omega)), hV0.ofG hF (hn _ _ (by omega)) (hn _ _ (by omega)) List.not_mem_nil List.not_mem_nil, hA.ofG hF, fun c hc => (hR c hc).ofG hF (hn _ _ (by omega)) (fun k _ => List.not_mem_nil), ⟨hs1, hs2, by rw [hF.2.2.2.2.1]; exact hs3⟩, (hF.i (fun z => (hI _ z).2.2.1 rfl)).trans hf1, (hF.i (fun z => (hI _ z).2.2.2 rfl)).trans hf2⟩
/-- a row more -/
theorem PRs.add {T T1 : TH} {rd cu i n x dep c : Nat} {s : Sh} {en : Nat → Nat} {lo : Nat → Option Nat} {b : Nat → Nat} {o : Option Nat} {th : Nat → Bool} {lv : Nat → Nat} {A A' : Nat → Nat → Nat} {cp cp' : Nat → Nat} {RR : Nat → List Row} {R' : List Row} (h : PRs T rd cu i s en lo n b x o dep th lv A cp RR) (hu : cu = 66 ∨ cu = 77) (h12 : s.2.1 ≤ 12) (hc : c < s.2.1) (hP : AddP T T1 A A' cp cp' c) (hR' : TbR T1 A' cp' c R') : PRs T1 rd cu i s en lo n b x o dep th lv A' cp' (va_up RR c R') ∧ PFr T T1 cp cp' := by
  obtain ⟨hL, hS, hK, hC0, hV0, hA, hR, ⟨hs1, hs2, hs3⟩, hf1, hf2⟩ := h
  obtain ⟨p1, p2, p3, p4, p5, p6, p7, p8⟩ := hP
  have hAc : ∀ k, k < 4 → (A c k = 5 + 5 * c + k ∨ 120 ≤ A c k) ∧ A c k < e_n T := fun k hk => ⟨(hA.2.1 c k (by omega) hk).2.2.2.2, (hA.2.1 c k (by omega) hk).2.2.2.1⟩
  have h120 := hA.2.2.2
  have hno : ∀ a, a < 120 → (a < 4 ∨ 64 ≤ a) → ¬ (a = 4 + 5 * c ∨ (∃ k, k < 4 ∧ a = A c k) ∨ e_n T ≤ a) := by
    rintro a h1 h2 (z | ⟨k, hk, z⟩ | z)
    · omega
    · have := hAc k hk; omega
    · omega
  have hrd : ∀ a, rd ≤ a → a ≤ rd + 2 → ¬ (a = 4 + 5 * c ∨ (∃ k, k < 4 ∧ a = A c k) ∨ e_n T ≤ a) := by
    rintro a h1 h2 (z | ⟨k, hk, z⟩ | z)
    · omega
    · have := hs1 c k (by omega) hk; omega
    · omega
  have n1 := hno 1 (by omega) (by omega)
  refine ⟨⟨⟨hL.1.ofA p7 (fun a h1 h2 => hno a (by omega) h2), fun j hj => by rw [p7.ai (hno 2 (by omega) (by omega))]; exact hL.2.1 j hj, (p7.i n1).trans hL.2.2.1, (p7.i n1).trans hL.2.2.2.1, hL.2.2.2.2⟩, hS.ofA p7 (fun a h1 h2 => hno a (by omega) (by omega)), hK.ofA p7 (fun a h1 h2 => hno a (by omega) (by omega)), hC0.ofA p7 (hrd _ (by omega) (by omega)) (hrd _ (by omega) (by omega)) (hrd _ (by omega) (by omega)), hV0.ofA p7 (hrd _ (by omega) (by omega)) (hrd _ (by omega) (by omega)) (hrd _ (by omega) (by omega)), p1, fun c' hc' => ?_, ⟨fun c' k hc' hk => ?_, hs2, Nat.lt_of_lt_of_le hs3 p7.2.1⟩, (p7.i n1).trans hf1, (p7.i n1).trans hf2⟩, p7.mono (fun a ha => ?_), fun c' g hc' hg => ?_, ?_, ?_, fun a ha hKa => ?_⟩
  · by_cases e : c' = c
    · subst e; rw [ups]; exact hR'
    · rw [upn e]
      have h1 : TbR T1 A cp c' (RR c') := (hR c' hc').ofA p7 (by rintro (z | ⟨k, hk, z⟩ | z); omega; have := hA.ne (c := c) (k := k) (c' := c') (by omega) hk (by omega); omega; omega) (fun j hj => by
        rintro (z | ⟨k, hk, z⟩ | z)
        · exact hA.ne (by omega) hj (by omega) z
        · exact e (hA.2.2.1 c' j c k (by omega) hj (by omega) hk z).1
        · have := (hA.2.1 c' j (by omega) hj).2.2.2.1; omega)
      unfold TbR
      rw [(p2 c' e).1, (p2 c' e).2]; exact h1
  · by_cases e : c' = c
    · subst e
      rcases p3 k hk with z | z
      · rw [z]; exact hs1 c' k hc' hk
      · omega
    · rw [(p2 c' e).1]; exact hs1 c' k hc' hk
  · rcases ha with z | ⟨k, hk, z⟩ | z
    · unfold P1; omega
    · have := hAc k hk; unfold P1; omega
    · unfold P1; omega
  · by_cases e : c' = c
    · subst e; exact p8 g hg
    · refine p7.i ?_
      rintro (z | ⟨k, hk, z⟩ | z)
      · omega
      · have := hA.ne (c := c) (k := k) (c' := c') (by omega) hk hc'; omega
      · omega
  · have := smC_up (cp := cp) (cp' := cp') (c := c) (fun c' h => (p2 c' h).2) 12
    rw [if_pos (by omega), if_pos (by omega)] at this; omega
  · have := smC_up (cp := cp) (cp' := cp') (c := c) (fun c' h => (p2 c' h).2) 12
    rw [if_pos (by omega), if_pos (by omega)] at this; omega
  · have hna : ¬ (a = 4 + 5 * c ∨ (∃ k, k < 4 ∧ a = A c k) ∨ e_n T ≤ a) := by
      rintro (z | ⟨k, hk, z⟩ | z)
      · rw [z, (hA.1 c (by omega)).1] at hKa; cases hKa
      · have := (hA.2.1 c k (by omega) hk).2.1
        rw [← z, hKa] at this
        split at this <;> cases this
      · omega
    exact ⟨by rw [p7.K hna]; exact hKa, p7.r hna⟩

set_option maxHeartbeats 4000000 in
theorem c_X0_lay (d : Nat) {T : TH} {rd cu i n x dep : Nat} {s : Sh} {en : Nat → Nat} {lo : Nat → Option Nat} {b : Nat → Nat} {o : Option Nat} {th : Nat → Bool} {lv : Nat → Nat} {A : Nat → Nat → Nat} {cp : Nat → Nat} {RR : Nat → List Row} (h : PRs T rd cu i s en lo n b x o dep th lv A cp RR) (hZ : PZ cu i s en lo) {c lev t : Nat} {v : Int64} (hc : c < s.2.1) (hl3 : (RR c).length < 3000) (hv : Bool) : Xe m_X0_lay (d + 4) 0 [(0, .ref rd), (1, .int (nI c)), (2, .int (nI lev)), (3, .int (nI t)), (4, .long v)] [] T (fun r T1 => r = none ∧ ∃ A' cp', PRs T1 rd cu i s en lo n b x o dep th lv A' cp' (va_up RR c (RR c ++ [(lev, t, hv, v, i)])) ∧ PFr T T1 cp cp') := by
  obtain ⟨hL, hS, hK, hC0, hV0, hA, hR, ⟨hs1, hs2, hs3⟩, hf1, hf2⟩ := id h
  obtain ⟨hu, hV, ⟨hs60, h12⟩, hi30, hWl, hNb⟩ := id hZ
  refine xe (fun _ _ kK => x_iload_n dX0_lay_0 rfl 1 rfl kK) ?_
  refine xe (fun _ _ kK => x_if_ltF (tgt := 22) dX0_lay_1 (by decide) (nI_pos (by omega)) kK) ?_
  refine xe (fun _ _ kK => x_iload_n dX0_lay_4 rfl 1 rfl kK) ?_
  refine xe (fun _ _ kK => x_aload_n dX0_lay_5 rfl 0 rfl kK) ?_
  refine xe (fun _ _ kK => x_get dX0_lay_6 fl_X0_19 hC0.1 (gvl_r1 fz_0_2.2.2 (show e_r T 2 rd = some 3 from hC0.2.2.2.1)) kK) ?_
  refine xe (fun _ _ kK => x_alen (j := 0) dX0_lay_9 (by rw [hL.1.2.2.2.2.2.2.2.2.1]; decide) (show nI (e_len T 3) = nI 12 from congrArg nI hL.1.2.2.2.2.2.2.2.2.2.1) kK) ?_
  refine xe (fun _ _ kK => x_icmp_geF (tgt := 22) dX0_lay_10 (by decide) (fun z9 => by have := cv_le (by omega) (by omega) z9; omega) kK) ?_
  refine xe (fun _ _ kK => x_aload_n dX0_lay_13 rfl 0 rfl kK) ?_
  refine xe (fun _ _ kK => x_get dX0_lay_14 fl_X0_19 hC0.1 (gvl_r1 fz_0_2.2.2 (show e_r T 2 rd = some 3 from hC0.2.2.2.1)) kK) ?_
  refine xe (fun _ _ kK => x_iload_n dX0_lay_17 rfl 1 rfl kK) ?_
  refine xe (fun _ _ kK => x_aald dX0_lay_18 hL.1.2.2.2.2.2.2.2.2.1 (show (nI c) = nI c from rfl) (by rw [hL.1.2.2.2.2.2.2.2.2.2.1]; omega) (show va_rf (e_ar T 3 c) = .ref (4 + 5 * c) from congrArg va_rf (hL.1.2.2.2.2.2.2.2.2.2.2.1 c (by omega))) kK) ?_
  refine xe (fun _ _ kK => x_goto (tgt := 23) dX0_lay_19 (by decide) kK) ?_
  refine xe (fun _ _ kK => x_astore dX0_lay_23 (by decide) (show _ = [(6, .ref (4 + 5 * c)), (0, .ref rd), (1, .int (nI c)), (2, .int (nI lev)), (3, .int (nI t)), (4, .long v)] from rfl) kK) ?_
  refine xe (fun _ _ kK => x_aload dX0_lay_25 0 rfl kK) ?_
  refine xe (fun _ _ kK => x_ifnull dX0_lay_27 kK) ?_
  refine xe (fun _ _ kK => x_aload dX0_lay_30 0 rfl kK) ?_
  refine xe (fun _ _ kK => x_aload_n dX0_lay_32 rfl 1 rfl kK) ?_
  refine xe (fun _ _ kK => x_get dX0_lay_33 fl_X0_23 hC0.1 (gvl_i fz_0_3.2.2 (show e_i T 3 rd = nI i from hC0.2.2.2.2.1)) kK) ?_
  refine xe (fun _ _ kK => x_iload_n dX0_lay_36 rfl 3 rfl kK) ?_
  refine xe (fun _ _ kK => x_iload_n dX0_lay_37 rfl 4 rfl kK) ?_
  refine xe (fun _ _ kK => x_lload dX0_lay_38 5 rfl kK) ?_
  refine xe_callV (a := (4 + 5 * c)) [.int (nI i), .int (nI lev), .int (nI t), .long v] dX0_lay_40 ml_X0_179 mf_X3_add (hA.1 c (by omega)).1 (c_X3_add d (i := i) (lv := lev) (t := t) (v := v) hA (by omega) (hR c hc) hl3 hv) rfl rfl (Nat.le_of_ble_eq_true rfl) (Nat.le_of_ble_eq_true rfl) ?_
  rintro _ T1 ⟨rfl, A', cp', hP1, hR1⟩
  exact xe_retv dX0_lay_43 rfl (⟨rfl, A', cp', h.add hu h12 hc hP1 hR1⟩)

set_option maxHeartbeats 4000000 in
theorem c_X0_levelHere (d : Nat) {T : TH} {rd cu i n x dep : Nat} {s : Sh} {en : Nat → Nat} {lo : Nat → Option Nat} {b : Nat → Nat} {o : Option Nat} {th : Nat → Bool} {lv : Nat → Nat} {A : Nat → Nat → Nat} {cp : Nat → Nat} {RR : Nat → List Row} (h : PRs T rd cu i s en lo n b x o dep th lv A cp RR) (hZ : PZ cu i s en lo) (hd4 : dep ≤ 4) : Xe m_X0_levelHere d 0 [(0, .ref rd)] [] T (fun r T1 => r = some (.int (nI (lv dep))) ∧ T1 = T) := by
  obtain ⟨hL, hS, hK, hC0, hV0, hA, hR, ⟨hs1, hs2, hs3⟩, hf1, hf2⟩ := id h
  obtain ⟨hu, hV, ⟨hs60, h12⟩, hi30, hWl, hNb⟩ := id hZ
  refine xe (fun _ _ kK => x_aload_n dX0_levelHere_0 rfl 0 rfl kK) ?_
  refine xe (fun _ _ kK => x_get dX0_levelHere_1 fl_X0_38 hC0.1 (gvl_i fz_0_7.2.2 (show e_i T 7 rd = nI dep from hV0.2.1)) kK) ?_
  refine xe (fun _ _ kK => x_if_ltF (tgt := 27) dX0_levelHere_4 (by decide) (nI_pos (by omega)) kK) ?_
  refine xe (fun _ _ kK => x_aload_n dX0_levelHere_7 rfl 0 rfl kK) ?_
  refine xe (fun _ _ kK => x_get dX0_levelHere_8 fl_X0_38 hC0.1 (gvl_i fz_0_7.2.2 (show e_i T 7 rd = nI dep from hV0.2.1)) kK) ?_
  refine xe (fun _ _ kK => x_iconst dX0_levelHere_11 (show _ = nI 4 by decide) kK) ?_
  refine xe (fun _ _ kK => x_icmp_gtF (tgt := 27) dX0_levelHere_12 (by decide) (fun z9 => by have := cv_lt (by omega) (by omega) z9; omega) kK) ?_
  refine xe (fun _ _ kK => x_aload_n dX0_levelHere_15 rfl 0 rfl kK) ?_
  refine xe (fun _ _ kK => x_get dX0_levelHere_16 fl_X0_31 hC0.1 (gvl_r1 fz_0_5.2.2 (show e_r T 5 rd = some (rd + 2) from hC0.2.2.2.2.2.2.1)) kK) ?_
  refine xe (fun _ _ kK => x_aload_n dX0_levelHere_19 rfl 0 rfl kK) ?_
  refine xe (fun _ _ kK => x_get dX0_levelHere_20 fl_X0_38 hC0.1 (gvl_i fz_0_7.2.2 (show e_i T 7 rd = nI dep from hV0.2.1)) kK) ?_
  refine xe (fun _ _ kK => x_iald dX0_levelHere_23 hC0.2.2.2.2.2.2.2.2.2.1 (show (nI dep) = nI dep from rfl) (by rw [hC0.2.2.2.2.2.2.2.2.2.2]; omega) (show e_ai T (rd + 2) dep = nI (lv dep) from (hV0.2.2.2 dep (Nat.le_refl _))) kK) ?_
  refine xe (fun _ _ kK => x_goto (tgt := 28) dX0_levelHere_24 (by decide) kK) ?_
  exact xe_reti dX0_levelHere_28 rfl (⟨rfl, rfl⟩)

/-- how far a group is told -/
def dgo (s : Sh) (o : Option Nat) : Nat := match o with
  | none => 0
  | some g => dc s.2.2.2.2.2.1 (upF s.2.2.1 6 (some g))
/-- rows for what lacks below f, in the first k TABLES -/
def lkL (s : Sh) (en : Nat → Nat) (f : Nat) (r : Row) (RR : Nat → List Row) (k c : Nat) : List Row := if c < k ∧ f ≤ s.2.2.2.2.2.2 c ∧ s.2.2.2.2.2.2 c < en f then RR c ++ [r] else RR c
theorem lkL_at {s : Sh} {en : Nat → Nat} {f : Nat} {r : Row} {RR : Nat → List Row} {k c : Nat} (h : k ≤ c) : lkL s en f r RR k c = RR c := if_neg (fun z => by omega)
theorem lkL_yes {s : Sh} {en : Nat → Nat} {f : Nat} {r : Row} {RR : Nat → List Row} {k : Nat} (h : f ≤ s.2.2.2.2.2.2 k ∧ s.2.2.2.2.2.2 k < en f) : va_up (lkL s en f r RR k) k (lkL s en f r RR k k ++ [r]) = lkL s en f r RR (k + 1) := by
  funext c
  by_cases e : c = k
  · subst e; rw [ups, lkL_at (Nat.le_refl _)]; unfold lkL; rw [if_pos ⟨by omega, h⟩]
  · rw [upn e]; unfold lkL
    by_cases e2 : c < k ∧ f ≤ s.2.2.2.2.2.2 c ∧ s.2.2.2.2.2.2 c < en f
    · rw [if_pos e2, if_pos ⟨by omega, e2.2⟩]
    · rw [if_neg e2, if_neg (fun z => e2 ⟨by omega, z.2⟩)]
theorem lkL_no {s : Sh} {en : Nat → Nat} {f : Nat} {r : Row} {RR : Nat → List Row} {k : Nat} (h : ¬ (f ≤ s.2.2.2.2.2.2 k ∧ s.2.2.2.2.2.2 k < en f)) : lkL s en f r RR k = lkL s en f r RR (k + 1) := by
  funext c
  unfold lkL
  by_cases e2 : c < k ∧ f ≤ s.2.2.2.2.2.2 c ∧ s.2.2.2.2.2.2 c < en f
  · rw [if_pos e2, if_pos ⟨by omega, e2.2⟩]
  · rw [if_neg e2, if_neg (fun z => e2 ⟨by by_cases e : c = k; subst e; exact absurd z.2 h; omega, z.2⟩)]
theorem ShV.up {s : Sh} {gs : List Nat} {en : Nat → Nat} {lo : Nat → Option Nat} (h : ShV s gs en lo) {g : Nat} (hg : g < s.1) : Chn s.2.2.1 (some g) (upF s.2.2.1 6 (some g)) ∧ (upF s.2.2.1 6 (some g)).length ≤ 5 := by
  obtain ⟨l, l1, l2, -⟩ := h.2.2.2.1 g hg
  have e : upF s.2.2.1 6 (some g) = l := upF_eq l1 (by omega)
  rw [e]; exact ⟨l1, l2⟩

set_option maxHeartbeats 4000000 in
theorem l_X0_layLackingLeaves (d : Nat) {T : TH} {rd cu i n x dep : Nat} {s : Sh} {en : Nat → Nat} {lo : Nat → Option Nat} {b : Nat → Nat} {o : Option Nat} {th : Nat → Bool} {lv : Nat → Nat} {A : Nat → Nat → Nat} {cp : Nat → Nat} {RR : Nat → List Row} (hZ : PZ cu i s en lo) {f : Nat} (hf : f < s.1) (hd4 : dep ≤ 4) (ho : ∀ g, o = some g → g < s.1) (hb3 : ∀ c, c < s.2.1 → f ≤ s.2.2.2.2.2.2 c ∧ s.2.2.2.2.2.2 c < en f → (RR c).length < 3000) : ∀ (m k : Nat) (T1 : TH) (A1 : Nat → Nat → Nat) (cp1 : Nat → Nat), s.2.1 - k = m → k ≤ s.2.1 → PRs T1 rd cu i s en lo n b x o dep th lv A1 cp1 (lkL s en f (lv dep, dgo s o, false, lN 0, i) RR k) → PFr T T1 cp cp1 → Xe m_X0_layLackingLeaves (d + 5) 2 [(2, .int (nI k)), (0, .ref rd), (1, .int (nI f))] [] T1 (fun r T2 => r = none ∧ ∃ A' cp', PRs T2 rd cu i s en lo n b x o dep th lv A' cp' (lkL s en f (lv dep, dgo s o, false, lN 0, i) RR s.2.1) ∧ PFr T T2 cp cp') := by
  intro m
  induction m using Nat.strongRecOn with
  | ind m ih =>
    intro k T1 A1 cp1 hm hk h hPF
    subst hm
    obtain ⟨hL, hS, hK, hC0, hV0, hA, hR, ⟨hs1, hs2, hs3⟩, hf1, hf2⟩ := id h
    obtain ⟨hu, hV, ⟨hs60, h12⟩, hi30, hWl, hNb⟩ := id hZ
    refine xe (fun _ _ kK => x_iload_n dX0_layLackingLeaves_2 rfl 0 rfl kK) ?_
    refine xe (fun _ _ kK => x_aload_n dX0_layLackingLeaves_3 rfl 1 rfl kK) ?_
    refine xe (fun _ _ kK => x_get dX0_layLackingLeaves_4 fl_X0_15 hC0.1 (gvl_r1 fz_0_1.2.2 (show e_r T1 1 rd = some cu from hC0.2.2.1)) kK) ?_
    refine xe (fun _ _ kK => x_get dX0_layLackingLeaves_7 fl_X0_167 hS.1.1 (gvl_i fz_1_11.2.2 (show e_i T1 75 cu = nI s.2.1 from hS.2.2.1)) kK) ?_
    refine xe_icmp_ge (tgt := 59) dX0_layLackingLeaves_10 (by decide) (fun h10 => ?_) (fun h10 => ?_)
    · -- pc 59
      have h10 := cv_le (by omega) (by omega) h10
      have ek : k = s.2.1 := by omega
      subst ek
      exact xe_retv dX0_layLackingLeaves_59 rfl (⟨rfl, A1, cp1, h, hPF⟩)
    · -- pc 13
      have h10 := cv_nle (by omega) (by omega) h10
      have hfk := (hV.2.2.2.2.2.2.1 k h10).1
      have hef := (hV.2.2.1 f hf).2.2
      refine xe (fun _ _ kK => x_aload_n dX0_layLackingLeaves_13 rfl 1 rfl kK) ?_
      refine xe (fun _ _ kK => x_get dX0_layLackingLeaves_14 fl_X0_15 hC0.1 (gvl_r1 fz_0_1.2.2 (show e_r T1 1 rd = some cu from hC0.2.2.1)) kK) ?_
      refine xe (fun _ _ kK => x_iload_n dX0_layLackingLeaves_17 rfl 2 rfl kK) ?_
      refine xe (fun _ _ kK => x_aload_n dX0_layLackingLeaves_18 rfl 1 rfl kK) ?_
      refine xe (fun _ _ kK => x_get dX0_layLackingLeaves_19 fl_X0_15 hC0.1 (gvl_r1 fz_0_1.2.2 (show e_r T1 1 rd = some cu from hC0.2.2.1)) kK) ?_
      refine xe (fun _ _ kK => x_iload_n dX0_layLackingLeaves_22 rfl 0 rfl kK) ?_
      refine xe_callV (a := cu) [.int (nI k)] dX0_layLackingLeaves_23 ml_X0_170 mf_X1_fieldOfLeaf hS.1.1 (by have := c_X1_fieldOfLeaf (d + 4) hS hs60 h12 (nI k); rw [ix_in h10 (by omega)] at this; exact this) rfl rfl (Nat.le_of_ble_eq_true rfl) (Nat.le_of_ble_eq_true rfl) ?_
      rintro _ T9 ⟨rfl, hTq9⟩
      refine xe_T hTq9 ?_
      refine xe_callV (a := cu) [.int (nI f), .int (nI (s.2.2.2.2.2.2 k))] dX0_layLackingLeaves_26 ml_X0_173 mf_X1_isOnRoad hS.1.1 (c_X1_isOnRoad (d + 3) hS hs60 (f := f) (t := (s.2.2.2.2.2.2 k)) hf (by omega) (by omega)) rfl rfl (Nat.le_of_ble_eq_true rfl) (Nat.le_of_ble_eq_true rfl) ?_
      rintro _ T9 ⟨rfl, hTq9⟩
      refine xe_T hTq9 ?_
      refine xe_if_eq (tgt := 53) dX0_layLackingLeaves_29 (by decide) (fun h29 => ?_) (fun h29 => ?_)
      · -- pc 53
        have h29 := cv_b0 h29
        refine xe (fun _ _ kK => x_iinc dX0_layLackingLeaves_53 0 rfl (show (nI k) + Int32.ofInt 1 = nI (k + 1) from nI_add k 1) (by decide) (show _ = [(2, .int (nI (k + 1))), (0, .ref rd), (1, .int (nI f))] from rfl) kK) ?_
        refine xe (fun _ _ kK => x_goto (tgt := 2) dX0_layLackingLeaves_56 (by decide) kK) ?_
        have hno : ¬ (f ≤ (s.2.2.2.2.2.2 k) ∧ (s.2.2.2.2.2.2 k) < en f) := of_decide_eq_false h29
        rw [lkL_no hno] at h
        exact xe_loc (by simp) (ih (s.2.1 - (k + 1)) (by omega) (k + 1) T1 A1 cp1 rfl (by omega) h hPF)
      · -- pc 32
        have h29 := cv_b1 h29
        have hyes : f ≤ (s.2.2.2.2.2.2 k) ∧ (s.2.2.2.2.2.2 k) < en f := of_decide_eq_true h29
        refine xe (fun _ _ kK => x_aload_n dX0_layLackingLeaves_32 rfl 1 rfl kK) ?_
        refine xe (fun _ _ kK => x_iload_n dX0_layLackingLeaves_33 rfl 0 rfl kK) ?_
        refine xe (fun _ _ kK => x_aload_n dX0_layLackingLeaves_34 rfl 1 rfl kK) ?_
        refine xe_callV (a := rd) [] dX0_layLackingLeaves_35 ml_X0_97 mf_X0_levelHere hC0.1 (c_X0_levelHere (d + 4) h hZ hd4) rfl rfl (Nat.le_of_ble_eq_true rfl) (Nat.le_of_ble_eq_true rfl) ?_
        rintro _ T9 ⟨rfl, hTq9⟩
        refine xe_T hTq9 ?_
        refine xe (fun _ _ kK => x_aload_n dX0_layLackingLeaves_38 rfl 1 rfl kK) ?_
        refine xe (fun _ _ kK => x_get dX0_layLackingLeaves_39 fl_X0_15 hC0.1 (gvl_r1 fz_0_1.2.2 (show e_r T1 1 rd = some cu from hC0.2.2.1)) kK) ?_
        refine xe (fun _ _ kK => x_aload_n dX0_layLackingLeaves_42 rfl 1 rfl kK) ?_
        refine xe (fun _ _ kK => x_get dX0_layLackingLeaves_43 fl_X0_35 hC0.1 (gvl_i fz_0_6.2.2 (show e_i T1 6 rd = oI o from hV0.1)) kK) ?_
        have hdo := c_X1_deepUpTo (d + 3) hS hs60 (dg := fun g => dgo s (some g)) (o := o) ho (fun g hg => (hK g (ho g hg) _ (hV.up (ho g hg)).1).1)
        have hdo2 : Xe m_X1_deepUpTo (d + 3 + 1) 0 [(0, .ref cu), (1, .int (oI o))] [] T1 (fun r T9 => r = some (.int (nI (dgo s o))) ∧ T9 = T1) := hdo.imp (fun r T9 h9 => ⟨by rw [h9.1]; cases o <;> rfl, h9.2⟩)
        refine xe_callV (a := cu) [.int (oI o)] dX0_layLackingLeaves_46 ml_X0_176 mf_X1_deepUpTo hS.1.1 (hdo2) rfl rfl (Nat.le_of_ble_eq_true rfl) (Nat.le_of_ble_eq_true rfl) ?_
        rintro _ T9 ⟨rfl, hTq9⟩
        refine xe_T hTq9 ?_
        refine xe (fun _ _ kK => x_lconst dX0_layLackingLeaves_49 (show _ = lN 0 by decide) kK) ?_
        refine xe_callV (a := rd) [.int (nI k), .int (nI (lv dep)), .int (nI (dgo s o)), .long (lN 0)] dX0_layLackingLeaves_50 ml_X0_150 mf_X0_lay hC0.1 (c_X0_lay d h hZ (c := k) (lev := lv dep) (t := dgo s o) (v := lN 0) h10 (by rw [lkL_at (Nat.le_refl _)]; exact hb3 k h10 hyes) false) rfl rfl (Nat.le_of_ble_eq_true rfl) (Nat.le_of_ble_eq_true rfl) ?_
        rintro _ T2 ⟨rfl, A2, cp2, hP2, hF2⟩
        rw [lkL_yes hyes] at hP2
        refine xe (fun _ _ kK => x_iinc dX0_layLackingLeaves_53 0 rfl (show (nI k) + Int32.ofInt 1 = nI (k + 1) from nI_add k 1) (by decide) (show _ = [(2, .int (nI (k + 1))), (0, .ref rd), (1, .int (nI f))] from rfl) kK) ?_
        refine xe (fun _ _ kK => x_goto (tgt := 2) dX0_layLackingLeaves_56 (by decide) kK) ?_
        exact xe_loc (by simp) (ih (s.2.1 - (k + 1)) (by omega) (k + 1) T2 A2 cp2 rfl (by omega) hP2 (hPF.tr hF2))

set_option maxHeartbeats 4000000 in
theorem c_X0_layLackingLeaves (d : Nat) {T : TH} {rd cu i n x dep : Nat} {s : Sh} {en : Nat → Nat} {lo : Nat → Option Nat} {b : Nat → Nat} {o : Option Nat} {th : Nat → Bool} {lv : Nat → Nat} {A : Nat → Nat → Nat} {cp : Nat → Nat} {RR : Nat → List Row} (h : PRs T rd cu i s en lo n b x o dep th lv A cp RR) (hZ : PZ cu i s en lo) {f : Nat} (hf : f < s.1) (hd4 : dep ≤ 4) (ho : ∀ g, o = some g → g < s.1) (hb3 : ∀ c, c < s.2.1 → f ≤ s.2.2.2.2.2.2 c ∧ s.2.2.2.2.2.2 c < en f → (RR c).length < 3000) : Xe m_X0_layLackingLeaves (d + 5) 0 [(0, .ref rd), (1, .int (nI f))] [] T (fun r T2 => r = none ∧ ∃ A' cp', PRs T2 rd cu i s en lo n b x o dep th lv A' cp' (lkL s en f (lv dep, dgo s o, false, lN 0, i) RR s.2.1) ∧ PFr T T2 cp cp') := by
  obtain ⟨hL, hS, hK, hC0, hV0, hA, hR, ⟨hs1, hs2, hs3⟩, hf1, hf2⟩ := id h
  obtain ⟨hu, hV, ⟨hs60, h12⟩, hi30, hWl, hNb⟩ := id hZ
  refine xe (fun _ _ kK => x_iconst dX0_layLackingLeaves_0 (show _ = nI 0 by decide) kK) ?_
  refine xe (fun _ _ kK => x_istore_n dX0_layLackingLeaves_1 rfl (by decide) (show _ = [(2, .int (nI 0)), (0, .ref rd), (1, .int (nI f))] from rfl) kK) ?_
  have h0 : PRs T rd cu i s en lo n b x o dep th lv A cp (lkL s en f (lv dep, dgo s o, false, lN 0, i) RR 0) := by rw [show (lkL s en f (lv dep, dgo s o, false, lN 0, i) RR 0) = RR from funext (fun c => lkL_at (Nat.zero_le _))]; exact h
  exact xe_loc (by simp) (l_X0_layLackingLeaves d (A := A) hZ hf hd4 ho hb3 s.2.1 0 T A cp rfl (Nat.zero_le _) h0 PFr.rf)
