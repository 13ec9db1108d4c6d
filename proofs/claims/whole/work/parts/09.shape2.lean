/-! the reference's reading of a SHAPE, and what its cells hold meanwhile -/
def Stk (T : TH) : List Nat → Prop
  | [] => e_ai T 100 0 = -1
  | g :: gs => e_ai T 100 (gs.length + 1) = nI g ∧ Stk T gs
theorem Stk.top {T : TH} : ∀ {gs : List Nat}, Stk T gs → e_ai T 100 gs.length = oI gs.head?
  | [], h => h
  | _ :: _, h => h.1
theorem Stk.of {T T' : TH} : ∀ {gs : List Nat}, Stk T gs → (∀ j, j ≤ gs.length → e_ai T' 100 j = e_ai T 100 j) → Stk T' gs
  | [], h, k => (k 0 (Nat.le_refl _)).trans h
  | _ :: gs, h, k => ⟨(k _ (Nat.le_refl _)).trans h.1, Stk.of h.2 (fun j hj => k j (Nat.le_succ_of_le hj))⟩
def emp (nF : Nat) (gs : List Nat) : Prop := match gs with
  | [] => nF = 0
  | g :: _ => nF = g + 1
def RS (T : TH) (s : Sh) (gs : List Nat) : Prop :=
  e_i T 533 88 = nI s.1 ∧ e_i T 534 88 = nI s.2.1 ∧ e_i T 542 88 = nI gs.length ∧
  (∀ f, f < s.1 → e_ai T 95 f = oI (s.2.2.1 f) ∧ e_al T 96 f = lN (s.2.2.2.1 f) ∧ e_ai T 97 f = nI (s.2.2.2.2.1 f)) ∧
  (∀ f, f < s.1 → f ∉ gs → e_ai T 98 f = nI (s.2.2.2.2.2.1 f)) ∧ (∀ c, c < s.2.1 → e_ai T 99 c = nI (s.2.2.2.2.2.2 c)) ∧ Stk T gs ∧
  ∃ cn : Nat → Nat, (∀ i, i ≤ gs.length → e_ai T 101 i = nI (cn i) ∧ cn i ≤ s.1) ∧ (cn gs.length = 0 ↔ emp s.1 gs) ∧ ∀ i, i < gs.length → cn i ≠ 0
/-- the reader's own numbers -/
def PI (n p : Nat) (s : Sh) (gs : List Nat) : Prop := p ≤ n ∧ n ≤ 400 ∧ 7 * s.1 ≤ p + 5 * gs.length ∧ gs.length ≤ 4 ∧ s.2.1 ≤ 12 ∧ (∀ g ∈ gs, g < s.1) ∧ (∀ f, f < s.1 → s.2.2.2.1 f < 27 ^ 8) ∧ (∀ f g, f < s.1 → s.2.2.1 f = some g → g < f) ∧ gs.Pairwise (fun x y => y < x)
theorem dupF_mono {W : Nat → Option Nat} {N : Nat → Nat} {o : Option Nat} {v k : Nat} (h : dupF W N o v k = true) : ∀ m, dupF W N o v (k + m) = true := by
  intro m
  induction m with
  | zero => exact h
  | succ m ih => show (dupF W N o v (k + m) || _) = true; rw [ih]; rfl
theorem head_lt {gs : List Nat} {nF : Nat} (h : ∀ g ∈ gs, g < nF) (hn : nF < 2 ^ 31) : oB gs.head? := by
  intro a ha
  have := h a (List.mem_of_mem_head? ha)
  omega

set_option maxHeartbeats 4000000 in
theorem l_X8_dup (d : Nat) {T : TH} {n p p2 q v : Nat} {b : Nat → Nat} {s : Sh} {gs : List Nat} {P : Option Value → TH → Prop} (h : LX T n b p) (hr : RS T s gs) (hpi : PI n p2 s gs) (hv : v < 27 ^ 8)
    (hno : dupF s.2.2.1 s.2.2.2.1 gs.head? v s.1 = false → Xe m_X8_field (d + 1) 102 [(5, .int (nI s.1)), (4, .int (oI gs.head?)), (2, .long (lN v)), (1, .int (nI q)), (0, .ref 88)] [] T P)
    (hyes : dupF s.2.2.1 s.2.2.2.1 gs.head? v s.1 = true → P none (flk T 2 q)) : ∀ (m k : Nat), s.1 - k = m → k ≤ s.1 → dupF s.2.2.1 s.2.2.2.1 gs.head? v k = false → Xe m_X8_field (d + 1) 50 [(5, .int (nI k)), (4, .int (oI gs.head?)), (2, .long (lN v)), (1, .int (nI q)), (0, .ref 88)] [] T P := by
  intro m
  induction m using Nat.strongRecOn with
  | ind m ih =>
    intro k hk hks h0
    subst hk
    have hn4 := hpi.2.1
    have hp3 := hpi.2.2.1
    have hp4 := hpi.2.2.2.1
    have hp1 := hpi.1
    rw [p278] at hv
    have hpn := hpi.2.2.2.2.2.2.1
    rw [p278] at hpn
    have hgb : oB gs.head? := head_lt hpi.2.2.2.2.2.1 (by omega)
    refine xe (fun _ _ kK => x_iload dX8_field_50 0 rfl kK) ?_
    refine xe (fun _ _ kK => x_aload_n dX8_field_52 rfl 4 rfl kK) ?_
    refine xe (fun _ _ kK => x_get dX8_field_53 fl_X8_183 h.1.1 (gvl_i fz_8_21.2.2 (show e_i T 533 88 = nI s.1 from hr.1)) kK) ?_
    refine xe_icmp_ge (tgt := 102) dX8_field_56 (by decide) (fun h56 => ?_) (fun h56 => ?_)
    · -- pc 102
      have h56 := cv_le (by omega) (by omega) h56
      have hk9 : k = s.1 := by omega
      subst hk9
      exact hno h0
    · -- pc 59
      have h56 := cv_nle (by omega) (by omega) h56
      have hN := hpn k h56
      have hWb : oB (s.2.2.1 k) := fun a ha => by have := hpi.2.2.2.2.2.2.2.1 k a h56 ha; omega
      refine xe (fun _ _ kK => x_aload_n dX8_field_59 rfl 4 rfl kK) ?_
      refine xe (fun _ _ kK => x_get dX8_field_60 fl_X8_132 h.1.1 (gvl_i fz_8_4.2.2 (show e_i T 516 88 = nI 0 from h.2.2.2.2.2.2)) kK) ?_
      refine xe (fun _ _ kK => x_if_neF (tgt := 102) dX8_field_63 (by decide) nI_0 kK) ?_
      refine xe (fun _ _ kK => x_aload_n dX8_field_66 rfl 4 rfl kK) ?_
      refine xe (fun _ _ kK => x_get dX8_field_67 fl_X8_53 h.1.1 (gvl_r1 fz_8_23.2.2 (show e_r T 535 88 = some 95 from (h.1.2.1 23))) kK) ?_
      refine xe (fun _ _ kK => x_iload dX8_field_70 0 rfl kK) ?_
      refine xe (fun _ _ kK => x_iald dX8_field_72 (h.1.2.2.1 6 (by decide)) (show (nI k) = nI k from rfl) (mi_len h.1 6 (by decide) (show k < 80 by omega)) (show e_ai T 95 k = oI (s.2.2.1 k) from (hr.2.2.2.1 k h56).1) kK) ?_
      refine xe (fun _ _ kK => x_iload dX8_field_73 1 rfl kK) ?_
      refine xe_icmp_ne (tgt := 96) dX8_field_75 (by decide) (fun h75 => ?_) (fun h75 => ?_)
      · -- pc 96
        have h75 := cv_oon (by assumption) (by assumption) h75
        refine xe (fun _ _ kK => x_iinc dX8_field_96 0 rfl (show (nI k) + Int32.ofInt 1 = nI (k + 1) from nI_add k 1) (by decide) (show _ = [(5, .int (nI (k + 1))), (4, .int (oI gs.head?)), (2, .long (lN v)), (1, .int (nI q)), (0, .ref 88)] from rfl) kK) ?_
        refine xe (fun _ _ kK => x_goto (tgt := 50) dX8_field_99 (by decide) kK) ?_
        have h1 : dupF s.2.2.1 s.2.2.2.1 gs.head? v (k + 1) = false := by show (dupF s.2.2.1 s.2.2.2.1 gs.head? v k || _) = false; rw [h0]; simp; intro z; exact absurd z h75
        exact xe_loc (by simp) (ih (s.1 - (k + 1)) (by omega) (k + 1) rfl (by omega) h1)
      · -- pc 78
        have h75 := cv_oo (by assumption) (by assumption) h75
        refine xe (fun _ _ kK => x_aload_n dX8_field_78 rfl 4 rfl kK) ?_
        refine xe (fun _ _ kK => x_get dX8_field_79 fl_X8_56 h.1.1 (gvl_r1 fz_8_24.2.2 (show e_r T 536 88 = some 96 from (h.1.2.1 24))) kK) ?_
        refine xe (fun _ _ kK => x_iload dX8_field_82 0 rfl kK) ?_
        refine xe (fun _ _ kK => x_lald dX8_field_84 (h.1.2.2.1 7 (by decide)) (show (nI k) = nI k from rfl) (mi_len h.1 7 (by decide) (show k < 80 by omega)) (show e_al T 96 k = lN (s.2.2.2.1 k) from (hr.2.2.2.1 k h56).2.1) kK) ?_
        refine xe (fun _ _ kK => x_lload_n dX8_field_85 rfl 2 rfl kK) ?_
        refine xe (fun _ _ kK => x_lcmp dX8_field_86 kK) ?_
        refine xe_if_ne (tgt := 96) dX8_field_87 (by decide) (fun h87 => ?_) (fun h87 => ?_)
        · -- pc 96
          have h87 := lc_ne h87
          have h87 := cvl_ne (by omega) (by omega) h87
          refine xe (fun _ _ kK => x_iinc dX8_field_96 0 rfl (show (nI k) + Int32.ofInt 1 = nI (k + 1) from nI_add k 1) (by decide) (show _ = [(5, .int (nI (k + 1))), (4, .int (oI gs.head?)), (2, .long (lN v)), (1, .int (nI q)), (0, .ref 88)] from rfl) kK) ?_
          refine xe (fun _ _ kK => x_goto (tgt := 50) dX8_field_99 (by decide) kK) ?_
          have h1 : dupF s.2.2.1 s.2.2.2.1 gs.head? v (k + 1) = false := by show (dupF s.2.2.1 s.2.2.2.1 gs.head? v k || _) = false; rw [h0]; simp; intro z; exact h87
          exact xe_loc (by simp) (ih (s.1 - (k + 1)) (by omega) (k + 1) rfl (by omega) h1)
        · -- pc 90
          have h87 := lc_eqn h87
          have h87 := cvl_eq (by omega) (by omega) h87
          refine xe (fun _ _ kK => x_aload_n dX8_field_90 rfl 4 rfl kK) ?_
          refine xe (fun _ _ kK => x_iconst dX8_field_91 (show _ = nI 2 by decide) kK) ?_
          refine xe (fun _ _ kK => x_iload_n dX8_field_92 rfl 3 rfl kK) ?_
          refine xe_callV (a := 88) [.int (nI 2), .int (nI q)] dX8_field_93 ml_X8_148 mf_X8_fail h.1.1 (c_X8_fail d (T := T) h.1 h.2.2.2.2.2.2 (nI 2) (nI q)) rfl rfl (Nat.le_of_ble_eq_true rfl) (Nat.le_of_ble_eq_true rfl) ?_
          rintro _ _ ⟨rfl, rfl⟩
          refine xe (fun _ _ kK => x_iinc dX8_field_96 0 rfl (show (nI k) + Int32.ofInt 1 = nI (k + 1) from nI_add k 1) (by decide) (show _ = [(5, .int (nI (k + 1))), (4, .int (oI gs.head?)), (2, .long (lN v)), (1, .int (nI q)), (0, .ref 88)] from rfl) kK) ?_
          refine xe (fun _ _ kK => x_goto (tgt := 50) dX8_field_99 (by decide) kK) ?_
          refine xe (fun _ _ kK => x_iload dX8_field_50 0 rfl kK) ?_
          refine xe (fun _ _ kK => x_aload_n dX8_field_52 rfl 4 rfl kK) ?_
          refine xe (fun _ _ kK => x_get dX8_field_53 fl_X8_183 (wK_i (wK_i h.1.1)) (gvl_i fz_8_21.2.2 (show e_i (flk T 2 q) 533 88 = nI s.1 from (wi_i (fun q => absurd q.1 (by decide)) (wi_i (fun q => absurd q.1 (by decide)) hr.1)))) kK) ?_
          have hyy : dupF s.2.2.1 s.2.2.2.1 gs.head? v s.1 = true := by have := dupF_mono (W := s.2.2.1) (N := s.2.2.2.1) (o := gs.head?) (v := v) (k := k + 1) (by show (dupF s.2.2.1 s.2.2.2.1 gs.head? v k || _) = true; simp; exact Or.inr ⟨h75, h87⟩) (s.1 - (k + 1)); rw [show k + 1 + (s.1 - (k + 1)) = s.1 by omega] at this; exact this
          refine xe_icmp_ge (tgt := 102) dX8_field_56 (by decide) (fun h56b => ?_) (fun h56b => ?_)
          · -- pc 102
            refine xe (fun _ _ kK => x_aload_n dX8_field_102 rfl 4 rfl kK) ?_
            refine xe (fun _ _ kK => x_get dX8_field_103 fl_X8_132 (wK_i (wK_i h.1.1)) (gvl_i fz_8_4.2.2 (show e_i (flk T 2 q) 516 88 = nI 2 from rfl)) kK) ?_
            refine xe (fun _ _ kK => x_if_eqF (tgt := 110) dX8_field_106 (by decide) (by decide) kK) ?_
            exact xe_retv dX8_field_109 rfl (hyes hyy)
          · -- pc 59
            refine xe (fun _ _ kK => x_aload_n dX8_field_59 rfl 4 rfl kK) ?_
            refine xe (fun _ _ kK => x_get dX8_field_60 fl_X8_132 (wK_i (wK_i h.1.1)) (gvl_i fz_8_4.2.2 (show e_i (flk T 2 q) 516 88 = nI 2 from rfl)) kK) ?_
            refine xe (fun _ _ kK => x_if_neT (tgt := 102) dX8_field_63 (by decide) (by decide) kK) ?_
            refine xe (fun _ _ kK => x_aload_n dX8_field_102 rfl 4 rfl kK) ?_
            refine xe (fun _ _ kK => x_get dX8_field_103 fl_X8_132 (wK_i (wK_i h.1.1)) (gvl_i fz_8_4.2.2 (show e_i (flk T 2 q) 516 88 = nI 2 from rfl)) kK) ?_
            refine xe (fun _ _ kK => x_if_eqF (tgt := 110) dX8_field_106 (by decide) (by decide) kK) ?_
            exact xe_retv dX8_field_109 rfl (hyes hyy)
