/-! counts over a TABLE's rows -/
def cI (p : Nat → Bool) : Nat → Nat
  | 0 => 0
  | n + 1 => cI p n + (if p n = true then 1 else 0)
theorem cI_le (p : Nat → Bool) : ∀ n, cI p n ≤ n := by
  intro n
  induction n with
  | zero => exact Nat.le_refl _
  | succ n ih => show cI p n + _ ≤ _; split <;> omega
theorem cI_t {p : Nat → Bool} {n : Nat} (h : p n = true) : cI p (n + 1) = cI p n + 1 := by show cI p n + _ = _; rw [if_pos h]
theorem cI_f {p : Nat → Bool} {n : Nat} (h : p n = false) : cI p (n + 1) = cI p n := by show cI p n + _ = _; rw [if_neg (by rw [h]; decide)]; rfl
def rowAt (R : List Row) (k : Nat) : Row := R.getD k (0, 0, false, 0, 0)
theorem MRw.row {T : TH} {R : List Row} (h : MRw T R) {k : Nat} (hk : k < R.length) : e_ai T 107 k = nI (rowAt R k).1 ∧ e_ai T 108 k = nI (rowAt R k).2.1 ∧ e_ai T 109 k = bI (rowAt R k).2.2.1 ∧ e_al T 110 k = (rowAt R k).2.2.2.1 ∧ e_ai T 111 k = nI (rowAt R k).2.2.2.2 := by
  refine h.2 k _ ?_
  unfold rowAt
  rw [List.getD_eq_getElem?_getD, List.getElem?_eq_getElem hk]
  rfl
/-- rows' numbers are small -/
def RwOk (R : List Row) : Prop := R.length ≤ 6300 ∧ ∀ k, k < R.length → (rowAt R k).1 < 2 ^ 31 ∧ (rowAt R k).2.1 < 2 ^ 31 ∧ (rowAt R k).2.2.2.2 < 2 ^ 31
noncomputable def fstV (R : List Row) (k : Nat) : Bool := pB (∀ q, q < k → ¬ ((rowAt R q).2.2.1 = true ∧ (rowAt R q).2.2.2.1 = (rowAt R k).2.2.2.1))
noncomputable def vP (R : List Row) (u : Bool) (k : Nat) : Bool := (rowAt R k).2.2.1 && (!u || fstV R k)
def rP (gg : Nat → Nat) (k : Nat) : Bool := k == 0 || gg k != gg (k - 1)

set_option maxHeartbeats 4000000 in
theorem l_X8_isFirstValue (d : Nat) {T : TH} {R : List Row} (hM : MI T) (hR : MRw T R) (hO : RwOk R) {k : Nat} (hk : k < R.length) : ∀ (m q : Nat), k - q = m → q ≤ k → (∀ j, j < q → ¬ ((rowAt R j).2.2.1 = true ∧ (rowAt R j).2.2.2.1 = (rowAt R k).2.2.2.1)) → Xe m_X8_isFirstValue d 2 [(2, .int (nI q)), (0, .ref 88), (1, .int (nI k))] [] T (fun r T1 => r = some (.int (bI (fstV R k))) ∧ T1 = T) := by
  intro m
  induction m using Nat.strongRecOn with
  | ind m ih =>
    intro q hm hqk hno
    subst hm
    have hl6 := hO.1
    refine xe (fun _ _ kK => x_iload_n dX8_isFirstValue_2 rfl 0 rfl kK) ?_
    refine xe (fun _ _ kK => x_iload_n dX8_isFirstValue_3 rfl 2 rfl kK) ?_
    refine xe_icmp_ge (tgt := 40) dX8_isFirstValue_4 (by decide) (fun h4 => ?_) (fun h4 => ?_)
    · -- pc 40
      have h4 := cv_le (by omega) (by omega) h4
      refine xe (fun _ _ kK => x_iconst dX8_isFirstValue_40 (show _ = nI 1 by decide) kK) ?_
      exact xe_retz dX8_isFirstValue_41 rfl (by first | exact Or.inl rfl | exact Or.inr rfl) (⟨r_1 (pB_t (fun j hj => hno j (by omega))), rfl⟩)
    · -- pc 7
      have h4 := cv_nle (by omega) (by omega) h4
      refine xe (fun _ _ kK => x_aload_n dX8_isFirstValue_7 rfl 1 rfl kK) ?_
      refine xe (fun _ _ kK => x_get dX8_isFirstValue_8 fl_X8_95 hM.1 (gvl_r1 fz_8_42.2.2 (show e_r T 554 88 = some 109 from (hM.2.1 42))) kK) ?_
      refine xe (fun _ _ kK => x_iload_n dX8_isFirstValue_11 rfl 0 rfl kK) ?_
      refine xe (fun _ _ kK => x_zald dX8_isFirstValue_12 (hM.2.2.1 20 (by decide)) (show (nI q) = nI q from rfl) (mi_len hM 20 (by decide) (show q < 6300 by omega)) (show e_ai T 109 q = bI (rowAt R q).2.2.1 from (hR.row (show q < R.length by omega)).2.2.1) kK) ?_
      refine xe_if_eq (tgt := 34) dX8_isFirstValue_13 (by decide) (fun h13 => ?_) (fun h13 => ?_)
      · -- pc 34
        have h13 := cv_b0 h13
        refine xe (fun _ _ kK => x_iinc dX8_isFirstValue_34 0 rfl (show (nI q) + Int32.ofInt 1 = nI (q + 1) from nI_add q 1) (by decide) (show _ = [(2, .int (nI (q + 1))), (0, .ref 88), (1, .int (nI k))] from rfl) kK) ?_
        refine xe (fun _ _ kK => x_goto (tgt := 2) dX8_isFirstValue_37 (by decide) kK) ?_
        refine xe_loc (by simp) (ih (k - (q + 1)) (by omega) (q + 1) rfl (by omega) ?_)
        rintro j hj ⟨u1, u2⟩
        rcases Nat.lt_or_ge j q with h9 | h9
        · exact hno j h9 ⟨u1, u2⟩
        · have e9 : j = q := by omega
          subst e9
          rw [h13] at u1; cases u1
      · -- pc 16
        have h13 := cv_b1 h13
        refine xe (fun _ _ kK => x_aload_n dX8_isFirstValue_16 rfl 1 rfl kK) ?_
        refine xe (fun _ _ kK => x_get dX8_isFirstValue_17 fl_X8_99 hM.1 (gvl_r1 fz_8_43.2.2 (show e_r T 555 88 = some 110 from (hM.2.1 43))) kK) ?_
        refine xe (fun _ _ kK => x_iload_n dX8_isFirstValue_20 rfl 0 rfl kK) ?_
        refine xe (fun _ _ kK => x_lald dX8_isFirstValue_21 (hM.2.2.1 21 (by decide)) (show (nI q) = nI q from rfl) (mi_len hM 21 (by decide) (show q < 6300 by omega)) (show e_al T 110 q = (rowAt R q).2.2.2.1 from (hR.row (show q < R.length by omega)).2.2.2.1) kK) ?_
        refine xe (fun _ _ kK => x_aload_n dX8_isFirstValue_22 rfl 1 rfl kK) ?_
        refine xe (fun _ _ kK => x_get dX8_isFirstValue_23 fl_X8_99 hM.1 (gvl_r1 fz_8_43.2.2 (show e_r T 555 88 = some 110 from (hM.2.1 43))) kK) ?_
        refine xe (fun _ _ kK => x_iload_n dX8_isFirstValue_26 rfl 2 rfl kK) ?_
        refine xe (fun _ _ kK => x_lald dX8_isFirstValue_27 (hM.2.2.1 21 (by decide)) (show (nI k) = nI k from rfl) (mi_len hM 21 (by decide) (show k < 6300 by omega)) (show e_al T 110 k = (rowAt R k).2.2.2.1 from (hR.row hk).2.2.2.1) kK) ?_
        refine xe (fun _ _ kK => x_lcmp dX8_isFirstValue_28 kK) ?_
        refine xe_if_ne (tgt := 34) dX8_isFirstValue_29 (by decide) (fun h29 => ?_) (fun h29 => ?_)
        · -- pc 34
          have h29 := lc_ne h29
          refine xe (fun _ _ kK => x_iinc dX8_isFirstValue_34 0 rfl (show (nI q) + Int32.ofInt 1 = nI (q + 1) from nI_add q 1) (by decide) (show _ = [(2, .int (nI (q + 1))), (0, .ref 88), (1, .int (nI k))] from rfl) kK) ?_
          refine xe (fun _ _ kK => x_goto (tgt := 2) dX8_isFirstValue_37 (by decide) kK) ?_
          refine xe_loc (by simp) (ih (k - (q + 1)) (by omega) (q + 1) rfl (by omega) ?_)
          rintro j hj ⟨u1, u2⟩
          rcases Nat.lt_or_ge j q with h9 | h9
          · exact hno j h9 ⟨u1, u2⟩
          · have e9 : j = q := by omega
            subst e9
            exact h29 u2
        · -- pc 32
          have h29 := lc_eqn h29
          refine xe (fun _ _ kK => x_iconst dX8_isFirstValue_32 (show _ = nI 0 by decide) kK) ?_
          exact xe_retz dX8_isFirstValue_33 rfl (by first | exact Or.inl rfl | exact Or.inr rfl) (⟨r_0 (pB_f (fun z => z q h4 ⟨h13, h29⟩)), rfl⟩)

set_option maxHeartbeats 4000000 in
theorem c_X8_isFirstValue (d : Nat) {T : TH} {R : List Row} (hM : MI T) (hR : MRw T R) (hO : RwOk R) {k : Nat} (hk : k < R.length) : Xe m_X8_isFirstValue d 0 [(0, .ref 88), (1, .int (nI k))] [] T (fun r T1 => r = some (.int (bI (fstV R k))) ∧ T1 = T) := by
  refine xe (fun _ _ kK => x_iconst dX8_isFirstValue_0 (show _ = nI 0 by decide) kK) ?_
  refine xe (fun _ _ kK => x_istore_n dX8_isFirstValue_1 rfl (by decide) (show _ = [(2, .int (nI 0)), (0, .ref 88), (1, .int (nI k))] from rfl) kK) ?_
  exact xe_loc (by simp) (l_X8_isFirstValue d hM hR hO hk k 0 rfl (Nat.zero_le _) (fun j h => absurd h (Nat.not_lt_zero j)))

set_option maxHeartbeats 4000000 in
theorem l_X8_values1 (d : Nat) {T : TH} {R : List Row} (hM : MI T) (hR : MRw T R) (hO : RwOk R)  : ∀ (m k : Nat), R.length - k = m → k ≤ R.length → Xe m_X8_values (d + 1) 4 [(3, .int (nI k)), (2, .int (nI (cI (vP R true) k))), (0, .ref 88), (1, .int (nI 1))] [] T (fun r T1 => r = some (.int (nI (cI (vP R true) R.length))) ∧ T1 = T) := by
  intro m
  induction m using Nat.strongRecOn with
  | ind m ih =>
    intro k hm hk
    subst hm
    have hl6 := hO.1
    refine xe (fun _ _ kK => x_iload_n dX8_values_4 rfl 0 rfl kK) ?_
    refine xe (fun _ _ kK => x_aload_n dX8_values_5 rfl 2 rfl kK) ?_
    refine xe (fun _ _ kK => x_get dX8_values_6 fl_X8_257 hM.1 (gvl_i fz_8_39.2.2 (show e_i T 551 88 = nI R.length from hR.1)) kK) ?_
    refine xe_icmp_ge (tgt := 42) dX8_values_9 (by decide) (fun h9 => ?_) (fun h9 => ?_)
    · -- pc 42
      have h9 := cv_le (by omega) (by omega) h9
      refine xe (fun _ _ kK => x_iload_n dX8_values_42 rfl 1 rfl kK) ?_
      exact xe_reti dX8_values_43 rfl (⟨by rw [show k = R.length by omega], rfl⟩)
    · -- pc 12
      have h9 := cv_nle (by omega) (by omega) h9
      have hrk := hO.2 k h9
      have hci := cI_le (vP R true) k
      refine xe (fun _ _ kK => x_aload_n dX8_values_12 rfl 2 rfl kK) ?_
      refine xe (fun _ _ kK => x_get dX8_values_13 fl_X8_95 hM.1 (gvl_r1 fz_8_42.2.2 (show e_r T 554 88 = some 109 from (hM.2.1 42))) kK) ?_
      refine xe (fun _ _ kK => x_iload_n dX8_values_16 rfl 0 rfl kK) ?_
      refine xe (fun _ _ kK => x_zald dX8_values_17 (hM.2.2.1 20 (by decide)) (show (nI k) = nI k from rfl) (mi_len hM 20 (by decide) (show k < 6300 by omega)) (show e_ai T 109 k = bI (rowAt R k).2.2.1 from (hR.row h9).2.2.1) kK) ?_
      refine xe_if_eq (tgt := 36) dX8_values_18 (by decide) (fun h18 => ?_) (fun h18 => ?_)
      · -- pc 36
        have h18 := cv_b0 h18
        refine xe (fun _ _ kK => x_iinc dX8_values_36 0 rfl (show (nI k) + Int32.ofInt 1 = nI (k + 1) from nI_add k 1) (by decide) (show _ = [(3, .int (nI (k + 1))), (2, .int (nI (cI (vP R true) k))), (0, .ref 88), (1, .int (nI 1))] from rfl) kK) ?_
        refine xe (fun _ _ kK => x_goto (tgt := 4) dX8_values_39 (by decide) kK) ?_
        have hv : cI (vP R true) (k + 1) = cI (vP R true) k  := cI_f (by unfold vP; rw [h18]; rfl)
        have := ih (R.length - (k + 1)) (by omega) (k + 1) rfl (by omega)
        rw [hv] at this
        exact xe_loc (by simp) this
      · -- pc 21
        have h18 := cv_b1 h18
        refine xe (fun _ _ kK => x_iload_n dX8_values_21 rfl 3 rfl kK) ?_
        refine xe (fun _ _ kK => x_if_eqF (tgt := 33) dX8_values_22 (by decide) (by decide) kK) ?_
        refine xe (fun _ _ kK => x_aload_n dX8_values_25 rfl 2 rfl kK) ?_
        refine xe (fun _ _ kK => x_iload_n dX8_values_26 rfl 0 rfl kK) ?_
        refine xe_callV (a := 88) [.int (nI k)] dX8_values_27 ml_X8_275 mf_X8_isFirstValue hM.1 (c_X8_isFirstValue d hM hR hO h9) rfl rfl (Nat.le_of_ble_eq_true rfl) (Nat.le_of_ble_eq_true rfl) ?_
        rintro _ T9 ⟨rfl, h9⟩
        refine xe_T h9 ?_
        refine xe_if_eq (tgt := 36) dX8_values_30 (by decide) (fun h30 => ?_) (fun h30 => ?_)
        · -- pc 36
          have h30 := cv_b0 h30
          refine xe (fun _ _ kK => x_iinc dX8_values_36 0 rfl (show (nI k) + Int32.ofInt 1 = nI (k + 1) from nI_add k 1) (by decide) (show _ = [(3, .int (nI (k + 1))), (2, .int (nI (cI (vP R true) k))), (0, .ref 88), (1, .int (nI 1))] from rfl) kK) ?_
          refine xe (fun _ _ kK => x_goto (tgt := 4) dX8_values_39 (by decide) kK) ?_
          have hv : cI (vP R true) (k + 1) = cI (vP R true) k  := cI_f (by unfold vP; rw [h18, h30]; rfl)
          have := ih (R.length - (k + 1)) (by omega) (k + 1) rfl (by omega)
          rw [hv] at this
          exact xe_loc (by simp) this
        · -- pc 33
          have h30 := cv_b1 h30
          refine xe (fun _ _ kK => x_iinc dX8_values_33 1 rfl (show (nI (cI (vP R true) k)) + Int32.ofInt 1 = nI ((cI (vP R true) k) + 1) from nI_add (cI (vP R true) k) 1) (by decide) (show _ = [(2, .int (nI ((cI (vP R true) k) + 1))), (3, .int (nI k)), (0, .ref 88), (1, .int (nI 1))] from rfl) kK) ?_
          refine xe (fun _ _ kK => x_iinc dX8_values_36 1 rfl (show (nI k) + Int32.ofInt 1 = nI (k + 1) from nI_add k 1) (by decide) (show _ = [(3, .int (nI (k + 1))), (2, .int (nI ((cI (vP R true) k) + 1))), (0, .ref 88), (1, .int (nI 1))] from rfl) kK) ?_
          refine xe (fun _ _ kK => x_goto (tgt := 4) dX8_values_39 (by decide) kK) ?_
          have hv : cI (vP R true) (k + 1) = cI (vP R true) k + 1 := cI_t (by unfold vP; rw [h18, h30]; rfl)
          have := ih (R.length - (k + 1)) (by omega) (k + 1) rfl (by omega)
          rw [hv] at this
          exact xe_loc (by simp) this

set_option maxHeartbeats 4000000 in
theorem c_X8_values1 (d : Nat) {T : TH} {R : List Row} (hM : MI T) (hR : MRw T R) (hO : RwOk R) : Xe m_X8_values (d + 1) 0 [(0, .ref 88), (1, .int (nI 1))] [] T (fun r T1 => r = some (.int (nI (cI (vP R true) R.length))) ∧ T1 = T) := by
  refine xe (fun _ _ kK => x_iconst dX8_values_0 (show _ = nI 0 by decide) kK) ?_
  refine xe (fun _ _ kK => x_istore_n dX8_values_1 rfl (by decide) (show _ = [(2, .int (nI 0)), (0, .ref 88), (1, .int (nI 1))] from rfl) kK) ?_
  refine xe (fun _ _ kK => x_iconst dX8_values_2 (show _ = nI 0 by decide) kK) ?_
  refine xe (fun _ _ kK => x_istore_n dX8_values_3 rfl (by decide) (show _ = [(3, .int (nI 0)), (2, .int (nI 0)), (0, .ref 88), (1, .int (nI 1))] from rfl) kK) ?_
  exact xe_loc (by simp [cI]) (l_X8_values1 d hM hR hO R.length 0 rfl (Nat.zero_le _))

set_option maxHeartbeats 4000000 in
theorem l_X8_values0 (d : Nat) {T : TH} {R : List Row} (hM : MI T) (hR : MRw T R) (hO : RwOk R)  : ∀ (m k : Nat), R.length - k = m → k ≤ R.length → Xe m_X8_values (d + 1) 4 [(3, .int (nI k)), (2, .int (nI (cI (vP R false) k))), (0, .ref 88), (1, .int (nI 0))] [] T (fun r T1 => r = some (.int (nI (cI (vP R false) R.length))) ∧ T1 = T) := by
  intro m
  induction m using Nat.strongRecOn with
  | ind m ih =>
    intro k hm hk
    subst hm
    have hl6 := hO.1
    refine xe (fun _ _ kK => x_iload_n dX8_values_4 rfl 0 rfl kK) ?_
    refine xe (fun _ _ kK => x_aload_n dX8_values_5 rfl 2 rfl kK) ?_
    refine xe (fun _ _ kK => x_get dX8_values_6 fl_X8_257 hM.1 (gvl_i fz_8_39.2.2 (show e_i T 551 88 = nI R.length from hR.1)) kK) ?_
    refine xe_icmp_ge (tgt := 42) dX8_values_9 (by decide) (fun h9 => ?_) (fun h9 => ?_)
    · -- pc 42
      have h9 := cv_le (by omega) (by omega) h9
      refine xe (fun _ _ kK => x_iload_n dX8_values_42 rfl 1 rfl kK) ?_
      exact xe_reti dX8_values_43 rfl (⟨by rw [show k = R.length by omega], rfl⟩)
    · -- pc 12
      have h9 := cv_nle (by omega) (by omega) h9
      have hrk := hO.2 k h9
      have hci := cI_le (vP R false) k
      refine xe (fun _ _ kK => x_aload_n dX8_values_12 rfl 2 rfl kK) ?_
      refine xe (fun _ _ kK => x_get dX8_values_13 fl_X8_95 hM.1 (gvl_r1 fz_8_42.2.2 (show e_r T 554 88 = some 109 from (hM.2.1 42))) kK) ?_
      refine xe (fun _ _ kK => x_iload_n dX8_values_16 rfl 0 rfl kK) ?_
      refine xe (fun _ _ kK => x_zald dX8_values_17 (hM.2.2.1 20 (by decide)) (show (nI k) = nI k from rfl) (mi_len hM 20 (by decide) (show k < 6300 by omega)) (show e_ai T 109 k = bI (rowAt R k).2.2.1 from (hR.row h9).2.2.1) kK) ?_
      refine xe_if_eq (tgt := 36) dX8_values_18 (by decide) (fun h18 => ?_) (fun h18 => ?_)
      · -- pc 36
        have h18 := cv_b0 h18
        refine xe (fun _ _ kK => x_iinc dX8_values_36 0 rfl (show (nI k) + Int32.ofInt 1 = nI (k + 1) from nI_add k 1) (by decide) (show _ = [(3, .int (nI (k + 1))), (2, .int (nI (cI (vP R false) k))), (0, .ref 88), (1, .int (nI 0))] from rfl) kK) ?_
        refine xe (fun _ _ kK => x_goto (tgt := 4) dX8_values_39 (by decide) kK) ?_
        have hv : cI (vP R false) (k + 1) = cI (vP R false) k  := cI_f (by unfold vP; rw [h18]; rfl)
        have := ih (R.length - (k + 1)) (by omega) (k + 1) rfl (by omega)
        rw [hv] at this
        exact xe_loc (by simp) this
      · -- pc 21
        have h18 := cv_b1 h18
        refine xe (fun _ _ kK => x_iload_n dX8_values_21 rfl 3 rfl kK) ?_
        refine xe (fun _ _ kK => x_if_eqT (tgt := 33) dX8_values_22 (by decide) (by decide) kK) ?_
        refine xe (fun _ _ kK => x_iinc dX8_values_33 1 rfl (show (nI (cI (vP R false) k)) + Int32.ofInt 1 = nI ((cI (vP R false) k) + 1) from nI_add (cI (vP R false) k) 1) (by decide) (show _ = [(2, .int (nI ((cI (vP R false) k) + 1))), (3, .int (nI k)), (0, .ref 88), (1, .int (nI 0))] from rfl) kK) ?_
        refine xe (fun _ _ kK => x_iinc dX8_values_36 1 rfl (show (nI k) + Int32.ofInt 1 = nI (k + 1) from nI_add k 1) (by decide) (show _ = [(3, .int (nI (k + 1))), (2, .int (nI ((cI (vP R false) k) + 1))), (0, .ref 88), (1, .int (nI 0))] from rfl) kK) ?_
        refine xe (fun _ _ kK => x_goto (tgt := 4) dX8_values_39 (by decide) kK) ?_
        have hv : cI (vP R false) (k + 1) = cI (vP R false) k + 1 := cI_t (by unfold vP; rw [h18]; rfl)
        have := ih (R.length - (k + 1)) (by omega) (k + 1) rfl (by omega)
        rw [hv] at this
        exact xe_loc (by simp) this

set_option maxHeartbeats 4000000 in
theorem c_X8_values0 (d : Nat) {T : TH} {R : List Row} (hM : MI T) (hR : MRw T R) (hO : RwOk R) : Xe m_X8_values (d + 1) 0 [(0, .ref 88), (1, .int (nI 0))] [] T (fun r T1 => r = some (.int (nI (cI (vP R false) R.length))) ∧ T1 = T) := by
  refine xe (fun _ _ kK => x_iconst dX8_values_0 (show _ = nI 0 by decide) kK) ?_
  refine xe (fun _ _ kK => x_istore_n dX8_values_1 rfl (by decide) (show _ = [(2, .int (nI 0)), (0, .ref 88), (1, .int (nI 0))] from rfl) kK) ?_
  refine xe (fun _ _ kK => x_iconst dX8_values_2 (show _ = nI 0 by decide) kK) ?_
  refine xe (fun _ _ kK => x_istore_n dX8_values_3 rfl (by decide) (show _ = [(3, .int (nI 0)), (2, .int (nI 0)), (0, .ref 88), (1, .int (nI 0))] from rfl) kK) ?_
  exact xe_loc (by simp [cI]) (l_X8_values0 d hM hR hO R.length 0 rfl (Nat.zero_le _))

set_option maxHeartbeats 4000000 in
theorem l_X8_runsL (d : Nat) {T : TH} {R : List Row} (hM : MI T) (hR : MRw T R) (hO : RwOk R)  : ∀ (m k : Nat), R.length - k = m → k ≤ R.length → Xe m_X8_runs d 4 [(3, .int (nI k)), (2, .int (nI (cI (rP (fun k => (rowAt R k).1)) k))), (0, .ref 88), (1, .ref 107)] [] T (fun r T1 => r = some (.int (nI (cI (rP (fun k => (rowAt R k).1)) R.length))) ∧ T1 = T) := by
  intro m
  induction m using Nat.strongRecOn with
  | ind m ih =>
    intro k hm hk
    subst hm
    have hl6 := hO.1
    refine xe (fun _ _ kK => x_iload_n dX8_runs_4 rfl 0 rfl kK) ?_
    refine xe (fun _ _ kK => x_aload_n dX8_runs_5 rfl 2 rfl kK) ?_
    refine xe (fun _ _ kK => x_get dX8_runs_6 fl_X8_257 hM.1 (gvl_i fz_8_39.2.2 (show e_i T 551 88 = nI R.length from hR.1)) kK) ?_
    refine xe_icmp_ge (tgt := 36) dX8_runs_9 (by decide) (fun h9 => ?_) (fun h9 => ?_)
    · -- pc 36
      have h9 := cv_le (by omega) (by omega) h9
      refine xe (fun _ _ kK => x_iload_n dX8_runs_36 rfl 1 rfl kK) ?_
      exact xe_reti dX8_runs_37 rfl (⟨by rw [show k = R.length by omega], rfl⟩)
    · -- pc 12
      have h9 := cv_nle (by omega) (by omega) h9
      have hrk := hO.2 k h9
      have hci := cI_le (rP (fun k => (rowAt R k).1)) k
      refine xe (fun _ _ kK => x_iload_n dX8_runs_12 rfl 0 rfl kK) ?_
      refine xe_if_eq (tgt := 27) dX8_runs_13 (by decide) (fun h13 => ?_) (fun h13 => ?_)
      · -- pc 27
        have h13 := cv_z (by omega) h13
        refine xe (fun _ _ kK => x_iinc dX8_runs_27 1 rfl (show (nI (cI (rP (fun k => (rowAt R k).1)) k)) + Int32.ofInt 1 = nI ((cI (rP (fun k => (rowAt R k).1)) k) + 1) from nI_add (cI (rP (fun k => (rowAt R k).1)) k) 1) (by decide) (show _ = [(2, .int (nI ((cI (rP (fun k => (rowAt R k).1)) k) + 1))), (3, .int (nI k)), (0, .ref 88), (1, .ref 107)] from rfl) kK) ?_
        refine xe (fun _ _ kK => x_iinc dX8_runs_30 1 rfl (show (nI k) + Int32.ofInt 1 = nI (k + 1) from nI_add k 1) (by decide) (show _ = [(3, .int (nI (k + 1))), (2, .int (nI ((cI (rP (fun k => (rowAt R k).1)) k) + 1))), (0, .ref 88), (1, .ref 107)] from rfl) kK) ?_
        refine xe (fun _ _ kK => x_goto (tgt := 4) dX8_runs_33 (by decide) kK) ?_
        have hv : cI (rP (fun k => (rowAt R k).1)) (k + 1) = cI (rP (fun k => (rowAt R k).1)) k + 1 := cI_t (by simp [rP, h13])
        have := ih (R.length - (k + 1)) (by omega) (k + 1) rfl (by omega)
        rw [hv] at this
        exact xe_loc (by simp) this
      · -- pc 16
        have h13 := cv_nz (by omega) h13
        have hr1 := hO.2 (k - 1) (by omega)
        refine xe (fun _ _ kK => x_aload_n dX8_runs_16 rfl 3 rfl kK) ?_
        refine xe (fun _ _ kK => x_iload_n dX8_runs_17 rfl 0 rfl kK) ?_
        refine xe (fun _ _ kK => x_iald dX8_runs_18 (hM.2.2.1 18 (by decide)) (show (nI k) = nI k from rfl) (mi_len hM 18 (by decide) (show k < 6300 by omega)) (show e_ai T 107 k = nI (rowAt R k).1 from (hR.row h9).1) kK) ?_
        refine xe (fun _ _ kK => x_aload_n dX8_runs_19 rfl 3 rfl kK) ?_
        refine xe (fun _ _ kK => x_iload_n dX8_runs_20 rfl 0 rfl kK) ?_
        refine xe (fun _ _ kK => x_iconst dX8_runs_21 (show _ = nI 1 by decide) kK) ?_
        refine xe (fun _ _ kK => x_isub dX8_runs_22 kK) ?_
        refine xe_ti (show _ = nI (k - 1) from pk_sub (by omega)) ?_
        refine xe (fun _ _ kK => x_iald dX8_runs_23 (hM.2.2.1 18 (by decide)) (show (nI (k - 1)) = nI (k - 1) from rfl) (mi_len hM 18 (by decide) (show k - 1 < 6300 by omega)) (show e_ai T 107 (k - 1) = nI (rowAt R (k - 1)).1 from (hR.row (show k - 1 < R.length by omega)).1) kK) ?_
        refine xe_icmp_eq (tgt := 30) dX8_runs_24 (by decide) (fun h24 => ?_) (fun h24 => ?_)
        · -- pc 30
          have h24 := cv_eq (by omega) (by omega) h24
          refine xe (fun _ _ kK => x_iinc dX8_runs_30 0 rfl (show (nI k) + Int32.ofInt 1 = nI (k + 1) from nI_add k 1) (by decide) (show _ = [(3, .int (nI (k + 1))), (2, .int (nI (cI (rP (fun k => (rowAt R k).1)) k))), (0, .ref 88), (1, .ref 107)] from rfl) kK) ?_
          refine xe (fun _ _ kK => x_goto (tgt := 4) dX8_runs_33 (by decide) kK) ?_
          have hv : cI (rP (fun k => (rowAt R k).1)) (k + 1) = cI (rP (fun k => (rowAt R k).1)) k  := cI_f (by simp [rP, h13, h24])
          have := ih (R.length - (k + 1)) (by omega) (k + 1) rfl (by omega)
          rw [hv] at this
          exact xe_loc (by simp) this
        · -- pc 27
          have h24 := cv_ne (by omega) (by omega) h24
          refine xe (fun _ _ kK => x_iinc dX8_runs_27 1 rfl (show (nI (cI (rP (fun k => (rowAt R k).1)) k)) + Int32.ofInt 1 = nI ((cI (rP (fun k => (rowAt R k).1)) k) + 1) from nI_add (cI (rP (fun k => (rowAt R k).1)) k) 1) (by decide) (show _ = [(2, .int (nI ((cI (rP (fun k => (rowAt R k).1)) k) + 1))), (3, .int (nI k)), (0, .ref 88), (1, .ref 107)] from rfl) kK) ?_
          refine xe (fun _ _ kK => x_iinc dX8_runs_30 1 rfl (show (nI k) + Int32.ofInt 1 = nI (k + 1) from nI_add k 1) (by decide) (show _ = [(3, .int (nI (k + 1))), (2, .int (nI ((cI (rP (fun k => (rowAt R k).1)) k) + 1))), (0, .ref 88), (1, .ref 107)] from rfl) kK) ?_
          refine xe (fun _ _ kK => x_goto (tgt := 4) dX8_runs_33 (by decide) kK) ?_
          have hv : cI (rP (fun k => (rowAt R k).1)) (k + 1) = cI (rP (fun k => (rowAt R k).1)) k + 1 := cI_t (by simp [rP]; exact Or.inr h24)
          have := ih (R.length - (k + 1)) (by omega) (k + 1) rfl (by omega)
          rw [hv] at this
          exact xe_loc (by simp) this

set_option maxHeartbeats 4000000 in
theorem c_X8_runsL (d : Nat) {T : TH} {R : List Row} (hM : MI T) (hR : MRw T R) (hO : RwOk R) : Xe m_X8_runs d 0 [(0, .ref 88), (1, .ref 107)] [] T (fun r T1 => r = some (.int (nI (cI (rP (fun k => (rowAt R k).1)) R.length))) ∧ T1 = T) := by
  refine xe (fun _ _ kK => x_iconst dX8_runs_0 (show _ = nI 0 by decide) kK) ?_
  refine xe (fun _ _ kK => x_istore_n dX8_runs_1 rfl (by decide) (show _ = [(2, .int (nI 0)), (0, .ref 88), (1, .ref 107)] from rfl) kK) ?_
  refine xe (fun _ _ kK => x_iconst dX8_runs_2 (show _ = nI 0 by decide) kK) ?_
  refine xe (fun _ _ kK => x_istore_n dX8_runs_3 rfl (by decide) (show _ = [(3, .int (nI 0)), (2, .int (nI 0)), (0, .ref 88), (1, .ref 107)] from rfl) kK) ?_
  exact xe_loc (by simp [cI]) (l_X8_runsL d hM hR hO R.length 0 rfl (Nat.zero_le _))

set_option maxHeartbeats 4000000 in
theorem l_X8_runsT (d : Nat) {T : TH} {R : List Row} (hM : MI T) (hR : MRw T R) (hO : RwOk R)  : ∀ (m k : Nat), R.length - k = m → k ≤ R.length → Xe m_X8_runs d 4 [(3, .int (nI k)), (2, .int (nI (cI (rP (fun k => (rowAt R k).2.1)) k))), (0, .ref 88), (1, .ref 108)] [] T (fun r T1 => r = some (.int (nI (cI (rP (fun k => (rowAt R k).2.1)) R.length))) ∧ T1 = T) := by
  intro m
  induction m using Nat.strongRecOn with
  | ind m ih =>
    intro k hm hk
    subst hm
    have hl6 := hO.1
    refine xe (fun _ _ kK => x_iload_n dX8_runs_4 rfl 0 rfl kK) ?_
    refine xe (fun _ _ kK => x_aload_n dX8_runs_5 rfl 2 rfl kK) ?_
    refine xe (fun _ _ kK => x_get dX8_runs_6 fl_X8_257 hM.1 (gvl_i fz_8_39.2.2 (show e_i T 551 88 = nI R.length from hR.1)) kK) ?_
    refine xe_icmp_ge (tgt := 36) dX8_runs_9 (by decide) (fun h9 => ?_) (fun h9 => ?_)
    · -- pc 36
      have h9 := cv_le (by omega) (by omega) h9
      refine xe (fun _ _ kK => x_iload_n dX8_runs_36 rfl 1 rfl kK) ?_
      exact xe_reti dX8_runs_37 rfl (⟨by rw [show k = R.length by omega], rfl⟩)
    · -- pc 12
      have h9 := cv_nle (by omega) (by omega) h9
      have hrk := hO.2 k h9
      have hci := cI_le (rP (fun k => (rowAt R k).2.1)) k
      refine xe (fun _ _ kK => x_iload_n dX8_runs_12 rfl 0 rfl kK) ?_
      refine xe_if_eq (tgt := 27) dX8_runs_13 (by decide) (fun h13 => ?_) (fun h13 => ?_)
      · -- pc 27
        have h13 := cv_z (by omega) h13
        refine xe (fun _ _ kK => x_iinc dX8_runs_27 1 rfl (show (nI (cI (rP (fun k => (rowAt R k).2.1)) k)) + Int32.ofInt 1 = nI ((cI (rP (fun k => (rowAt R k).2.1)) k) + 1) from nI_add (cI (rP (fun k => (rowAt R k).2.1)) k) 1) (by decide) (show _ = [(2, .int (nI ((cI (rP (fun k => (rowAt R k).2.1)) k) + 1))), (3, .int (nI k)), (0, .ref 88), (1, .ref 108)] from rfl) kK) ?_
        refine xe (fun _ _ kK => x_iinc dX8_runs_30 1 rfl (show (nI k) + Int32.ofInt 1 = nI (k + 1) from nI_add k 1) (by decide) (show _ = [(3, .int (nI (k + 1))), (2, .int (nI ((cI (rP (fun k => (rowAt R k).2.1)) k) + 1))), (0, .ref 88), (1, .ref 108)] from rfl) kK) ?_
        refine xe (fun _ _ kK => x_goto (tgt := 4) dX8_runs_33 (by decide) kK) ?_
        have hv : cI (rP (fun k => (rowAt R k).2.1)) (k + 1) = cI (rP (fun k => (rowAt R k).2.1)) k + 1 := cI_t (by simp [rP, h13])
        have := ih (R.length - (k + 1)) (by omega) (k + 1) rfl (by omega)
        rw [hv] at this
        exact xe_loc (by simp) this
      · -- pc 16
        have h13 := cv_nz (by omega) h13
        have hr1 := hO.2 (k - 1) (by omega)
        refine xe (fun _ _ kK => x_aload_n dX8_runs_16 rfl 3 rfl kK) ?_
        refine xe (fun _ _ kK => x_iload_n dX8_runs_17 rfl 0 rfl kK) ?_
        refine xe (fun _ _ kK => x_iald dX8_runs_18 (hM.2.2.1 19 (by decide)) (show (nI k) = nI k from rfl) (mi_len hM 19 (by decide) (show k < 6300 by omega)) (show e_ai T 108 k = nI (rowAt R k).2.1 from (hR.row h9).2.1) kK) ?_
        refine xe (fun _ _ kK => x_aload_n dX8_runs_19 rfl 3 rfl kK) ?_
        refine xe (fun _ _ kK => x_iload_n dX8_runs_20 rfl 0 rfl kK) ?_
        refine xe (fun _ _ kK => x_iconst dX8_runs_21 (show _ = nI 1 by decide) kK) ?_
        refine xe (fun _ _ kK => x_isub dX8_runs_22 kK) ?_
        refine xe_ti (show _ = nI (k - 1) from pk_sub (by omega)) ?_
        refine xe (fun _ _ kK => x_iald dX8_runs_23 (hM.2.2.1 19 (by decide)) (show (nI (k - 1)) = nI (k - 1) from rfl) (mi_len hM 19 (by decide) (show k - 1 < 6300 by omega)) (show e_ai T 108 (k - 1) = nI (rowAt R (k - 1)).2.1 from (hR.row (show k - 1 < R.length by omega)).2.1) kK) ?_
        refine xe_icmp_eq (tgt := 30) dX8_runs_24 (by decide) (fun h24 => ?_) (fun h24 => ?_)
        · -- pc 30
          have h24 := cv_eq (by omega) (by omega) h24
          refine xe (fun _ _ kK => x_iinc dX8_runs_30 0 rfl (show (nI k) + Int32.ofInt 1 = nI (k + 1) from nI_add k 1) (by decide) (show _ = [(3, .int (nI (k + 1))), (2, .int (nI (cI (rP (fun k => (rowAt R k).2.1)) k))), (0, .ref 88), (1, .ref 108)] from rfl) kK) ?_
          refine xe (fun _ _ kK => x_goto (tgt := 4) dX8_runs_33 (by decide) kK) ?_
          have hv : cI (rP (fun k => (rowAt R k).2.1)) (k + 1) = cI (rP (fun k => (rowAt R k).2.1)) k  := cI_f (by simp [rP, h13, h24])
          have := ih (R.length - (k + 1)) (by omega) (k + 1) rfl (by omega)
          rw [hv] at this
          exact xe_loc (by simp) this
        · -- pc 27
          have h24 := cv_ne (by omega) (by omega) h24
          refine xe (fun _ _ kK => x_iinc dX8_runs_27 1 rfl (show (nI (cI (rP (fun k => (rowAt R k).2.1)) k)) + Int32.ofInt 1 = nI ((cI (rP (fun k => (rowAt R k).2.1)) k) + 1) from nI_add (cI (rP (fun k => (rowAt R k).2.1)) k) 1) (by decide) (show _ = [(2, .int (nI ((cI (rP (fun k => (rowAt R k).2.1)) k) + 1))), (3, .int (nI k)), (0, .ref 88), (1, .ref 108)] from rfl) kK) ?_
          refine xe (fun _ _ kK => x_iinc dX8_runs_30 1 rfl (show (nI k) + Int32.ofInt 1 = nI (k + 1) from nI_add k 1) (by decide) (show _ = [(3, .int (nI (k + 1))), (2, .int (nI ((cI (rP (fun k => (rowAt R k).2.1)) k) + 1))), (0, .ref 88), (1, .ref 108)] from rfl) kK) ?_
          refine xe (fun _ _ kK => x_goto (tgt := 4) dX8_runs_33 (by decide) kK) ?_
          have hv : cI (rP (fun k => (rowAt R k).2.1)) (k + 1) = cI (rP (fun k => (rowAt R k).2.1)) k + 1 := cI_t (by simp [rP]; exact Or.inr h24)
          have := ih (R.length - (k + 1)) (by omega) (k + 1) rfl (by omega)
          rw [hv] at this
          exact xe_loc (by simp) this

set_option maxHeartbeats 4000000 in
theorem c_X8_runsT (d : Nat) {T : TH} {R : List Row} (hM : MI T) (hR : MRw T R) (hO : RwOk R) : Xe m_X8_runs d 0 [(0, .ref 88), (1, .ref 108)] [] T (fun r T1 => r = some (.int (nI (cI (rP (fun k => (rowAt R k).2.1)) R.length))) ∧ T1 = T) := by
  refine xe (fun _ _ kK => x_iconst dX8_runs_0 (show _ = nI 0 by decide) kK) ?_
  refine xe (fun _ _ kK => x_istore_n dX8_runs_1 rfl (by decide) (show _ = [(2, .int (nI 0)), (0, .ref 88), (1, .ref 108)] from rfl) kK) ?_
  refine xe (fun _ _ kK => x_iconst dX8_runs_2 (show _ = nI 0 by decide) kK) ?_
  refine xe (fun _ _ kK => x_istore_n dX8_runs_3 rfl (by decide) (show _ = [(3, .int (nI 0)), (2, .int (nI 0)), (0, .ref 88), (1, .ref 108)] from rfl) kK) ?_
  exact xe_loc (by simp [cI]) (l_X8_runsT d hM hR hO R.length 0 rfl (Nat.zero_le _))
