/-! the class's TABLE: its object a, its rows la oa qa va -/
def Tb (T : TH) (a la oa qa va cap : Nat) (R : List Row) (dg ag gr : Nat) (nm : Bool) : Prop :=
  e_K T a = 4 ∧ (e_r T 192 a = some la ∧ e_r T 193 a = some oa ∧ e_r T 194 a = some qa ∧ e_r T 195 a = some va) ∧ (e_K T la = 20 ∧ e_K T oa = 20 ∧ e_K T qa = 20 ∧ e_K T va = 23) ∧ (e_len T la = cap ∧ e_len T oa = cap ∧ e_len T qa = cap ∧ e_len T va = cap ∧ R.length ≤ cap) ∧ (e_i T 196 a = nI R.length ∧ e_i T 197 a = nI dg ∧ e_i T 198 a = nI ag ∧ e_i T 199 a = bI nm ∧ e_i T 200 a = nI gr) ∧ ∀ k, k < R.length → e_ai T la k = nI (rowAt R k).1 ∧ e_ai T oa k = nI (rowAt R k).2.1 ∧ e_ai T qa k = nI (rowAt R k).2.2.2.2 ∧ e_al T va k = (rowAt R k).2.2.2.1
theorem Tb.len {T : TH} {a la oa qa va cap : Nat} {R : List Row} {dg ag gr : Nat} {nm : Bool} (hT : Tb T a la oa qa va cap R dg ag gr nm) {k : Nat} (hk : k < R.length) : k < e_len T la ∧ k < e_len T oa ∧ k < e_len T qa ∧ k < e_len T va := by
  obtain ⟨-, -, -, ⟨h1, h2, h3, h4, h5⟩, -, -⟩ := hT
  rw [h1, h2, h3, h4]; omega
def HsOk (R : List Row) (dg : Nat) : Prop := ∀ k, k < R.length → (rowAt R k).2.2.1 = decide ((rowAt R k).2.1 = dg)
/-- whether the row that is asked for has a value -/
def hvX (R : List Row) (x : Int32) : Bool := match ix x R.length with
  | none => false
  | some k => (rowAt R k).2.2.1
theorem hvX_in {R : List Row} {k : Nat} (h : k < R.length) (h6 : R.length ≤ 6300) : hvX R (nI k) = (rowAt R k).2.2.1 := by unfold hvX; rw [ix_in h (by omega)]

set_option maxHeartbeats 4000000 in
theorem c_X3_isRow (d : Nat) {T : TH} {a la oa qa va cap : Nat} {R : List Row} {dg ag gr : Nat} {nm : Bool} (hT : Tb T a la oa qa va cap R dg ag gr nm) (hO : RwOk R) (x : Int32) : Xe m_X3_isRow d 0 [(0, .ref a), (1, .int x)] [] T (fun r T1 => r = some (.int (bI (ix x R.length).isSome)) ∧ T1 = T) := by
  have h6 := hO.1
  by_cases hx : x < 0
  · -- pc 0
    refine xe (fun _ _ kK => x_iload_n dX3_isRow_0 rfl 1 rfl kK) ?_
    refine xe (fun _ _ kK => x_if_ltT (tgt := 16) dX3_isRow_1 (by decide) hx kK) ?_
    refine xe (fun _ _ kK => x_iconst dX3_isRow_16 (show _ = nI 0 by decide) kK) ?_
    exact xe_retz dX3_isRow_17 rfl (by first | exact Or.inl rfl | exact Or.inr rfl) (⟨r_0 (by rw [ix_neg hx]; rfl), rfl⟩)
  · -- pc 0
    obtain ⟨j, hj, rfl⟩ := nI_of hx
    refine xe (fun _ _ kK => x_iload_n dX3_isRow_0 rfl 1 rfl kK) ?_
    refine xe (fun _ _ kK => x_if_ltF (tgt := 16) dX3_isRow_1 (by decide) hx kK) ?_
    refine xe (fun _ _ kK => x_iload_n dX3_isRow_4 rfl 1 rfl kK) ?_
    refine xe (fun _ _ kK => x_aload_n dX3_isRow_5 rfl 0 rfl kK) ?_
    refine xe (fun _ _ kK => x_get dX3_isRow_6 fl_X3_25 hT.1 (gvl_i fz_3_4.2.2 (show e_i T 196 a = nI R.length from hT.2.2.2.2.1.1)) kK) ?_
    refine xe_icmp_ge (tgt := 16) dX3_isRow_9 (by decide) (fun h9 => ?_) (fun h9 => ?_)
    · -- pc 16
      have h9 := cv_le (by omega) (by omega) h9
      refine xe (fun _ _ kK => x_iconst dX3_isRow_16 (show _ = nI 0 by decide) kK) ?_
      exact xe_retz dX3_isRow_17 rfl (by first | exact Or.inl rfl | exact Or.inr rfl) (⟨r_0 (by rw [ix_out (by omega) hj]; rfl), rfl⟩)
    · -- pc 12
      have h9 := cv_nle (by omega) (by omega) h9
      refine xe (fun _ _ kK => x_iconst dX3_isRow_12 (show _ = nI 1 by decide) kK) ?_
      refine xe (fun _ _ kK => x_goto (tgt := 17) dX3_isRow_13 (by decide) kK) ?_
      exact xe_retz dX3_isRow_17 rfl (by first | exact Or.inl rfl | exact Or.inr rfl) (⟨r_1 (by rw [ix_in (by omega) hj]; rfl), rfl⟩)

set_option maxHeartbeats 4000000 in
theorem c_X3_hasValue (d : Nat) {T : TH} {a la oa qa va cap : Nat} {R : List Row} {dg ag gr : Nat} {nm : Bool} (hT : Tb T a la oa qa va cap R dg ag gr nm) (hO : RwOk R) (hdg : dg < 2 ^ 31) (hH : HsOk R dg) (x : Int32) : Xe m_X3_hasValue (d + 1) 0 [(0, .ref a), (1, .int x)] [] T (fun r T1 => r = some (.int (bI (hvX R x))) ∧ T1 = T) := by
  have h6 := hO.1
  refine xe (fun _ _ kK => x_aload_n dX3_hasValue_0 rfl 0 rfl kK) ?_
  refine xe (fun _ _ kK => x_iload_n dX3_hasValue_1 rfl 1 rfl kK) ?_
  refine xe_callV (a := a) [.int x] dX3_hasValue_2 ml_X3_51 mf_X3_isRow hT.1 (c_X3_isRow d hT hO x) rfl rfl (Nat.le_of_ble_eq_true rfl) (Nat.le_of_ble_eq_true rfl) ?_
  rintro _ T9 ⟨rfl, hTq9⟩
  refine xe_T hTq9 ?_
  cases hix : ix x R.length with
  | none =>
    show Xe m_X3_hasValue (d + 1) 5 [(0, .ref a), (1, .int x)] [.int (bI false)] T _
    refine xe (fun _ _ kK => x_if_eqT (tgt := 25) dX3_hasValue_5 (by decide) rfl kK) ?_
    refine xe (fun _ _ kK => x_iconst dX3_hasValue_25 (show _ = nI 0 by decide) kK) ?_
    exact xe_retz dX3_hasValue_26 rfl (by first | exact Or.inl rfl | exact Or.inr rfl) (⟨r_0 (by unfold hvX; rw [hix]), rfl⟩)
  | some k =>
    obtain ⟨hk, rfl, hkb⟩ := ix_lt hix
    have hrk := hO.2 k hk
    show Xe m_X3_hasValue (d + 1) 5 [(0, .ref a), (1, .int (nI k))] [.int (bI true)] T _
    refine xe (fun _ _ kK => x_if_eqF (tgt := 25) dX3_hasValue_5 (by decide) (by decide) kK) ?_
    refine xe (fun _ _ kK => x_aload_n dX3_hasValue_8 rfl 0 rfl kK) ?_
    refine xe (fun _ _ kK => x_get dX3_hasValue_9 fl_X3_15 hT.1 (gvl_r1 fz_3_1.2.2 (show e_r T 193 a = some oa from hT.2.1.2.1)) kK) ?_
    refine xe (fun _ _ kK => x_iload_n dX3_hasValue_12 rfl 1 rfl kK) ?_
    refine xe (fun _ _ kK => x_iald dX3_hasValue_13 hT.2.2.1.2.1 (show (nI k) = nI k from rfl) (hT.len (show k < R.length by omega)).2.1 (show e_ai T oa k = nI (rowAt R k).2.1 from (hT.2.2.2.2.2 k hk).2.1) kK) ?_
    refine xe (fun _ _ kK => x_aload_n dX3_hasValue_14 rfl 0 rfl kK) ?_
    refine xe (fun _ _ kK => x_get dX3_hasValue_15 fl_X3_29 hT.1 (gvl_i fz_3_5.2.2 (show e_i T 197 a = nI dg from hT.2.2.2.2.1.2.1)) kK) ?_
    refine xe_icmp_ne (tgt := 25) dX3_hasValue_18 (by decide) (fun h18 => ?_) (fun h18 => ?_)
    · -- pc 25
      have h18 := cv_ne (by omega) (by omega) h18
      refine xe (fun _ _ kK => x_iconst dX3_hasValue_25 (show _ = nI 0 by decide) kK) ?_
      exact xe_retz dX3_hasValue_26 rfl (by first | exact Or.inl rfl | exact Or.inr rfl) (⟨r_0 (by unfold hvX; rw [hix]; show (rowAt R k).2.2.1 = false; rw [hH k hk, decide_eq_false h18]), rfl⟩)
    · -- pc 21
      have h18 := cv_eq (by omega) (by omega) h18
      refine xe (fun _ _ kK => x_iconst dX3_hasValue_21 (show _ = nI 1 by decide) kK) ?_
      refine xe (fun _ _ kK => x_goto (tgt := 26) dX3_hasValue_22 (by decide) kK) ?_
      exact xe_retz dX3_hasValue_26 rfl (by first | exact Or.inl rfl | exact Or.inr rfl) (⟨r_1 (by unfold hvX; rw [hix]; show (rowAt R k).2.2.1 = true; rw [hH k hk, decide_eq_true h18]), rfl⟩)

def hlX (R : List Row) (x : Int32) (lv : Nat) : Bool := match ix x R.length with
  | none => false
  | some k => decide ((rowAt R k).1 = lv)

set_option maxHeartbeats 4000000 in
theorem c_X3_hasLevel (d : Nat) {T : TH} {a la oa qa va cap : Nat} {R : List Row} {dg ag gr : Nat} {nm : Bool} (hT : Tb T a la oa qa va cap R dg ag gr nm) (hO : RwOk R) {lv : Nat} (hlv : lv < 2 ^ 31) (x : Int32) : Xe m_X3_hasLevel (d + 1) 0 [(0, .ref a), (1, .int x), (2, .int (nI lv))] [] T (fun r T1 => r = some (.int (bI (hlX R x lv))) ∧ T1 = T) := by
  have h6 := hO.1
  refine xe (fun _ _ kK => x_aload_n dX3_hasLevel_0 rfl 0 rfl kK) ?_
  refine xe (fun _ _ kK => x_iload_n dX3_hasLevel_1 rfl 1 rfl kK) ?_
  refine xe_callV (a := a) [.int x] dX3_hasLevel_2 ml_X3_51 mf_X3_isRow hT.1 (c_X3_isRow d hT hO x) rfl rfl (Nat.le_of_ble_eq_true rfl) (Nat.le_of_ble_eq_true rfl) ?_
  rintro _ T9 ⟨rfl, hTq9⟩
  refine xe_T hTq9 ?_
  cases hix : ix x R.length with
  | none =>
    show Xe m_X3_hasLevel (d + 1) 5 [(0, .ref a), (1, .int x), (2, .int (nI lv))] [.int (bI false)] T _
    refine xe (fun _ _ kK => x_if_eqT (tgt := 22) dX3_hasLevel_5 (by decide) rfl kK) ?_
    refine xe (fun _ _ kK => x_iconst dX3_hasLevel_22 (show _ = nI 0 by decide) kK) ?_
    exact xe_retz dX3_hasLevel_23 rfl (by first | exact Or.inl rfl | exact Or.inr rfl) (⟨r_0 (by unfold hlX; rw [hix]), rfl⟩)
  | some k =>
    obtain ⟨hk, rfl, hkb⟩ := ix_lt hix
    have hrk := hO.2 k hk
    show Xe m_X3_hasLevel (d + 1) 5 [(0, .ref a), (1, .int (nI k)), (2, .int (nI lv))] [.int (bI true)] T _
    refine xe (fun _ _ kK => x_if_eqF (tgt := 22) dX3_hasLevel_5 (by decide) (by decide) kK) ?_
    refine xe (fun _ _ kK => x_aload_n dX3_hasLevel_8 rfl 0 rfl kK) ?_
    refine xe (fun _ _ kK => x_get dX3_hasLevel_9 fl_X3_9 hT.1 (gvl_r1 fz_3_0.2.2 (show e_r T 192 a = some la from hT.2.1.1)) kK) ?_
    refine xe (fun _ _ kK => x_iload_n dX3_hasLevel_12 rfl 1 rfl kK) ?_
    refine xe (fun _ _ kK => x_iald dX3_hasLevel_13 hT.2.2.1.1 (show (nI k) = nI k from rfl) (hT.len (show k < R.length by omega)).1 (show e_ai T la k = nI (rowAt R k).1 from (hT.2.2.2.2.2 k hk).1) kK) ?_
    refine xe (fun _ _ kK => x_iload_n dX3_hasLevel_14 rfl 2 rfl kK) ?_
    refine xe_icmp_ne (tgt := 22) dX3_hasLevel_15 (by decide) (fun h15 => ?_) (fun h15 => ?_)
    · -- pc 22
      have h15 := cv_ne (by omega) (by omega) h15
      refine xe (fun _ _ kK => x_iconst dX3_hasLevel_22 (show _ = nI 0 by decide) kK) ?_
      exact xe_retz dX3_hasLevel_23 rfl (by first | exact Or.inl rfl | exact Or.inr rfl) (⟨r_0 (by unfold hlX; rw [hix]; exact decide_eq_false h15), rfl⟩)
    · -- pc 18
      have h15 := cv_eq (by omega) (by omega) h15
      refine xe (fun _ _ kK => x_iconst dX3_hasLevel_18 (show _ = nI 1 by decide) kK) ?_
      refine xe (fun _ _ kK => x_goto (tgt := 23) dX3_hasLevel_19 (by decide) kK) ?_
      exact xe_retz dX3_hasLevel_23 rfl (by first | exact Or.inl rfl | exact Or.inr rfl) (⟨r_1 (by unfold hlX; rw [hix]; exact decide_eq_true h15), rfl⟩)

set_option maxHeartbeats 4000000 in
theorem c_X3_hasValueWithin (d : Nat) {T : TH} {a la oa qa va cap : Nat} {R : List Row} {dg ag gr : Nat} {nm : Bool} (hT : Tb T a la oa qa va cap R dg ag gr nm) (hO : RwOk R) (hdg : dg < 2 ^ 31) (hH : HsOk R dg) {lo hi : Int64} {k : Nat} (hk : k < R.length) : Xe m_X3_hasValueWithin (d + 2) 0 [(0, .ref a), (1, .int (nI k)), (2, .long lo), (4, .long hi)] [] T (fun r T1 => r = some (.int (bI (aP R lo hi k))) ∧ T1 = T) := by
  have h6 := hO.1
  have hrk := hO.2 k hk
  refine xe (fun _ _ kK => x_aload_n dX3_hasValueWithin_0 rfl 0 rfl kK) ?_
  refine xe (fun _ _ kK => x_iload_n dX3_hasValueWithin_1 rfl 1 rfl kK) ?_
  refine xe_callV (a := a) [.int (nI k)] dX3_hasValueWithin_2 ml_X3_55 mf_X3_hasValue hT.1 (by have := c_X3_hasValue d hT hO hdg hH (nI k); rw [hvX_in hk h6] at this; exact this) rfl rfl (Nat.le_of_ble_eq_true rfl) (Nat.le_of_ble_eq_true rfl) ?_
  rintro _ T9 ⟨rfl, hTq9⟩
  refine xe_T hTq9 ?_
  refine xe_if_eq (tgt := 35) dX3_hasValueWithin_5 (by decide) (fun h5 => ?_) (fun h5 => ?_)
  · -- pc 35
    have h5 := cv_b0 h5
    refine xe (fun _ _ kK => x_iconst dX3_hasValueWithin_35 (show _ = nI 0 by decide) kK) ?_
    exact xe_retz dX3_hasValueWithin_36 rfl (by first | exact Or.inl rfl | exact Or.inr rfl) (⟨r_0 (by unfold aP; rw [h5]; rfl), rfl⟩)
  · -- pc 8
    have h5 := cv_b1 h5
    refine xe (fun _ _ kK => x_aload_n dX3_hasValueWithin_8 rfl 0 rfl kK) ?_
    refine xe (fun _ _ kK => x_get dX3_hasValueWithin_9 fl_X3_21 hT.1 (gvl_r1 fz_3_3.2.2 (show e_r T 195 a = some va from hT.2.1.2.2.2)) kK) ?_
    refine xe (fun _ _ kK => x_iload_n dX3_hasValueWithin_12 rfl 1 rfl kK) ?_
    refine xe (fun _ _ kK => x_lald dX3_hasValueWithin_13 hT.2.2.1.2.2.2 (show (nI k) = nI k from rfl) (hT.len (show k < R.length by omega)).2.2.2 (show e_al T va k = (rowAt R k).2.2.2.1 from (hT.2.2.2.2.2 k hk).2.2.2) kK) ?_
    refine xe (fun _ _ kK => x_lload_n dX3_hasValueWithin_14 rfl 2 rfl kK) ?_
    refine xe (fun _ _ kK => x_lcmp dX3_hasValueWithin_15 kK) ?_
    refine xe_if_lt (tgt := 35) dX3_hasValueWithin_16 (by decide) (fun h16 => ?_) (fun h16 => ?_)
    · -- pc 35
      have h16 := lc_lt h16
      refine xe (fun _ _ kK => x_iconst dX3_hasValueWithin_35 (show _ = nI 0 by decide) kK) ?_
      exact xe_retz dX3_hasValueWithin_36 rfl (by first | exact Or.inl rfl | exact Or.inr rfl) (⟨r_0 (by unfold aP; simp; intro _ z; exact absurd z (i64_lt_ne h16)), rfl⟩)
    · -- pc 19
      have h16 := lc_gen h16
      refine xe (fun _ _ kK => x_aload_n dX3_hasValueWithin_19 rfl 0 rfl kK) ?_
      refine xe (fun _ _ kK => x_get dX3_hasValueWithin_20 fl_X3_21 hT.1 (gvl_r1 fz_3_3.2.2 (show e_r T 195 a = some va from hT.2.1.2.2.2)) kK) ?_
      refine xe (fun _ _ kK => x_iload_n dX3_hasValueWithin_23 rfl 1 rfl kK) ?_
      refine xe (fun _ _ kK => x_lald dX3_hasValueWithin_24 hT.2.2.1.2.2.2 (show (nI k) = nI k from rfl) (hT.len (show k < R.length by omega)).2.2.2 (show e_al T va k = (rowAt R k).2.2.2.1 from (hT.2.2.2.2.2 k hk).2.2.2) kK) ?_
      refine xe (fun _ _ kK => x_lload dX3_hasValueWithin_25 3 rfl kK) ?_
      refine xe (fun _ _ kK => x_lcmp dX3_hasValueWithin_27 kK) ?_
      refine xe_if_gt (tgt := 35) dX3_hasValueWithin_28 (by decide) (fun h28 => ?_) (fun h28 => ?_)
      · -- pc 35
        have h28 := lc_gt h28
        refine xe (fun _ _ kK => x_iconst dX3_hasValueWithin_35 (show _ = nI 0 by decide) kK) ?_
        exact xe_retz dX3_hasValueWithin_36 rfl (by first | exact Or.inl rfl | exact Or.inr rfl) (⟨r_0 (by unfold aP; simp; intro _ _; exact h28), rfl⟩)
      · -- pc 31
        have h28 := lc_len h28
        refine xe (fun _ _ kK => x_iconst dX3_hasValueWithin_31 (show _ = nI 1 by decide) kK) ?_
        refine xe (fun _ _ kK => x_goto (tgt := 36) dX3_hasValueWithin_32 (by decide) kK) ?_
        exact xe_retz dX3_hasValueWithin_36 rfl (by first | exact Or.inl rfl | exact Or.inr rfl) (⟨r_1 (by unfold aP; simp; exact ⟨⟨h5, h16⟩, h28⟩), rfl⟩)

set_option maxHeartbeats 4000000 in
theorem l_X3_countValues (d : Nat) {T : TH} {a la oa qa va cap : Nat} {R : List Row} {dg ag gr : Nat} {nm : Bool} (hT : Tb T a la oa qa va cap R dg ag gr nm) (hO : RwOk R) (hdg : dg < 2 ^ 31) (hH : HsOk R dg)  : ∀ (m k : Nat), R.length - k = m → k ≤ R.length → Xe m_X3_countValues (d + 2) 4 [(2, .int (nI k)), (1, .int (nI (cI (vP R false) k))), (0, .ref a)] [] T (fun r T1 => r = some (.int (nI (cI (vP R false) R.length))) ∧ T1 = T) := by
  intro m
  induction m using Nat.strongRecOn with
  | ind m ih =>
    intro k hm hk
    subst hm
    have h6 := hO.1
    refine xe (fun _ _ kK => x_iload_n dX3_countValues_4 rfl 0 rfl kK) ?_
    refine xe (fun _ _ kK => x_aload_n dX3_countValues_5 rfl 2 rfl kK) ?_
    refine xe (fun _ _ kK => x_get dX3_countValues_6 fl_X3_25 hT.1 (gvl_i fz_3_4.2.2 (show e_i T 196 a = nI R.length from hT.2.2.2.2.1.1)) kK) ?_
    refine xe_icmp_ge (tgt := 29) dX3_countValues_9 (by decide) (fun h9 => ?_) (fun h9 => ?_)
    · -- pc 29
      have h9 := cv_le (by omega) (by omega) h9
      refine xe (fun _ _ kK => x_iload_n dX3_countValues_29 rfl 1 rfl kK) ?_
      exact xe_reti dX3_countValues_30 rfl (⟨by rw [show k = R.length by omega], rfl⟩)
    · -- pc 12
      have h9 := cv_nle (by omega) (by omega) h9
      have hrk := hO.2 k h9
      have hci := cI_le (vP R false) k
      refine xe (fun _ _ kK => x_aload_n dX3_countValues_12 rfl 2 rfl kK) ?_
      refine xe (fun _ _ kK => x_iload_n dX3_countValues_13 rfl 0 rfl kK) ?_
      refine xe_callV (a := a) [.int (nI k)] dX3_countValues_14 ml_X3_55 mf_X3_hasValue hT.1 (by have := c_X3_hasValue d hT hO hdg hH (nI k); rw [hvX_in h9 h6] at this; exact this) rfl rfl (Nat.le_of_ble_eq_true rfl) (Nat.le_of_ble_eq_true rfl) ?_
      rintro _ T9 ⟨rfl, hTq9⟩
      refine xe_T hTq9 ?_
      refine xe_if_eq (tgt := 23) dX3_countValues_17 (by decide) (fun h17 => ?_) (fun h17 => ?_)
      · -- pc 23
        have h17 := cv_b0 h17
        refine xe (fun _ _ kK => x_iinc dX3_countValues_23 0 rfl (show (nI k) + Int32.ofInt 1 = nI (k + 1) from nI_add k 1) (by decide) (show _ = [(2, .int (nI (k + 1))), (1, .int (nI (cI (vP R false) k))), (0, .ref a)] from rfl) kK) ?_
        refine xe (fun _ _ kK => x_goto (tgt := 4) dX3_countValues_26 (by decide) kK) ?_
        have hv : cI (vP R false) (k + 1) = cI (vP R false) k  := cI_f (by unfold vP; rw [h17]; rfl)
        have := ih (R.length - (k + 1)) (by omega) (k + 1) rfl (by omega)
        rw [hv] at this
        exact xe_loc (by simp) this
      · -- pc 20
        have h17 := cv_b1 h17
        refine xe (fun _ _ kK => x_iinc dX3_countValues_20 1 rfl (show (nI (cI (vP R false) k)) + Int32.ofInt 1 = nI ((cI (vP R false) k) + 1) from nI_add (cI (vP R false) k) 1) (by decide) (show _ = [(1, .int (nI ((cI (vP R false) k) + 1))), (2, .int (nI k)), (0, .ref a)] from rfl) kK) ?_
        refine xe (fun _ _ kK => x_iinc dX3_countValues_23 1 rfl (show (nI k) + Int32.ofInt 1 = nI (k + 1) from nI_add k 1) (by decide) (show _ = [(2, .int (nI (k + 1))), (1, .int (nI ((cI (vP R false) k) + 1))), (0, .ref a)] from rfl) kK) ?_
        refine xe (fun _ _ kK => x_goto (tgt := 4) dX3_countValues_26 (by decide) kK) ?_
        have hv : cI (vP R false) (k + 1) = cI (vP R false) k + 1 := cI_t (by unfold vP; rw [h17]; rfl)
        have := ih (R.length - (k + 1)) (by omega) (k + 1) rfl (by omega)
        rw [hv] at this
        exact xe_loc (by simp) this

set_option maxHeartbeats 4000000 in
theorem c_X3_countValues (d : Nat) {T : TH} {a la oa qa va cap : Nat} {R : List Row} {dg ag gr : Nat} {nm : Bool} (hT : Tb T a la oa qa va cap R dg ag gr nm) (hO : RwOk R) (hdg : dg < 2 ^ 31) (hH : HsOk R dg) : Xe m_X3_countValues (d + 2) 0 [(0, .ref a)] [] T (fun r T1 => r = some (.int (nI (cI (vP R false) R.length))) ∧ T1 = T) := by
  refine xe (fun _ _ kK => x_iconst dX3_countValues_0 (show _ = nI 0 by decide) kK) ?_
  refine xe (fun _ _ kK => x_istore_n dX3_countValues_1 rfl (by decide) (show _ = [(1, .int (nI 0)), (0, .ref a)] from rfl) kK) ?_
  refine xe (fun _ _ kK => x_iconst dX3_countValues_2 (show _ = nI 0 by decide) kK) ?_
  refine xe (fun _ _ kK => x_istore_n dX3_countValues_3 rfl (by decide) (show _ = [(2, .int (nI 0)), (1, .int (nI 0)), (0, .ref a)] from rfl) kK) ?_
  exact xe_loc (by simp [cI]) (l_X3_countValues d hT hO hdg hH R.length 0 rfl (Nat.zero_le _))

set_option maxHeartbeats 4000000 in
theorem l_X3_hasValueAhead (d : Nat) {T : TH} {a la oa qa va cap : Nat} {R : List Row} {dg ag gr : Nat} {nm : Bool} (hT : Tb T a la oa qa va cap R dg ag gr nm) (hO : RwOk R) (hdg : dg < 2 ^ 31) (hH : HsOk R dg) {k : Nat} (hk : k < R.length) : ∀ (m q : Nat), k - q = m → q ≤ k → (∀ j, j < q → ¬ ((rowAt R j).2.2.1 = true ∧ (rowAt R j).2.2.2.1 = (rowAt R k).2.2.2.1)) → Xe m_X3_hasValueAhead (d + 2) 2 [(2, .int (nI q)), (0, .ref a), (1, .int (nI k))] [] T (fun r T1 => r = some (.int (bI (!fstV R k))) ∧ T1 = T) := by
  intro m
  induction m using Nat.strongRecOn with
  | ind m ih =>
    intro q hm hqk hno
    subst hm
    have h6 := hO.1
    unfold fstV at ih ⊢
    refine xe (fun _ _ kK => x_iload_n dX3_hasValueAhead_2 rfl 0 rfl kK) ?_
    refine xe (fun _ _ kK => x_iload_n dX3_hasValueAhead_3 rfl 2 rfl kK) ?_
    refine xe_icmp_ge (tgt := 39) dX3_hasValueAhead_4 (by decide) (fun h4 => ?_) (fun h4 => ?_)
    · -- pc 39
      have h4 := cv_le (by omega) (by omega) h4
      refine xe (fun _ _ kK => x_iconst dX3_hasValueAhead_39 (show _ = nI 0 by decide) kK) ?_
      exact xe_retz dX3_hasValueAhead_40 rfl (by first | exact Or.inl rfl | exact Or.inr rfl) (⟨r_0 (by rw [pB_t (fun j hj => hno j (by omega))]; rfl), rfl⟩)
    · -- pc 7
      have h4 := cv_nle (by omega) (by omega) h4
      refine xe (fun _ _ kK => x_aload_n dX3_hasValueAhead_7 rfl 1 rfl kK) ?_
      refine xe (fun _ _ kK => x_get dX3_hasValueAhead_8 fl_X3_21 hT.1 (gvl_r1 fz_3_3.2.2 (show e_r T 195 a = some va from hT.2.1.2.2.2)) kK) ?_
      refine xe (fun _ _ kK => x_iload_n dX3_hasValueAhead_11 rfl 0 rfl kK) ?_
      refine xe (fun _ _ kK => x_lald dX3_hasValueAhead_12 hT.2.2.1.2.2.2 (show (nI q) = nI q from rfl) (hT.len (show q < R.length by omega)).2.2.2 (show e_al T va q = (rowAt R q).2.2.2.1 from (hT.2.2.2.2.2 q (show q < R.length by omega)).2.2.2) kK) ?_
      refine xe (fun _ _ kK => x_aload_n dX3_hasValueAhead_13 rfl 1 rfl kK) ?_
      refine xe (fun _ _ kK => x_get dX3_hasValueAhead_14 fl_X3_21 hT.1 (gvl_r1 fz_3_3.2.2 (show e_r T 195 a = some va from hT.2.1.2.2.2)) kK) ?_
      refine xe (fun _ _ kK => x_iload_n dX3_hasValueAhead_17 rfl 2 rfl kK) ?_
      refine xe (fun _ _ kK => x_lald dX3_hasValueAhead_18 hT.2.2.1.2.2.2 (show (nI k) = nI k from rfl) (hT.len (show k < R.length by omega)).2.2.2 (show e_al T va k = (rowAt R k).2.2.2.1 from (hT.2.2.2.2.2 k hk).2.2.2) kK) ?_
      refine xe (fun _ _ kK => x_lcmp dX3_hasValueAhead_19 kK) ?_
      refine xe_if_ne (tgt := 33) dX3_hasValueAhead_20 (by decide) (fun h20 => ?_) (fun h20 => ?_)
      · -- pc 33
        have h20 := lc_ne h20
        refine xe (fun _ _ kK => x_iinc dX3_hasValueAhead_33 0 rfl (show (nI q) + Int32.ofInt 1 = nI (q + 1) from nI_add q 1) (by decide) (show _ = [(2, .int (nI (q + 1))), (0, .ref a), (1, .int (nI k))] from rfl) kK) ?_
        refine xe (fun _ _ kK => x_goto (tgt := 2) dX3_hasValueAhead_36 (by decide) kK) ?_
        refine xe_loc (by simp) (ih (k - (q + 1)) (by omega) (q + 1) rfl (by omega) ?_)
        rintro j hj ⟨u1, u2⟩
        rcases Nat.lt_or_ge j q with h9 | h9
        · exact hno j h9 ⟨u1, u2⟩
        · have e9 : j = q := by omega
          subst e9
          exact h20 u2
      · -- pc 23
        have h20 := lc_eqn h20
        refine xe (fun _ _ kK => x_aload_n dX3_hasValueAhead_23 rfl 1 rfl kK) ?_
        refine xe (fun _ _ kK => x_iload_n dX3_hasValueAhead_24 rfl 0 rfl kK) ?_
        refine xe_callV (a := a) [.int (nI q)] dX3_hasValueAhead_25 ml_X3_55 mf_X3_hasValue hT.1 (by have := c_X3_hasValue d hT hO hdg hH (nI q); rw [hvX_in (by omega) h6] at this; exact this) rfl rfl (Nat.le_of_ble_eq_true rfl) (Nat.le_of_ble_eq_true rfl) ?_
        rintro _ T9 ⟨rfl, hTq9⟩
        refine xe_T hTq9 ?_
        refine xe_if_eq (tgt := 33) dX3_hasValueAhead_28 (by decide) (fun h28 => ?_) (fun h28 => ?_)
        · -- pc 33
          have h28 := cv_b0 h28
          refine xe (fun _ _ kK => x_iinc dX3_hasValueAhead_33 0 rfl (show (nI q) + Int32.ofInt 1 = nI (q + 1) from nI_add q 1) (by decide) (show _ = [(2, .int (nI (q + 1))), (0, .ref a), (1, .int (nI k))] from rfl) kK) ?_
          refine xe (fun _ _ kK => x_goto (tgt := 2) dX3_hasValueAhead_36 (by decide) kK) ?_
          refine xe_loc (by simp) (ih (k - (q + 1)) (by omega) (q + 1) rfl (by omega) ?_)
          rintro j hj ⟨u1, u2⟩
          rcases Nat.lt_or_ge j q with h9 | h9
          · exact hno j h9 ⟨u1, u2⟩
          · have e9 : j = q := by omega
            subst e9
            rw [h28] at u1; cases u1
        · -- pc 31
          have h28 := cv_b1 h28
          refine xe (fun _ _ kK => x_iconst dX3_hasValueAhead_31 (show _ = nI 1 by decide) kK) ?_
          exact xe_retz dX3_hasValueAhead_32 rfl (by first | exact Or.inl rfl | exact Or.inr rfl) (⟨r_1 (by rw [pB_f (fun z => z q h4 ⟨h28, h20⟩)]; rfl), rfl⟩)

set_option maxHeartbeats 4000000 in
theorem c_X3_hasValueAhead (d : Nat) {T : TH} {a la oa qa va cap : Nat} {R : List Row} {dg ag gr : Nat} {nm : Bool} (hT : Tb T a la oa qa va cap R dg ag gr nm) (hO : RwOk R) (hdg : dg < 2 ^ 31) (hH : HsOk R dg) {k : Nat} (hk : k < R.length) : Xe m_X3_hasValueAhead (d + 2) 0 [(0, .ref a), (1, .int (nI k))] [] T (fun r T1 => r = some (.int (bI (!fstV R k))) ∧ T1 = T) := by
  refine xe (fun _ _ kK => x_iconst dX3_hasValueAhead_0 (show _ = nI 0 by decide) kK) ?_
  refine xe (fun _ _ kK => x_istore_n dX3_hasValueAhead_1 rfl (by decide) (show _ = [(2, .int (nI 0)), (0, .ref a), (1, .int (nI k))] from rfl) kK) ?_
  exact xe_loc (by simp) (l_X3_hasValueAhead d hT hO hdg hH hk k 0 rfl (Nat.zero_le _) (fun j h => absurd h (Nat.not_lt_zero j)))

set_option maxHeartbeats 4000000 in
theorem l_X3_countUnlike (d : Nat) {T : TH} {a la oa qa va cap : Nat} {R : List Row} {dg ag gr : Nat} {nm : Bool} (hT : Tb T a la oa qa va cap R dg ag gr nm) (hO : RwOk R) (hdg : dg < 2 ^ 31) (hH : HsOk R dg)  : ∀ (m k : Nat), R.length - k = m → k ≤ R.length → Xe m_X3_countUnlike (d + 3) 4 [(2, .int (nI k)), (1, .int (nI (cI (vP R true) k))), (0, .ref a)] [] T (fun r T1 => r = some (.int (nI (cI (vP R true) R.length))) ∧ T1 = T) := by
  intro m
  induction m using Nat.strongRecOn with
  | ind m ih =>
    intro k hm hk
    subst hm
    have h6 := hO.1
    refine xe (fun _ _ kK => x_iload_n dX3_countUnlike_4 rfl 0 rfl kK) ?_
    refine xe (fun _ _ kK => x_aload_n dX3_countUnlike_5 rfl 2 rfl kK) ?_
    refine xe (fun _ _ kK => x_get dX3_countUnlike_6 fl_X3_25 hT.1 (gvl_i fz_3_4.2.2 (show e_i T 196 a = nI R.length from hT.2.2.2.2.1.1)) kK) ?_
    refine xe_icmp_ge (tgt := 37) dX3_countUnlike_9 (by decide) (fun h9 => ?_) (fun h9 => ?_)
    · -- pc 37
      have h9 := cv_le (by omega) (by omega) h9
      refine xe (fun _ _ kK => x_iload_n dX3_countUnlike_37 rfl 1 rfl kK) ?_
      exact xe_reti dX3_countUnlike_38 rfl (⟨by rw [show k = R.length by omega], rfl⟩)
    · -- pc 12
      have h9 := cv_nle (by omega) (by omega) h9
      have hrk := hO.2 k h9
      have hci := cI_le (vP R true) k
      refine xe (fun _ _ kK => x_aload_n dX3_countUnlike_12 rfl 2 rfl kK) ?_
      refine xe (fun _ _ kK => x_iload_n dX3_countUnlike_13 rfl 0 rfl kK) ?_
      refine xe_callV (a := a) [.int (nI k)] dX3_countUnlike_14 ml_X3_55 mf_X3_hasValue hT.1 (by have := c_X3_hasValue (d + 1) hT hO hdg hH (nI k); rw [hvX_in h9 h6] at this; exact this) rfl rfl (Nat.le_of_ble_eq_true rfl) (Nat.le_of_ble_eq_true rfl) ?_
      rintro _ T9 ⟨rfl, hTq9⟩
      refine xe_T hTq9 ?_
      refine xe_if_eq (tgt := 31) dX3_countUnlike_17 (by decide) (fun h17 => ?_) (fun h17 => ?_)
      · -- pc 31
        have h17 := cv_b0 h17
        refine xe (fun _ _ kK => x_iinc dX3_countUnlike_31 0 rfl (show (nI k) + Int32.ofInt 1 = nI (k + 1) from nI_add k 1) (by decide) (show _ = [(2, .int (nI (k + 1))), (1, .int (nI (cI (vP R true) k))), (0, .ref a)] from rfl) kK) ?_
        refine xe (fun _ _ kK => x_goto (tgt := 4) dX3_countUnlike_34 (by decide) kK) ?_
        have hv : cI (vP R true) (k + 1) = cI (vP R true) k  := cI_f (by unfold vP; rw [h17]; rfl)
        have := ih (R.length - (k + 1)) (by omega) (k + 1) rfl (by omega)
        rw [hv] at this
        exact xe_loc (by simp) this
      · -- pc 20
        have h17 := cv_b1 h17
        refine xe (fun _ _ kK => x_aload_n dX3_countUnlike_20 rfl 2 rfl kK) ?_
        refine xe (fun _ _ kK => x_iload_n dX3_countUnlike_21 rfl 0 rfl kK) ?_
        refine xe_callV (a := a) [.int (nI k)] dX3_countUnlike_22 ml_X3_58 mf_X3_hasValueAhead hT.1 (c_X3_hasValueAhead d hT hO hdg hH h9) rfl rfl (Nat.le_of_ble_eq_true rfl) (Nat.le_of_ble_eq_true rfl) ?_
        rintro _ T9 ⟨rfl, hTq9⟩
        refine xe_T hTq9 ?_
        refine xe_if_ne (tgt := 31) dX3_countUnlike_25 (by decide) (fun h25 => ?_) (fun h25 => ?_)
        · -- pc 31
          have h25 := cv_b1 h25
          refine xe (fun _ _ kK => x_iinc dX3_countUnlike_31 0 rfl (show (nI k) + Int32.ofInt 1 = nI (k + 1) from nI_add k 1) (by decide) (show _ = [(2, .int (nI (k + 1))), (1, .int (nI (cI (vP R true) k))), (0, .ref a)] from rfl) kK) ?_
          refine xe (fun _ _ kK => x_goto (tgt := 4) dX3_countUnlike_34 (by decide) kK) ?_
          have hv : cI (vP R true) (k + 1) = cI (vP R true) k  := cI_f (by unfold vP; rw [h17, show fstV R k = false by simpa using h25]; rfl)
          have := ih (R.length - (k + 1)) (by omega) (k + 1) rfl (by omega)
          rw [hv] at this
          exact xe_loc (by simp) this
        · -- pc 28
          have h25 := cv_b0 h25
          refine xe (fun _ _ kK => x_iinc dX3_countUnlike_28 1 rfl (show (nI (cI (vP R true) k)) + Int32.ofInt 1 = nI ((cI (vP R true) k) + 1) from nI_add (cI (vP R true) k) 1) (by decide) (show _ = [(1, .int (nI ((cI (vP R true) k) + 1))), (2, .int (nI k)), (0, .ref a)] from rfl) kK) ?_
          refine xe (fun _ _ kK => x_iinc dX3_countUnlike_31 1 rfl (show (nI k) + Int32.ofInt 1 = nI (k + 1) from nI_add k 1) (by decide) (show _ = [(2, .int (nI (k + 1))), (1, .int (nI ((cI (vP R true) k) + 1))), (0, .ref a)] from rfl) kK) ?_
          refine xe (fun _ _ kK => x_goto (tgt := 4) dX3_countUnlike_34 (by decide) kK) ?_
          have hv : cI (vP R true) (k + 1) = cI (vP R true) k + 1 := cI_t (by unfold vP; rw [h17, show fstV R k = true by simpa using h25]; rfl)
          have := ih (R.length - (k + 1)) (by omega) (k + 1) rfl (by omega)
          rw [hv] at this
          exact xe_loc (by simp) this

set_option maxHeartbeats 4000000 in
theorem c_X3_countUnlike (d : Nat) {T : TH} {a la oa qa va cap : Nat} {R : List Row} {dg ag gr : Nat} {nm : Bool} (hT : Tb T a la oa qa va cap R dg ag gr nm) (hO : RwOk R) (hdg : dg < 2 ^ 31) (hH : HsOk R dg) : Xe m_X3_countUnlike (d + 3) 0 [(0, .ref a)] [] T (fun r T1 => r = some (.int (nI (cI (vP R true) R.length))) ∧ T1 = T) := by
  refine xe (fun _ _ kK => x_iconst dX3_countUnlike_0 (show _ = nI 0 by decide) kK) ?_
  refine xe (fun _ _ kK => x_istore_n dX3_countUnlike_1 rfl (by decide) (show _ = [(1, .int (nI 0)), (0, .ref a)] from rfl) kK) ?_
  refine xe (fun _ _ kK => x_iconst dX3_countUnlike_2 (show _ = nI 0 by decide) kK) ?_
  refine xe (fun _ _ kK => x_istore_n dX3_countUnlike_3 rfl (by decide) (show _ = [(2, .int (nI 0)), (1, .int (nI 0)), (0, .ref a)] from rfl) kK) ?_
  exact xe_loc (by simp [cI]) (l_X3_countUnlike d hT hO hdg hH R.length 0 rfl (Nat.zero_le _))

set_option maxHeartbeats 4000000 in
theorem l_X3_countRunsL (d : Nat) {T : TH} {a la oa qa va cap : Nat} {R : List Row} {dg ag gr : Nat} {nm : Bool} (hT : Tb T a la oa qa va cap R dg ag gr nm) (hO : RwOk R) (hcap : cap < 2 ^ 31) : ∀ (m k : Nat), R.length - k = m → k ≤ R.length → Xe m_X3_countRuns d 4 [(3, .int (nI k)), (2, .int (nI (cI (rP (fun k => (rowAt R k).1)) k))), (0, .ref a), (1, .ref la)] [] T (fun r T1 => r = some (.int (nI (cI (rP (fun k => (rowAt R k).1)) R.length))) ∧ T1 = T) := by
  intro m
  induction m using Nat.strongRecOn with
  | ind m ih =>
    intro k hm hk
    subst hm
    have h6 := hO.1
    refine xe (fun _ _ kK => x_iload_n dX3_countRuns_4 rfl 0 rfl kK) ?_
    refine xe (fun _ _ kK => x_aload_n dX3_countRuns_5 rfl 2 rfl kK) ?_
    refine xe (fun _ _ kK => x_get dX3_countRuns_6 fl_X3_25 hT.1 (gvl_i fz_3_4.2.2 (show e_i T 196 a = nI R.length from hT.2.2.2.2.1.1)) kK) ?_
    refine xe_icmp_ge (tgt := 42) dX3_countRuns_9 (by decide) (fun h9 => ?_) (fun h9 => ?_)
    · -- pc 42
      have h9 := cv_le (by omega) (by omega) h9
      refine xe (fun _ _ kK => x_iload_n dX3_countRuns_42 rfl 1 rfl kK) ?_
      exact xe_reti dX3_countRuns_43 rfl (⟨by rw [show k = R.length by omega], rfl⟩)
    · -- pc 12
      have h9 := cv_nle (by omega) (by omega) h9
      have hrk := hO.2 k h9
      have hci := cI_le (rP (fun k => (rowAt R k).1)) k
      refine xe (fun _ _ kK => x_iload_n dX3_countRuns_12 rfl 0 rfl kK) ?_
      refine xe (fun _ _ kK => x_aload_n dX3_countRuns_13 rfl 3 rfl kK) ?_
      refine xe (fun _ _ kK => x_alen (j := 0) dX3_countRuns_14 (by rw [hT.2.2.1.1]; decide) (show nI (e_len T la) = nI cap from congrArg nI hT.2.2.2.1.1) kK) ?_
      refine xe (fun _ _ kK => x_icmp_geF (tgt := 42) dX3_countRuns_15 (by decide) (fun z9 => by have := cv_le (by omega) (by omega) z9; have := hT.2.2.2.1.2.2.2.2; omega) kK) ?_
      refine xe (fun _ _ kK => x_iload_n dX3_countRuns_18 rfl 0 rfl kK) ?_
      refine xe_if_eq (tgt := 33) dX3_countRuns_19 (by decide) (fun h19 => ?_) (fun h19 => ?_)
      · -- pc 33
        have h19 := cv_z (by omega) h19
        refine xe (fun _ _ kK => x_iinc dX3_countRuns_33 1 rfl (show (nI (cI (rP (fun k => (rowAt R k).1)) k)) + Int32.ofInt 1 = nI ((cI (rP (fun k => (rowAt R k).1)) k) + 1) from nI_add (cI (rP (fun k => (rowAt R k).1)) k) 1) (by decide) (show _ = [(2, .int (nI ((cI (rP (fun k => (rowAt R k).1)) k) + 1))), (3, .int (nI k)), (0, .ref a), (1, .ref la)] from rfl) kK) ?_
        refine xe (fun _ _ kK => x_iinc dX3_countRuns_36 1 rfl (show (nI k) + Int32.ofInt 1 = nI (k + 1) from nI_add k 1) (by decide) (show _ = [(3, .int (nI (k + 1))), (2, .int (nI ((cI (rP (fun k => (rowAt R k).1)) k) + 1))), (0, .ref a), (1, .ref la)] from rfl) kK) ?_
        refine xe (fun _ _ kK => x_goto (tgt := 4) dX3_countRuns_39 (by decide) kK) ?_
        have hv : cI (rP (fun k => (rowAt R k).1)) (k + 1) = cI (rP (fun k => (rowAt R k).1)) k + 1 := cI_t (by simp [rP, h19])
        have := ih (R.length - (k + 1)) (by omega) (k + 1) rfl (by omega)
        rw [hv] at this
        exact xe_loc (by simp) this
      · -- pc 22
        have h19 := cv_nz (by omega) h19
        have hr1 := hO.2 (k - 1) (by omega)
        refine xe (fun _ _ kK => x_aload_n dX3_countRuns_22 rfl 3 rfl kK) ?_
        refine xe (fun _ _ kK => x_iload_n dX3_countRuns_23 rfl 0 rfl kK) ?_
        refine xe (fun _ _ kK => x_iald dX3_countRuns_24 hT.2.2.1.1 (show (nI k) = nI k from rfl) (hT.len (show k < R.length by omega)).1 (show e_ai T la k = nI (rowAt R k).1 from (hT.2.2.2.2.2 k h9).1) kK) ?_
        refine xe (fun _ _ kK => x_aload_n dX3_countRuns_25 rfl 3 rfl kK) ?_
        refine xe (fun _ _ kK => x_iload_n dX3_countRuns_26 rfl 0 rfl kK) ?_
        refine xe (fun _ _ kK => x_iconst dX3_countRuns_27 (show _ = nI 1 by decide) kK) ?_
        refine xe (fun _ _ kK => x_isub dX3_countRuns_28 kK) ?_
        refine xe_ti (show _ = nI (k - 1) from pk_sub (by omega)) ?_
        refine xe (fun _ _ kK => x_iald dX3_countRuns_29 hT.2.2.1.1 (show (nI (k - 1)) = nI (k - 1) from rfl) (hT.len (show k - 1 < R.length by omega)).1 (show e_ai T la (k - 1) = nI (rowAt R (k - 1)).1 from (hT.2.2.2.2.2 (k - 1) (show k - 1 < R.length by omega)).1) kK) ?_
        refine xe_icmp_eq (tgt := 36) dX3_countRuns_30 (by decide) (fun h30 => ?_) (fun h30 => ?_)
        · -- pc 36
          have h30 := cv_eq (by omega) (by omega) h30
          refine xe (fun _ _ kK => x_iinc dX3_countRuns_36 0 rfl (show (nI k) + Int32.ofInt 1 = nI (k + 1) from nI_add k 1) (by decide) (show _ = [(3, .int (nI (k + 1))), (2, .int (nI (cI (rP (fun k => (rowAt R k).1)) k))), (0, .ref a), (1, .ref la)] from rfl) kK) ?_
          refine xe (fun _ _ kK => x_goto (tgt := 4) dX3_countRuns_39 (by decide) kK) ?_
          have hv : cI (rP (fun k => (rowAt R k).1)) (k + 1) = cI (rP (fun k => (rowAt R k).1)) k  := cI_f (by simp [rP, h19, h30])
          have := ih (R.length - (k + 1)) (by omega) (k + 1) rfl (by omega)
          rw [hv] at this
          exact xe_loc (by simp) this
        · -- pc 33
          have h30 := cv_ne (by omega) (by omega) h30
          refine xe (fun _ _ kK => x_iinc dX3_countRuns_33 1 rfl (show (nI (cI (rP (fun k => (rowAt R k).1)) k)) + Int32.ofInt 1 = nI ((cI (rP (fun k => (rowAt R k).1)) k) + 1) from nI_add (cI (rP (fun k => (rowAt R k).1)) k) 1) (by decide) (show _ = [(2, .int (nI ((cI (rP (fun k => (rowAt R k).1)) k) + 1))), (3, .int (nI k)), (0, .ref a), (1, .ref la)] from rfl) kK) ?_
          refine xe (fun _ _ kK => x_iinc dX3_countRuns_36 1 rfl (show (nI k) + Int32.ofInt 1 = nI (k + 1) from nI_add k 1) (by decide) (show _ = [(3, .int (nI (k + 1))), (2, .int (nI ((cI (rP (fun k => (rowAt R k).1)) k) + 1))), (0, .ref a), (1, .ref la)] from rfl) kK) ?_
          refine xe (fun _ _ kK => x_goto (tgt := 4) dX3_countRuns_39 (by decide) kK) ?_
          have hv : cI (rP (fun k => (rowAt R k).1)) (k + 1) = cI (rP (fun k => (rowAt R k).1)) k + 1 := cI_t (by simp [rP]; exact Or.inr h30)
          have := ih (R.length - (k + 1)) (by omega) (k + 1) rfl (by omega)
          rw [hv] at this
          exact xe_loc (by simp) this

set_option maxHeartbeats 4000000 in
theorem c_X3_countRunsL (d : Nat) {T : TH} {a la oa qa va cap : Nat} {R : List Row} {dg ag gr : Nat} {nm : Bool} (hT : Tb T a la oa qa va cap R dg ag gr nm) (hO : RwOk R) (hcap : cap < 2 ^ 31) : Xe m_X3_countRuns d 0 [(0, .ref a), (1, .ref la)] [] T (fun r T1 => r = some (.int (nI (cI (rP (fun k => (rowAt R k).1)) R.length))) ∧ T1 = T) := by
  refine xe (fun _ _ kK => x_iconst dX3_countRuns_0 (show _ = nI 0 by decide) kK) ?_
  refine xe (fun _ _ kK => x_istore_n dX3_countRuns_1 rfl (by decide) (show _ = [(2, .int (nI 0)), (0, .ref a), (1, .ref la)] from rfl) kK) ?_
  refine xe (fun _ _ kK => x_iconst dX3_countRuns_2 (show _ = nI 0 by decide) kK) ?_
  refine xe (fun _ _ kK => x_istore_n dX3_countRuns_3 rfl (by decide) (show _ = [(3, .int (nI 0)), (2, .int (nI 0)), (0, .ref a), (1, .ref la)] from rfl) kK) ?_
  exact xe_loc (by simp [cI]) (l_X3_countRunsL d hT hO hcap R.length 0 rfl (Nat.zero_le _))

set_option maxHeartbeats 4000000 in
theorem l_X3_countRunsT (d : Nat) {T : TH} {a la oa qa va cap : Nat} {R : List Row} {dg ag gr : Nat} {nm : Bool} (hT : Tb T a la oa qa va cap R dg ag gr nm) (hO : RwOk R) (hcap : cap < 2 ^ 31) : ∀ (m k : Nat), R.length - k = m → k ≤ R.length → Xe m_X3_countRuns d 4 [(3, .int (nI k)), (2, .int (nI (cI (rP (fun k => (rowAt R k).2.1)) k))), (0, .ref a), (1, .ref oa)] [] T (fun r T1 => r = some (.int (nI (cI (rP (fun k => (rowAt R k).2.1)) R.length))) ∧ T1 = T) := by
  intro m
  induction m using Nat.strongRecOn with
  | ind m ih =>
    intro k hm hk
    subst hm
    have h6 := hO.1
    refine xe (fun _ _ kK => x_iload_n dX3_countRuns_4 rfl 0 rfl kK) ?_
    refine xe (fun _ _ kK => x_aload_n dX3_countRuns_5 rfl 2 rfl kK) ?_
    refine xe (fun _ _ kK => x_get dX3_countRuns_6 fl_X3_25 hT.1 (gvl_i fz_3_4.2.2 (show e_i T 196 a = nI R.length from hT.2.2.2.2.1.1)) kK) ?_
    refine xe_icmp_ge (tgt := 42) dX3_countRuns_9 (by decide) (fun h9 => ?_) (fun h9 => ?_)
    · -- pc 42
      have h9 := cv_le (by omega) (by omega) h9
      refine xe (fun _ _ kK => x_iload_n dX3_countRuns_42 rfl 1 rfl kK) ?_
      exact xe_reti dX3_countRuns_43 rfl (⟨by rw [show k = R.length by omega], rfl⟩)
    · -- pc 12
      have h9 := cv_nle (by omega) (by omega) h9
      have hrk := hO.2 k h9
      have hci := cI_le (rP (fun k => (rowAt R k).2.1)) k
      refine xe (fun _ _ kK => x_iload_n dX3_countRuns_12 rfl 0 rfl kK) ?_
      refine xe (fun _ _ kK => x_aload_n dX3_countRuns_13 rfl 3 rfl kK) ?_
      refine xe (fun _ _ kK => x_alen (j := 0) dX3_countRuns_14 (by rw [hT.2.2.1.2.1]; decide) (show nI (e_len T oa) = nI cap from congrArg nI hT.2.2.2.1.2.1) kK) ?_
      refine xe (fun _ _ kK => x_icmp_geF (tgt := 42) dX3_countRuns_15 (by decide) (fun z9 => by have := cv_le (by omega) (by omega) z9; have := hT.2.2.2.1.2.2.2.2; omega) kK) ?_
      refine xe (fun _ _ kK => x_iload_n dX3_countRuns_18 rfl 0 rfl kK) ?_
      refine xe_if_eq (tgt := 33) dX3_countRuns_19 (by decide) (fun h19 => ?_) (fun h19 => ?_)
      · -- pc 33
        have h19 := cv_z (by omega) h19
        refine xe (fun _ _ kK => x_iinc dX3_countRuns_33 1 rfl (show (nI (cI (rP (fun k => (rowAt R k).2.1)) k)) + Int32.ofInt 1 = nI ((cI (rP (fun k => (rowAt R k).2.1)) k) + 1) from nI_add (cI (rP (fun k => (rowAt R k).2.1)) k) 1) (by decide) (show _ = [(2, .int (nI ((cI (rP (fun k => (rowAt R k).2.1)) k) + 1))), (3, .int (nI k)), (0, .ref a), (1, .ref oa)] from rfl) kK) ?_
        refine xe (fun _ _ kK => x_iinc dX3_countRuns_36 1 rfl (show (nI k) + Int32.ofInt 1 = nI (k + 1) from nI_add k 1) (by decide) (show _ = [(3, .int (nI (k + 1))), (2, .int (nI ((cI (rP (fun k => (rowAt R k).2.1)) k) + 1))), (0, .ref a), (1, .ref oa)] from rfl) kK) ?_
        refine xe (fun _ _ kK => x_goto (tgt := 4) dX3_countRuns_39 (by decide) kK) ?_
        have hv : cI (rP (fun k => (rowAt R k).2.1)) (k + 1) = cI (rP (fun k => (rowAt R k).2.1)) k + 1 := cI_t (by simp [rP, h19])
        have := ih (R.length - (k + 1)) (by omega) (k + 1) rfl (by omega)
        rw [hv] at this
        exact xe_loc (by simp) this
      · -- pc 22
        have h19 := cv_nz (by omega) h19
        have hr1 := hO.2 (k - 1) (by omega)
        refine xe (fun _ _ kK => x_aload_n dX3_countRuns_22 rfl 3 rfl kK) ?_
        refine xe (fun _ _ kK => x_iload_n dX3_countRuns_23 rfl 0 rfl kK) ?_
        refine xe (fun _ _ kK => x_iald dX3_countRuns_24 hT.2.2.1.2.1 (show (nI k) = nI k from rfl) (hT.len (show k < R.length by omega)).2.1 (show e_ai T oa k = nI (rowAt R k).2.1 from (hT.2.2.2.2.2 k h9).2.1) kK) ?_
        refine xe (fun _ _ kK => x_aload_n dX3_countRuns_25 rfl 3 rfl kK) ?_
        refine xe (fun _ _ kK => x_iload_n dX3_countRuns_26 rfl 0 rfl kK) ?_
        refine xe (fun _ _ kK => x_iconst dX3_countRuns_27 (show _ = nI 1 by decide) kK) ?_
        refine xe (fun _ _ kK => x_isub dX3_countRuns_28 kK) ?_
        refine xe_ti (show _ = nI (k - 1) from pk_sub (by omega)) ?_
        refine xe (fun _ _ kK => x_iald dX3_countRuns_29 hT.2.2.1.2.1 (show (nI (k - 1)) = nI (k - 1) from rfl) (hT.len (show k - 1 < R.length by omega)).2.1 (show e_ai T oa (k - 1) = nI (rowAt R (k - 1)).2.1 from (hT.2.2.2.2.2 (k - 1) (show k - 1 < R.length by omega)).2.1) kK) ?_
        refine xe_icmp_eq (tgt := 36) dX3_countRuns_30 (by decide) (fun h30 => ?_) (fun h30 => ?_)
        · -- pc 36
          have h30 := cv_eq (by omega) (by omega) h30
          refine xe (fun _ _ kK => x_iinc dX3_countRuns_36 0 rfl (show (nI k) + Int32.ofInt 1 = nI (k + 1) from nI_add k 1) (by decide) (show _ = [(3, .int (nI (k + 1))), (2, .int (nI (cI (rP (fun k => (rowAt R k).2.1)) k))), (0, .ref a), (1, .ref oa)] from rfl) kK) ?_
          refine xe (fun _ _ kK => x_goto (tgt := 4) dX3_countRuns_39 (by decide) kK) ?_
          have hv : cI (rP (fun k => (rowAt R k).2.1)) (k + 1) = cI (rP (fun k => (rowAt R k).2.1)) k  := cI_f (by simp [rP, h19, h30])
          have := ih (R.length - (k + 1)) (by omega) (k + 1) rfl (by omega)
          rw [hv] at this
          exact xe_loc (by simp) this
        · -- pc 33
          have h30 := cv_ne (by omega) (by omega) h30
          refine xe (fun _ _ kK => x_iinc dX3_countRuns_33 1 rfl (show (nI (cI (rP (fun k => (rowAt R k).2.1)) k)) + Int32.ofInt 1 = nI ((cI (rP (fun k => (rowAt R k).2.1)) k) + 1) from nI_add (cI (rP (fun k => (rowAt R k).2.1)) k) 1) (by decide) (show _ = [(2, .int (nI ((cI (rP (fun k => (rowAt R k).2.1)) k) + 1))), (3, .int (nI k)), (0, .ref a), (1, .ref oa)] from rfl) kK) ?_
          refine xe (fun _ _ kK => x_iinc dX3_countRuns_36 1 rfl (show (nI k) + Int32.ofInt 1 = nI (k + 1) from nI_add k 1) (by decide) (show _ = [(3, .int (nI (k + 1))), (2, .int (nI ((cI (rP (fun k => (rowAt R k).2.1)) k) + 1))), (0, .ref a), (1, .ref oa)] from rfl) kK) ?_
          refine xe (fun _ _ kK => x_goto (tgt := 4) dX3_countRuns_39 (by decide) kK) ?_
          have hv : cI (rP (fun k => (rowAt R k).2.1)) (k + 1) = cI (rP (fun k => (rowAt R k).2.1)) k + 1 := cI_t (by simp [rP]; exact Or.inr h30)
          have := ih (R.length - (k + 1)) (by omega) (k + 1) rfl (by omega)
          rw [hv] at this
          exact xe_loc (by simp) this

set_option maxHeartbeats 4000000 in
theorem c_X3_countRunsT (d : Nat) {T : TH} {a la oa qa va cap : Nat} {R : List Row} {dg ag gr : Nat} {nm : Bool} (hT : Tb T a la oa qa va cap R dg ag gr nm) (hO : RwOk R) (hcap : cap < 2 ^ 31) : Xe m_X3_countRuns d 0 [(0, .ref a), (1, .ref oa)] [] T (fun r T1 => r = some (.int (nI (cI (rP (fun k => (rowAt R k).2.1)) R.length))) ∧ T1 = T) := by
  refine xe (fun _ _ kK => x_iconst dX3_countRuns_0 (show _ = nI 0 by decide) kK) ?_
  refine xe (fun _ _ kK => x_istore_n dX3_countRuns_1 rfl (by decide) (show _ = [(2, .int (nI 0)), (0, .ref a), (1, .ref oa)] from rfl) kK) ?_
  refine xe (fun _ _ kK => x_iconst dX3_countRuns_2 (show _ = nI 0 by decide) kK) ?_
  refine xe (fun _ _ kK => x_istore_n dX3_countRuns_3 rfl (by decide) (show _ = [(3, .int (nI 0)), (2, .int (nI 0)), (0, .ref a), (1, .ref oa)] from rfl) kK) ?_
  exact xe_loc (by simp [cI]) (l_X3_countRunsT d hT hO hcap R.length 0 rfl (Nat.zero_le _))

set_option maxHeartbeats 4000000 in
theorem l_X3_size (d : Nat) {T : TH} {a u : Nat} {P : Option Value → TH → Prop} (hu : u ≤ 6300) : ∀ (m b : Nat), 14 ≤ m + b → b ≤ 13 → Xe m_X3_measureSize d 26 [(2, .int (nI (lgF u m b))), (1, .int (nI u)), (0, .ref a)] [] T P → Xe m_X3_measureSize d 7 [(2, .int (nI b)), (1, .int (nI u)), (0, .ref a)] [] T P := by
  intro m
  induction m with
  | zero => intro b hm hb; exact absurd hm (by omega)
  | succ m ih =>
    intro b hm hb hno
    have hp := pow13 hb
    refine xe (fun _ _ kK => x_iload_n dX3_measureSize_7 rfl 0 rfl kK) ?_
    refine xe (fun _ _ kK => x_bipush dX3_measureSize_8 (show _ = nI 30 by decide) kK) ?_
    refine xe (fun _ _ kK => x_icmp_geF (tgt := 26) dX3_measureSize_10 (by decide) (fun z9 => by have := cv_le (by omega) (by omega) z9; omega) kK) ?_
    refine xe (fun _ _ kK => x_iconst dX3_measureSize_13 (show _ = nI 1 by decide) kK) ?_
    refine xe (fun _ _ kK => x_iload_n dX3_measureSize_14 rfl 0 rfl kK) ?_
    refine xe (fun _ _ kK => x_ishl dX3_measureSize_15 kK) ?_
    refine xe_ti (show _ = nI (2 ^ b) from shl1 hb) ?_
    refine xe (fun _ _ kK => x_iload_n dX3_measureSize_16 rfl 1 rfl kK) ?_
    refine xe_icmp_ge (tgt := 26) dX3_measureSize_17 (by decide) (fun h17 => ?_) (fun h17 => ?_)
    · -- pc 26
      have h17 := cv_le (by omega) (by omega) h17
      rw [lgF_out h17] at hno
      exact hno
    · -- pc 20
      have h17 := cv_nle (by omega) (by omega) h17
      have hb12 : b ≤ 12 := by
        rcases Nat.lt_or_ge 12 b with z | z
        · exfalso; have e9 : b = 13 := by omega
          subst e9; have : 2 ^ 13 = 8192 := by decide
          omega
        · exact z
      refine xe (fun _ _ kK => x_iinc dX3_measureSize_20 0 rfl (show (nI b) + Int32.ofInt 1 = nI (b + 1) from nI_add b 1) (by decide) (show _ = [(2, .int (nI (b + 1))), (1, .int (nI u)), (0, .ref a)] from rfl) kK) ?_
      refine xe (fun _ _ kK => x_goto (tgt := 7) dX3_measureSize_23 (by decide) kK) ?_
      have hst : lgF u (m + 1) b = lgF u m (b + 1) := by show (if 2 ^ b < u then _ else b) = _; rw [if_pos h17]
      rw [hst] at hno
      exact xe_loc (by simp) (ih (b + 1) (by omega) (by omega) hno)

set_option maxHeartbeats 4000000 in
theorem c_X3_measureSize (d : Nat) {T : TH} {a la oa qa va cap : Nat} {R : List Row} {dg ag gr : Nat} {nm : Bool} (hT : Tb T a la oa qa va cap R dg ag gr nm) (hO : RwOk R) (hdg : dg < 2 ^ 31) (hH : HsOk R dg) (hag : ag < 2 ^ 31) (hcap : cap < 2 ^ 31) : Xe m_X3_measureSize (d + 4) 0 [(0, .ref a)] [] T (fun r T1 => r = some (.int (nI (sizeR R ag dg))) ∧ T1 = T) := by
  have hu := cI_le (vP R true) R.length
  have hv := cI_le (vP R false) R.length
  have hl6 := hO.1
  have hg := lgF_le (n := (cI (vP R true) R.length)) (by omega) 20 0 (by omega)
  have hrl := cI_le (rP (fun k => (rowAt R k).1)) R.length
  have hrt := cI_le (rP (fun k => (rowAt R k).2.1)) R.length
  refine xe (fun _ _ kK => x_aload_n dX3_measureSize_0 rfl 0 rfl kK) ?_
  refine xe_callV (a := a) [] dX3_measureSize_1 ml_X3_61 mf_X3_countUnlike hT.1 (c_X3_countUnlike d hT hO hdg hH) rfl rfl (Nat.le_of_ble_eq_true rfl) (Nat.le_of_ble_eq_true rfl) ?_
  rintro _ T9 ⟨rfl, hTq9⟩
  refine xe_T hTq9 ?_
  refine xe (fun _ _ kK => x_istore_n dX3_measureSize_4 rfl (by decide) (show _ = [(1, .int (nI (cI (vP R true) R.length))), (0, .ref a)] from rfl) kK) ?_
  refine xe (fun _ _ kK => x_iconst dX3_measureSize_5 (show _ = nI 0 by decide) kK) ?_
  refine xe (fun _ _ kK => x_istore_n dX3_measureSize_6 rfl (by decide) (show _ = [(2, .int (nI 0)), (1, .int (nI (cI (vP R true) R.length))), (0, .ref a)] from rfl) kK) ?_
  refine xe_loc (by simp) (l_X3_size (d + 4) (a := a) (u := (cI (vP R true) R.length)) (by omega) 20 0 (by omega) (by omega) ?_)
  generalize hG : lgF (cI (vP R true) R.length) 20 0 = G at hg ⊢
  have hGv : G * (cI (vP R false) R.length) ≤ 13 * 6300 := Nat.mul_le_mul hg (by omega)
  refine xe (fun _ _ kK => x_aload_n dX3_measureSize_26 rfl 2 rfl kK) ?_
  refine xe (fun _ _ kK => x_get dX3_measureSize_27 fl_X3_32 hT.1 (gvl_i fz_3_6.2.2 (show e_i T 198 a = nI ag from hT.2.2.2.2.1.2.2.1)) kK) ?_
  refine xe_if_ne (tgt := 37) dX3_measureSize_30 (by decide) (fun h30 => ?_) (fun h30 => ?_)
  · -- pc 37
    have h30 := cv_nz (by omega) h30
    refine xe (fun _ _ kK => x_iconst dX3_measureSize_37 (show _ = nI 2 by decide) kK) ?_
    refine xe (fun _ _ kK => x_aload_n dX3_measureSize_38 rfl 2 rfl kK) ?_
    refine xe (fun _ _ kK => x_aload_n dX3_measureSize_39 rfl 2 rfl kK) ?_
    refine xe (fun _ _ kK => x_get dX3_measureSize_40 fl_X3_9 hT.1 (gvl_r1 fz_3_0.2.2 (show e_r T 192 a = some la from hT.2.1.1)) kK) ?_
    refine xe_callV (a := a) [.ref la] dX3_measureSize_43 ml_X3_65 mf_X3_countRuns hT.1 (c_X3_countRunsL (d + 3) hT hO hcap) rfl rfl (Nat.le_of_ble_eq_true rfl) (Nat.le_of_ble_eq_true rfl) ?_
    rintro _ T9 ⟨rfl, hTq9⟩
    refine xe_T hTq9 ?_
    refine xe (fun _ _ kK => x_imul dX3_measureSize_46 kK) ?_
    refine xe_ti (show _ = nI (2 * (cI (rP (fun k => (rowAt R k).1)) R.length)) from pk_mul 2 (cI (rP (fun k => (rowAt R k).1)) R.length)) ?_
    refine xe (fun _ _ kK => x_istore_n dX3_measureSize_47 rfl (by decide) (show _ = [(3, .int (nI (2 * (cI (rP (fun k => (rowAt R k).1)) R.length)))), (2, .int (nI G)), (1, .int (nI (cI (vP R true) R.length))), (0, .ref a)] from rfl) kK) ?_
    refine xe (fun _ _ kK => x_aload_n dX3_measureSize_48 rfl 3 rfl kK) ?_
    refine xe (fun _ _ kK => x_get dX3_measureSize_49 fl_X3_29 hT.1 (gvl_i fz_3_5.2.2 (show e_i T 197 a = nI dg from hT.2.2.2.2.1.2.1)) kK) ?_
    refine xe_if_ne (tgt := 59) dX3_measureSize_52 (by decide) (fun h52 => ?_) (fun h52 => ?_)
    · -- pc 59
      have h52 := cv_nz (by omega) h52
      refine xe (fun _ _ kK => x_iconst dX3_measureSize_59 (show _ = nI 2 by decide) kK) ?_
      refine xe (fun _ _ kK => x_aload_n dX3_measureSize_60 rfl 3 rfl kK) ?_
      refine xe (fun _ _ kK => x_aload_n dX3_measureSize_61 rfl 3 rfl kK) ?_
      refine xe (fun _ _ kK => x_get dX3_measureSize_62 fl_X3_15 hT.1 (gvl_r1 fz_3_1.2.2 (show e_r T 193 a = some oa from hT.2.1.2.1)) kK) ?_
      refine xe_callV (a := a) [.ref oa] dX3_measureSize_65 ml_X3_65 mf_X3_countRuns hT.1 (c_X3_countRunsT (d + 3) hT hO hcap) rfl rfl (Nat.le_of_ble_eq_true rfl) (Nat.le_of_ble_eq_true rfl) ?_
      rintro _ T9 ⟨rfl, hTq9⟩
      refine xe_T hTq9 ?_
      refine xe (fun _ _ kK => x_imul dX3_measureSize_68 kK) ?_
      refine xe_ti (show _ = nI (2 * (cI (rP (fun k => (rowAt R k).2.1)) R.length)) from pk_mul 2 (cI (rP (fun k => (rowAt R k).2.1)) R.length)) ?_
      refine xe (fun _ _ kK => x_istore dX3_measureSize_69 (by decide) (show _ = [(4, .int (nI (2 * (cI (rP (fun k => (rowAt R k).2.1)) R.length)))), (3, .int (nI (2 * (cI (rP (fun k => (rowAt R k).1)) R.length)))), (2, .int (nI G)), (1, .int (nI (cI (vP R true) R.length))), (0, .ref a)] from rfl) kK) ?_
      refine xe (fun _ _ kK => x_iload_n dX3_measureSize_71 rfl 1 rfl kK) ?_
      refine xe (fun _ _ kK => x_iload dX3_measureSize_72 0 rfl kK) ?_
      refine xe (fun _ _ kK => x_iadd dX3_measureSize_74 kK) ?_
      refine xe_ti (show _ = nI ((2 * (cI (rP (fun k => (rowAt R k).1)) R.length)) + (2 * (cI (rP (fun k => (rowAt R k).2.1)) R.length))) from nI_add (2 * (cI (rP (fun k => (rowAt R k).1)) R.length)) (2 * (cI (rP (fun k => (rowAt R k).2.1)) R.length))) ?_
      refine xe (fun _ _ kK => x_bipush dX3_measureSize_75 (show _ = nI 8 by decide) kK) ?_
      refine xe (fun _ _ kK => x_iload_n dX3_measureSize_77 rfl 3 rfl kK) ?_
      refine xe (fun _ _ kK => x_imul dX3_measureSize_78 kK) ?_
      refine xe_ti (show _ = nI (8 * (cI (vP R true) R.length)) from pk_mul 8 (cI (vP R true) R.length)) ?_
      refine xe (fun _ _ kK => x_iadd dX3_measureSize_79 kK) ?_
      refine xe_ti (show _ = nI (((2 * (cI (rP (fun k => (rowAt R k).1)) R.length)) + (2 * (cI (rP (fun k => (rowAt R k).2.1)) R.length))) + (8 * (cI (vP R true) R.length))) from nI_add ((2 * (cI (rP (fun k => (rowAt R k).1)) R.length)) + (2 * (cI (rP (fun k => (rowAt R k).2.1)) R.length))) (8 * (cI (vP R true) R.length))) ?_
      refine xe (fun _ _ kK => x_iload_n dX3_measureSize_80 rfl 2 rfl kK) ?_
      refine xe (fun _ _ kK => x_aload_n dX3_measureSize_81 rfl 4 rfl kK) ?_
      refine xe_callV (a := a) [] dX3_measureSize_82 ml_X3_69 mf_X3_countValues hT.1 (c_X3_countValues (d + 1) hT hO hdg hH) rfl rfl (Nat.le_of_ble_eq_true rfl) (Nat.le_of_ble_eq_true rfl) ?_
      rintro _ T9 ⟨rfl, hTq9⟩
      refine xe_T hTq9 ?_
      refine xe (fun _ _ kK => x_imul dX3_measureSize_85 kK) ?_
      refine xe_ti (show _ = nI (G * (cI (vP R false) R.length)) from pk_mul G (cI (vP R false) R.length)) ?_
      refine xe (fun _ _ kK => x_bipush dX3_measureSize_86 (show _ = nI 7 by decide) kK) ?_
      refine xe (fun _ _ kK => x_iadd dX3_measureSize_88 kK) ?_
      refine xe_ti (show _ = nI ((G * (cI (vP R false) R.length)) + 7) from nI_add (G * (cI (vP R false) R.length)) 7) ?_
      refine xe (fun _ _ kK => x_bipush dX3_measureSize_89 (show _ = nI 8 by decide) kK) ?_
      refine xe (fun _ _ kK => x_idiv dX3_measureSize_91 (by decide) kK) ?_
      refine xe_ti (show _ = nI ((G * (cI (vP R false) R.length) + 7) / 8) from pk_div (by omega) (by decide) (by decide)) ?_
      refine xe (fun _ _ kK => x_iadd dX3_measureSize_92 kK) ?_
      refine xe_ti (show _ = nI ((((2 * (cI (rP (fun k => (rowAt R k).1)) R.length)) + (2 * (cI (rP (fun k => (rowAt R k).2.1)) R.length))) + (8 * (cI (vP R true) R.length))) + ((G * (cI (vP R false) R.length) + 7) / 8)) from nI_add (((2 * (cI (rP (fun k => (rowAt R k).1)) R.length)) + (2 * (cI (rP (fun k => (rowAt R k).2.1)) R.length))) + (8 * (cI (vP R true) R.length))) ((G * (cI (vP R false) R.length) + 7) / 8)) ?_
      exact xe_reti dX3_measureSize_93 rfl (⟨by rw [sizeR, if_neg h30, if_neg h52, show lgc (cI (vP R true) R.length) = G from hG]; exact congrArg (fun z => some (Value.int (nI z))) (by omega), rfl⟩)
    · -- pc 55
      have h52 := cv_z (by omega) h52
      refine xe (fun _ _ kK => x_iconst dX3_measureSize_55 (show _ = nI 0 by decide) kK) ?_
      refine xe (fun _ _ kK => x_goto (tgt := 69) dX3_measureSize_56 (by decide) kK) ?_
      refine xe (fun _ _ kK => x_istore dX3_measureSize_69 (by decide) (show _ = [(4, .int (nI 0)), (3, .int (nI (2 * (cI (rP (fun k => (rowAt R k).1)) R.length)))), (2, .int (nI G)), (1, .int (nI (cI (vP R true) R.length))), (0, .ref a)] from rfl) kK) ?_
      refine xe (fun _ _ kK => x_iload_n dX3_measureSize_71 rfl 1 rfl kK) ?_
      refine xe (fun _ _ kK => x_iload dX3_measureSize_72 0 rfl kK) ?_
      refine xe (fun _ _ kK => x_iadd dX3_measureSize_74 kK) ?_
      refine xe_ti (show _ = nI ((2 * (cI (rP (fun k => (rowAt R k).1)) R.length)) + 0) from nI_add (2 * (cI (rP (fun k => (rowAt R k).1)) R.length)) 0) ?_
      refine xe (fun _ _ kK => x_bipush dX3_measureSize_75 (show _ = nI 8 by decide) kK) ?_
      refine xe (fun _ _ kK => x_iload_n dX3_measureSize_77 rfl 3 rfl kK) ?_
      refine xe (fun _ _ kK => x_imul dX3_measureSize_78 kK) ?_
      refine xe_ti (show _ = nI (8 * (cI (vP R true) R.length)) from pk_mul 8 (cI (vP R true) R.length)) ?_
      refine xe (fun _ _ kK => x_iadd dX3_measureSize_79 kK) ?_
      refine xe_ti (show _ = nI (((2 * (cI (rP (fun k => (rowAt R k).1)) R.length)) + 0) + (8 * (cI (vP R true) R.length))) from nI_add ((2 * (cI (rP (fun k => (rowAt R k).1)) R.length)) + 0) (8 * (cI (vP R true) R.length))) ?_
      refine xe (fun _ _ kK => x_iload_n dX3_measureSize_80 rfl 2 rfl kK) ?_
      refine xe (fun _ _ kK => x_aload_n dX3_measureSize_81 rfl 4 rfl kK) ?_
      refine xe_callV (a := a) [] dX3_measureSize_82 ml_X3_69 mf_X3_countValues hT.1 (c_X3_countValues (d + 1) hT hO hdg hH) rfl rfl (Nat.le_of_ble_eq_true rfl) (Nat.le_of_ble_eq_true rfl) ?_
      rintro _ T9 ⟨rfl, hTq9⟩
      refine xe_T hTq9 ?_
      refine xe (fun _ _ kK => x_imul dX3_measureSize_85 kK) ?_
      refine xe_ti (show _ = nI (G * (cI (vP R false) R.length)) from pk_mul G (cI (vP R false) R.length)) ?_
      refine xe (fun _ _ kK => x_bipush dX3_measureSize_86 (show _ = nI 7 by decide) kK) ?_
      refine xe (fun _ _ kK => x_iadd dX3_measureSize_88 kK) ?_
      refine xe_ti (show _ = nI ((G * (cI (vP R false) R.length)) + 7) from nI_add (G * (cI (vP R false) R.length)) 7) ?_
      refine xe (fun _ _ kK => x_bipush dX3_measureSize_89 (show _ = nI 8 by decide) kK) ?_
      refine xe (fun _ _ kK => x_idiv dX3_measureSize_91 (by decide) kK) ?_
      refine xe_ti (show _ = nI ((G * (cI (vP R false) R.length) + 7) / 8) from pk_div (by omega) (by decide) (by decide)) ?_
      refine xe (fun _ _ kK => x_iadd dX3_measureSize_92 kK) ?_
      refine xe_ti (show _ = nI ((((2 * (cI (rP (fun k => (rowAt R k).1)) R.length)) + 0) + (8 * (cI (vP R true) R.length))) + ((G * (cI (vP R false) R.length) + 7) / 8)) from nI_add (((2 * (cI (rP (fun k => (rowAt R k).1)) R.length)) + 0) + (8 * (cI (vP R true) R.length))) ((G * (cI (vP R false) R.length) + 7) / 8)) ?_
      exact xe_reti dX3_measureSize_93 rfl (⟨by rw [sizeR, if_neg h30, if_pos h52, show lgc (cI (vP R true) R.length) = G from hG]; exact congrArg (fun z => some (Value.int (nI z))) (by omega), rfl⟩)
  · -- pc 33
    have h30 := cv_z (by omega) h30
    refine xe (fun _ _ kK => x_iconst dX3_measureSize_33 (show _ = nI 0 by decide) kK) ?_
    refine xe (fun _ _ kK => x_goto (tgt := 47) dX3_measureSize_34 (by decide) kK) ?_
    refine xe (fun _ _ kK => x_istore_n dX3_measureSize_47 rfl (by decide) (show _ = [(3, .int (nI 0)), (2, .int (nI G)), (1, .int (nI (cI (vP R true) R.length))), (0, .ref a)] from rfl) kK) ?_
    refine xe (fun _ _ kK => x_aload_n dX3_measureSize_48 rfl 3 rfl kK) ?_
    refine xe (fun _ _ kK => x_get dX3_measureSize_49 fl_X3_29 hT.1 (gvl_i fz_3_5.2.2 (show e_i T 197 a = nI dg from hT.2.2.2.2.1.2.1)) kK) ?_
    refine xe_if_ne (tgt := 59) dX3_measureSize_52 (by decide) (fun h52 => ?_) (fun h52 => ?_)
    · -- pc 59
      have h52 := cv_nz (by omega) h52
      refine xe (fun _ _ kK => x_iconst dX3_measureSize_59 (show _ = nI 2 by decide) kK) ?_
      refine xe (fun _ _ kK => x_aload_n dX3_measureSize_60 rfl 3 rfl kK) ?_
      refine xe (fun _ _ kK => x_aload_n dX3_measureSize_61 rfl 3 rfl kK) ?_
      refine xe (fun _ _ kK => x_get dX3_measureSize_62 fl_X3_15 hT.1 (gvl_r1 fz_3_1.2.2 (show e_r T 193 a = some oa from hT.2.1.2.1)) kK) ?_
      refine xe_callV (a := a) [.ref oa] dX3_measureSize_65 ml_X3_65 mf_X3_countRuns hT.1 (c_X3_countRunsT (d + 3) hT hO hcap) rfl rfl (Nat.le_of_ble_eq_true rfl) (Nat.le_of_ble_eq_true rfl) ?_
      rintro _ T9 ⟨rfl, hTq9⟩
      refine xe_T hTq9 ?_
      refine xe (fun _ _ kK => x_imul dX3_measureSize_68 kK) ?_
      refine xe_ti (show _ = nI (2 * (cI (rP (fun k => (rowAt R k).2.1)) R.length)) from pk_mul 2 (cI (rP (fun k => (rowAt R k).2.1)) R.length)) ?_
      refine xe (fun _ _ kK => x_istore dX3_measureSize_69 (by decide) (show _ = [(4, .int (nI (2 * (cI (rP (fun k => (rowAt R k).2.1)) R.length)))), (3, .int (nI 0)), (2, .int (nI G)), (1, .int (nI (cI (vP R true) R.length))), (0, .ref a)] from rfl) kK) ?_
      refine xe (fun _ _ kK => x_iload_n dX3_measureSize_71 rfl 1 rfl kK) ?_
      refine xe (fun _ _ kK => x_iload dX3_measureSize_72 0 rfl kK) ?_
      refine xe (fun _ _ kK => x_iadd dX3_measureSize_74 kK) ?_
      refine xe_ti (show _ = nI (0 + (2 * (cI (rP (fun k => (rowAt R k).2.1)) R.length))) from nI_add 0 (2 * (cI (rP (fun k => (rowAt R k).2.1)) R.length))) ?_
      refine xe (fun _ _ kK => x_bipush dX3_measureSize_75 (show _ = nI 8 by decide) kK) ?_
      refine xe (fun _ _ kK => x_iload_n dX3_measureSize_77 rfl 3 rfl kK) ?_
      refine xe (fun _ _ kK => x_imul dX3_measureSize_78 kK) ?_
      refine xe_ti (show _ = nI (8 * (cI (vP R true) R.length)) from pk_mul 8 (cI (vP R true) R.length)) ?_
      refine xe (fun _ _ kK => x_iadd dX3_measureSize_79 kK) ?_
      refine xe_ti (show _ = nI ((0 + (2 * (cI (rP (fun k => (rowAt R k).2.1)) R.length))) + (8 * (cI (vP R true) R.length))) from nI_add (0 + (2 * (cI (rP (fun k => (rowAt R k).2.1)) R.length))) (8 * (cI (vP R true) R.length))) ?_
      refine xe (fun _ _ kK => x_iload_n dX3_measureSize_80 rfl 2 rfl kK) ?_
      refine xe (fun _ _ kK => x_aload_n dX3_measureSize_81 rfl 4 rfl kK) ?_
      refine xe_callV (a := a) [] dX3_measureSize_82 ml_X3_69 mf_X3_countValues hT.1 (c_X3_countValues (d + 1) hT hO hdg hH) rfl rfl (Nat.le_of_ble_eq_true rfl) (Nat.le_of_ble_eq_true rfl) ?_
      rintro _ T9 ⟨rfl, hTq9⟩
      refine xe_T hTq9 ?_
      refine xe (fun _ _ kK => x_imul dX3_measureSize_85 kK) ?_
      refine xe_ti (show _ = nI (G * (cI (vP R false) R.length)) from pk_mul G (cI (vP R false) R.length)) ?_
      refine xe (fun _ _ kK => x_bipush dX3_measureSize_86 (show _ = nI 7 by decide) kK) ?_
      refine xe (fun _ _ kK => x_iadd dX3_measureSize_88 kK) ?_
      refine xe_ti (show _ = nI ((G * (cI (vP R false) R.length)) + 7) from nI_add (G * (cI (vP R false) R.length)) 7) ?_
      refine xe (fun _ _ kK => x_bipush dX3_measureSize_89 (show _ = nI 8 by decide) kK) ?_
      refine xe (fun _ _ kK => x_idiv dX3_measureSize_91 (by decide) kK) ?_
      refine xe_ti (show _ = nI ((G * (cI (vP R false) R.length) + 7) / 8) from pk_div (by omega) (by decide) (by decide)) ?_
      refine xe (fun _ _ kK => x_iadd dX3_measureSize_92 kK) ?_
      refine xe_ti (show _ = nI (((0 + (2 * (cI (rP (fun k => (rowAt R k).2.1)) R.length))) + (8 * (cI (vP R true) R.length))) + ((G * (cI (vP R false) R.length) + 7) / 8)) from nI_add ((0 + (2 * (cI (rP (fun k => (rowAt R k).2.1)) R.length))) + (8 * (cI (vP R true) R.length))) ((G * (cI (vP R false) R.length) + 7) / 8)) ?_
      exact xe_reti dX3_measureSize_93 rfl (⟨by rw [sizeR, if_pos h30, if_neg h52, show lgc (cI (vP R true) R.length) = G from hG]; exact congrArg (fun z => some (Value.int (nI z))) (by omega), rfl⟩)
    · -- pc 55
      have h52 := cv_z (by omega) h52
      refine xe (fun _ _ kK => x_iconst dX3_measureSize_55 (show _ = nI 0 by decide) kK) ?_
      refine xe (fun _ _ kK => x_goto (tgt := 69) dX3_measureSize_56 (by decide) kK) ?_
      refine xe (fun _ _ kK => x_istore dX3_measureSize_69 (by decide) (show _ = [(4, .int (nI 0)), (3, .int (nI 0)), (2, .int (nI G)), (1, .int (nI (cI (vP R true) R.length))), (0, .ref a)] from rfl) kK) ?_
      refine xe (fun _ _ kK => x_iload_n dX3_measureSize_71 rfl 1 rfl kK) ?_
      refine xe (fun _ _ kK => x_iload dX3_measureSize_72 0 rfl kK) ?_
      refine xe (fun _ _ kK => x_iadd dX3_measureSize_74 kK) ?_
      refine xe_ti (show _ = nI (0 + 0) from nI_add 0 0) ?_
      refine xe (fun _ _ kK => x_bipush dX3_measureSize_75 (show _ = nI 8 by decide) kK) ?_
      refine xe (fun _ _ kK => x_iload_n dX3_measureSize_77 rfl 3 rfl kK) ?_
      refine xe (fun _ _ kK => x_imul dX3_measureSize_78 kK) ?_
      refine xe_ti (show _ = nI (8 * (cI (vP R true) R.length)) from pk_mul 8 (cI (vP R true) R.length)) ?_
      refine xe (fun _ _ kK => x_iadd dX3_measureSize_79 kK) ?_
      refine xe_ti (show _ = nI ((0 + 0) + (8 * (cI (vP R true) R.length))) from nI_add (0 + 0) (8 * (cI (vP R true) R.length))) ?_
      refine xe (fun _ _ kK => x_iload_n dX3_measureSize_80 rfl 2 rfl kK) ?_
      refine xe (fun _ _ kK => x_aload_n dX3_measureSize_81 rfl 4 rfl kK) ?_
      refine xe_callV (a := a) [] dX3_measureSize_82 ml_X3_69 mf_X3_countValues hT.1 (c_X3_countValues (d + 1) hT hO hdg hH) rfl rfl (Nat.le_of_ble_eq_true rfl) (Nat.le_of_ble_eq_true rfl) ?_
      rintro _ T9 ⟨rfl, hTq9⟩
      refine xe_T hTq9 ?_
      refine xe (fun _ _ kK => x_imul dX3_measureSize_85 kK) ?_
      refine xe_ti (show _ = nI (G * (cI (vP R false) R.length)) from pk_mul G (cI (vP R false) R.length)) ?_
      refine xe (fun _ _ kK => x_bipush dX3_measureSize_86 (show _ = nI 7 by decide) kK) ?_
      refine xe (fun _ _ kK => x_iadd dX3_measureSize_88 kK) ?_
      refine xe_ti (show _ = nI ((G * (cI (vP R false) R.length)) + 7) from nI_add (G * (cI (vP R false) R.length)) 7) ?_
      refine xe (fun _ _ kK => x_bipush dX3_measureSize_89 (show _ = nI 8 by decide) kK) ?_
      refine xe (fun _ _ kK => x_idiv dX3_measureSize_91 (by decide) kK) ?_
      refine xe_ti (show _ = nI ((G * (cI (vP R false) R.length) + 7) / 8) from pk_div (by omega) (by decide) (by decide)) ?_
      refine xe (fun _ _ kK => x_iadd dX3_measureSize_92 kK) ?_
      refine xe_ti (show _ = nI (((0 + 0) + (8 * (cI (vP R true) R.length))) + ((G * (cI (vP R false) R.length) + 7) / 8)) from nI_add ((0 + 0) + (8 * (cI (vP R true) R.length))) ((G * (cI (vP R false) R.length) + 7) / 8)) ?_
      exact xe_reti dX3_measureSize_93 rfl (⟨by rw [sizeR, if_pos h30, if_pos h52, show lgc (cI (vP R true) R.length) = G from hG]; exact congrArg (fun z => some (Value.int (nI z))) (by omega), rfl⟩)
