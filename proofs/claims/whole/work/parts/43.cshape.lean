/-! the class's SHAPE at p: en tells where a field's parts end, lo which leaf a field is -/
theorem shi_len {T : TH} {p : Nat} (h : ShI T p) (k : Nat) (hk : k < 10) {j : Nat} (hj : j < if k = 9 then 12 else 66) : j < e_len T (p + 1 + k) := by rw [h.2.2.2 k hk]; exact hj
def CSp (T : TH) (p : Nat) (s : Sh) (en : Nat → Nat) (lo : Nat → Option Nat) : Prop := ShI T p ∧ e_i T 74 p = nI s.1 ∧ e_i T 75 p = nI s.2.1 ∧ (∀ f, f < s.1 → e_al T (p + 1) f = lN (s.2.2.2.1 f) ∧ e_ai T (p + 2) f = nI (s.2.2.2.2.1 f + 1) ∧ e_ai T (p + 3) f = nI (s.2.2.2.2.2.1 f + 1) ∧ e_ai T (p + 4) f = oI (s.2.2.1 f) ∧ e_ai T (p + 5) f = nI (en f) ∧ e_ai T (p + 9) f = oI (lo f)) ∧ ∀ c, c < s.2.1 → e_ai T (p + 10) c = nI (s.2.2.2.2.2.2 c)
theorem CSp.of {I : List (Nat × Nat)} {A : List Nat} {T T1 : TH} {p : Nat} {s : Sh} {en : Nat → Nat} {lo : Nat → Option Nat} (h : CSp T p s en lo) (hF : FrG I A T T1) (h1 : (74, p) ∉ I) (h2 : (75, p) ∉ I) (h3 : ∀ k, k ∈ [1, 2, 3, 4, 5, 9, 10] → p + k ∉ A) : CSp T1 p s en lo := by
  refine ⟨hF.shi h.1, (hF.i h1).trans h.2.1, (hF.i h2).trans h.2.2.1, fun f hf => ?_, fun c hc => ?_⟩
  · rw [hF.al (h3 1 (by decide)), hF.ai (h3 2 (by decide)), hF.ai (h3 3 (by decide)), hF.ai (h3 4 (by decide)), hF.ai (h3 5 (by decide)), hF.ai (h3 9 (by decide))]; exact h.2.2.2.1 f hf
  · rw [hF.ai (h3 10 (by decide))]; exact h.2.2.2.2 c hc
theorem ix_oI {o : Option Nat} {n : Nat} (h : oB o) (hn : n < 2 ^ 31) : ix (oI o) n = match o with
    | none => none
    | some j => if j < n then some j else none := by
  cases o with
  | none => exact ix_neg (by decide)
  | some j => exact ix_nI (h j rfl)

set_option maxHeartbeats 4000000 in
theorem c_X1_isField (d : Nat) {T : TH} {p n : Nat} (hI : ShI T p) (hn : e_i T 74 p = nI n) (hn66 : n ≤ 66) (x : Int32) : Xe m_X1_isField d 0 [(0, .ref p), (1, .int x)] [] T (fun r T1 => r = some (.int (bI (ix x n).isSome)) ∧ T1 = T) := by
  by_cases hx : x < 0
  · -- pc 0
    refine xe (fun _ _ kK => x_iload_n dX1_isField_0 rfl 1 rfl kK) ?_
    refine xe (fun _ _ kK => x_if_ltT (tgt := 22) dX1_isField_1 (by decide) hx kK) ?_
    refine xe (fun _ _ kK => x_iconst dX1_isField_22 (show _ = nI 0 by decide) kK) ?_
    exact xe_retz dX1_isField_23 rfl (by first | exact Or.inl rfl | exact Or.inr rfl) (⟨r_0 (by rw [ix_neg hx]; rfl), rfl⟩)
  · -- pc 0
    obtain ⟨j, hj, rfl⟩ := nI_of hx
    refine xe (fun _ _ kK => x_iload_n dX1_isField_0 rfl 1 rfl kK) ?_
    refine xe (fun _ _ kK => x_if_ltF (tgt := 22) dX1_isField_1 (by decide) hx kK) ?_
    refine xe (fun _ _ kK => x_iload_n dX1_isField_4 rfl 1 rfl kK) ?_
    refine xe (fun _ _ kK => x_aload_n dX1_isField_5 rfl 0 rfl kK) ?_
    refine xe (fun _ _ kK => x_get dX1_isField_6 fl_X1_43 hI.1 (gvl_i fz_1_10.2.2 (show e_i T 74 p = nI n from hn)) kK) ?_
    refine xe_icmp_ge (tgt := 22) dX1_isField_9 (by decide) (fun h9 => ?_) (fun h9 => ?_)
    · -- pc 22
      have h9 := cv_le (by omega) (by omega) h9
      refine xe (fun _ _ kK => x_iconst dX1_isField_22 (show _ = nI 0 by decide) kK) ?_
      exact xe_retz dX1_isField_23 rfl (by first | exact Or.inl rfl | exact Or.inr rfl) (⟨r_0 (by rw [ix_out (by omega) hj]; rfl), rfl⟩)
    · -- pc 12
      have h9 := cv_nle (by omega) (by omega) h9
      refine xe (fun _ _ kK => x_iload_n dX1_isField_12 rfl 1 rfl kK) ?_
      refine xe (fun _ _ kK => x_bipush dX1_isField_13 (show _ = nI 66 by decide) kK) ?_
      refine xe (fun _ _ kK => x_icmp_geF (tgt := 22) dX1_isField_15 (by decide) (fun z9 => by have := cv_le (by omega) (by omega) z9; omega) kK) ?_
      refine xe (fun _ _ kK => x_iconst dX1_isField_18 (show _ = nI 1 by decide) kK) ?_
      refine xe (fun _ _ kK => x_goto (tgt := 23) dX1_isField_19 (by decide) kK) ?_
      exact xe_retz dX1_isField_23 rfl (by first | exact Or.inl rfl | exact Or.inr rfl) (⟨r_1 (by rw [ix_in (by omega) hj]; rfl), rfl⟩)

set_option maxHeartbeats 4000000 in
theorem c_X1_fieldOfLeaf (d : Nat) {T : TH} {p : Nat} {s : Sh} {en : Nat → Nat} {lo : Nat → Option Nat} (hS : CSp T p s en lo) (hs60 : s.1 ≤ 60) (hc12 : s.2.1 ≤ 12) (x : Int32) : Xe m_X1_fieldOfLeaf d 0 [(0, .ref p), (1, .int x)] [] T (fun r T1 => r = some (.int (match ix x s.2.1 with
    | none => -1
    | some c => nI (s.2.2.2.2.2.2 c))) ∧ T1 = T) := by
  have hI := hS.1
  by_cases hx : x < 0
  · -- pc 0
    refine xe (fun _ _ kK => x_iload_n dX1_fieldOfLeaf_0 rfl 1 rfl kK) ?_
    refine xe (fun _ _ kK => x_if_ltT (tgt := 27) dX1_fieldOfLeaf_1 (by decide) hx kK) ?_
    refine xe (fun _ _ kK => x_iconst dX1_fieldOfLeaf_27 (show _ = (-1) by decide) kK) ?_
    exact xe_reti dX1_fieldOfLeaf_28 rfl (⟨by rw [ix_neg hx], rfl⟩)
  · -- pc 0
    obtain ⟨j, hj, rfl⟩ := nI_of hx
    refine xe (fun _ _ kK => x_iload_n dX1_fieldOfLeaf_0 rfl 1 rfl kK) ?_
    refine xe (fun _ _ kK => x_if_ltF (tgt := 27) dX1_fieldOfLeaf_1 (by decide) hx kK) ?_
    refine xe (fun _ _ kK => x_iload_n dX1_fieldOfLeaf_4 rfl 1 rfl kK) ?_
    refine xe (fun _ _ kK => x_aload_n dX1_fieldOfLeaf_5 rfl 0 rfl kK) ?_
    refine xe (fun _ _ kK => x_get dX1_fieldOfLeaf_6 fl_X1_47 hI.1 (gvl_i fz_1_11.2.2 (show e_i T 75 p = nI s.2.1 from hS.2.2.1)) kK) ?_
    refine xe_icmp_ge (tgt := 27) dX1_fieldOfLeaf_9 (by decide) (fun h9 => ?_) (fun h9 => ?_)
    · -- pc 27
      have h9 := cv_le (by omega) (by omega) h9
      refine xe (fun _ _ kK => x_iconst dX1_fieldOfLeaf_27 (show _ = (-1) by decide) kK) ?_
      exact xe_reti dX1_fieldOfLeaf_28 rfl (⟨by rw [ix_out (by omega) hj], rfl⟩)
    · -- pc 12
      have h9 := cv_nle (by omega) (by omega) h9
      refine xe (fun _ _ kK => x_iload_n dX1_fieldOfLeaf_12 rfl 1 rfl kK) ?_
      refine xe (fun _ _ kK => x_bipush dX1_fieldOfLeaf_13 (show _ = nI 12 by decide) kK) ?_
      refine xe (fun _ _ kK => x_icmp_geF (tgt := 27) dX1_fieldOfLeaf_15 (by decide) (fun z9 => by have := cv_le (by omega) (by omega) z9; omega) kK) ?_
      refine xe (fun _ _ kK => x_aload_n dX1_fieldOfLeaf_18 rfl 0 rfl kK) ?_
      refine xe (fun _ _ kK => x_get dX1_fieldOfLeaf_19 fl_X1_40 hI.1 (gvl_r1 fz_1_9.2.2 (show e_r T 73 p = some (p + 10) from (hI.2.1 9 (by decide)))) kK) ?_
      refine xe (fun _ _ kK => x_iload_n dX1_fieldOfLeaf_22 rfl 1 rfl kK) ?_
      refine xe (fun _ _ kK => x_iald dX1_fieldOfLeaf_23 (show e_K _ (p + 10) = 20 from (hI.2.2.1 9 (by decide))) (show (nI j) = nI j from rfl) (shi_len hI 9 (by decide) (show j < 12 by omega)) (show e_ai T (p + 10) j = nI (s.2.2.2.2.2.2 j) from (hS.2.2.2.2 j (by omega))) kK) ?_
      refine xe (fun _ _ kK => x_goto (tgt := 28) dX1_fieldOfLeaf_24 (by decide) kK) ?_
      exact xe_reti dX1_fieldOfLeaf_28 rfl (⟨by rw [ix_in (by omega) hj], rfl⟩)

set_option maxHeartbeats 4000000 in
theorem c_X1_deepUpTo (d : Nat) {T : TH} {p : Nat} {s : Sh} {en : Nat → Nat} {lo : Nat → Option Nat} (hS : CSp T p s en lo) (hs60 : s.1 ≤ 60) {dg : Nat → Nat} {o : Option Nat} (ho : ∀ g, o = some g → g < s.1) (hd : ∀ g, o = some g → e_ai T (p + 6) g = nI (dg g)) : Xe m_X1_deepUpTo (d + 1) 0 [(0, .ref p), (1, .int (oI o))] [] T (fun r T1 => r = some (.int (nI (match o with
    | none => 0
    | some g => dg g))) ∧ T1 = T) := by
  have hI := hS.1
  refine xe (fun _ _ kK => x_aload_n dX1_deepUpTo_0 rfl 0 rfl kK) ?_
  refine xe (fun _ _ kK => x_iload_n dX1_deepUpTo_1 rfl 1 rfl kK) ?_
  refine xe_callV (a := p) [.int (oI o)] dX1_deepUpTo_2 ml_X1_50 mf_X1_isField hI.1 (c_X1_isField d hI hS.2.1 (by omega) (oI o)) rfl rfl (Nat.le_of_ble_eq_true rfl) (Nat.le_of_ble_eq_true rfl) ?_
  rintro _ T9 ⟨rfl, hTq9⟩
  refine xe_T hTq9 ?_
  cases o with
  | none =>
    rw [show ix (oI none) s.1 = none from ix_neg (by decide)]
    refine xe (fun _ _ kK => x_if_eqT (tgt := 17) dX1_deepUpTo_5 (by decide) rfl kK) ?_
    refine xe (fun _ _ kK => x_iconst dX1_deepUpTo_17 (show _ = nI 0 by decide) kK) ?_
    exact xe_reti dX1_deepUpTo_18 rfl (⟨rfl, rfl⟩)
  | some g =>
    have hg := ho g rfl
    rw [show ix (oI (some g)) s.1 = some g from ix_in hg (by omega)]
    show Xe m_X1_deepUpTo (d + 1) 5 [(0, .ref p), (1, .int (nI g))] [.int (bI true)] T _
    refine xe (fun _ _ kK => x_if_eqF (tgt := 17) dX1_deepUpTo_5 (by decide) (by decide) kK) ?_
    refine xe (fun _ _ kK => x_aload_n dX1_deepUpTo_8 rfl 0 rfl kK) ?_
    refine xe (fun _ _ kK => x_get dX1_deepUpTo_9 fl_X1_28 hI.1 (gvl_r1 fz_1_5.2.2 (show e_r T 69 p = some (p + 6) from (hI.2.1 5 (by decide)))) kK) ?_
    refine xe (fun _ _ kK => x_iload_n dX1_deepUpTo_12 rfl 1 rfl kK) ?_
    refine xe (fun _ _ kK => x_iald dX1_deepUpTo_13 (show e_K _ (p + 6) = 20 from (hI.2.2.1 5 (by decide))) (show (nI g) = nI g from rfl) (shi_len hI 5 (by decide) (show g < 66 by omega)) (show e_ai T (p + 6) g = nI (dg g) from (hd g rfl)) kK) ?_
    refine xe (fun _ _ kK => x_goto (tgt := 18) dX1_deepUpTo_14 (by decide) kK) ?_
    exact xe_reti dX1_deepUpTo_18 rfl (⟨rfl, rfl⟩)

set_option maxHeartbeats 4000000 in
theorem c_X1_isOnRoad (d : Nat) {T : TH} {p : Nat} {s : Sh} {en : Nat → Nat} {lo : Nat → Option Nat} (hS : CSp T p s en lo) (hs60 : s.1 ≤ 60) {f t : Nat} (hf : f < s.1) (ht : t < 2 ^ 31) (he : en f < 2 ^ 31) : Xe m_X1_isOnRoad (d + 1) 0 [(0, .ref p), (1, .int (nI f)), (2, .int (nI t))] [] T (fun r T1 => r = some (.int (bI (decide (f ≤ t ∧ t < en f)))) ∧ T1 = T) := by
  have hI := hS.1
  refine xe (fun _ _ kK => x_aload_n dX1_isOnRoad_0 rfl 0 rfl kK) ?_
  refine xe (fun _ _ kK => x_iload_n dX1_isOnRoad_1 rfl 1 rfl kK) ?_
  refine xe_callV (a := p) [.int (nI f)] dX1_isOnRoad_2 ml_X1_50 mf_X1_isField hI.1 (c_X1_isField d hI hS.2.1 (by omega) (nI f)) rfl rfl (Nat.le_of_ble_eq_true rfl) (Nat.le_of_ble_eq_true rfl) ?_
  rintro _ T9 ⟨rfl, hTq9⟩
  refine xe_T hTq9 ?_
  rw [ix_in hf (by omega)]
  refine xe (fun _ _ kK => x_if_eqF (tgt := 27) dX1_isOnRoad_5 (by decide) (show ¬ bI true = 0 by decide) kK) ?_
  refine xe (fun _ _ kK => x_iload_n dX1_isOnRoad_8 rfl 2 rfl kK) ?_
  refine xe (fun _ _ kK => x_iload_n dX1_isOnRoad_9 rfl 1 rfl kK) ?_
  refine xe_icmp_lt (tgt := 27) dX1_isOnRoad_10 (by decide) (fun h10 => ?_) (fun h10 => ?_)
  · -- pc 27
    have h10 := cv_lt (by omega) (by omega) h10
    refine xe (fun _ _ kK => x_iconst dX1_isOnRoad_27 (show _ = nI 0 by decide) kK) ?_
    exact xe_retz dX1_isOnRoad_28 rfl (by first | exact Or.inl rfl | exact Or.inr rfl) (⟨r_0 (by simp; omega), rfl⟩)
  · -- pc 13
    have h10 := cv_nlt (by omega) (by omega) h10
    refine xe (fun _ _ kK => x_iload_n dX1_isOnRoad_13 rfl 2 rfl kK) ?_
    refine xe (fun _ _ kK => x_aload_n dX1_isOnRoad_14 rfl 0 rfl kK) ?_
    refine xe (fun _ _ kK => x_get dX1_isOnRoad_15 fl_X1_25 hI.1 (gvl_r1 fz_1_4.2.2 (show e_r T 68 p = some (p + 5) from (hI.2.1 4 (by decide)))) kK) ?_
    refine xe (fun _ _ kK => x_iload_n dX1_isOnRoad_18 rfl 1 rfl kK) ?_
    refine xe (fun _ _ kK => x_iald dX1_isOnRoad_19 (show e_K _ (p + 5) = 20 from (hI.2.2.1 4 (by decide))) (show (nI f) = nI f from rfl) (shi_len hI 4 (by decide) (show f < 66 by omega)) (show e_ai T (p + 5) f = nI (en f) from (hS.2.2.2.1 f hf).2.2.2.2.1) kK) ?_
    refine xe_icmp_ge (tgt := 27) dX1_isOnRoad_20 (by decide) (fun h20 => ?_) (fun h20 => ?_)
    · -- pc 27
      have h20 := cv_le (by omega) (by omega) h20
      refine xe (fun _ _ kK => x_iconst dX1_isOnRoad_27 (show _ = nI 0 by decide) kK) ?_
      exact xe_retz dX1_isOnRoad_28 rfl (by first | exact Or.inl rfl | exact Or.inr rfl) (⟨r_0 (by simp; omega), rfl⟩)
    · -- pc 23
      have h20 := cv_nle (by omega) (by omega) h20
      refine xe (fun _ _ kK => x_iconst dX1_isOnRoad_23 (show _ = nI 1 by decide) kK) ?_
      refine xe (fun _ _ kK => x_goto (tgt := 28) dX1_isOnRoad_24 (by decide) kK) ?_
      exact xe_retz dX1_isOnRoad_28 rfl (by first | exact Or.inl rfl | exact Or.inr rfl) (⟨r_1 (by simp; omega), rfl⟩)

set_option maxHeartbeats 4000000 in
theorem c_X1_clear (d : Nat) {T : TH} {p : Nat} (hI : ShI T p) : Xe m_X1_clear d 0 [(0, .ref p)] [] T (fun r T1 => r = none ∧ T1 = s_i (s_i T 74 p (nI 0)) 75 p (nI 0)) := by
  refine xe (fun _ _ kK => x_aload_n dX1_clear_0 rfl 0 rfl kK) ?_
  refine xe (fun _ _ kK => x_iconst dX1_clear_1 (show _ = nI 0 by decide) kK) ?_
  refine xe (fun _ _ kK => x_puti dX1_clear_2 ⟨fl_X1_43, fz_1_10.1, fz_1_10.2.1⟩ (Or.inl fz_1_10.2.2) rfl rfl hI.1 kK) ?_
  refine xe (fun _ _ kK => x_aload_n dX1_clear_5 rfl 0 rfl kK) ?_
  refine xe (fun _ _ kK => x_iconst dX1_clear_6 (show _ = nI 0 by decide) kK) ?_
  refine xe (fun _ _ kK => x_puti dX1_clear_7 ⟨fl_X1_47, fz_1_11.1, fz_1_11.2.1⟩ (Or.inl fz_1_11.2.2) rfl rfl (wK_i hI.1) kK) ?_
  exact xe_retv dX1_clear_10 rfl (⟨rfl, rfl⟩)

set_option maxHeartbeats 4000000 in
theorem l_X1_find (d : Nat) {T : TH} {p : Nat} {s : Sh} {en : Nat → Nat} {lo : Nat → Option Nat} (hS : CSp T p s en lo) (hs60 : s.1 ≤ 60) {o : Option Nat} {w : Nat} (hob : oB o) (hw : w < 2 ^ 63) (hWb : ∀ f, f < s.1 → oB (s.2.2.1 f)) (hNb : ∀ f, f < s.1 → s.2.2.2.1 f < 2 ^ 63) : ∀ (m k : Nat), s.1 - k = m → k ≤ s.1 → Xe m_X1_find d 3 [(4, .int (nI k)), (0, .ref p), (1, .int (oI o)), (2, .long (lN w))] [] T (fun r T1 => r = some (.int (oI (fnd (fun f => decide (s.2.2.1 f = o ∧ s.2.2.2.1 f = w)) (s.1 - k) k))) ∧ T1 = T) := by
  intro m
  induction m using Nat.strongRecOn with
  | ind m ih =>
    intro k hm hk
    subst hm
    have hI := hS.1
    refine xe (fun _ _ kK => x_iload dX1_find_3 0 rfl kK) ?_
    refine xe (fun _ _ kK => x_aload_n dX1_find_5 rfl 1 rfl kK) ?_
    refine xe (fun _ _ kK => x_get dX1_find_6 fl_X1_43 hI.1 (gvl_i fz_1_10.2.2 (show e_i T 74 p = nI s.1 from hS.2.1)) kK) ?_
    refine xe_icmp_ge (tgt := 44) dX1_find_9 (by decide) (fun h9 => ?_) (fun h9 => ?_)
    · -- pc 44
      have h9 := cv_le (by omega) (by omega) h9
      refine xe (fun _ _ kK => x_iconst dX1_find_44 (show _ = (-1) by decide) kK) ?_
      have e0 : s.1 - k = 0 := by omega
      exact xe_reti dX1_find_45 rfl (⟨by rw [e0]; rfl, rfl⟩)
    · -- pc 12
      have h9 := cv_nle (by omega) (by omega) h9
      have hb1 : oB (s.2.2.1 k) := hWb k h9
      have hN := hNb k h9
      refine xe (fun _ _ kK => x_aload_n dX1_find_12 rfl 1 rfl kK) ?_
      refine xe (fun _ _ kK => x_get dX1_find_13 fl_X1_22 hI.1 (gvl_r1 fz_1_3.2.2 (show e_r T 67 p = some (p + 4) from (hI.2.1 3 (by decide)))) kK) ?_
      refine xe (fun _ _ kK => x_iload dX1_find_16 0 rfl kK) ?_
      refine xe (fun _ _ kK => x_iald dX1_find_18 (show e_K _ (p + 4) = 20 from (hI.2.2.1 3 (by decide))) (show (nI k) = nI k from rfl) (shi_len hI 3 (by decide) (show k < 66 by omega)) (show e_ai T (p + 4) k = oI (s.2.2.1 k) from (hS.2.2.2.1 k h9).2.2.2.1) kK) ?_
      refine xe (fun _ _ kK => x_iload_n dX1_find_19 rfl 2 rfl kK) ?_
      refine xe_icmp_ne (tgt := 38) dX1_find_20 (by decide) (fun h20 => ?_) (fun h20 => ?_)
      · -- pc 38
        have h20 := cv_oon (by assumption) (by assumption) h20
        refine xe (fun _ _ kK => x_iinc dX1_find_38 0 rfl (show (nI k) + Int32.ofInt 1 = nI (k + 1) from nI_add k 1) (by decide) (show _ = [(4, .int (nI (k + 1))), (0, .ref p), (1, .int (oI o)), (2, .long (lN w))] from rfl) kK) ?_
        refine xe (fun _ _ kK => x_goto (tgt := 3) dX1_find_41 (by decide) kK) ?_
        have hs : fnd (fun f => decide (s.2.2.1 f = o ∧ s.2.2.2.1 f = w)) (s.1 - k) k = fnd (fun f => decide (s.2.2.1 f = o ∧ s.2.2.2.1 f = w)) (s.1 - (k + 1)) (k + 1) := by rw [show s.1 - k = (s.1 - (k + 1)) + 1 by omega, fnd, if_neg (by simp; intro z; exact absurd z h20)]
        rw [hs]
        exact xe_loc (by simp) (ih (s.1 - (k + 1)) (by omega) (k + 1) rfl (by omega))
      · -- pc 23
        have h20 := cv_oo (by assumption) (by assumption) h20
        refine xe (fun _ _ kK => x_aload_n dX1_find_23 rfl 1 rfl kK) ?_
        refine xe (fun _ _ kK => x_get dX1_find_24 fl_X1_9 hI.1 (gvl_r1 fz_1_0.2.2 (show e_r T 64 p = some (p + 1) from (hI.2.1 0 (by decide)))) kK) ?_
        refine xe (fun _ _ kK => x_iload dX1_find_27 0 rfl kK) ?_
        refine xe (fun _ _ kK => x_lald dX1_find_29 (show e_K _ (p + 1) = 23 from (hI.2.2.1 0 (by decide))) (show (nI k) = nI k from rfl) (shi_len hI 0 (by decide) (show k < 66 by omega)) (show e_al T (p + 1) k = lN (s.2.2.2.1 k) from (hS.2.2.2.1 k h9).1) kK) ?_
        refine xe (fun _ _ kK => x_lload_n dX1_find_30 rfl 3 rfl kK) ?_
        refine xe (fun _ _ kK => x_lcmp dX1_find_31 kK) ?_
        refine xe_if_ne (tgt := 38) dX1_find_32 (by decide) (fun h32 => ?_) (fun h32 => ?_)
        · -- pc 38
          have h32 := lc_ne h32
          have h32 := cvl_ne (by omega) (by omega) h32
          refine xe (fun _ _ kK => x_iinc dX1_find_38 0 rfl (show (nI k) + Int32.ofInt 1 = nI (k + 1) from nI_add k 1) (by decide) (show _ = [(4, .int (nI (k + 1))), (0, .ref p), (1, .int (oI o)), (2, .long (lN w))] from rfl) kK) ?_
          refine xe (fun _ _ kK => x_goto (tgt := 3) dX1_find_41 (by decide) kK) ?_
          have hs : fnd (fun f => decide (s.2.2.1 f = o ∧ s.2.2.2.1 f = w)) (s.1 - k) k = fnd (fun f => decide (s.2.2.1 f = o ∧ s.2.2.2.1 f = w)) (s.1 - (k + 1)) (k + 1) := by rw [show s.1 - k = (s.1 - (k + 1)) + 1 by omega, fnd, if_neg (by simp; intro _; exact h32)]
          rw [hs]
          exact xe_loc (by simp) (ih (s.1 - (k + 1)) (by omega) (k + 1) rfl (by omega))
        · -- pc 35
          have h32 := lc_eqn h32
          have h32 := cvl_eq (by omega) (by omega) h32
          refine xe (fun _ _ kK => x_iload dX1_find_35 0 rfl kK) ?_
          have hs : fnd (fun f => decide (s.2.2.1 f = o ∧ s.2.2.2.1 f = w)) (s.1 - k) k = some k := by rw [show s.1 - k = (s.1 - (k + 1)) + 1 by omega, fnd, if_pos (by simp; exact ⟨h20, h32⟩)]
          exact xe_reti dX1_find_37 rfl (⟨by rw [hs]; rfl, rfl⟩)

set_option maxHeartbeats 4000000 in
theorem c_X1_find (d : Nat) {T : TH} {p : Nat} {s : Sh} {en : Nat → Nat} {lo : Nat → Option Nat} (hS : CSp T p s en lo) (hs60 : s.1 ≤ 60) {o : Option Nat} {w : Nat} (hob : oB o) (hw : w < 2 ^ 63) (hWb : ∀ f, f < s.1 → oB (s.2.2.1 f)) (hNb : ∀ f, f < s.1 → s.2.2.2.1 f < 2 ^ 63) : Xe m_X1_find d 0 [(0, .ref p), (1, .int (oI o)), (2, .long (lN w))] [] T (fun r T1 => r = some (.int (oI (fnd (fun f => decide (s.2.2.1 f = o ∧ s.2.2.2.1 f = w)) s.1 0))) ∧ T1 = T) := by
  refine xe (fun _ _ kK => x_iconst dX1_find_0 (show _ = nI 0 by decide) kK) ?_
  refine xe (fun _ _ kK => x_istore dX1_find_1 (by decide) (show _ = [(4, .int (nI 0)), (0, .ref p), (1, .int (oI o)), (2, .long (lN w))] from rfl) kK) ?_
  exact xe_loc (by simp) (l_X1_find d hS hs60 hob hw hWb hNb s.1 0 rfl (Nat.zero_le _))

set_option maxHeartbeats 4000000 in
theorem c_X1_add (d : Nat) {T : TH} {p : Nat} {s : Sh} {en : Nat → Nat} {lo : Nat → Option Nat} (hS : CSp T p s en lo) (hs60 : s.1 ≤ 60) {o : Option Nat} {w : Nat} (hM0 : s.2.2.2.2.2.1 s.1 = 0) : Xe m_X1_add d 0 [(0, .ref p), (1, .long (lN w)), (3, .int (oI o))] [] T (fun r T1 => r = some (.int (nI s.1)) ∧ FrG [(74, p)] [p + 1, p + 2, p + 3, p + 4, p + 5, p + 9] T T1 ∧ CSp T1 p (s.1 + 1, s.2.1, va_up s.2.2.1 s.1 o, va_up s.2.2.2.1 s.1 w, va_up s.2.2.2.2.1 s.1 2, s.2.2.2.2.2.1, s.2.2.2.2.2.2) (va_up en s.1 (s.1 + 1)) (va_up lo s.1 none)) := by
  have hI := hS.1
  refine xe (fun _ _ kK => x_aload_n dX1_add_0 rfl 0 rfl kK) ?_
  refine xe (fun _ _ kK => x_get dX1_add_1 fl_X1_43 hI.1 (gvl_i fz_1_10.2.2 (show e_i T 74 p = nI s.1 from hS.2.1)) kK) ?_
  refine xe (fun _ _ kK => x_bipush dX1_add_4 (show _ = nI 66 by decide) kK) ?_
  refine xe (fun _ _ kK => x_icmp_ltT (tgt := 11) dX1_add_6 (by decide) ((nI_ltI (by omega) (by omega)).mpr (by omega)) kK) ?_
  refine xe (fun _ _ kK => x_aload_n dX1_add_11 rfl 0 rfl kK) ?_
  refine xe (fun _ _ kK => x_get dX1_add_12 fl_X1_43 hI.1 (gvl_i fz_1_10.2.2 (show e_i T 74 p = nI s.1 from hS.2.1)) kK) ?_
  refine xe (fun _ _ kK => x_istore dX1_add_15 (by decide) (show _ = [(4, .int (nI s.1)), (0, .ref p), (1, .long (lN w)), (3, .int (oI o))] from rfl) kK) ?_
  refine xe (fun _ _ kK => x_aload_n dX1_add_17 rfl 1 rfl kK) ?_
  refine xe (fun _ _ kK => x_dup dX1_add_18 rfl kK) ?_
  refine xe (fun _ _ kK => x_get dX1_add_19 fl_X1_43 hI.1 (gvl_i fz_1_10.2.2 (show e_i T 74 p = nI s.1 from hS.2.1)) kK) ?_
  refine xe (fun _ _ kK => x_iconst dX1_add_22 (show _ = nI 1 by decide) kK) ?_
  refine xe (fun _ _ kK => x_iadd dX1_add_23 kK) ?_
  refine xe_ti (show _ = nI (s.1 + 1) from nI_add s.1 1) ?_
  refine xe (fun _ _ kK => x_puti dX1_add_24 ⟨fl_X1_43, fz_1_10.1, fz_1_10.2.1⟩ (Or.inl fz_1_10.2.2) rfl rfl hI.1 kK) ?_
  refine xe (fun _ _ kK => x_aload_n dX1_add_27 rfl 1 rfl kK) ?_
  refine xe (fun _ _ kK => x_get dX1_add_28 fl_X1_9 (wK_i hI.1) (gvl_r1 fz_1_0.2.2 (show e_r (s_i T 74 p (nI (s.1 + 1))) 64 p = some (p + 1) from (wr_i (hI.2.1 0 (by decide))))) kK) ?_
  refine xe (fun _ _ kK => x_iload dX1_add_31 0 rfl kK) ?_
  refine xe (fun _ _ kK => x_lload_n dX1_add_33 rfl 2 rfl kK) ?_
  refine xe (fun _ _ kK => x_last dX1_add_34 (wK_i (show e_K _ (p + 1) = 23 from (hI.2.2.1 0 (by decide)))) (show (nI s.1) = nI s.1 from rfl) (wN_i (shi_len hI 0 (by decide) (show s.1 < 66 by omega))) kK) ?_
  refine xe (fun _ _ kK => x_aload_n dX1_add_35 rfl 1 rfl kK) ?_
  refine xe (fun _ _ kK => x_get dX1_add_36 fl_X1_22 (wK_al (wK_i hI.1)) (gvl_r1 fz_1_3.2.2 (show e_r (s_al (s_i T 74 p (nI (s.1 + 1))) (p + 1) s.1 (lN w)) 67 p = some (p + 4) from (wr_al (wr_i (hI.2.1 3 (by decide)))))) kK) ?_
  refine xe (fun _ _ kK => x_iload dX1_add_39 0 rfl kK) ?_
  refine xe (fun _ _ kK => x_iload_n dX1_add_41 rfl 3 rfl kK) ?_
  refine xe (fun _ _ kK => x_iast dX1_add_42 (wK_al (wK_i (show e_K _ (p + 4) = 20 from (hI.2.2.1 3 (by decide))))) (show (nI s.1) = nI s.1 from rfl) (wN_al (wN_i (shi_len hI 3 (by decide) (show s.1 < 66 by omega)))) kK) ?_
  refine xe (fun _ _ kK => x_aload_n dX1_add_43 rfl 1 rfl kK) ?_
  refine xe (fun _ _ kK => x_get dX1_add_44 fl_X1_15 (wK_ai (wK_al (wK_i hI.1))) (gvl_r1 fz_1_1.2.2 (show e_r (s_ai (s_al (s_i T 74 p (nI (s.1 + 1))) (p + 1) s.1 (lN w)) (p + 4) s.1 (oI o)) 65 p = some (p + 2) from (wr_ai (wr_al (wr_i (hI.2.1 1 (by decide))))))) kK) ?_
  refine xe (fun _ _ kK => x_iload dX1_add_47 0 rfl kK) ?_
  refine xe (fun _ _ kK => x_iconst dX1_add_49 (show _ = nI 3 by decide) kK) ?_
  refine xe (fun _ _ kK => x_iast dX1_add_50 (wK_ai (wK_al (wK_i (show e_K _ (p + 2) = 20 from (hI.2.2.1 1 (by decide)))))) (show (nI s.1) = nI s.1 from rfl) (wN_ai (wN_al (wN_i (shi_len hI 1 (by decide) (show s.1 < 66 by omega))))) kK) ?_
  refine xe (fun _ _ kK => x_aload_n dX1_add_51 rfl 1 rfl kK) ?_
  refine xe (fun _ _ kK => x_get dX1_add_52 fl_X1_19 (wK_ai (wK_ai (wK_al (wK_i hI.1)))) (gvl_r1 fz_1_2.2.2 (show e_r (s_ai (s_ai (s_al (s_i T 74 p (nI (s.1 + 1))) (p + 1) s.1 (lN w)) (p + 4) s.1 (oI o)) (p + 2) s.1 (nI 3)) 66 p = some (p + 3) from (wr_ai (wr_ai (wr_al (wr_i (hI.2.1 2 (by decide)))))))) kK) ?_
  refine xe (fun _ _ kK => x_iload dX1_add_55 0 rfl kK) ?_
  refine xe (fun _ _ kK => x_iconst dX1_add_57 (show _ = nI 1 by decide) kK) ?_
  refine xe (fun _ _ kK => x_iast dX1_add_58 (wK_ai (wK_ai (wK_al (wK_i (show e_K _ (p + 3) = 20 from (hI.2.2.1 2 (by decide))))))) (show (nI s.1) = nI s.1 from rfl) (wN_ai (wN_ai (wN_al (wN_i (shi_len hI 2 (by decide) (show s.1 < 66 by omega)))))) kK) ?_
  refine xe (fun _ _ kK => x_aload_n dX1_add_59 rfl 1 rfl kK) ?_
  refine xe (fun _ _ kK => x_get dX1_add_60 fl_X1_25 (wK_ai (wK_ai (wK_ai (wK_al (wK_i hI.1))))) (gvl_r1 fz_1_4.2.2 (show e_r (s_ai (s_ai (s_ai (s_al (s_i T 74 p (nI (s.1 + 1))) (p + 1) s.1 (lN w)) (p + 4) s.1 (oI o)) (p + 2) s.1 (nI 3)) (p + 3) s.1 (nI 1)) 68 p = some (p + 5) from (wr_ai (wr_ai (wr_ai (wr_al (wr_i (hI.2.1 4 (by decide))))))))) kK) ?_
  refine xe (fun _ _ kK => x_iload dX1_add_63 0 rfl kK) ?_
  refine xe (fun _ _ kK => x_aload_n dX1_add_65 rfl 1 rfl kK) ?_
  refine xe (fun _ _ kK => x_get dX1_add_66 fl_X1_43 (wK_ai (wK_ai (wK_ai (wK_al (wK_i hI.1))))) (gvl_i fz_1_10.2.2 (show e_i (s_ai (s_ai (s_ai (s_al (s_i T 74 p (nI (s.1 + 1))) (p + 1) s.1 (lN w)) (p + 4) s.1 (oI o)) (p + 2) s.1 (nI 3)) (p + 3) s.1 (nI 1)) 74 p = nI (s.1 + 1) from (ei_s _ _ _ _))) kK) ?_
  refine xe (fun _ _ kK => x_iast dX1_add_69 (wK_ai (wK_ai (wK_ai (wK_al (wK_i (show e_K _ (p + 5) = 20 from (hI.2.2.1 4 (by decide)))))))) (show (nI s.1) = nI s.1 from rfl) (wN_ai (wN_ai (wN_ai (wN_al (wN_i (shi_len hI 4 (by decide) (show s.1 < 66 by omega))))))) kK) ?_
  refine xe (fun _ _ kK => x_aload_n dX1_add_70 rfl 1 rfl kK) ?_
  refine xe (fun _ _ kK => x_get dX1_add_71 fl_X1_37 (wK_ai (wK_ai (wK_ai (wK_ai (wK_al (wK_i hI.1)))))) (gvl_r1 fz_1_8.2.2 (show e_r (s_ai (s_ai (s_ai (s_ai (s_al (s_i T 74 p (nI (s.1 + 1))) (p + 1) s.1 (lN w)) (p + 4) s.1 (oI o)) (p + 2) s.1 (nI 3)) (p + 3) s.1 (nI 1)) (p + 5) s.1 (nI (s.1 + 1))) 72 p = some (p + 9) from (wr_ai (wr_ai (wr_ai (wr_ai (wr_al (wr_i (hI.2.1 8 (by decide)))))))))) kK) ?_
  refine xe (fun _ _ kK => x_iload dX1_add_74 0 rfl kK) ?_
  refine xe (fun _ _ kK => x_iconst dX1_add_76 (show _ = (-1) by decide) kK) ?_
  refine xe (fun _ _ kK => x_iast dX1_add_77 (wK_ai (wK_ai (wK_ai (wK_ai (wK_al (wK_i (show e_K _ (p + 9) = 20 from (hI.2.2.1 8 (by decide))))))))) (show (nI s.1) = nI s.1 from rfl) (wN_ai (wN_ai (wN_ai (wN_ai (wN_al (wN_i (shi_len hI 8 (by decide) (show s.1 < 66 by omega)))))))) kK) ?_
  refine xe (fun _ _ kK => x_iload dX1_add_78 0 rfl kK) ?_
  have hF : FrG [(74, p)] [p + 1, p + 2, p + 3, p + 4, p + 5, p + 9] T (s_ai (s_ai (s_ai (s_ai (s_ai (s_al (s_i T 74 p (nI (s.1 + 1))) (p + 1) s.1 (lN w)) (p + 4) s.1 (oI o)) (p + 2) s.1 (nI 3)) (p + 3) s.1 (nI 1)) (p + 5) s.1 (nI (s.1 + 1))) (p + 9) s.1 (-1)) := (FrG.sai (FrG.sai (FrG.sai (FrG.sai (FrG.sai (FrG.sal (FrG.si FrG.rf (by simp) _) (by simp) _ _) (by simp) _ _) (by simp) _ _) (by simp) _ _) (by simp) _ _) (by simp) _ _)
  refine xe_reti dX1_add_80 rfl (⟨rfl, hF, hF.shi hI, by simp [q_i_i, q_i_l, q_i_ai, q_i_al, q_ai_ai, q_ai_i, q_ai_l, q_ai_al, q_al_al, q_al_i, q_al_ai, q_al_l, q_l_i, q_l_l, q_l_ai, q_l_al], by simp [q_i_i, q_i_l, q_i_ai, q_i_al, q_ai_ai, q_ai_i, q_ai_l, q_ai_al, q_al_al, q_al_i, q_al_ai, q_al_l, q_l_i, q_l_l, q_l_ai, q_l_al]; exact hS.2.2.1, fun f hf => ?_, fun c hc => ?_⟩)
  · by_cases e9 : f = s.1
    · subst e9; refine ⟨?_, ?_, ?_, ?_, ?_, ?_⟩
      · show _ = lN (va_up s.2.2.2.1 s.1 w s.1); simp [q_i_i, q_i_l, q_i_ai, q_i_al, q_ai_ai, q_ai_i, q_ai_l, q_ai_al, q_al_al, q_al_i, q_al_ai, q_al_l, q_l_i, q_l_l, q_l_ai, q_l_al, va_up]
      · show _ = nI (va_up s.2.2.2.2.1 s.1 2 s.1 + 1); simp [q_i_i, q_i_l, q_i_ai, q_i_al, q_ai_ai, q_ai_i, q_ai_l, q_ai_al, q_al_al, q_al_i, q_al_ai, q_al_l, q_l_i, q_l_l, q_l_ai, q_l_al, va_up]
      · show _ = nI (s.2.2.2.2.2.1 s.1 + 1); rw [hM0]; simp [q_i_i, q_i_l, q_i_ai, q_i_al, q_ai_ai, q_ai_i, q_ai_l, q_ai_al, q_al_al, q_al_i, q_al_ai, q_al_l, q_l_i, q_l_l, q_l_ai, q_l_al]
      · show _ = oI (va_up s.2.2.1 s.1 o s.1); simp [q_i_i, q_i_l, q_i_ai, q_i_al, q_ai_ai, q_ai_i, q_ai_l, q_ai_al, q_al_al, q_al_i, q_al_ai, q_al_l, q_l_i, q_l_l, q_l_ai, q_l_al, va_up]
      · show _ = nI (va_up en s.1 (s.1 + 1) s.1); simp [q_i_i, q_i_l, q_i_ai, q_i_al, q_ai_ai, q_ai_i, q_ai_l, q_ai_al, q_al_al, q_al_i, q_al_ai, q_al_l, q_l_i, q_l_l, q_l_ai, q_l_al, va_up]
      · show _ = oI (va_up lo s.1 none s.1); simp [q_i_i, q_i_l, q_i_ai, q_i_al, q_ai_ai, q_ai_i, q_ai_l, q_ai_al, q_al_al, q_al_i, q_al_ai, q_al_l, q_l_i, q_l_l, q_l_ai, q_l_al, va_up, oI]
    · have hf2 : f < s.1 + 1 := hf
      have h1 := hS.2.2.2.1 f (by omega)
      show _ = lN (va_up s.2.2.2.1 s.1 w f) ∧ _ = nI (va_up s.2.2.2.2.1 s.1 2 f + 1) ∧ _ = nI (s.2.2.2.2.2.1 f + 1) ∧ _ = oI (va_up s.2.2.1 s.1 o f) ∧ _ = nI (va_up en s.1 (s.1 + 1) f) ∧ _ = oI (va_up lo s.1 none f)
      simp [q_i_i, q_i_l, q_i_ai, q_i_al, q_ai_ai, q_ai_i, q_ai_l, q_ai_al, q_al_al, q_al_i, q_al_ai, q_al_l, q_l_i, q_l_l, q_l_ai, q_l_al, va_up, e9]; exact h1
  · have h1 := hS.2.2.2.2 c hc; simp [q_i_i, q_i_l, q_i_ai, q_i_al, q_ai_ai, q_ai_i, q_ai_l, q_ai_al, q_al_al, q_al_i, q_al_ai, q_al_l, q_l_i, q_l_l, q_l_ai, q_l_al]; exact h1

set_option maxHeartbeats 4000000 in
theorem c_X1_makeLeaf (d : Nat) {T : TH} {p : Nat} {s : Sh} {en : Nat → Nat} {lo : Nat → Option Nat} (hS : CSp T p s en lo) (hs60 : s.1 ≤ 60) {f kd : Nat} (hf : f < s.1) (hc12 : s.2.1 ≤ 12) : Xe m_X1_makeLeaf (d + 1) 0 [(0, .ref p), (1, .int (nI f)), (2, .int (nI (kd + 1)))] [] T (if s.2.1 = 12 then (fun r T1 => r = some (.int (nI 0)) ∧ T1 = T) else (fun r T1 => r = some (.int (nI 1)) ∧ FrG [(75, p)] [p + 2, p + 9, p + 10] T T1 ∧ CSp T1 p (s.1, s.2.1 + 1, s.2.2.1, s.2.2.2.1, va_up s.2.2.2.2.1 f kd, s.2.2.2.2.2.1, va_up s.2.2.2.2.2.2 s.2.1 f) en (va_up lo f (some s.2.1)))) := by
  have hI := hS.1
  refine xe (fun _ _ kK => x_aload_n dX1_makeLeaf_0 rfl 0 rfl kK) ?_
  refine xe (fun _ _ kK => x_get dX1_makeLeaf_1 fl_X1_47 hI.1 (gvl_i fz_1_11.2.2 (show e_i T 75 p = nI s.2.1 from hS.2.2.1)) kK) ?_
  refine xe (fun _ _ kK => x_bipush dX1_makeLeaf_4 (show _ = nI 12 by decide) kK) ?_
  refine xe_icmp_ge (tgt := 17) dX1_makeLeaf_6 (by decide) (fun h6 => ?_) (fun h6 => ?_)
  · -- pc 17
    have h6 := cv_le (by omega) (by omega) h6
    refine xe (fun _ _ kK => x_iconst dX1_makeLeaf_17 (show _ = nI 0 by decide) kK) ?_
    rw [if_pos (by omega)]
    exact xe_retz dX1_makeLeaf_18 rfl (by first | exact Or.inl rfl | exact Or.inr rfl) (⟨rfl, rfl⟩)
  · -- pc 9
    have h6 := cv_nle (by omega) (by omega) h6
    refine xe (fun _ _ kK => x_aload_n dX1_makeLeaf_9 rfl 0 rfl kK) ?_
    refine xe (fun _ _ kK => x_iload_n dX1_makeLeaf_10 rfl 1 rfl kK) ?_
    refine xe_callV (a := p) [.int (nI f)] dX1_makeLeaf_11 ml_X1_50 mf_X1_isField hI.1 (c_X1_isField d hI hS.2.1 (by omega) (nI f)) rfl rfl (Nat.le_of_ble_eq_true rfl) (Nat.le_of_ble_eq_true rfl) ?_
    rintro _ T9 ⟨rfl, hTq9⟩
    refine xe_T hTq9 ?_
    rw [ix_in hf (by omega)]
    refine xe (fun _ _ kK => x_if_neT (tgt := 19) dX1_makeLeaf_14 (by decide) (show ¬ bI true = 0 by decide) kK) ?_
    refine xe (fun _ _ kK => x_aload_n dX1_makeLeaf_19 rfl 0 rfl kK) ?_
    refine xe (fun _ _ kK => x_get dX1_makeLeaf_20 fl_X1_15 hI.1 (gvl_r1 fz_1_1.2.2 (show e_r T 65 p = some (p + 2) from (hI.2.1 1 (by decide)))) kK) ?_
    refine xe (fun _ _ kK => x_iload_n dX1_makeLeaf_23 rfl 1 rfl kK) ?_
    refine xe (fun _ _ kK => x_iload_n dX1_makeLeaf_24 rfl 2 rfl kK) ?_
    refine xe (fun _ _ kK => x_iast dX1_makeLeaf_25 (show e_K _ (p + 2) = 20 from (hI.2.2.1 1 (by decide))) (show (nI f) = nI f from rfl) (shi_len hI 1 (by decide) (show f < 66 by omega)) kK) ?_
    refine xe (fun _ _ kK => x_aload_n dX1_makeLeaf_26 rfl 0 rfl kK) ?_
    refine xe (fun _ _ kK => x_get dX1_makeLeaf_27 fl_X1_37 (wK_ai hI.1) (gvl_r1 fz_1_8.2.2 (show e_r (s_ai T (p + 2) f (nI (kd + 1))) 72 p = some (p + 9) from (wr_ai (hI.2.1 8 (by decide))))) kK) ?_
    refine xe (fun _ _ kK => x_iload_n dX1_makeLeaf_30 rfl 1 rfl kK) ?_
    refine xe (fun _ _ kK => x_aload_n dX1_makeLeaf_31 rfl 0 rfl kK) ?_
    refine xe (fun _ _ kK => x_get dX1_makeLeaf_32 fl_X1_47 (wK_ai hI.1) (gvl_i fz_1_11.2.2 (show e_i (s_ai T (p + 2) f (nI (kd + 1))) 75 p = nI s.2.1 from (wi_ai hS.2.2.1))) kK) ?_
    refine xe (fun _ _ kK => x_iast dX1_makeLeaf_35 (wK_ai (show e_K _ (p + 9) = 20 from (hI.2.2.1 8 (by decide)))) (show (nI f) = nI f from rfl) (wN_ai (shi_len hI 8 (by decide) (show f < 66 by omega))) kK) ?_
    refine xe (fun _ _ kK => x_aload_n dX1_makeLeaf_36 rfl 0 rfl kK) ?_
    refine xe (fun _ _ kK => x_get dX1_makeLeaf_37 fl_X1_40 (wK_ai (wK_ai hI.1)) (gvl_r1 fz_1_9.2.2 (show e_r (s_ai (s_ai T (p + 2) f (nI (kd + 1))) (p + 9) f (nI s.2.1)) 73 p = some (p + 10) from (wr_ai (wr_ai (hI.2.1 9 (by decide)))))) kK) ?_
    refine xe (fun _ _ kK => x_aload_n dX1_makeLeaf_40 rfl 0 rfl kK) ?_
    refine xe (fun _ _ kK => x_get dX1_makeLeaf_41 fl_X1_47 (wK_ai (wK_ai hI.1)) (gvl_i fz_1_11.2.2 (show e_i (s_ai (s_ai T (p + 2) f (nI (kd + 1))) (p + 9) f (nI s.2.1)) 75 p = nI s.2.1 from (wi_ai (wi_ai hS.2.2.1)))) kK) ?_
    refine xe (fun _ _ kK => x_iload_n dX1_makeLeaf_44 rfl 1 rfl kK) ?_
    refine xe (fun _ _ kK => x_iast dX1_makeLeaf_45 (wK_ai (wK_ai (show e_K _ (p + 10) = 20 from (hI.2.2.1 9 (by decide))))) (show (nI s.2.1) = nI s.2.1 from rfl) (wN_ai (wN_ai (shi_len hI 9 (by decide) (show s.2.1 < 12 by omega)))) kK) ?_
    refine xe (fun _ _ kK => x_aload_n dX1_makeLeaf_46 rfl 0 rfl kK) ?_
    refine xe (fun _ _ kK => x_dup dX1_makeLeaf_47 rfl kK) ?_
    refine xe (fun _ _ kK => x_get dX1_makeLeaf_48 fl_X1_47 (wK_ai (wK_ai (wK_ai hI.1))) (gvl_i fz_1_11.2.2 (show e_i (s_ai (s_ai (s_ai T (p + 2) f (nI (kd + 1))) (p + 9) f (nI s.2.1)) (p + 10) s.2.1 (nI f)) 75 p = nI s.2.1 from (wi_ai (wi_ai (wi_ai hS.2.2.1))))) kK) ?_
    refine xe (fun _ _ kK => x_iconst dX1_makeLeaf_51 (show _ = nI 1 by decide) kK) ?_
    refine xe (fun _ _ kK => x_iadd dX1_makeLeaf_52 kK) ?_
    refine xe_ti (show _ = nI (s.2.1 + 1) from nI_add s.2.1 1) ?_
    refine xe (fun _ _ kK => x_puti dX1_makeLeaf_53 ⟨fl_X1_47, fz_1_11.1, fz_1_11.2.1⟩ (Or.inl fz_1_11.2.2) rfl rfl (wK_ai (wK_ai (wK_ai hI.1))) kK) ?_
    refine xe (fun _ _ kK => x_iconst dX1_makeLeaf_56 (show _ = nI 1 by decide) kK) ?_
    have hF : FrG [(75, p)] [p + 2, p + 9, p + 10] T (s_i (s_ai (s_ai (s_ai T (p + 2) f (nI (kd + 1))) (p + 9) f (nI s.2.1)) (p + 10) s.2.1 (nI f)) 75 p (nI (s.2.1 + 1))) := (FrG.si (FrG.sai (FrG.sai (FrG.sai FrG.rf (by simp) _ _) (by simp) _ _) (by simp) _ _) (by simp) _)
    rw [if_neg (by omega)]
    refine xe_retz dX1_makeLeaf_57 rfl (by first | exact Or.inl rfl | exact Or.inr rfl) (⟨rfl, hF, hF.shi hI, by simp [q_i_i, q_i_l, q_i_ai, q_i_al, q_ai_ai, q_ai_i, q_ai_l, q_ai_al, q_al_al, q_al_i, q_al_ai, q_al_l, q_l_i, q_l_l, q_l_ai, q_l_al]; exact hS.2.1, by simp [q_i_i, q_i_l, q_i_ai, q_i_al, q_ai_ai, q_ai_i, q_ai_l, q_ai_al, q_al_al, q_al_i, q_al_ai, q_al_l, q_l_i, q_l_l, q_l_ai, q_l_al], fun g hg => ?_, fun c hc => ?_⟩)
    · have h1 := hS.2.2.2.1 g hg
      show _ = lN (s.2.2.2.1 g) ∧ _ = nI (va_up s.2.2.2.2.1 f kd g + 1) ∧ _ = nI (s.2.2.2.2.2.1 g + 1) ∧ _ = oI (s.2.2.1 g) ∧ _ = nI (en g) ∧ _ = oI (va_up lo f (some s.2.1) g)
      by_cases e9 : g = f
      · subst e9; simp [q_i_i, q_i_l, q_i_ai, q_i_al, q_ai_ai, q_ai_i, q_ai_l, q_ai_al, q_al_al, q_al_i, q_al_ai, q_al_l, q_l_i, q_l_l, q_l_ai, q_l_al, va_up, oI]; exact ⟨h1.1, h1.2.2.1, h1.2.2.2.1, h1.2.2.2.2.1⟩
      · simp [q_i_i, q_i_l, q_i_ai, q_i_al, q_ai_ai, q_ai_i, q_ai_l, q_ai_al, q_al_al, q_al_i, q_al_ai, q_al_l, q_l_i, q_l_l, q_l_ai, q_l_al, va_up, e9]; exact h1
    · have hc2 : c < s.2.1 + 1 := hc
      show _ = nI (va_up s.2.2.2.2.2.2 s.2.1 f c)
      by_cases e9 : c = s.2.1
      · subst e9; simp [q_i_i, q_i_l, q_i_ai, q_i_al, q_ai_ai, q_ai_i, q_ai_l, q_ai_al, q_al_al, q_al_i, q_al_ai, q_al_l, q_l_i, q_l_l, q_l_ai, q_l_al, va_up]
      · have h1 := hS.2.2.2.2 c (by omega); simp [q_i_i, q_i_l, q_i_ai, q_i_al, q_ai_ai, q_ai_i, q_ai_l, q_ai_al, q_al_al, q_al_i, q_al_ai, q_al_l, q_l_i, q_l_l, q_l_ai, q_l_al, va_up, e9]; exact h1
