/-! indices as they come from the script -/
def ix (x : Int32) (n : Nat) : Option Nat := if x < 0 then none else if x.toNatClampNeg < n then some x.toNatClampNeg else none
theorem ix_neg {x : Int32} {n : Nat} (h : x < 0) : ix x n = none := if_pos h
theorem ix_nI {j n : Nat} (hj : j < 2 ^ 31) : ix (nI j) n = if j < n then some j else none := by
  unfold ix
  rw [if_neg (nI_pos hj), nI_clamp hj]
theorem ix_lt {x : Int32} {n j : Nat} (h : ix x n = some j) : j < n ∧ x = nI j ∧ j < 2 ^ 31 := by
  by_cases hx : x < 0
  · rw [ix_neg hx] at h; cases h
  · obtain ⟨k, hk, rfl⟩ := nI_of hx
    rw [ix_nI hk] at h
    split at h
    · cases h; exact ⟨by assumption, rfl, hk⟩
    · cases h
theorem ix_in {j n : Nat} (h : j < n) (hj : j < 2 ^ 31) : ix (nI j) n = some j := by rw [ix_nI hj, if_pos h]
theorem ix_out {j n : Nat} (h : n ≤ j) (hj : j < 2 ^ 31) : ix (nI j) n = none := by rw [ix_nI hj, if_neg (by omega)]
noncomputable def pB (p : Prop) : Bool := @decide p (Classical.propDecidable p)
theorem pB_t {p : Prop} (h : p) : pB p = true := by unfold pB; exact @decide_eq_true p (Classical.propDecidable p) h
theorem pB_f {p : Prop} (h : ¬ p) : pB p = false := by unfold pB; exact @decide_eq_false p (Classical.propDecidable p) h
theorem pB_of {p : Prop} (h : pB p = true) : p := by unfold pB at h; exact @of_decide_eq_true p (Classical.propDecidable p) h
theorem pB_no {p : Prop} (h : pB p = false) : ¬ p := by unfold pB at h; exact @of_decide_eq_false p (Classical.propDecidable p) h

set_option maxHeartbeats 4000000 in
theorem c_X8_end (d : Nat) {T : TH} (hM : MI T) {n : Nat} (ht : e_i T 513 88 = nI n) (hn : n ≤ 400) (x : Int32) : Xe m_X8_end d 0 [(0, .ref 88), (1, .int x)] [] T (fun r T1 => r = some (.int (bI (ix x (n + 1)).isSome)) ∧ T1 = match ix x (n + 1) with
    | none => T
    | some j => s_i T 513 88 (nI j)) := by
  by_cases hx : x < 0
  · -- pc 0
    refine xe (fun _ _ kK => x_iload_n dX8_end_0 rfl 1 rfl kK) ?_
    refine xe (fun _ _ kK => x_if_ltT (tgt := 12) dX8_end_1 (by decide) hx kK) ?_
    refine xe (fun _ _ kK => x_iconst dX8_end_12 (show _ = nI 0 by decide) kK) ?_
    exact xe_retz dX8_end_13 rfl (by first | exact Or.inl rfl | exact Or.inr rfl) (⟨r_0 (by rw [ix_neg hx]; rfl), by rw [ix_neg hx]⟩)
  · -- pc 0
    obtain ⟨j, hj, rfl⟩ := nI_of hx
    refine xe (fun _ _ kK => x_iload_n dX8_end_0 rfl 1 rfl kK) ?_
    refine xe (fun _ _ kK => x_if_ltF (tgt := 12) dX8_end_1 (by decide) hx kK) ?_
    refine xe (fun _ _ kK => x_iload_n dX8_end_4 rfl 1 rfl kK) ?_
    refine xe (fun _ _ kK => x_aload_n dX8_end_5 rfl 0 rfl kK) ?_
    refine xe (fun _ _ kK => x_get dX8_end_6 fl_X8_129 hM.1 (gvl_i fz_8_1.2.2 (show e_i T 513 88 = nI n from ht)) kK) ?_
    refine xe_icmp_le (tgt := 14) dX8_end_9 (by decide) (fun h9 => ?_) (fun h9 => ?_)
    · -- pc 14
      have h9 := cv_le (by omega) (by omega) h9
      refine xe (fun _ _ kK => x_aload_n dX8_end_14 rfl 0 rfl kK) ?_
      refine xe (fun _ _ kK => x_iload_n dX8_end_15 rfl 1 rfl kK) ?_
      refine xe (fun _ _ kK => x_puti dX8_end_16 ⟨fl_X8_129, fz_8_1.1, fz_8_1.2.1⟩ (Or.inl fz_8_1.2.2) rfl rfl hM.1 kK) ?_
      refine xe (fun _ _ kK => x_iconst dX8_end_19 (show _ = nI 1 by decide) kK) ?_
      exact xe_retz dX8_end_20 rfl (by first | exact Or.inl rfl | exact Or.inr rfl) (⟨r_1 (by rw [ix_in (by omega) hj]; rfl), by rw [ix_in (by omega) hj]⟩)
    · -- pc 12
      have h9 := cv_nle (by omega) (by omega) h9
      refine xe (fun _ _ kK => x_iconst dX8_end_12 (show _ = nI 0 by decide) kK) ?_
      exact xe_retz dX8_end_13 rfl (by first | exact Or.inl rfl | exact Or.inr rfl) (⟨r_0 (by rw [ix_out (by omega) hj]; rfl), by rw [ix_out (by omega) hj]⟩)

set_option maxHeartbeats 4000000 in
theorem c_X8_fault (d : Nat) {T : TH} (hM : MI T) (x : Int32) : Xe m_X8_fault d 0 [(0, .ref 88), (1, .int x)] [] T (fun r T1 => r = some (.int (if x = 0 then e_i T 518 88 else if x = nI 1 then e_i T 519 88 else -1)) ∧ T1 = T) := by
  refine xe (fun _ _ kK => x_iload_n dX8_fault_0 rfl 1 rfl kK) ?_
  refine xe_if_ne (tgt := 11) dX8_fault_1 (by decide) (fun h1 => ?_) (fun h1 => ?_)
  · -- pc 11
    refine xe (fun _ _ kK => x_iload_n dX8_fault_11 rfl 1 rfl kK) ?_
    refine xe (fun _ _ kK => x_iconst dX8_fault_12 (show _ = nI 1 by decide) kK) ?_
    refine xe_icmp_ne (tgt := 23) dX8_fault_13 (by decide) (fun h13 => ?_) (fun h13 => ?_)
    · -- pc 23
      refine xe (fun _ _ kK => x_iconst dX8_fault_23 (show _ = (-1) by decide) kK) ?_
      exact xe_reti dX8_fault_24 rfl (⟨by rw [if_neg h1, if_neg h13], rfl⟩)
    · -- pc 16
      refine xe (fun _ _ kK => x_aload_n dX8_fault_16 rfl 0 rfl kK) ?_
      refine xe (fun _ _ kK => x_get dX8_fault_17 fl_X8_13 hM.1 (gvl_i fz_8_7.2.2 (show e_i T 519 88 = e_i T 519 88 from rfl)) kK) ?_
      refine xe (fun _ _ kK => x_goto (tgt := 24) dX8_fault_20 (by decide) kK) ?_
      exact xe_reti dX8_fault_24 rfl (⟨by rw [if_neg h1, if_pos h13], rfl⟩)
  · -- pc 4
    refine xe (fun _ _ kK => x_aload_n dX8_fault_4 rfl 0 rfl kK) ?_
    refine xe (fun _ _ kK => x_get dX8_fault_5 fl_X8_162 hM.1 (gvl_i fz_8_6.2.2 (show e_i T 518 88 = e_i T 518 88 from rfl)) kK) ?_
    refine xe (fun _ _ kK => x_goto (tgt := 24) dX8_fault_8 (by decide) kK) ?_
    exact xe_reti dX8_fault_24 rfl (⟨by rw [if_pos h1], rfl⟩)

set_option maxHeartbeats 4000000 in
theorem c_X8_isPaper (d : Nat) {T : TH} (hM : MI T) {n : Nat} (ht : e_i T 543 88 = nI n) (hn : n ≤ 30) (x : Int32) : Xe m_X8_isPaper d 0 [(0, .ref 88), (1, .int x)] [] T (fun r T1 => r = some (.int (bI (ix x n).isSome)) ∧ T1 = T) := by
  by_cases hx : x < 0
  · -- pc 0
    refine xe (fun _ _ kK => x_iload_n dX8_isPaper_0 rfl 1 rfl kK) ?_
    refine xe (fun _ _ kK => x_if_ltT (tgt := 16) dX8_isPaper_1 (by decide) hx kK) ?_
    refine xe (fun _ _ kK => x_iconst dX8_isPaper_16 (show _ = nI 0 by decide) kK) ?_
    exact xe_retz dX8_isPaper_17 rfl (by first | exact Or.inl rfl | exact Or.inr rfl) (⟨r_0 (by rw [ix_neg hx]; rfl), rfl⟩)
  · -- pc 0
    obtain ⟨j, hj, rfl⟩ := nI_of hx
    refine xe (fun _ _ kK => x_iload_n dX8_isPaper_0 rfl 1 rfl kK) ?_
    refine xe (fun _ _ kK => x_if_ltF (tgt := 16) dX8_isPaper_1 (by decide) hx kK) ?_
    refine xe (fun _ _ kK => x_iload_n dX8_isPaper_4 rfl 1 rfl kK) ?_
    refine xe (fun _ _ kK => x_aload_n dX8_isPaper_5 rfl 0 rfl kK) ?_
    refine xe (fun _ _ kK => x_get dX8_isPaper_6 fl_X8_214 hM.1 (gvl_i fz_8_31.2.2 (show e_i T 543 88 = nI n from ht)) kK) ?_
    refine xe_icmp_ge (tgt := 16) dX8_isPaper_9 (by decide) (fun h9 => ?_) (fun h9 => ?_)
    · -- pc 16
      have h9 := cv_le (by omega) (by omega) h9
      refine xe (fun _ _ kK => x_iconst dX8_isPaper_16 (show _ = nI 0 by decide) kK) ?_
      exact xe_retz dX8_isPaper_17 rfl (by first | exact Or.inl rfl | exact Or.inr rfl) (⟨r_0 (by rw [ix_out (by omega) hj]; rfl), rfl⟩)
    · -- pc 12
      have h9 := cv_nle (by omega) (by omega) h9
      refine xe (fun _ _ kK => x_iconst dX8_isPaper_12 (show _ = nI 1 by decide) kK) ?_
      refine xe (fun _ _ kK => x_goto (tgt := 17) dX8_isPaper_13 (by decide) kK) ?_
      exact xe_retz dX8_isPaper_17 rfl (by first | exact Or.inl rfl | exact Or.inr rfl) (⟨r_1 (by rw [ix_in (by omega) hj]; rfl), rfl⟩)

set_option maxHeartbeats 4000000 in
theorem c_X8_isLeaf (d : Nat) {T : TH} (hM : MI T) {n : Nat} (hs : e_i T 525 88 = nI 1) (ht : e_i T 527 88 = nI n) (hn : n ≤ 12) (x : Int32) : Xe m_X8_isLeaf d 0 [(0, .ref 88), (1, .int x)] [] T (fun r T1 => r = some (.int (bI (ix x n).isSome)) ∧ T1 = T) := by
  by_cases hx : x < 0
  · -- pc 0
    refine xe (fun _ _ kK => x_aload_n dX8_isLeaf_0 rfl 0 rfl kK) ?_
    refine xe (fun _ _ kK => x_get dX8_isLeaf_1 fl_X8_204 hM.1 (gvl_z fz_8_13.2.2 (show e_i T 525 88 = nI 1 from hs)) kK) ?_
    refine xe (fun _ _ kK => x_if_eqF (tgt := 23) dX8_isLeaf_4 (by decide) (by decide) kK) ?_
    refine xe (fun _ _ kK => x_iload_n dX8_isLeaf_7 rfl 1 rfl kK) ?_
    refine xe (fun _ _ kK => x_if_ltT (tgt := 23) dX8_isLeaf_8 (by decide) hx kK) ?_
    refine xe (fun _ _ kK => x_iconst dX8_isLeaf_23 (show _ = nI 0 by decide) kK) ?_
    exact xe_retz dX8_isLeaf_24 rfl (by first | exact Or.inl rfl | exact Or.inr rfl) (⟨r_0 (by rw [ix_neg hx]; rfl), rfl⟩)
  · -- pc 0
    obtain ⟨j, hj, rfl⟩ := nI_of hx
    refine xe (fun _ _ kK => x_aload_n dX8_isLeaf_0 rfl 0 rfl kK) ?_
    refine xe (fun _ _ kK => x_get dX8_isLeaf_1 fl_X8_204 hM.1 (gvl_z fz_8_13.2.2 (show e_i T 525 88 = nI 1 from hs)) kK) ?_
    refine xe (fun _ _ kK => x_if_eqF (tgt := 23) dX8_isLeaf_4 (by decide) (by decide) kK) ?_
    refine xe (fun _ _ kK => x_iload_n dX8_isLeaf_7 rfl 1 rfl kK) ?_
    refine xe (fun _ _ kK => x_if_ltF (tgt := 23) dX8_isLeaf_8 (by decide) hx kK) ?_
    refine xe (fun _ _ kK => x_iload_n dX8_isLeaf_11 rfl 1 rfl kK) ?_
    refine xe (fun _ _ kK => x_aload_n dX8_isLeaf_12 rfl 0 rfl kK) ?_
    refine xe (fun _ _ kK => x_get dX8_isLeaf_13 fl_X8_211 hM.1 (gvl_i fz_8_15.2.2 (show e_i T 527 88 = nI n from ht)) kK) ?_
    refine xe_icmp_ge (tgt := 23) dX8_isLeaf_16 (by decide) (fun h16 => ?_) (fun h16 => ?_)
    · -- pc 23
      have h16 := cv_le (by omega) (by omega) h16
      refine xe (fun _ _ kK => x_iconst dX8_isLeaf_23 (show _ = nI 0 by decide) kK) ?_
      exact xe_retz dX8_isLeaf_24 rfl (by first | exact Or.inl rfl | exact Or.inr rfl) (⟨r_0 (by rw [ix_out (by omega) hj]; rfl), rfl⟩)
    · -- pc 19
      have h16 := cv_nle (by omega) (by omega) h16
      refine xe (fun _ _ kK => x_iconst dX8_isLeaf_19 (show _ = nI 1 by decide) kK) ?_
      refine xe (fun _ _ kK => x_goto (tgt := 24) dX8_isLeaf_20 (by decide) kK) ?_
      exact xe_retz dX8_isLeaf_24 rfl (by first | exact Or.inl rfl | exact Or.inr rfl) (⟨r_1 (by rw [ix_in (by omega) hj]; rfl), rfl⟩)

set_option maxHeartbeats 4000000 in
theorem c_X8_isLeaf0 (d : Nat) {T : TH} (hM : MI T) (hs : e_i T 525 88 = nI 0) (x : Int32) : Xe m_X8_isLeaf d 0 [(0, .ref 88), (1, .int x)] [] T (fun r T1 => r = some (.int (nI 0)) ∧ T1 = T) := by
  refine xe (fun _ _ kK => x_aload_n dX8_isLeaf_0 rfl 0 rfl kK) ?_
  refine xe (fun _ _ kK => x_get dX8_isLeaf_1 fl_X8_204 hM.1 (gvl_z fz_8_13.2.2 (show e_i T 525 88 = nI 0 from hs)) kK) ?_
  refine xe (fun _ _ kK => x_if_eqT (tgt := 23) dX8_isLeaf_4 (by decide) nI_0 kK) ?_
  refine xe (fun _ _ kK => x_iconst dX8_isLeaf_23 (show _ = nI 0 by decide) kK) ?_
  exact xe_retz dX8_isLeaf_24 rfl (by first | exact Or.inl rfl | exact Or.inr rfl) (⟨rfl, rfl⟩)

set_option maxHeartbeats 4000000 in
theorem c_X8_at (d : Nat) {T : TH} (hM : MI T) {n : Nat} (ht : e_i T 562 88 = nI n) (hn : n ≤ 1000) (x : Int32) : Xe m_X8_at d 0 [(0, .ref 88), (1, .int x)] [] T (fun r T1 => r = some (.int (match ix x n with
    | none => -1
    | some j => e_ai T 117 j)) ∧ T1 = T) := by
  by_cases hx : x < 0
  · -- pc 0
    refine xe (fun _ _ kK => x_iload_n dX8_at_0 rfl 1 rfl kK) ?_
    refine xe (fun _ _ kK => x_if_ltT (tgt := 21) dX8_at_1 (by decide) hx kK) ?_
    refine xe (fun _ _ kK => x_iconst dX8_at_21 (show _ = (-1) by decide) kK) ?_
    exact xe_reti dX8_at_22 rfl (⟨by rw [ix_neg hx], rfl⟩)
  · -- pc 0
    obtain ⟨j, hj, rfl⟩ := nI_of hx
    refine xe (fun _ _ kK => x_iload_n dX8_at_0 rfl 1 rfl kK) ?_
    refine xe (fun _ _ kK => x_if_ltF (tgt := 21) dX8_at_1 (by decide) hx kK) ?_
    refine xe (fun _ _ kK => x_iload_n dX8_at_4 rfl 1 rfl kK) ?_
    refine xe (fun _ _ kK => x_aload_n dX8_at_5 rfl 0 rfl kK) ?_
    refine xe (fun _ _ kK => x_get dX8_at_6 fl_X8_301 hM.1 (gvl_i fz_8_50.2.2 (show e_i T 562 88 = nI n from ht)) kK) ?_
    refine xe_icmp_ge (tgt := 21) dX8_at_9 (by decide) (fun h9 => ?_) (fun h9 => ?_)
    · -- pc 21
      have h9 := cv_le (by omega) (by omega) h9
      refine xe (fun _ _ kK => x_iconst dX8_at_21 (show _ = (-1) by decide) kK) ?_
      exact xe_reti dX8_at_22 rfl (⟨by rw [ix_out (by omega) hj], rfl⟩)
    · -- pc 12
      have h9 := cv_nle (by omega) (by omega) h9
      refine xe (fun _ _ kK => x_aload_n dX8_at_12 rfl 0 rfl kK) ?_
      refine xe (fun _ _ kK => x_get dX8_at_13 fl_X8_120 hM.1 (gvl_r1 fz_8_51.2.2 (show e_r T 563 88 = some 117 from (hM.2.1 51))) kK) ?_
      refine xe (fun _ _ kK => x_iload_n dX8_at_16 rfl 1 rfl kK) ?_
      refine xe (fun _ _ kK => x_iald dX8_at_17 (hM.2.2.1 28 (by decide)) (show (nI j) = nI j from rfl) (mi_len hM 28 (by decide) (show j < 1000 by omega)) (show e_ai T 117 j = e_ai T 117 j from rfl) kK) ?_
      refine xe (fun _ _ kK => x_goto (tgt := 22) dX8_at_18 (by decide) kK) ?_
      exact xe_reti dX8_at_22 rfl (⟨by rw [ix_in (by omega) hj], rfl⟩)
