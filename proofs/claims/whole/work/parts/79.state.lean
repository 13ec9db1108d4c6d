set_option maxHeartbeats 4000000 in
theorem z_X8_isRow (d : Nat) {T : TH} (hM : MI T) (hs : e_i T 525 88 = nI 0) (x : Int32) (y : Int32) : Xe m_X8_isRow (d + 1) 0 [(0, .ref 88), (1, .int x), (2, .int y)] [] T (fun r T1 => r = some (.int (nI 0)) ∧ T1 = T) := by
  refine xe (fun _ _ kK => x_aload_n dX8_isRow_0 rfl 0 rfl kK) ?_
  refine xe (fun _ _ kK => x_iload_n dX8_isRow_1 rfl 1 rfl kK) ?_
  refine xe_callV (a := 88) [.int x] dX8_isRow_2 ml_X8_289 mf_X8_isLeaf hM.1 (c_X8_isLeaf0 d hM hs x) rfl rfl (Nat.le_of_ble_eq_true rfl) (Nat.le_of_ble_eq_true rfl) ?_
  rintro _ T9 ⟨rfl, hTq9⟩
  refine xe_T hTq9 ?_
  refine xe (fun _ _ kK => x_if_eqT (tgt := 12) dX8_isRow_5 (by decide) nI_0 kK) ?_
  refine xe (fun _ _ kK => x_iconst dX8_isRow_12 (show _ = nI 0 by decide) kK) ?_
  exact xe_retz dX8_isRow_13 rfl (by first | exact Or.inl rfl | exact Or.inr rfl) (⟨rfl, rfl⟩)

set_option maxHeartbeats 4000000 in
theorem z_X8_leaf (d : Nat) {T : TH} (hM : MI T) (hs : e_i T 525 88 = nI 0) (x : Int32) (y : Int32) : Xe m_X8_leaf (d + 1) 0 [(0, .ref 88), (1, .int x), (2, .int y)] [] T (fun r T1 => r = some (.int (-1)) ∧ T1 = T) := by
  refine xe (fun _ _ kK => x_aload_n dX8_leaf_0 rfl 0 rfl kK) ?_
  refine xe (fun _ _ kK => x_iload_n dX8_leaf_1 rfl 1 rfl kK) ?_
  refine xe_callV (a := 88) [.int x] dX8_leaf_2 ml_X8_289 mf_X8_isLeaf hM.1 (c_X8_isLeaf0 d hM hs x) rfl rfl (Nat.le_of_ble_eq_true rfl) (Nat.le_of_ble_eq_true rfl) ?_
  rintro _ T9 ⟨rfl, hTq9⟩
  refine xe_T hTq9 ?_
  refine xe (fun _ _ kK => x_if_neF (tgt := 10) dX8_leaf_5 (by decide) nI_0 kK) ?_
  refine xe (fun _ _ kK => x_iconst dX8_leaf_8 (show _ = (-1) by decide) kK) ?_
  exact xe_reti dX8_leaf_9 rfl (⟨rfl, rfl⟩)

set_option maxHeartbeats 4000000 in
theorem z_X8_row (d : Nat) {T : TH} (hM : MI T) (hs : e_i T 525 88 = nI 0) (x : Int32) (y : Int32) (z : Int32) : Xe m_X8_row (d + 1 + 1) 0 [(0, .ref 88), (1, .int x), (2, .int y), (3, .int z)] [] T (fun r T1 => r = some (.int (-1)) ∧ T1 = T) := by
  refine xe (fun _ _ kK => x_aload_n dX8_row_0 rfl 0 rfl kK) ?_
  refine xe (fun _ _ kK => x_iload_n dX8_row_1 rfl 1 rfl kK) ?_
  refine xe (fun _ _ kK => x_iload_n dX8_row_2 rfl 2 rfl kK) ?_
  refine xe_callV (a := 88) [.int x, .int y] dX8_row_3 ml_X8_298 mf_X8_isRow hM.1 (z_X8_isRow d hM hs x y) rfl rfl (Nat.le_of_ble_eq_true rfl) (Nat.le_of_ble_eq_true rfl) ?_
  rintro _ T9 ⟨rfl, hTq9⟩
  refine xe_T hTq9 ?_
  refine xe (fun _ _ kK => x_if_neF (tgt := 11) dX8_row_6 (by decide) nI_0 kK) ?_
  refine xe (fun _ _ kK => x_iconst dX8_row_9 (show _ = (-1) by decide) kK) ?_
  exact xe_reti dX8_row_10 rfl (⟨rfl, rfl⟩)

set_option maxHeartbeats 4000000 in
theorem z_X8_value (d : Nat) {T : TH} (hM : MI T) (hs : e_i T 525 88 = nI 0) (x : Int32) (y : Int32) : Xe m_X8_value (d + 1 + 1) 0 [(0, .ref 88), (1, .int x), (2, .int y)] [] T (fun r T1 => r = some (.long (lN 0)) ∧ T1 = T) := by
  refine xe (fun _ _ kK => x_aload_n dX8_value_0 rfl 0 rfl kK) ?_
  refine xe (fun _ _ kK => x_iload_n dX8_value_1 rfl 1 rfl kK) ?_
  refine xe (fun _ _ kK => x_iload_n dX8_value_2 rfl 2 rfl kK) ?_
  refine xe_callV (a := 88) [.int x, .int y] dX8_value_3 ml_X8_298 mf_X8_isRow hM.1 (z_X8_isRow d hM hs x y) rfl rfl (Nat.le_of_ble_eq_true rfl) (Nat.le_of_ble_eq_true rfl) ?_
  rintro _ T9 ⟨rfl, hTq9⟩
  refine xe_T hTq9 ?_
  refine xe (fun _ _ kK => x_if_eqT (tgt := 27) dX8_value_6 (by decide) nI_0 kK) ?_
  refine xe (fun _ _ kK => x_lconst dX8_value_27 (show _ = lN 0 by decide) kK) ?_
  exact xe_retl dX8_value_28 rfl (⟨rfl, rfl⟩)

set_option maxHeartbeats 4000000 in
theorem z_X8_among (d : Nat) {T : TH} (hM : MI T) (hs : e_i T 525 88 = nI 0) (x : Int32) (p : Int64) (q : Int64) : Xe m_X8_among (d + 1) 0 [(0, .ref 88), (1, .int x), (2, .long p), (4, .long q)] [] T (fun r T1 => r = some (.int (-1)) ∧ T1 = T) := by
  refine xe (fun _ _ kK => x_aload_n dX8_among_0 rfl 0 rfl kK) ?_
  refine xe (fun _ _ kK => x_iload_n dX8_among_1 rfl 1 rfl kK) ?_
  refine xe_callV (a := 88) [.int x] dX8_among_2 ml_X8_289 mf_X8_isLeaf hM.1 (c_X8_isLeaf0 d hM hs x) rfl rfl (Nat.le_of_ble_eq_true rfl) (Nat.le_of_ble_eq_true rfl) ?_
  rintro _ T9 ⟨rfl, hTq9⟩
  refine xe_T hTq9 ?_
  refine xe (fun _ _ kK => x_if_neF (tgt := 10) dX8_among_5 (by decide) nI_0 kK) ?_
  refine xe (fun _ _ kK => x_iconst dX8_among_8 (show _ = (-1) by decide) kK) ?_
  exact xe_reti dX8_among_9 rfl (⟨rfl, rfl⟩)

set_option maxHeartbeats 4000000 in
theorem z_X8_papers (d : Nat) {T : TH} (hM : MI T) (hs : e_i T 525 88 = nI 0) (x : Int32) (p : Int64) (q : Int64) : Xe m_X8_papers (d + 1) 0 [(0, .ref 88), (1, .int x), (2, .long p), (4, .long q)] [] T (fun r T1 => r = some (.int (-1)) ∧ T1 = T) := by
  refine xe (fun _ _ kK => x_aload_n dX8_papers_0 rfl 0 rfl kK) ?_
  refine xe (fun _ _ kK => x_iload_n dX8_papers_1 rfl 1 rfl kK) ?_
  refine xe_callV (a := 88) [.int x] dX8_papers_2 ml_X8_289 mf_X8_isLeaf hM.1 (c_X8_isLeaf0 d hM hs x) rfl rfl (Nat.le_of_ble_eq_true rfl) (Nat.le_of_ble_eq_true rfl) ?_
  rintro _ T9 ⟨rfl, hTq9⟩
  refine xe_T hTq9 ?_
  refine xe (fun _ _ kK => x_if_neF (tgt := 10) dX8_papers_5 (by decide) nI_0 kK) ?_
  refine xe (fun _ _ kK => x_iconst dX8_papers_8 (show _ = (-1) by decide) kK) ?_
  exact xe_reti dX8_papers_9 rfl (⟨rfl, rfl⟩)

set_option maxHeartbeats 4000000 in
theorem z_X8_sum (d : Nat) {T : TH} (hM : MI T) (hs : e_i T 525 88 = nI 0) (x : Int32) (y : Int32) : Xe m_X8_sum (d + 1) 0 [(0, .ref 88), (1, .int x), (2, .int y)] [] T (fun r T1 => r = some (.long (lN 0)) ∧ T1 = T) := by
  refine xe (fun _ _ kK => x_aload_n dX8_sum_0 rfl 0 rfl kK) ?_
  refine xe (fun _ _ kK => x_iload_n dX8_sum_1 rfl 1 rfl kK) ?_
  refine xe_callV (a := 88) [.int x] dX8_sum_2 ml_X8_289 mf_X8_isLeaf hM.1 (c_X8_isLeaf0 d hM hs x) rfl rfl (Nat.le_of_ble_eq_true rfl) (Nat.le_of_ble_eq_true rfl) ?_
  rintro _ T9 ⟨rfl, hTq9⟩
  refine xe_T hTq9 ?_
  refine xe (fun _ _ kK => x_if_eqT (tgt := 35) dX8_sum_5 (by decide) nI_0 kK) ?_
  refine xe (fun _ _ kK => x_lconst dX8_sum_35 (show _ = lN 0 by decide) kK) ?_
  exact xe_retl dX8_sum_36 rfl (⟨rfl, rfl⟩)

set_option maxHeartbeats 4000000 in
theorem z_X8_both (d : Nat) {T : TH} (hM : MI T) (hs : e_i T 525 88 = nI 0) (x : Int32) (p : Int64) (y : Int32) (q : Int64) : Xe m_X8_both (d + 1) 0 [(0, .ref 88), (1, .int x), (2, .long p), (4, .int y), (5, .long q)] [] T (fun r T1 => r = some (.int (-1)) ∧ T1 = T) := by
  refine xe (fun _ _ kK => x_aload_n dX8_both_0 rfl 0 rfl kK) ?_
  refine xe (fun _ _ kK => x_iload_n dX8_both_1 rfl 1 rfl kK) ?_
  refine xe_callV (a := 88) [.int x] dX8_both_2 ml_X8_289 mf_X8_isLeaf hM.1 (c_X8_isLeaf0 d hM hs x) rfl rfl (Nat.le_of_ble_eq_true rfl) (Nat.le_of_ble_eq_true rfl) ?_
  rintro _ T9 ⟨rfl, hTq9⟩
  refine xe_T hTq9 ?_
  refine xe (fun _ _ kK => x_if_eqT (tgt := 17) dX8_both_5 (by decide) nI_0 kK) ?_
  refine xe (fun _ _ kK => x_iconst dX8_both_17 (show _ = (-1) by decide) kK) ?_
  exact xe_reti dX8_both_18 rfl (⟨rfl, rfl⟩)

set_option maxHeartbeats 4000000 in
theorem z_X8_rows (d : Nat) {T : TH} (hM : MI T) (hs : e_i T 525 88 = nI 0) (x : Int32) (y : Int32) (z : Int32) : Xe m_X8_rows (d + 1) 0 [(0, .ref 88), (1, .int x), (2, .int y), (3, .int z)] [] T (fun r T1 => r = some (.int (-1)) ∧ T1 = T) := by
  refine xe (fun _ _ kK => x_aload_n dX8_rows_0 rfl 0 rfl kK) ?_
  refine xe (fun _ _ kK => x_iload_n dX8_rows_1 rfl 1 rfl kK) ?_
  refine xe_callV (a := 88) [.int x] dX8_rows_2 ml_X8_289 mf_X8_isLeaf hM.1 (c_X8_isLeaf0 d hM hs x) rfl rfl (Nat.le_of_ble_eq_true rfl) (Nat.le_of_ble_eq_true rfl) ?_
  rintro _ T9 ⟨rfl, hTq9⟩
  refine xe_T hTq9 ?_
  refine xe (fun _ _ kK => x_if_neF (tgt := 10) dX8_rows_5 (by decide) nI_0 kK) ?_
  refine xe (fun _ _ kK => x_iconst dX8_rows_8 (show _ = (-1) by decide) kK) ?_
  exact xe_reti dX8_rows_9 rfl (⟨rfl, rfl⟩)

/-! the state of both: the class's part, the reference's part -/
def CIn (T : TH) (A : Nat → Nat → Nat) (cp : Nat → Nat) (cu sp : Nat) (s : Sh) (en : Nat → Nat) (lo : Nat → Option Nat) (ps : PS) (n : Nat) (b : Nat → Nat) (tx : List Nat) (fk fq : Int32) : Prop :=
  (CI T ∧ e_r T 451 0 = some cu ∧ e_r T 452 0 = some sp ∧ ((cu = 66 ∧ sp = 77) ∨ (cu = 77 ∧ sp = 66)) ∧ e_i T 453 0 = nI ps.1) ∧ (CBt T n b ∧ e_i T 257 1 = nI n ∧ n ≤ 400 ∧ e_i T 259 1 = fk ∧ e_i T 260 1 = fq) ∧ (CSp T cu s en lo ∧ MsK T cu s s.1 ∧ PShp s en lo ∧ PPs s ps) ∧ TbA T A cp ∧ (∀ c, c < s.2.1 → TbR T A cp c (tOf s ps c) ∧ TbL T s c) ∧ CTx T tx
def RIn (T : TH) (hs : Bool) (s : Sh) (ps : PS) (n : Nat) (b : Nat → Nat) (tx : List Nat) (fk fq : Int32) : Prop :=
  MI T ∧ Bt T n b ∧ e_i T 513 88 = nI n ∧ (e_i T 518 88 = fk ∧ e_i T 519 88 = fq) ∧ TXs T tx ∧ (hs = true → e_i T 525 88 = nI 1 ∧ MSh T s ∧ 0 < s.2.1) ∧ (hs = false → e_i T 525 88 = nI 0 ∧ s.2.1 = 0 ∧ ps.1 = 0) ∧ MP T ps
theorem CIn.ofA {S : Nat → Prop} {T T1 : TH} {A : Nat → Nat → Nat} {cp : Nat → Nat} {cu sp n : Nat} {s : Sh} {en : Nat → Nat} {lo : Nat → Option Nat} {ps : PS} {b : Nat → Nat} {tx : List Nat} {fk fq : Int32} (h : CIn T A cp cu sp s en lo ps n b tx fk fq) (hF : FrA S T T1) (hS : ∀ x, (x < 88 ∨ 120 ≤ x) → ¬ S x) : CIn T1 A cp cu sp s en lo ps n b tx fk fq := by
  obtain ⟨⟨c1, c2, c3, c4, c5⟩, ⟨t1, t2, t3, t4, t5⟩, ⟨s1, s2, s3, s4⟩, hA, hR, hX⟩ := h
  have z0 := hS 0 (by omega)
  have z1 := hS 1 (by omega)
  have h12 := s3.2.2.1
  have hAn : ∀ c k, c < 12 → k < 4 → ¬ S (A c k) := fun c k hc hk => hS _ (by have := (hA.2.1 c k hc hk).2.2.2.2; omega)
  exact ⟨⟨c1.ofA hF (fun a h1 h2 => hS a (by omega)), (hF.r z0).trans c2, (hF.r z0).trans c3, c4, (hF.i z0).trans c5⟩, ⟨t1.ofA hF (hS 2 (by omega)), (hF.i z1).trans t2, t3, (hF.i z1).trans t4, (hF.i z1).trans t5⟩, ⟨s1.ofA hF (fun a h1 h2 => hS a (by omega)), s2.ofA hF (fun a h1 h2 => hS a (by omega)), s3, s4⟩, hA.ofA hF (fun c hc => hS _ (by omega)) hAn, fun c hc => ⟨(hR c hc).1.ofA hF (hS _ (by omega)) (fun k hk => hAn c k (by omega) hk), (hR c hc).2.ofA hF (hS _ (by omega))⟩, hX.ofA hF (hS _ (by omega)) (hS _ (by omega))⟩
theorem RIn.ofA {S : Nat → Prop} {T T1 : TH} {hs : Bool} {s : Sh} {ps : PS} {n : Nat} {b : Nat → Nat} {tx : List Nat} {fk fq : Int32} (h : RIn T hs s ps n b tx fk fq) (hF : FrA S T T1) (hS : ∀ x, 88 ≤ x → x < 120 → ¬ S x) : RIn T1 hs s ps n b tx fk fq := by
  obtain ⟨⟨m1, m2, m3, m4, m5⟩, r2, r3, ⟨r4, r5⟩, r6, r7, r8, r9⟩ := h
  have z := hS 88 (by omega) (by omega)
  have hM : MI T1 := ⟨(hF.K z).trans m1, fun k => (hF.r z).trans (m2 k), fun k hk => by rw [hF.K (hS _ (by omega) (by omega))]; exact m3 k hk, fun k hk => by rw [hF.len (hS _ (by omega) (by omega))]; exact m4 k hk, fun k h1 h2 => (hF.l z).trans (m5 k h1 h2)⟩
  have ai : ∀ a, 88 ≤ a → a < 120 → e_ai T1 a = e_ai T a := fun a h1 h2 => hF.ai (hS a h1 h2)
  have al : ∀ a, 88 ≤ a → a < 120 → e_al T1 a = e_al T a := fun a h1 h2 => hF.al (hS a h1 h2)
  refine ⟨hM, fun j hj => by rw [ai 89 (by omega) (by omega)]; exact r2 j hj, (hF.i z).trans r3, ⟨(hF.i z).trans r4, (hF.i z).trans r5⟩, ⟨(hF.i z).trans r6.1, fun k c hk => by rw [ai 117 (by omega) (by omega)]; exact r6.2 k c hk⟩, fun e => ?_, fun e => ⟨(hF.i z).trans (r8 e).1, (r8 e).2⟩, ?_⟩
  · obtain ⟨q1, ⟨q2, q3, q4, q5⟩, q6⟩ := r7 e
    refine ⟨(hF.i z).trans q1, ⟨(hF.i z).trans q2, (hF.i z).trans q3, fun f hf => ?_, fun c hc => ?_⟩, q6⟩
    · rw [ai 90 (by omega) (by omega), al 91 (by omega) (by omega), ai 92 (by omega) (by omega), ai 93 (by omega) (by omega)]; exact q4 f hf
    · rw [ai 94 (by omega) (by omega)]; exact q5 c hc
  · exact r9.of (hF.i z) (fun i _ _ => by rw [ai 102 (by omega) (by omega)]) (fun j _ => ⟨by rw [ai 103 (by omega) (by omega)], by rw [ai 104 (by omega) (by omega)], by rw [al 105 (by omega) (by omega)]⟩)
theorem CIn.cu {T : TH} {A : Nat → Nat → Nat} {cp : Nat → Nat} {cu sp n : Nat} {s : Sh} {en : Nat → Nat} {lo : Nat → Option Nat} {ps : PS} {b : Nat → Nat} {tx : List Nat} {fk fq : Int32} (h : CIn T A cp cu sp s en lo ps n b tx fk fq) : CU T cu s.2.1 := ⟨h.1.1, h.1.2.1, by have := h.1.2.2.2.1; omega, h.2.2.1.1.2.2.1, h.2.2.1.2.2.1.2.2.1⟩
theorem CIn.cq {T : TH} {A : Nat → Nat → Nat} {cp : Nat → Nat} {cu sp n : Nat} {s : Sh} {en : Nat → Nat} {lo : Nat → Option Nat} {ps : PS} {b : Nat → Nat} {tx : List Nat} {fk fq : Int32} (h : CIn T A cp cu sp s en lo ps n b tx fk fq) : CQ T cu s ps := by
  have hU := h.cu
  obtain ⟨-, -, ⟨s1, s2, s3, s4⟩, hA, hR, hX⟩ := h
  have h12 := s3.2.2.1
  refine ⟨hU, fun c hc => ?_, s4.rq s3⟩
  have := (hA.1 c (by omega)).2.2
  exact ⟨_, _, _, _, cp c, hA.tb (by omega) (hR c hc).1 (hR c hc).2, by omega⟩
theorem RIn.mqh {T : TH} {s : Sh} {en : Nat → Nat} {lo : Nat → Option Nat} {ps : PS} {n : Nat} {b : Nat → Nat} {tx : List Nat} {fk fq : Int32} (h : RIn T true s ps n b tx fk fq) (s3 : PShp s en lo) (s4 : PPs s ps) : MQh T s ps := by
  obtain ⟨r1, r2, r3, r4, r6, r7, r8, r9⟩ := h
  obtain ⟨q1, q2, q3⟩ := r7 rfl
  exact ⟨r1, q1, q2, s3.sg, r9, s4.pg s3⟩
theorem PShp.pos {s : Sh} {en : Nat → Nat} {lo : Nat → Option Nat} (h : PShp s en lo) (h0 : s.1 ≠ 0) : 0 < s.2.1 := by
  obtain ⟨hV, -⟩ := h
  have hk : s.2.2.2.2.1 (s.1 - 1) ≠ 2 := fun hk => by
    have h1 := (hV.2.2.2.2.1 (s.1 - 1) (by omega) List.not_mem_nil).2.1 hk
    have h2 := (hV.2.2.1 (s.1 - 1) (by omega)).2.2
    omega
  obtain ⟨c, hc, -⟩ := (hV.2.2.2.2.2.2.2.1 (s.1 - 1) (by omega)).2 hk
  omega
