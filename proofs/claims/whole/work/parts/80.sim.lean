/-! each call: the class and the reference answer alike -/
def Rs (T : TH) (cp : Nat → Nat) (k : Nat) : Prop := e_n T ≤ 120 + 3 * k + smC cp 12 ∧ e_s T ≤ 70000 + 79 * k + 12 * smC cp 12
def LIn (Z : Nat × (Nat → Int32)) (T : TH) (k : Nat) : Prop := e_sc T = Z ∧ ∃ (hs : Bool) (s : Sh) (en : Nat → Nat) (lo : Nat → Option Nat) (ps : PS) (n : Nat) (b : Nat → Nat) (tx : List Nat) (fk fq : Int32) (A : Nat → Nat → Nat) (cp : Nat → Nat) (cu sp : Nat), CIn T A cp cu sp s en lo ps n b tx fk fq ∧ RIn T hs s ps n b tx fk fq ∧ Rs T cp k
def Sim (Z : Nat × (Nat → Int32)) (mx mr : MR) (As : List Value) (T : TH) (k : Nat) (V : Value) : Prop := ∃ M : TH → Prop, Xe mx 999 0 (lv_args 0 (.ref 0 :: As)) [] T (fun r T1 => r = some V ∧ M T1) ∧ ∀ T1, M T1 → e_K T1 88 = 9 ∧ e_sc T1 = Z ∧ Xe mr 999 0 (lv_args 0 (.ref 88 :: As)) [] T1 (fun r T2 => r = some V ∧ LIn Z T2 (k + 1))
theorem CIn.ofM {fs as : List Nat} {T T1 : TH} {A : Nat → Nat → Nat} {cp : Nat → Nat} {cu sp n : Nat} {s : Sh} {en : Nat → Nat} {lo : Nat → Option Nat} {ps : PS} {b : Nat → Nat} {tx : List Nat} {fk fq : Int32} (h : CIn T A cp cu sp s en lo ps n b tx fk fq) (hF : FrM fs as T T1) (ha : ∀ a ∈ as, 88 ≤ a ∧ a < 120) : CIn T1 A cp cu sp s en lo ps n b tx fk fq :=
  h.ofA (S := fun x => 88 ≤ x ∧ x < 120) (hF.A (by omega) ha) (fun x hx hs => by omega)
theorem RIn.frm {fs as : List Nat} {T T1 : TH} {hs : Bool} {s : Sh} {ps ps' : PS} {n n' : Nat} {b b' : Nat → Nat} {tx tx' : List Nat} {fk fq fk' fq' : Int32} (h : RIn T hs s ps n b tx fk fq) (hF : FrM fs as T T1) (h1 : Bt T1 n' b') (h2 : e_i T1 513 88 = nI n') (h3 : e_i T1 518 88 = fk' ∧ e_i T1 519 88 = fq') (h4 : TXs T1 tx') (h5 : MP T1 ps') (h6 : ∀ g ∈ [525, 526, 527], g ∉ fs) (h7 : ∀ a ∈ as, a ∉ [90, 91, 92, 93, 94]) (h8 : hs = false → ps'.1 = 0) : RIn T1 hs s ps' n' b' tx' fk' fq' := by
  obtain ⟨m, -, -, -, -, r7, r8, -⟩ := h
  refine ⟨hF.mi m, h1, h2, h3, h4, fun e => ?_, fun e => ?_, h5⟩
  · obtain ⟨q1, q2, q3⟩ := r7 e
    exact ⟨(hF.i (fun z => h6 525 (by decide) z.2)).trans q1, q2.of hF (h6 526 (by decide)) (h6 527 (by decide)) h7, q3⟩
  · obtain ⟨q1, q2, q3⟩ := r8 e
    exact ⟨(hF.i (fun z => h6 525 (by decide) z.2)).trans q1, q2, h8 e⟩
theorem RIn.same {fs as : List Nat} {T T1 : TH} {hs : Bool} {s : Sh} {ps : PS} {n : Nat} {b : Nat → Nat} {tx : List Nat} {fk fq : Int32} (h : RIn T hs s ps n b tx fk fq) (hF : FrM fs as T T1) (h1 : ∀ g ∈ [513, 518, 519, 525, 526, 527, 543, 562], g ∉ fs) (h2 : ∀ a ∈ [89, 90, 91, 92, 93, 94, 102, 103, 104, 105, 117], a ∉ as) : RIn T1 hs s ps n b tx fk fq := by
  obtain ⟨m, r2, r3, r4, r6, r7, r8, r9⟩ := id h
  have hi : ∀ g ∈ [513, 518, 519, 525, 526, 527, 543, 562], e_i T1 g 88 = e_i T g 88 := fun g hg => hF.i (fun z => h1 g hg z.2)
  exact h.frm hF (fun j hj => by rw [hF.ai (h2 89 (by decide))]; exact r2 j hj) ((hi 513 (by decide)).trans r3) ⟨(hi 518 (by decide)).trans r4.1, (hi 519 (by decide)).trans r4.2⟩ (r6.of hF (h1 562 (by decide)) (h2 117 (by decide))) (r9.ofF hF (h1 543 (by decide)) (h2 102 (by decide)) (h2 103 (by decide)) (h2 104 (by decide)) (h2 105 (by decide))) (fun g hg => h1 g (by revert hg; simp; omega)) (fun a ha z => h2 a (by revert z; simp; omega) ha) (fun e => (r8 e).2.2)
theorem Rs.up {T T1 : TH} {cp : Nat → Nat} {k : Nat} (h : Rs T cp k) (h1 : e_n T1 ≤ e_n T + 3) (h2 : e_s T1 ≤ e_s T + 79) : Rs T1 cp (k + 1) := ⟨by have := h.1; omega, by have := h.2; omega⟩
/-- what only asks -/
theorem sim_q {Z : Nat × (Nat → Int32)} {mx mr : MR} {As : List Value} {T : TH} {k : Nat} {V : Value} (h : LIn Z T k) (hc : Xe mx 999 0 (lv_args 0 (.ref 0 :: As)) [] T (fun r T1 => r = some V ∧ T1 = T)) (hr : Xe mr 999 0 (lv_args 0 (.ref 88 :: As)) [] T (fun r T1 => r = some V ∧ FrM fsTb asTb T T1)) : Sim Z mx mr As T k V := by
  obtain ⟨hz, hs, s, en, lo, ps, n, b, tx, fk, fq, A, cp, cu, sp, hC, hR, hRs⟩ := h
  refine ⟨fun T1 => T1 = T, hc, ?_⟩
  rintro T1 rfl
  refine ⟨hR.1.1, hz, hr.imp ?_⟩
  rintro r T2 ⟨h1, hF⟩
  exact ⟨h1, hF.2.2.2.2.2.2.2.1.trans hz, hs, s, en, lo, ps, n, b, tx, fk, fq, A, cp, cu, sp, hC.ofM hF (by decide), hR.same hF (by decide) (by decide), hRs.up (by rw [hF.2.2.2.2.2.1]; omega) (by rw [hF.2.2.2.2.2.2.1]; omega)⟩
theorem ix0 {x : Int32} : ix x 0 = none := by
  unfold ix
  split
  · rfl
  · rw [if_neg (by omega)]
theorem frT {V : Value} {mr : MR} {L : List (Nat × Value)} {T : TH} (h : Xe mr 999 0 L [] T (fun r T1 => r = some V ∧ T1 = T)) : Xe mr 999 0 L [] T (fun r T1 => r = some V ∧ FrM fsTb asTb T T1) := h.imp (fun r T1 h => ⟨h.1, by rw [h.2]; exact FrM.rf⟩)
theorem sim_leaf {Z : Nat × (Nat → Int32)} {T : TH} {k : Nat} (h : LIn Z T k) (x y : Int32) : ∃ v, Sim Z m_X7_leaf m_X8_leaf [.int x, .int y] T k (.int v) := by
  obtain ⟨hz, hs, s, en, lo, ps, n, b, tx, fk, fq, A, cp, cu, sp, hC, hR, hRs⟩ := id h
  refine ⟨_, sim_q h (c_X7_leaf 994 hC.cq x y) ?_⟩
  cases hs with
  | true => exact c_X8_leaf 995 (hR.mqh hC.2.2.1.2.2.1 hC.2.2.1.2.2.2) x y
  | false => obtain ⟨q1, q2, q3⟩ := hR.2.2.2.2.2.2.1 rfl; rw [q2, ix0]; exact frT (z_X8_leaf 998 hR.1 q1 x y)
theorem sim_row {Z : Nat × (Nat → Int32)} {T : TH} {k : Nat} (h : LIn Z T k) (x y z : Int32) : ∃ v, Sim Z m_X7_row m_X8_row [.int x, .int y, .int z] T k (.int v) := by
  obtain ⟨hz, hs, s, en, lo, ps, n, b, tx, fk, fq, A, cp, cu, sp, hC, hR, hRs⟩ := id h
  refine ⟨_, sim_q h (c_X7_row 997 hC.cq x y z) ?_⟩
  cases hs with
  | true => exact c_X8_row 996 (hR.mqh hC.2.2.1.2.2.1 hC.2.2.1.2.2.2) x y z
  | false =>
    obtain ⟨q1, q2, q3⟩ := hR.2.2.2.2.2.2.1 rfl
    have e : rowA s ps x y z = -1 := by unfold rowA rwA; rw [q2, ix0]
    rw [e]; exact frT (z_X8_row 997 hR.1 q1 x y z)
theorem sim_value {Z : Nat × (Nat → Int32)} {T : TH} {k : Nat} (h : LIn Z T k) (x y : Int32) : ∃ v, Sim Z m_X7_value m_X8_value [.int x, .int y] T k (.long v) := by
  obtain ⟨hz, hs, s, en, lo, ps, n, b, tx, fk, fq, A, cp, cu, sp, hC, hR, hRs⟩ := id h
  refine ⟨_, sim_q h (c_X7_value 997 hC.cq x y) ?_⟩
  cases hs with
  | true => exact c_X8_value 996 (hR.mqh hC.2.2.1.2.2.1 hC.2.2.1.2.2.2) x y
  | false =>
    obtain ⟨q1, q2, q3⟩ := hR.2.2.2.2.2.2.1 rfl
    have e : valA s ps x y = lN 0 := by unfold valA rwA; rw [q2, ix0]; rfl
    rw [e]; exact frT (z_X8_value 997 hR.1 q1 x y)
theorem sim_among {Z : Nat × (Nat → Int32)} {T : TH} {k : Nat} (h : LIn Z T k) (x : Int32) (p q : Int64) : ∃ v, Sim Z m_X7_among m_X8_among [.int x, .long p, .long q] T k (.int v) := by
  obtain ⟨hz, hs, s, en, lo, ps, n, b, tx, fk, fq, A, cp, cu, sp, hC, hR, hRs⟩ := id h
  refine ⟨_, sim_q h (c_X7_among 996 hC.cq x p q) ?_⟩
  cases hs with
  | true => exact c_X8_among 997 (hR.mqh hC.2.2.1.2.2.1 hC.2.2.1.2.2.2) x p q
  | false => obtain ⟨q1, q2, q3⟩ := hR.2.2.2.2.2.2.1 rfl; rw [q2, ix0]; exact frT (z_X8_among 998 hR.1 q1 x p q)
theorem sim_papers {Z : Nat × (Nat → Int32)} {T : TH} {k : Nat} (h : LIn Z T k) (x : Int32) (p q : Int64) : ∃ v, Sim Z m_X7_papers m_X8_papers [.int x, .long p, .long q] T k (.int v) := by
  obtain ⟨hz, hs, s, en, lo, ps, n, b, tx, fk, fq, A, cp, cu, sp, hC, hR, hRs⟩ := id h
  refine ⟨_, sim_q h (c_X7_papers 996 hC.cq x p q) ?_⟩
  cases hs with
  | true => exact c_X8_papers 997 (hR.mqh hC.2.2.1.2.2.1 hC.2.2.1.2.2.2) x p q
  | false => obtain ⟨q1, q2, q3⟩ := hR.2.2.2.2.2.2.1 rfl; rw [q2, ix0]; exact frT (z_X8_papers 998 hR.1 q1 x p q)
theorem sim_sum {Z : Nat × (Nat → Int32)} {T : TH} {k : Nat} (h : LIn Z T k) (x y : Int32) : ∃ v, Sim Z m_X7_sum m_X8_sum [.int x, .int y] T k (.long v) := by
  obtain ⟨hz, hs, s, en, lo, ps, n, b, tx, fk, fq, A, cp, cu, sp, hC, hR, hRs⟩ := id h
  refine ⟨_, sim_q h (c_X7_sum 997 hC.cq hC.2.2.1.2.2.2.1 x y) ?_⟩
  cases hs with
  | true => exact c_X8_sum 997 (hR.mqh hC.2.2.1.2.2.1 hC.2.2.1.2.2.2) x y
  | false =>
    obtain ⟨q1, q2, q3⟩ := hR.2.2.2.2.2.2.1 rfl
    have e : sumA s ps x y = lN 0 := by unfold sumA; rw [q2, ix0]; rfl
    rw [e]; exact frT (z_X8_sum 998 hR.1 q1 x y)
theorem sim_rows {Z : Nat × (Nat → Int32)} {T : TH} {k : Nat} (h : LIn Z T k) (x y z : Int32) : ∃ v, Sim Z m_X7_rows m_X8_rows [.int x, .int y, .int z] T k (.int v) := by
  obtain ⟨hz, hs, s, en, lo, ps, n, b, tx, fk, fq, A, cp, cu, sp, hC, hR, hRs⟩ := id h
  refine ⟨_, sim_q h (c_X7_rows 998 hC.cq x y z) ?_⟩
  cases hs with
  | true => exact c_X8_rows 997 (hR.mqh hC.2.2.1.2.2.1 hC.2.2.1.2.2.2) x y z
  | false => obtain ⟨q1, q2, q3⟩ := hR.2.2.2.2.2.2.1 rfl; rw [q2, ix0]; exact frT (z_X8_rows 998 hR.1 q1 x y z)
theorem sim_fault {Z : Nat × (Nat → Int32)} {T : TH} {k : Nat} (h : LIn Z T k) (x : Int32) : ∃ v, Sim Z m_X7_fault m_X8_fault [.int x] T k (.int v) := by
  obtain ⟨hz, hs, s, en, lo, ps, n, b, tx, fk, fq, A, cp, cu, sp, hC, hR, hRs⟩ := id h
  refine ⟨_, sim_q h (c_X7_fault 999 hC.1.1 x) (frT ?_)⟩
  have h9 := c_X8_fault 999 hR.1 x
  rw [hR.2.2.2.1.1, hR.2.2.2.1.2] at h9
  rw [hC.2.1.2.2.2.1, hC.2.1.2.2.2.2]
  exact h9
theorem sim_at {Z : Nat × (Nat → Int32)} {T : TH} {k : Nat} (h : LIn Z T k) (x : Int32) : ∃ v, Sim Z m_X7_at m_X8_at [.int x] T k (.int v) := by
  obtain ⟨hz, hs, s, en, lo, ps, n, b, tx, fk, fq, A, cp, cu, sp, hC, hR, hRs⟩ := id h
  have hX := hC.2.2.2.2.2
  have hY := hR.2.2.2.2.1
  refine ⟨_, sim_q h (c_X7_at 998 hC.1.1 hX.1 hX.2.1 x) (frT ?_)⟩
  have h9 := c_X8_at 999 hR.1 hY.1 (by have := hX.2.1; omega) x
  refine h9.imp ?_
  rintro _ T1 ⟨rfl, rfl⟩
  refine ⟨?_, rfl⟩
  cases hi : ix x tx.length with
  | none => rfl
  | some j =>
    obtain ⟨hj, -, -⟩ := ix_lt hi
    have e := List.getElem?_eq_getElem hj
    show some (Value.int (e_ai T1 117 j)) = some (Value.int (e_ai T1 65 j &&& nI 255))
    rw [hY.2 j _ e, hX.2.2 j _ e]
theorem sim_both {Z : Nat × (Nat → Int32)} {T : TH} {k : Nat} (h : LIn Z T k) (x : Int32) (p : Int64) (y : Int32) (q : Int64) : ∃ v, Sim Z m_X7_both m_X8_both [.int x, .long p, .int y, .long q] T k (.int v) := by
  obtain ⟨hz, hs, s, en, lo, ps, n, b, tx, fk, fq, A, cp, cu, sp, hC, hR, hRs⟩ := id h
  obtain ⟨s1, s2, s3, s4⟩ := hC.2.2.1
  have hc : Xe m_X7_both 999 0 [(0, .ref 0), (1, .int x), (2, .long p), (4, .int y), (5, .long q)] [] T (fun r T1 => r = some (.int (bothA s ps x p y q)) ∧ T1 = T) := by
    unfold bothA
    cases hix : ix x s.2.1 with
    | none => exact c_X7_both0 998 hC.cu (Or.inl hix)
    | some a =>
      obtain ⟨ha, rfl, -⟩ := ix_lt hix
      cases hiy : ix y s.2.1 with
      | none => exact c_X7_both0 998 hC.cu (Or.inr hiy)
      | some c =>
        obtain ⟨hb, rfl, -⟩ := ix_lt hiy
        have h12 := s3.2.2.1
        obtain ⟨oa1, oa2, oa3, -⟩ := tOf_ok s3 s4 ha
        obtain ⟨ob1, ob2, ob3, -⟩ := tOf_ok s3 s4 hb
        have hda := dc_le s.2.2.2.2.2.1 (road s a)
        have hdb := dc_le s.2.2.2.2.2.1 (road s c)
        have h9 := c_X7_both 995 (Af := fun f => mc s.2.2.2.2.2.1 (upF s.2.2.1 6 (some f))) (v := p) (w := q) (hC.2.2.2.1.tb (by omega) (hC.2.2.2.2.1 a ha).1 (hC.2.2.2.2.1 a ha).2) oa1 (by omega) oa2 (hC.2.2.2.1.tb (by omega) (hC.2.2.2.2.1 c hb).1 (hC.2.2.2.2.1 c hb).2) ob1 (by omega) ob2 hC.cu s1 s3.2.1 ha hb (fun f hf => ⟨(s2 f hf _ (s3.1.up hf).1).2.1, by have := mc_le s.2.2.2.2.2.1 (upF s.2.2.1 6 (some f)); have := (s3.1.up hf).2; show mc _ _ ≤ 10; omega⟩) (fun f hf => by have := (s3.1.2.2.1 f hf).2.2; have := s3.2.1; omega) (s3.1.2.2.2.2.2.2.1 a ha).1 (s3.1.2.2.2.2.2.2.1 c hb).1
        rw [lv_grp s3.1 s3.2.2.2.1 ha hb, both_eq s3.1 s3.2.2.2.1 (fun i hi => ⟨(s4.2 i hi).2.1, (s4.2 i hi).1⟩) ha hb] at h9
        exact h9
  refine ⟨_, sim_q h hc ?_⟩
  cases hs with
  | true => exact frT (c_X8_both 998 (hR.mqh s3 s4) x p y q)
  | false =>
    obtain ⟨q1, q2, q3⟩ := hR.2.2.2.2.2.2.1 rfl
    have e : bothA s ps x p y q = -1 := by unfold bothA; rw [q2, ix0]
    rw [e]; exact frT (z_X8_both 998 hR.1 q1 x p y q)
