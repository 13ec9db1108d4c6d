/-! digits -/
def dgt (B w : Nat) : Nat → List Nat
  | 0 => [w / B ^ 0 % B]
  | k + 1 => (w / B ^ (k + 1) % B) :: dgt B w k
def lbF (B w : Nat) : Nat → Nat → Nat
  | 0, k => k
  | f + 1, k => if B ^ (k + 1) ≤ w then lbF B w f (k + 1) else k
def lb (B w : Nat) : Nat := lbF B w 8 0
def wtx (w : Nat) : List Nat := (dgt 27 w (lb 27 w)).map (96 + ·)
def ntx (w : Nat) : List Nat := (dgt 10 w (lb 10 w)).map (48 + ·)
theorem dgt_len (B w : Nat) : ∀ k, (dgt B w k).length = k + 1 := by
  intro k
  induction k with
  | zero => rfl
  | succ k ih => show (dgt B w k).length + 1 = _; rw [ih]
theorem lbF_le {B w m : Nat} (hB : 0 < B) (hw : w < B ^ (m + 1)) : ∀ (f k : Nat), k ≤ m → lbF B w f k ≤ m := by
  intro f
  induction f with
  | zero => intro k hk; exact hk
  | succ f ih =>
    intro k hk
    show (if B ^ (k + 1) ≤ w then lbF B w f (k + 1) else k) ≤ m
    split
    · rename_i h
      rcases Nat.lt_or_ge k m with z | z
      · exact ih (k + 1) z
      · exfalso
        have := Nat.pow_le_pow_right hB (show m + 1 ≤ k + 1 by omega)
        omega
    · exact hk
theorem lbF_st {B w m : Nat} (hB : 0 < B) (hw : w < B ^ (m + 1)) : ∀ (f k : Nat), k ≤ m → m ≤ k + f → w < B ^ (lbF B w f k + 1) ∧ (lbF B w f k = k ∨ B ^ lbF B w f k ≤ w) := by
  intro f
  induction f with
  | zero =>
    intro k hk hm
    have e : k = m := by omega
    subst e
    exact ⟨hw, Or.inl rfl⟩
  | succ f ih =>
    intro k hk hm
    have e : lbF B w (f + 1) k = if B ^ (k + 1) ≤ w then lbF B w f (k + 1) else k := rfl
    rw [e]
    split
    · rename_i h
      rcases Nat.lt_or_ge k m with z | z
      · obtain ⟨h1, h2⟩ := ih (k + 1) z (by omega)
        refine ⟨h1, Or.inr (h2.elim (fun q => ?_) id)⟩
        rw [q]; exact h
      · exfalso
        have := Nat.pow_le_pow_right hB (show m + 1 ≤ k + 1 by omega)
        omega
    · exact ⟨by omega, Or.inl rfl⟩
/-- the reference's text so far -/
def TXs (T : TH) (R : List Nat) : Prop := e_i T 562 88 = nI R.length ∧ ∀ k c, R[k]? = some c → e_ai T 117 k = nI c
theorem TXs.of {T T1 : TH} {R : List Nat} (h : TXs T R) {fs as : List Nat} (hF : FrM fs as T T1) (h1 : 562 ∉ fs) (h2 : 117 ∉ as) : TXs T1 R :=
  ⟨(hF.i (fun q => h1 q.2)).trans h.1, fun k c hk => by rw [hF.ai h2]; exact h.2 k c hk⟩
theorem TXs_add {T T' : TH} {R : List Nat} {c : Nat} (h : TXs T R) (r0 : e_i T' 562 88 = nI (R.length + 1)) (r1 : ∀ j, e_ai T' 117 j = if j = R.length then nI c else e_ai T 117 j) : TXs T' (R ++ [c]) := by
  refine ⟨by rw [List.length_append]; exact r0, fun k q hq => ?_⟩
  rw [r1]
  rcases Nat.lt_or_ge k R.length with z | z
  · rw [List.getElem?_append_left z] at hq
    rw [if_neg (by omega)]; exact h.2 k q hq
  · rw [List.getElem?_append_right z] at hq
    have hz : k - R.length < 1 := (List.getElem?_eq_some_iff.mp hq).1
    have hk : k = R.length := by omega
    subst hk
    simp at hq
    rw [if_pos rfl, hq]

set_option maxHeartbeats 4000000 in
theorem c_X8_lays (d : Nat) {T : TH} {R : List Nat} (hM : MI T) (hX : TXs T R) (hl : R.length < 1000) (c : Nat) : Xe m_X8_lays d 0 [(0, .ref 88), (1, .int (nI c))] [] T (fun r T1 => r = none ∧ FrM [562] [117] T T1 ∧ TXs T1 (R ++ [c])) := by
  refine xe (fun _ _ kK => x_aload_n dX8_lays_0 rfl 0 rfl kK) ?_
  refine xe (fun _ _ kK => x_get dX8_lays_1 fl_X8_120 hM.1 (gvl_r1 fz_8_51.2.2 (show e_r T 563 88 = some 117 from (hM.2.1 51))) kK) ?_
  refine xe (fun _ _ kK => x_aload_n dX8_lays_4 rfl 0 rfl kK) ?_
  refine xe (fun _ _ kK => x_get dX8_lays_5 fl_X8_301 hM.1 (gvl_i fz_8_50.2.2 (show e_i T 562 88 = nI R.length from hX.1)) kK) ?_
  refine xe (fun _ _ kK => x_iload_n dX8_lays_8 rfl 1 rfl kK) ?_
  refine xe (fun _ _ kK => x_iast dX8_lays_9 (hM.2.2.1 28 (by decide)) (show (nI R.length) = nI R.length from rfl) (mi_len hM 28 (by decide) (show R.length < 1000 by omega)) kK) ?_
  refine xe (fun _ _ kK => x_aload_n dX8_lays_10 rfl 0 rfl kK) ?_
  refine xe (fun _ _ kK => x_dup dX8_lays_11 rfl kK) ?_
  refine xe (fun _ _ kK => x_get dX8_lays_12 fl_X8_301 (wK_ai hM.1) (gvl_i fz_8_50.2.2 (show e_i (s_ai T 117 R.length (nI c)) 562 88 = nI R.length from (wi_ai hX.1))) kK) ?_
  refine xe (fun _ _ kK => x_iconst dX8_lays_15 (show _ = nI 1 by decide) kK) ?_
  refine xe (fun _ _ kK => x_iadd dX8_lays_16 kK) ?_
  refine xe_ti (show _ = nI (R.length + 1) from nI_add R.length 1) ?_
  refine xe (fun _ _ kK => x_puti dX8_lays_17 ⟨fl_X8_301, fz_8_50.1, fz_8_50.2.1⟩ (Or.inl fz_8_50.2.2) rfl rfl (wK_ai hM.1) kK) ?_
  exact xe_retv dX8_lays_20 rfl (⟨rfl, (FrM.si (FrM.sai FrM.rf (by decide) _ _) (by decide) _), TXs_add hX (by simp [q_i_i, q_i_ai, q_i_al, q_ai_ai, q_ai_i, q_ai_al, q_al_al, q_al_i, q_al_ai]) (fun j => by simp [q_i_i, q_i_ai, q_i_al, q_ai_ai, q_ai_i, q_ai_al, q_al_al, q_al_i, q_al_ai])⟩)

set_option maxHeartbeats 4000000 in
theorem l_X8_laysWord1 (d : Nat) {T : TH} {w : Nat} {P : Option Value → TH → Prop} (hM : MI T) (hw : w < 27 ^ 8) : ∀ (m k : Nat), 9 ≤ m + k → k ≤ 7 → Xe m_X8_laysWord d 21 [(3, .long (lN (27 ^ (lbF 27 w m k)))), (0, .ref 88), (1, .long (lN w))] [] T P → Xe m_X8_laysWord d 2 [(3, .long (lN (27 ^ k))), (0, .ref 88), (1, .long (lN w))] [] T P := by
  intro m
  induction m with
  | zero => intro k hm hk; exact absurd hm (by omega)
  | succ m ih =>
    intro k hm hk hno
    have hp1 := Nat.pow_le_pow_right (show 0 < 27 by decide) (show k + 1 ≤ 8 by omega)
    have hp2 : 27 ^ 8 < 2 ^ 63 := by decide
    refine xe (fun _ _ kK => x_lload_n dX8_laysWord_2 rfl 0 rfl kK) ?_
    refine xe (fun _ _ kK => x_ldc2 dX8_laysWord_3 kl_X8_156 kK) ?_
    refine xe_tl (show _ = lN 27 from by decide) ?_
    refine xe (fun _ _ kK => x_lmul dX8_laysWord_6 kK) ?_
    refine xe_tl (show _ = lN (27 ^ (k + 1)) from (lN_mul (27 ^ k) 27).trans (by rw [Nat.pow_succ])) ?_
    refine xe (fun _ _ kK => x_lload_n dX8_laysWord_7 rfl 2 rfl kK) ?_
    refine xe (fun _ _ kK => x_lcmp dX8_laysWord_8 kK) ?_
    refine xe_if_gt (tgt := 21) dX8_laysWord_9 (by decide) (fun h9 => ?_) (fun h9 => ?_)
    · -- pc 21
      have h9 := lc_gt h9
      have hlt := (pk_lLT (by omega) (by omega)).mp h9
      have e9 : lbF 27 w (m + 1) k = k := by show (if 27 ^ (k + 1) ≤ w then _ else k) = k; rw [if_neg (by omega)]
      rw [e9] at hno
      exact hno
    · -- pc 12
      have h9 := lc_len h9
      have hle := (pk_lLE (by omega) (by omega)).mp h9
      have hk6 : k ≤ 6 := by
        rcases Nat.lt_or_ge 6 k with z | z
        · exfalso; have := Nat.pow_le_pow_right (show 0 < 27 by decide) (show 8 ≤ k + 1 by omega); omega
        · exact z
      refine xe (fun _ _ kK => x_lload_n dX8_laysWord_12 rfl 0 rfl kK) ?_
      refine xe (fun _ _ kK => x_ldc2 dX8_laysWord_13 kl_X8_156 kK) ?_
      refine xe_tl (show _ = lN 27 from by decide) ?_
      refine xe (fun _ _ kK => x_lmul dX8_laysWord_16 kK) ?_
      refine xe_tl (show _ = lN (27 ^ (k + 1)) from (lN_mul (27 ^ k) 27).trans (by rw [Nat.pow_succ])) ?_
      refine xe (fun _ _ kK => x_lstore_n dX8_laysWord_17 rfl (by decide) (show _ = [(3, .long (lN (27 ^ (k + 1)))), (0, .ref 88), (1, .long (lN w))] from rfl) kK) ?_
      refine xe (fun _ _ kK => x_goto (tgt := 2) dX8_laysWord_18 (by decide) kK) ?_
      have e9 : lbF 27 w (m + 1) k = lbF 27 w m (k + 1) := by show (if 27 ^ (k + 1) ≤ w then _ else k) = _; rw [if_pos hle]
      rw [e9] at hno
      exact xe_loc (by simp) (ih (k + 1) (by omega) (by omega) hno)

set_option maxHeartbeats 4000000 in
theorem l_X8_laysWord2 (d : Nat) {w : Nat} (hw : w < 2 ^ 63) : ∀ (k : Nat) (T : TH) (R : List Nat), MI T → TXs T R → k ≤ 8 → R.length + (dgt 27 w k).length ≤ 1000 → Xe m_X8_laysWord (d + 1) 24 [(5, .long (lN (27 ^ k))), (0, .ref 88), (1, .long (lN w))] [] T (fun r T1 => r = none ∧ FrM [562] [117] T T1 ∧ TXs T1 (R ++ (dgt 27 w k).map (96 + ·))) := by
  intro k
  induction k with
  | zero =>
    intro T R hM hX hk hl
    have hpp : 0 < 27 ^ 0 := Nat.pow_pos (by decide)
    have hp1 := Nat.pow_le_pow_right (show 0 < 27 by decide) (show 0 ≤ 8 by omega)
    have hp2 : 27 ^ 8 < 2 ^ 63 := by decide
    have hdl := dgt_len 27 w 0
    have hdv : w / 27 ^ 0 ≤ w := Nat.div_le_self _ _
    refine xe (fun _ _ kK => x_lload dX8_laysWord_24 0 rfl kK) ?_
    refine xe (fun _ _ kK => x_lconst dX8_laysWord_26 (show _ = lN 0 by decide) kK) ?_
    refine xe (fun _ _ kK => x_lcmp dX8_laysWord_27 kK) ?_
    refine xe (fun _ _ kK => x_if_leF (tgt := 58) dX8_laysWord_28 (by decide) (fun z9 => by have := (pk_lLE (by omega) (show 0 < 2 ^ 63 by decide)).mp (lc_le z9); omega) kK) ?_
    refine xe (fun _ _ kK => x_aload_n dX8_laysWord_31 rfl 1 rfl kK) ?_
    refine xe (fun _ _ kK => x_bipush dX8_laysWord_32 (show _ = nI 96 by decide) kK) ?_
    refine xe (fun _ _ kK => x_lload_n dX8_laysWord_34 rfl 2 rfl kK) ?_
    refine xe (fun _ _ kK => x_lload dX8_laysWord_35 0 rfl kK) ?_
    refine xe (fun _ _ kK => x_ldiv dX8_laysWord_37 (fun z9 => by have := cvl_eq (by omega) (by omega) (z9.trans (show (0 : Int64) = lN 0 from rfl)); omega) kK) ?_
    refine xe_tl (show _ = lN (w / 27 ^ 0) from pk_lDiv (by omega) hpp (by omega)) ?_
    refine xe (fun _ _ kK => x_ldc2 dX8_laysWord_38 kl_X8_156 kK) ?_
    refine xe_tl (show _ = lN 27 from by decide) ?_
    refine xe (fun _ _ kK => x_lrem dX8_laysWord_41 (by decide) kK) ?_
    refine xe_tl (show _ = lN (w / 27 ^ 0 % 27) from pk_lRem (by omega) (by decide) (by decide)) ?_
    refine xe (fun _ _ kK => x_l2i dX8_laysWord_42 kK) ?_
    refine xe_ti (show _ = nI (w / 27 ^ 0 % 27) from lN_i _) ?_
    refine xe (fun _ _ kK => x_iadd dX8_laysWord_43 kK) ?_
    refine xe_ti (show _ = nI (96 + (w / 27 ^ 0 % 27)) from nI_add 96 (w / 27 ^ 0 % 27)) ?_
    refine xe_callV (a := 88) [.int (nI (96 + (w / 27 ^ 0 % 27)))] dX8_laysWord_44 ml_X8_304 mf_X8_lays hM.1 (c_X8_lays d (R := R) hM hX (by omega) (96 + w / 27 ^ 0 % 27)) rfl rfl (Nat.le_of_ble_eq_true rfl) (Nat.le_of_ble_eq_true rfl) ?_
    rintro _ T1 ⟨rfl, hF1, hX1⟩
    have hM1 := hF1.mi hM
    refine xe (fun _ _ kK => x_lload dX8_laysWord_47 0 rfl kK) ?_
    refine xe (fun _ _ kK => x_ldc2 dX8_laysWord_49 kl_X8_156 kK) ?_
    refine xe_tl (show _ = lN 27 from by decide) ?_
    refine xe (fun _ _ kK => x_ldiv dX8_laysWord_52 (by decide) kK) ?_
    refine xe_tl (show _ = lN 0 from by decide) ?_
    refine xe (fun _ _ kK => x_lstore dX8_laysWord_53 (by decide) (show _ = [(5, .long (lN 0)), (0, .ref 88), (1, .long (lN w))] from rfl) kK) ?_
    refine xe (fun _ _ kK => x_goto (tgt := 24) dX8_laysWord_55 (by decide) kK) ?_
    refine xe (fun _ _ kK => x_lload dX8_laysWord_24 0 rfl kK) ?_
    refine xe (fun _ _ kK => x_lconst dX8_laysWord_26 (show _ = lN 0 by decide) kK) ?_
    refine xe (fun _ _ kK => x_lcmp dX8_laysWord_27 kK) ?_
    refine xe (fun _ _ kK => x_if_leT (tgt := 58) dX8_laysWord_28 (by decide) (by decide) kK) ?_
    exact xe_retv dX8_laysWord_58 rfl (⟨rfl, hF1, hX1⟩)
  | succ k ih =>
    intro T R hM hX hk hl
    have hpp : 0 < 27 ^ (k + 1) := Nat.pow_pos (by decide)
    have hp1 := Nat.pow_le_pow_right (show 0 < 27 by decide) (show k + 1 ≤ 8 by omega)
    have hp2 : 27 ^ 8 < 2 ^ 63 := by decide
    have hdl := dgt_len 27 w (k + 1)
    have hdv : w / 27 ^ (k + 1) ≤ w := Nat.div_le_self _ _
    refine xe (fun _ _ kK => x_lload dX8_laysWord_24 0 rfl kK) ?_
    refine xe (fun _ _ kK => x_lconst dX8_laysWord_26 (show _ = lN 0 by decide) kK) ?_
    refine xe (fun _ _ kK => x_lcmp dX8_laysWord_27 kK) ?_
    refine xe (fun _ _ kK => x_if_leF (tgt := 58) dX8_laysWord_28 (by decide) (fun z9 => by have := (pk_lLE (by omega) (show 0 < 2 ^ 63 by decide)).mp (lc_le z9); omega) kK) ?_
    refine xe (fun _ _ kK => x_aload_n dX8_laysWord_31 rfl 1 rfl kK) ?_
    refine xe (fun _ _ kK => x_bipush dX8_laysWord_32 (show _ = nI 96 by decide) kK) ?_
    refine xe (fun _ _ kK => x_lload_n dX8_laysWord_34 rfl 2 rfl kK) ?_
    refine xe (fun _ _ kK => x_lload dX8_laysWord_35 0 rfl kK) ?_
    refine xe (fun _ _ kK => x_ldiv dX8_laysWord_37 (fun z9 => by have := cvl_eq (by omega) (by omega) (z9.trans (show (0 : Int64) = lN 0 from rfl)); omega) kK) ?_
    refine xe_tl (show _ = lN (w / 27 ^ (k + 1)) from pk_lDiv (by omega) hpp (by omega)) ?_
    refine xe (fun _ _ kK => x_ldc2 dX8_laysWord_38 kl_X8_156 kK) ?_
    refine xe_tl (show _ = lN 27 from by decide) ?_
    refine xe (fun _ _ kK => x_lrem dX8_laysWord_41 (by decide) kK) ?_
    refine xe_tl (show _ = lN (w / 27 ^ (k + 1) % 27) from pk_lRem (by omega) (by decide) (by decide)) ?_
    refine xe (fun _ _ kK => x_l2i dX8_laysWord_42 kK) ?_
    refine xe_ti (show _ = nI (w / 27 ^ (k + 1) % 27) from lN_i _) ?_
    refine xe (fun _ _ kK => x_iadd dX8_laysWord_43 kK) ?_
    refine xe_ti (show _ = nI (96 + (w / 27 ^ (k + 1) % 27)) from nI_add 96 (w / 27 ^ (k + 1) % 27)) ?_
    refine xe_callV (a := 88) [.int (nI (96 + (w / 27 ^ (k + 1) % 27)))] dX8_laysWord_44 ml_X8_304 mf_X8_lays hM.1 (c_X8_lays d (R := R) hM hX (by omega) (96 + w / 27 ^ (k + 1) % 27)) rfl rfl (Nat.le_of_ble_eq_true rfl) (Nat.le_of_ble_eq_true rfl) ?_
    rintro _ T1 ⟨rfl, hF1, hX1⟩
    have hM1 := hF1.mi hM
    refine xe (fun _ _ kK => x_lload dX8_laysWord_47 0 rfl kK) ?_
    refine xe (fun _ _ kK => x_ldc2 dX8_laysWord_49 kl_X8_156 kK) ?_
    refine xe_tl (show _ = lN 27 from by decide) ?_
    refine xe (fun _ _ kK => x_ldiv dX8_laysWord_52 (by decide) kK) ?_
    refine xe_tl (show _ = lN (27 ^ k) from (pk_lDiv (by omega) (by decide) (by decide)).trans (by rw [Nat.pow_succ, Nat.mul_div_cancel _ (by decide)])) ?_
    refine xe (fun _ _ kK => x_lstore dX8_laysWord_53 (by decide) (show _ = [(5, .long (lN (27 ^ k))), (0, .ref 88), (1, .long (lN w))] from rfl) kK) ?_
    refine xe (fun _ _ kK => x_goto (tgt := 24) dX8_laysWord_55 (by decide) kK) ?_
    refine Xe.imp (xe_loc (by simp) (ih T1 _ hM1 hX1 (by omega) (by rw [List.length_append, dgt_len]; rw [hdl] at hl; simp; omega))) ?_
    rintro _ T2 ⟨rfl, hF2, hX2⟩
    exact ⟨rfl, FrM.tr hF1 hF2, by rw [List.append_assoc] at hX2; exact hX2⟩

theorem lbF_98 {B w : Nat} (hB : 0 < B) (hw : w < B ^ 8) : lbF B w 9 0 = lb B w := by
  have H : ∀ (f k : Nat), k ≤ 7 → 7 ≤ k + f → lbF B w (f + 1) k = lbF B w f k := by
    intro f
    induction f with
    | zero =>
      intro k hk hf
      have e : k = 7 := by omega
      subst e
      show (if B ^ 8 ≤ w then lbF B w 0 8 else 7) = 7
      rw [if_neg (by omega)]
    | succ f ih =>
      intro k hk hf
      show (if B ^ (k + 1) ≤ w then lbF B w (f + 1) (k + 1) else k) = (if B ^ (k + 1) ≤ w then lbF B w f (k + 1) else k)
      split
      · rename_i h
        rcases Nat.lt_or_ge k 7 with z | z
        · exact ih (k + 1) z (by omega)
        · exfalso
          have := Nat.pow_le_pow_right hB (show 8 ≤ k + 1 by omega)
          omega
      · rfl
  exact H 8 0 (by omega) (by omega)

set_option maxHeartbeats 4000000 in
theorem c_X8_laysWord (d : Nat) {T : TH} {R : List Nat} {w : Nat} (hM : MI T) (hX : TXs T R) (hw : w < 27 ^ 8) (hl : R.length + (wtx w).length ≤ 1000) : Xe m_X8_laysWord (d + 1) 0 [(0, .ref 88), (1, .long (lN w))] [] T (fun r T1 => r = none ∧ FrM [562] [117] T T1 ∧ TXs T1 (R ++ wtx w)) := by
  refine xe (fun _ _ kK => x_lconst dX8_laysWord_0 (show _ = lN 1 by decide) kK) ?_
  refine xe (fun _ _ kK => x_lstore_n dX8_laysWord_1 rfl (by decide) (show _ = [(3, .long (lN 1)), (0, .ref 88), (1, .long (lN w))] from rfl) kK) ?_
  have hp2 : 27 ^ 8 < 2 ^ 63 := by decide
  refine xe_loc (L' := [(3, .long (lN (27 ^ 0))), (0, .ref 88), (1, .long (lN w))]) (by simp) ?_
  refine l_X8_laysWord1 (d + 1) hM hw 9 0 (by omega) (by omega) ?_
  have e9 : lbF 27 w 9 0 = lb 27 w := lbF_98 (by decide) hw
  have hb7 : lb 27 w ≤ 7 := lbF_le (by decide) hw 8 0 (by omega)
  rw [e9]
  refine xe (fun _ _ kK => x_lload_n dX8_laysWord_21 rfl 0 rfl kK) ?_
  refine xe (fun _ _ kK => x_lstore dX8_laysWord_22 (by decide) (show _ = [(5, .long (lN (27 ^ lb 27 w))), (3, .long (lN (27 ^ lb 27 w))), (0, .ref 88), (1, .long (lN w))] from rfl) kK) ?_
  exact xe_loc (by simp) (l_X8_laysWord2 d (by omega) (lb 27 w) T R hM hX (by omega) (by unfold wtx at hl; rw [List.length_map] at hl; exact hl))

set_option maxHeartbeats 4000000 in
theorem l_X8_laysNumber1 (d : Nat) {T : TH} {w : Nat} {v : Int64} {P : Option Value → TH → Prop} (hM : MI T) (hw : w < 10 ^ 8) : ∀ (m k : Nat), 9 ≤ m + k → k ≤ 7 → Xe m_X8_laysNumber d 50 [(5, .long (lN (10 ^ (lbF 10 w m k)))), (3, .long (lN w)), (0, .ref 88), (1, .long v)] [] T P → Xe m_X8_laysNumber d 28 [(5, .long (lN (10 ^ k))), (3, .long (lN w)), (0, .ref 88), (1, .long v)] [] T P := by
  intro m
  induction m with
  | zero => intro k hm hk; exact absurd hm (by omega)
  | succ m ih =>
    intro k hm hk hno
    have hp1 := Nat.pow_le_pow_right (show 0 < 10 by decide) (show k + 1 ≤ 8 by omega)
    have hp2 : 10 ^ 8 < 2 ^ 63 := by decide
    refine xe (fun _ _ kK => x_lload dX8_laysNumber_28 0 rfl kK) ?_
    refine xe (fun _ _ kK => x_ldc2 dX8_laysNumber_30 kl_X8_227 kK) ?_
    refine xe_tl (show _ = lN 10 from by decide) ?_
    refine xe (fun _ _ kK => x_lmul dX8_laysNumber_33 kK) ?_
    refine xe_tl (show _ = lN (10 ^ (k + 1)) from (lN_mul (10 ^ k) 10).trans (by rw [Nat.pow_succ])) ?_
    refine xe (fun _ _ kK => x_lload_n dX8_laysNumber_34 rfl 1 rfl kK) ?_
    refine xe (fun _ _ kK => x_lcmp dX8_laysNumber_35 kK) ?_
    refine xe_if_gt (tgt := 50) dX8_laysNumber_36 (by decide) (fun h36 => ?_) (fun h36 => ?_)
    · -- pc 50
      have h36 := lc_gt h36
      have hlt := (pk_lLT (by omega) (by omega)).mp h36
      have e9 : lbF 10 w (m + 1) k = k := by show (if 10 ^ (k + 1) ≤ w then _ else k) = k; rw [if_neg (by omega)]
      rw [e9] at hno
      exact hno
    · -- pc 39
      have h36 := lc_len h36
      have hle := (pk_lLE (by omega) (by omega)).mp h36
      have hk6 : k ≤ 6 := by
        rcases Nat.lt_or_ge 6 k with z | z
        · exfalso; have := Nat.pow_le_pow_right (show 0 < 10 by decide) (show 8 ≤ k + 1 by omega); omega
        · exact z
      refine xe (fun _ _ kK => x_lload dX8_laysNumber_39 0 rfl kK) ?_
      refine xe (fun _ _ kK => x_ldc2 dX8_laysNumber_41 kl_X8_227 kK) ?_
      refine xe_tl (show _ = lN 10 from by decide) ?_
      refine xe (fun _ _ kK => x_lmul dX8_laysNumber_44 kK) ?_
      refine xe_tl (show _ = lN (10 ^ (k + 1)) from (lN_mul (10 ^ k) 10).trans (by rw [Nat.pow_succ])) ?_
      refine xe (fun _ _ kK => x_lstore dX8_laysNumber_45 (by decide) (show _ = [(5, .long (lN (10 ^ (k + 1)))), (3, .long (lN w)), (0, .ref 88), (1, .long v)] from rfl) kK) ?_
      refine xe (fun _ _ kK => x_goto (tgt := 28) dX8_laysNumber_47 (by decide) kK) ?_
      have e9 : lbF 10 w (m + 1) k = lbF 10 w m (k + 1) := by show (if 10 ^ (k + 1) ≤ w then _ else k) = _; rw [if_pos hle]
      rw [e9] at hno
      exact xe_loc (by simp) (ih (k + 1) (by omega) (by omega) hno)

set_option maxHeartbeats 4000000 in
theorem l_X8_laysNumber2 (d : Nat) {w : Nat} {v : Int64} (hw : w < 2 ^ 63) : ∀ (k : Nat) (T : TH) (R : List Nat), MI T → TXs T R → k ≤ 8 → R.length + (dgt 10 w k).length ≤ 1000 → Xe m_X8_laysNumber (d + 1) 54 [(7, .long (lN (10 ^ k))), (3, .long (lN w)), (0, .ref 88), (1, .long v)] [] T (fun r T1 => r = none ∧ FrM [562] [117] T T1 ∧ TXs T1 (R ++ (dgt 10 w k).map (48 + ·))) := by
  intro k
  induction k with
  | zero =>
    intro T R hM hX hk hl
    have hpp : 0 < 10 ^ 0 := Nat.pow_pos (by decide)
    have hp1 := Nat.pow_le_pow_right (show 0 < 10 by decide) (show 0 ≤ 8 by omega)
    have hp2 : 10 ^ 8 < 2 ^ 63 := by decide
    have hdl := dgt_len 10 w 0
    have hdv : w / 10 ^ 0 ≤ w := Nat.div_le_self _ _
    refine xe (fun _ _ kK => x_lload dX8_laysNumber_54 0 rfl kK) ?_
    refine xe (fun _ _ kK => x_lconst dX8_laysNumber_56 (show _ = lN 0 by decide) kK) ?_
    refine xe (fun _ _ kK => x_lcmp dX8_laysNumber_57 kK) ?_
    refine xe (fun _ _ kK => x_if_leF (tgt := 88) dX8_laysNumber_58 (by decide) (fun z9 => by have := (pk_lLE (by omega) (show 0 < 2 ^ 63 by decide)).mp (lc_le z9); omega) kK) ?_
    refine xe (fun _ _ kK => x_aload_n dX8_laysNumber_61 rfl 2 rfl kK) ?_
    refine xe (fun _ _ kK => x_bipush dX8_laysNumber_62 (show _ = nI 48 by decide) kK) ?_
    refine xe (fun _ _ kK => x_lload_n dX8_laysNumber_64 rfl 1 rfl kK) ?_
    refine xe (fun _ _ kK => x_lload dX8_laysNumber_65 0 rfl kK) ?_
    refine xe (fun _ _ kK => x_ldiv dX8_laysNumber_67 (fun z9 => by have := cvl_eq (by omega) (by omega) (z9.trans (show (0 : Int64) = lN 0 from rfl)); omega) kK) ?_
    refine xe_tl (show _ = lN (w / 10 ^ 0) from pk_lDiv (by omega) hpp (by omega)) ?_
    refine xe (fun _ _ kK => x_ldc2 dX8_laysNumber_68 kl_X8_227 kK) ?_
    refine xe_tl (show _ = lN 10 from by decide) ?_
    refine xe (fun _ _ kK => x_lrem dX8_laysNumber_71 (by decide) kK) ?_
    refine xe_tl (show _ = lN (w / 10 ^ 0 % 10) from pk_lRem (by omega) (by decide) (by decide)) ?_
    refine xe (fun _ _ kK => x_l2i dX8_laysNumber_72 kK) ?_
    refine xe_ti (show _ = nI (w / 10 ^ 0 % 10) from lN_i _) ?_
    refine xe (fun _ _ kK => x_iadd dX8_laysNumber_73 kK) ?_
    refine xe_ti (show _ = nI (48 + (w / 10 ^ 0 % 10)) from nI_add 48 (w / 10 ^ 0 % 10)) ?_
    refine xe_callV (a := 88) [.int (nI (48 + (w / 10 ^ 0 % 10)))] dX8_laysNumber_74 ml_X8_304 mf_X8_lays hM.1 (c_X8_lays d (R := R) hM hX (by omega) (48 + w / 10 ^ 0 % 10)) rfl rfl (Nat.le_of_ble_eq_true rfl) (Nat.le_of_ble_eq_true rfl) ?_
    rintro _ T1 ⟨rfl, hF1, hX1⟩
    have hM1 := hF1.mi hM
    refine xe (fun _ _ kK => x_lload dX8_laysNumber_77 0 rfl kK) ?_
    refine xe (fun _ _ kK => x_ldc2 dX8_laysNumber_79 kl_X8_227 kK) ?_
    refine xe_tl (show _ = lN 10 from by decide) ?_
    refine xe (fun _ _ kK => x_ldiv dX8_laysNumber_82 (by decide) kK) ?_
    refine xe_tl (show _ = lN 0 from by decide) ?_
    refine xe (fun _ _ kK => x_lstore dX8_laysNumber_83 (by decide) (show _ = [(7, .long (lN 0)), (3, .long (lN w)), (0, .ref 88), (1, .long v)] from rfl) kK) ?_
    refine xe (fun _ _ kK => x_goto (tgt := 54) dX8_laysNumber_85 (by decide) kK) ?_
    refine xe (fun _ _ kK => x_lload dX8_laysNumber_54 0 rfl kK) ?_
    refine xe (fun _ _ kK => x_lconst dX8_laysNumber_56 (show _ = lN 0 by decide) kK) ?_
    refine xe (fun _ _ kK => x_lcmp dX8_laysNumber_57 kK) ?_
    refine xe (fun _ _ kK => x_if_leT (tgt := 88) dX8_laysNumber_58 (by decide) (by decide) kK) ?_
    exact xe_retv dX8_laysNumber_88 rfl (⟨rfl, hF1, hX1⟩)
  | succ k ih =>
    intro T R hM hX hk hl
    have hpp : 0 < 10 ^ (k + 1) := Nat.pow_pos (by decide)
    have hp1 := Nat.pow_le_pow_right (show 0 < 10 by decide) (show k + 1 ≤ 8 by omega)
    have hp2 : 10 ^ 8 < 2 ^ 63 := by decide
    have hdl := dgt_len 10 w (k + 1)
    have hdv : w / 10 ^ (k + 1) ≤ w := Nat.div_le_self _ _
    refine xe (fun _ _ kK => x_lload dX8_laysNumber_54 0 rfl kK) ?_
    refine xe (fun _ _ kK => x_lconst dX8_laysNumber_56 (show _ = lN 0 by decide) kK) ?_
    refine xe (fun _ _ kK => x_lcmp dX8_laysNumber_57 kK) ?_
    refine xe (fun _ _ kK => x_if_leF (tgt := 88) dX8_laysNumber_58 (by decide) (fun z9 => by have := (pk_lLE (by omega) (show 0 < 2 ^ 63 by decide)).mp (lc_le z9); omega) kK) ?_
    refine xe (fun _ _ kK => x_aload_n dX8_laysNumber_61 rfl 2 rfl kK) ?_
    refine xe (fun _ _ kK => x_bipush dX8_laysNumber_62 (show _ = nI 48 by decide) kK) ?_
    refine xe (fun _ _ kK => x_lload_n dX8_laysNumber_64 rfl 1 rfl kK) ?_
    refine xe (fun _ _ kK => x_lload dX8_laysNumber_65 0 rfl kK) ?_
    refine xe (fun _ _ kK => x_ldiv dX8_laysNumber_67 (fun z9 => by have := cvl_eq (by omega) (by omega) (z9.trans (show (0 : Int64) = lN 0 from rfl)); omega) kK) ?_
    refine xe_tl (show _ = lN (w / 10 ^ (k + 1)) from pk_lDiv (by omega) hpp (by omega)) ?_
    refine xe (fun _ _ kK => x_ldc2 dX8_laysNumber_68 kl_X8_227 kK) ?_
    refine xe_tl (show _ = lN 10 from by decide) ?_
    refine xe (fun _ _ kK => x_lrem dX8_laysNumber_71 (by decide) kK) ?_
    refine xe_tl (show _ = lN (w / 10 ^ (k + 1) % 10) from pk_lRem (by omega) (by decide) (by decide)) ?_
    refine xe (fun _ _ kK => x_l2i dX8_laysNumber_72 kK) ?_
    refine xe_ti (show _ = nI (w / 10 ^ (k + 1) % 10) from lN_i _) ?_
    refine xe (fun _ _ kK => x_iadd dX8_laysNumber_73 kK) ?_
    refine xe_ti (show _ = nI (48 + (w / 10 ^ (k + 1) % 10)) from nI_add 48 (w / 10 ^ (k + 1) % 10)) ?_
    refine xe_callV (a := 88) [.int (nI (48 + (w / 10 ^ (k + 1) % 10)))] dX8_laysNumber_74 ml_X8_304 mf_X8_lays hM.1 (c_X8_lays d (R := R) hM hX (by omega) (48 + w / 10 ^ (k + 1) % 10)) rfl rfl (Nat.le_of_ble_eq_true rfl) (Nat.le_of_ble_eq_true rfl) ?_
    rintro _ T1 ⟨rfl, hF1, hX1⟩
    have hM1 := hF1.mi hM
    refine xe (fun _ _ kK => x_lload dX8_laysNumber_77 0 rfl kK) ?_
    refine xe (fun _ _ kK => x_ldc2 dX8_laysNumber_79 kl_X8_227 kK) ?_
    refine xe_tl (show _ = lN 10 from by decide) ?_
    refine xe (fun _ _ kK => x_ldiv dX8_laysNumber_82 (by decide) kK) ?_
    refine xe_tl (show _ = lN (10 ^ k) from (pk_lDiv (by omega) (by decide) (by decide)).trans (by rw [Nat.pow_succ, Nat.mul_div_cancel _ (by decide)])) ?_
    refine xe (fun _ _ kK => x_lstore dX8_laysNumber_83 (by decide) (show _ = [(7, .long (lN (10 ^ k))), (3, .long (lN w)), (0, .ref 88), (1, .long v)] from rfl) kK) ?_
    refine xe (fun _ _ kK => x_goto (tgt := 54) dX8_laysNumber_85 (by decide) kK) ?_
    refine Xe.imp (xe_loc (by simp) (ih T1 _ hM1 hX1 (by omega) (by rw [List.length_append, dgt_len]; rw [hdl] at hl; simp; omega))) ?_
    rintro _ T2 ⟨rfl, hF2, hX2⟩
    exact ⟨rfl, FrM.tr hF1 hF2, by rw [List.append_assoc] at hX2; exact hX2⟩

theorem lg_ge0 {v : Int64} (h : ¬ v < 0) : 0 ≤ lg_cmp v (lN 0) := by
  rcases Int32.lt_or_le (lg_cmp v (lN 0)) 0 with q | q
  · exact absurd (lc_lt q) h
  · exact q
theorem i64_nlt2 {x y : Int64} (h : y ≤ x) : ¬ x < y := fun q => i64_lt_ne q h

set_option maxHeartbeats 4000000 in
theorem c_X8_laysNumberP (d : Nat) {T : TH} {R : List Nat} {w : Nat} {v : Int64} (hM : MI T) (hX : TXs T R) (hw : w < 10 ^ 6) (hvn : v = lN w) (hv0 : ¬ v < 0) (hl : R.length + (ntx w).length ≤ 1000) : Xe m_X8_laysNumber (d + 1) 0 [(0, .ref 88), (1, .long v)] [] T (fun r T1 => r = none ∧ FrM [562] [117] T T1 ∧ TXs T1 (R ++ (ntx w))) := by
  have hp2 : 10 ^ 8 < 2 ^ 63 := by decide
  have hp3 : 10 ^ 6 < 10 ^ 8 := by decide
  refine xe (fun _ _ kK => x_lload_n dX8_laysNumber_0 rfl 1 rfl kK) ?_
  refine xe (fun _ _ kK => x_lconst dX8_laysNumber_1 (show _ = lN 0 by decide) kK) ?_
  refine xe (fun _ _ kK => x_lcmp dX8_laysNumber_2 kK) ?_
  refine xe (fun _ _ kK => x_if_geT (tgt := 12) dX8_laysNumber_3 (by decide) (show 0 ≤ lg_cmp v (lN 0) from lg_ge0 hv0) kK) ?_
  refine xe (fun _ _ kK => x_lload_n dX8_laysNumber_12 rfl 1 rfl kK) ?_
  refine xe (fun _ _ kK => x_lconst dX8_laysNumber_13 (show _ = lN 0 by decide) kK) ?_
  refine xe (fun _ _ kK => x_lcmp dX8_laysNumber_14 kK) ?_
  refine xe (fun _ _ kK => x_if_geT (tgt := 23) dX8_laysNumber_15 (by decide) (lg_ge0 hv0) kK) ?_
  refine xe (fun _ _ kK => x_lload_n dX8_laysNumber_23 rfl 1 rfl kK) ?_
  refine xe_tl (show _ = lN w from hvn) ?_
  refine xe (fun _ _ kK => x_lstore_n dX8_laysNumber_24 rfl (by decide) (show _ = [(3, .long (lN w)), (0, .ref 88), (1, .long v)] from rfl) kK) ?_
  refine xe (fun _ _ kK => x_lconst dX8_laysNumber_25 (show _ = lN 1 by decide) kK) ?_
  refine xe (fun _ _ kK => x_lstore dX8_laysNumber_26 (by decide) (show _ = [(5, .long (lN 1)), (3, .long (lN w)), (0, .ref 88), (1, .long v)] from rfl) kK) ?_
  refine xe_loc (L' := [(5, .long (lN (10 ^ 0))), (3, .long (lN w)), (0, .ref 88), (1, .long v)]) (by simp) ?_
  refine l_X8_laysNumber1 (d + 1) hM (by omega) 9 0 (by omega) (by omega) ?_
  have e9 : lbF 10 w 9 0 = lb 10 w := lbF_98 (by decide) (by omega)
  have hb7 : lb 10 w ≤ 7 := lbF_le (by decide) (by omega) 8 0 (by omega)
  rw [e9]
  refine xe (fun _ _ kK => x_lload dX8_laysNumber_50 0 rfl kK) ?_
  refine xe (fun _ _ kK => x_lstore dX8_laysNumber_52 (by decide) (show _ = [(7, .long (lN (10 ^ lb 10 w))), (5, .long (lN (10 ^ lb 10 w))), (3, .long (lN w)), (0, .ref 88), (1, .long v)] from rfl) kK) ?_
  exact xe_loc (by simp) (l_X8_laysNumber2 d (w := w) (v := v) (by omega) (lb 10 w) T R hM hX (by omega) (by unfold ntx at hl; rw [List.length_map] at hl; exact hl))

set_option maxHeartbeats 4000000 in
theorem c_X8_laysNumberM (d : Nat) {T : TH} {R : List Nat} {w : Nat} {v : Int64} (hM : MI T) (hX : TXs T R) (hw : w < 10 ^ 6) (hvn : -v = lN w) (hv0 : v < 0) (hl : R.length + (45 :: ntx w).length ≤ 1000) : Xe m_X8_laysNumber (d + 1) 0 [(0, .ref 88), (1, .long v)] [] T (fun r T1 => r = none ∧ FrM [562] [117] T T1 ∧ TXs T1 (R ++ (45 :: ntx w))) := by
  have hp2 : 10 ^ 8 < 2 ^ 63 := by decide
  have hp3 : 10 ^ 6 < 10 ^ 8 := by decide
  refine xe (fun _ _ kK => x_lload_n dX8_laysNumber_0 rfl 1 rfl kK) ?_
  refine xe (fun _ _ kK => x_lconst dX8_laysNumber_1 (show _ = lN 0 by decide) kK) ?_
  refine xe (fun _ _ kK => x_lcmp dX8_laysNumber_2 kK) ?_
  refine xe (fun _ _ kK => x_if_geF (tgt := 12) dX8_laysNumber_3 (by decide) (fun z9 => absurd hv0 (i64_nlt2 (lc_ge z9))) kK) ?_
  refine xe (fun _ _ kK => x_aload_n dX8_laysNumber_6 rfl 0 rfl kK) ?_
  refine xe (fun _ _ kK => x_bipush dX8_laysNumber_7 (show _ = nI 45 by decide) kK) ?_
  refine xe_callV (a := 88) [.int (nI 45)] dX8_laysNumber_9 ml_X8_304 mf_X8_lays hM.1 (c_X8_lays d (R := R) hM hX (by simp at hl; omega) 45) rfl rfl (Nat.le_of_ble_eq_true rfl) (Nat.le_of_ble_eq_true rfl) ?_
  rintro _ T0 ⟨rfl, hF0, hX0⟩
  have hM0 := hF0.mi hM
  refine xe (fun _ _ kK => x_lload_n dX8_laysNumber_12 rfl 1 rfl kK) ?_
  refine xe (fun _ _ kK => x_lconst dX8_laysNumber_13 (show _ = lN 0 by decide) kK) ?_
  refine xe (fun _ _ kK => x_lcmp dX8_laysNumber_14 kK) ?_
  refine xe (fun _ _ kK => x_if_geF (tgt := 23) dX8_laysNumber_15 (by decide) (fun z9 => absurd hv0 (i64_nlt2 (lc_ge z9))) kK) ?_
  refine xe (fun _ _ kK => x_lload_n dX8_laysNumber_18 rfl 1 rfl kK) ?_
  refine xe (fun _ _ kK => x_lneg dX8_laysNumber_19 kK) ?_
  refine xe_tl (show _ = lN w from hvn) ?_
  refine xe (fun _ _ kK => x_goto (tgt := 24) dX8_laysNumber_20 (by decide) kK) ?_
  refine xe (fun _ _ kK => x_lstore_n dX8_laysNumber_24 rfl (by decide) (show _ = [(3, .long (lN w)), (0, .ref 88), (1, .long v)] from rfl) kK) ?_
  refine xe (fun _ _ kK => x_lconst dX8_laysNumber_25 (show _ = lN 1 by decide) kK) ?_
  refine xe (fun _ _ kK => x_lstore dX8_laysNumber_26 (by decide) (show _ = [(5, .long (lN 1)), (3, .long (lN w)), (0, .ref 88), (1, .long v)] from rfl) kK) ?_
  refine xe_loc (L' := [(5, .long (lN (10 ^ 0))), (3, .long (lN w)), (0, .ref 88), (1, .long v)]) (by simp) ?_
  refine l_X8_laysNumber1 (d + 1) hM0 (by omega) 9 0 (by omega) (by omega) ?_
  have e9 : lbF 10 w 9 0 = lb 10 w := lbF_98 (by decide) (by omega)
  have hb7 : lb 10 w ≤ 7 := lbF_le (by decide) (by omega) 8 0 (by omega)
  rw [e9]
  refine xe (fun _ _ kK => x_lload dX8_laysNumber_50 0 rfl kK) ?_
  refine xe (fun _ _ kK => x_lstore dX8_laysNumber_52 (by decide) (show _ = [(7, .long (lN (10 ^ lb 10 w))), (5, .long (lN (10 ^ lb 10 w))), (3, .long (lN w)), (0, .ref 88), (1, .long v)] from rfl) kK) ?_
  refine Xe.imp (xe_loc (by simp) (l_X8_laysNumber2 d (w := w) (v := v) (by omega) (lb 10 w) T0 (R ++ [45]) hM0 hX0 (by omega) (by simp at hl; unfold ntx at hl; rw [List.length_map] at hl; rw [List.length_append]; simp; omega))) ?_
  rintro _ T1 ⟨rfl, hF1, hX1⟩
  exact ⟨rfl, FrM.tr hF0 hF1, by rw [List.append_assoc] at hX1; exact hX1⟩
