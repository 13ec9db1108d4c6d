/-! the class's TEXT -/
def CTx (T : TH) (R : List Nat) : Prop := e_i T 321 64 = nI R.length ∧ R.length ≤ 400 ∧ ∀ k c, R[k]? = some c → e_ai T 65 k &&& nI 255 = nI c
theorem CTx.of {I : List (Nat × Nat)} {B : List Nat} {T T1 : TH} {R : List Nat} (h : CTx T R) (hF : FrG I B T T1) (h1 : (321, 64) ∉ I) (h2 : 65 ∉ B) : CTx T1 R := ⟨(hF.i h1).trans h.1, h.2.1, fun k c hk => by rw [hF.ai h2]; exact h.2.2 k c hk⟩
theorem CTx.ofA {S : Nat → Prop} {T T1 : TH} {R : List Nat} (h : CTx T R) (hF : FrA S T T1) (h1 : ¬ S 64) (h2 : ¬ S 65) : CTx T1 R := ⟨(hF.i h1).trans h.1, h.2.1, fun k c hk => by rw [hF.ai h2]; exact h.2.2 k c hk⟩
theorem CTx_add {T T' : TH} {R : List Nat} {c : Nat} (h : CTx T R) (hl : R.length < 400) (r0 : e_i T' 321 64 = nI (R.length + 1)) (r1 : ∀ j, e_ai T' 65 j &&& nI 255 = if j = R.length then nI c else e_ai T 65 j &&& nI 255) : CTx T' (R ++ [c]) := by
  refine ⟨by rw [List.length_append]; exact r0, by simp; omega, fun k q hq => ?_⟩
  rw [r1]
  rcases Nat.lt_or_ge k R.length with z | z
  · rw [List.getElem?_append_left z] at hq
    rw [if_neg (by omega)]; exact h.2.2 k q hq
  · rw [List.getElem?_append_right z] at hq
    have hz : k - R.length < 1 := (List.getElem?_eq_some_iff.mp hq).1
    have hk : k = R.length := by omega
    subst hk
    simp at hq
    rw [if_pos rfl, hq]
theorem by_c {c : Nat} (h : c < 256) : (nI c).toInt8.toInt32 &&& nI 255 = nI c := by
  rw [by_8]
  congr 1
  have : (nI c).toBitVec.toNat = c := by
    unfold nI
    show (BitVec.ofNat 32 c).toNat = c
    rw [BitVec.toNat_ofNat]; omega
  rw [this]; omega

set_option maxHeartbeats 4000000 in
theorem c_X5_put (d : Nat) {T : TH} {R : List Nat} {c : Nat} (hC : CI T) (hX : CTx T R) (hl : R.length < 400) (hc : c < 256) : Xe m_X5_put d 0 [(0, .ref 64), (1, .int (nI c))] [] T (fun r T1 => r = none ∧ FrG [(321, 64)] [65] T T1 ∧ CTx T1 (R ++ [c])) := by
  refine xe (fun _ _ kK => x_aload_n dX5_put_0 rfl 0 rfl kK) ?_
  refine xe (fun _ _ kK => x_get dX5_put_1 fl_X5_15 hC.2.2.2.2.2.2.2.2.2.2.2.1 (gvl_i fz_5_1.2.2 (show e_i T 321 64 = nI R.length from hX.1)) kK) ?_
  refine xe (fun _ _ kK => x_sipush dX5_put_4 (show _ = nI 400 by decide) kK) ?_
  refine xe (fun _ _ kK => x_icmp_geF (tgt := 31) dX5_put_7 (by decide) (fun z9 => by have := cv_le (by omega) (by omega) z9; omega) kK) ?_
  refine xe (fun _ _ kK => x_aload_n dX5_put_10 rfl 0 rfl kK) ?_
  refine xe (fun _ _ kK => x_get dX5_put_11 fl_X5_9 hC.2.2.2.2.2.2.2.2.2.2.2.1 (gvl_r1 fz_5_0.2.2 (show e_r T 320 64 = some 65 from hC.2.2.2.2.2.2.2.2.2.2.2.2.1)) kK) ?_
  refine xe (fun _ _ kK => x_aload_n dX5_put_14 rfl 0 rfl kK) ?_
  refine xe (fun _ _ kK => x_get dX5_put_15 fl_X5_15 hC.2.2.2.2.2.2.2.2.2.2.2.1 (gvl_i fz_5_1.2.2 (show e_i T 321 64 = nI R.length from hX.1)) kK) ?_
  refine xe (fun _ _ kK => x_iload_n dX5_put_18 rfl 1 rfl kK) ?_
  refine xe (fun _ _ kK => x_i2b dX5_put_19 kK) ?_
  refine xe (fun _ _ kK => x_bast dX5_put_20 hC.2.2.2.2.2.2.2.2.2.2.2.2.2.1 (show (nI R.length) = nI R.length from rfl) (by rw [hC.2.2.2.2.2.2.2.2.2.2.2.2.2.2.1]; omega) kK) ?_
  refine xe (fun _ _ kK => x_aload_n dX5_put_21 rfl 0 rfl kK) ?_
  refine xe (fun _ _ kK => x_dup dX5_put_22 rfl kK) ?_
  refine xe (fun _ _ kK => x_get dX5_put_23 fl_X5_15 (wK_ai hC.2.2.2.2.2.2.2.2.2.2.2.1) (gvl_i fz_5_1.2.2 (show e_i (s_ai T 65 R.length (((nI c).toInt8.toInt32).toInt8.toInt32)) 321 64 = nI R.length from (wi_ai hX.1))) kK) ?_
  refine xe (fun _ _ kK => x_iconst dX5_put_26 (show _ = nI 1 by decide) kK) ?_
  refine xe (fun _ _ kK => x_iadd dX5_put_27 kK) ?_
  refine xe_ti (show _ = nI (R.length + 1) from nI_add R.length 1) ?_
  refine xe (fun _ _ kK => x_puti dX5_put_28 ⟨fl_X5_15, fz_5_1.1, fz_5_1.2.1⟩ (Or.inl fz_5_1.2.2) rfl rfl (wK_ai hC.2.2.2.2.2.2.2.2.2.2.2.1) kK) ?_
  have hF : FrG [(321, 64)] [65] T (s_i (s_ai T 65 R.length (((nI c).toInt8.toInt32).toInt8.toInt32)) 321 64 (nI (R.length + 1))) := (FrG.si (FrG.sai FrG.rf (by simp) _ _) (by simp) _)
  refine xe_retv dX5_put_31 rfl (⟨rfl, hF, CTx_add hX hl (by simp [q_i_i, q_i_l, q_i_ai, q_i_al, q_ai_ai, q_ai_i, q_ai_l, q_ai_al, q_al_al, q_al_i, q_al_ai, q_al_l, q_l_i, q_l_l, q_l_ai, q_l_al, q_r_r, q_r_i, q_r_l, q_r_ai, q_r_al, q_i_r, q_l_r, q_ai_r, q_al_r, q_K_i, q_K_r, q_K_l, q_K_ai, q_K_al, q_len_i, q_len_r, q_len_l, q_len_ai, q_len_al, q_n_i, q_n_r, q_n_l, q_n_ai, q_n_al, q_s_i, q_s_r, q_s_l, q_s_ai, q_s_al]) (fun j => ?_)⟩)
  by_cases e9 : j = R.length
  · subst e9; simp [q_i_i, q_i_l, q_i_ai, q_i_al, q_ai_ai, q_ai_i, q_ai_l, q_ai_al, q_al_al, q_al_i, q_al_ai, q_al_l, q_l_i, q_l_l, q_l_ai, q_l_al, q_r_r, q_r_i, q_r_l, q_r_ai, q_r_al, q_i_r, q_l_r, q_ai_r, q_al_r, q_K_i, q_K_r, q_K_l, q_K_ai, q_K_al, q_len_i, q_len_r, q_len_l, q_len_ai, q_len_al, q_n_i, q_n_r, q_n_l, q_n_ai, q_n_al, q_s_i, q_s_r, q_s_l, q_s_ai, q_s_al]; exact by_c hc
  · simp [q_i_i, q_i_l, q_i_ai, q_i_al, q_ai_ai, q_ai_i, q_ai_l, q_ai_al, q_al_al, q_al_i, q_al_ai, q_al_l, q_l_i, q_l_l, q_l_ai, q_l_al, q_r_r, q_r_i, q_r_l, q_r_ai, q_r_al, q_i_r, q_l_r, q_ai_r, q_al_r, q_K_i, q_K_r, q_K_l, q_K_ai, q_K_al, q_len_i, q_len_r, q_len_l, q_len_ai, q_len_al, q_n_i, q_n_r, q_n_l, q_n_ai, q_n_al, q_s_i, q_s_r, q_s_l, q_s_ai, q_s_al, e9]

/-- the letters of w, the k-th first, what is 0 left out -/
def pdg (w : Nat) : Nat → List Nat
  | 0 => if w / 27 ^ 0 % 27 = 0 then [] else [96 + w / 27 ^ 0 % 27]
  | k + 1 => (if w / 27 ^ (k + 1) % 27 = 0 then [] else [96 + w / 27 ^ (k + 1) % 27]) ++ pdg w k
/-- the digits of w from the k-th on, what stands above w left out -/
def ndg (w : Nat) : Nat → List Nat
  | 0 => [48 + w / 10 ^ 0 % 10]
  | k + 1 => (if 10 ^ (k + 1) ≤ w then [48 + w / 10 ^ (k + 1) % 10] else []) ++ ndg w k
theorem pdg_len (w : Nat) : ∀ k, (pdg w k).length ≤ k + 1 := by
  intro k
  induction k with
  | zero => rw [pdg]; split <;> simp
  | succ k ih => rw [pdg, List.length_append]; split <;> simp <;> omega
theorem pdg_lo {w : Nat} (hw : WdOk w) : ∀ k, (k = 0 ∧ 0 < w ∨ 27 ^ k ≤ w) → pdg w k = (dgt 27 w k).map (96 + ·) := by
  intro k
  induction k with
  | zero =>
    intro h
    have h0 : 27 ^ 0 ≤ w := by rcases h with z | z; exact z.2; exact z
    rw [pdg, if_neg (hw 0 h0)]; rfl
  | succ k ih =>
    intro h
    have h0 : 27 ^ (k + 1) ≤ w := by rcases h with z | z; omega; exact z
    have h1 : 27 ^ k ≤ w := Nat.le_trans (Nat.pow_le_pow_right (by decide) (by omega)) h0
    rw [pdg, if_neg (hw _ h0), ih (Or.inr h1)]; rfl
theorem pdg_hi {w m : Nat} (hw : w < 27 ^ (m + 1)) : ∀ k, pdg w (m + k) = pdg w m := by
  intro k
  induction k with
  | zero => rfl
  | succ k ih =>
    show pdg w ((m + k) + 1) = _
    have : w / 27 ^ (m + k + 1) = 0 := Nat.div_eq_of_lt (Nat.lt_of_lt_of_le hw (Nat.pow_le_pow_right (by decide) (by omega)))
    rw [pdg, this, if_pos (by decide), ih]; rfl
theorem pdg_wtx {w : Nat} (hw : WdOk w) (h0 : 0 < w) (h8 : w < 27 ^ 8) : pdg w 7 = wtx w := by
  have hst := lbF_st (B := 27) (w := w) (m := 7) (by decide) h8 8 0 (by omega) (by omega)
  have hle := lbF_le (B := 27) (w := w) (m := 7) (by decide) h8 8 0 (by omega)
  have e : pdg w 7 = pdg w (lb 27 w) := by
    have := pdg_hi (w := w) (m := lb 27 w) hst.1 (7 - lb 27 w)
    rw [show lb 27 w + (7 - lb 27 w) = 7 by unfold lb; omega] at this; exact this
  rw [e, pdg_lo hw]
  · rfl
  · rcases hst.2 with z | z
    · exact Or.inl ⟨z, h0⟩
    · exact Or.inr z
theorem ndg_lo {w : Nat} : ∀ k, (k = 0 ∨ 10 ^ k ≤ w) → ndg w k = (dgt 10 w k).map (48 + ·) := by
  intro k
  induction k with
  | zero => intro _; rfl
  | succ k ih =>
    intro h
    have h0 : 10 ^ (k + 1) ≤ w := by rcases h with z | z; omega; exact z
    have h1 : 10 ^ k ≤ w := Nat.le_trans (Nat.pow_le_pow_right (by decide) (by omega)) h0
    rw [ndg, if_pos h0, ih (Or.inr h1)]; rfl
theorem ndg_hi {w m : Nat} (hw : w < 10 ^ (m + 1)) : ∀ k, ndg w (m + k) = ndg w m := by
  intro k
  induction k with
  | zero => rfl
  | succ k ih =>
    show ndg w ((m + k) + 1) = _
    have : w < 10 ^ (m + k + 1) := Nat.lt_of_lt_of_le hw (Nat.pow_le_pow_right (by decide) (by omega))
    rw [ndg, if_neg (by omega), ih]; rfl
theorem ndg_ntx {w : Nat} (h6 : w < 10 ^ 6) : ndg w 5 = ntx w := by
  have hst := lbF_st (B := 10) (w := w) (m := 5) (by decide) h6 8 0 (by omega) (by omega)
  have hle := lbF_le (B := 10) (w := w) (m := 5) (by decide) h6 8 0 (by omega)
  have e : ndg w 5 = ndg w (lb 10 w) := by
    have := ndg_hi (w := w) (m := lb 10 w) hst.1 (5 - lb 10 w)
    rw [show lb 10 w + (5 - lb 10 w) = 5 by unfold lb; omega] at this; exact this
  rw [e, ndg_lo]
  · rfl
  · exact hst.2
theorem dgt_lt {B w : Nat} (hB : 0 < B) : ∀ k, ∀ d ∈ dgt B w k, d < B := by
  intro k
  induction k with
  | zero => intro d hd; rw [List.mem_singleton.mp hd]; exact Nat.mod_lt _ hB
  | succ k ih =>
    intro d hd
    rcases List.mem_cons.mp hd with e | e
    · rw [e]; exact Nat.mod_lt _ hB
    · exact ih d e

set_option maxHeartbeats 4000000 in
theorem l_X5_putWord (d : Nat) {w : Nat} (hw : w < 2 ^ 63) : ∀ (k : Nat) (T : TH) (R : List Nat), CI T → CTx T R → k ≤ 7 → R.length + (pdg w k).length ≤ 400 → Xe m_X5_putWord (d + 1) 4 [(3, .long (lN (27 ^ k))), (0, .ref 64), (1, .long (lN w))] [] T (fun r T1 => r = none ∧ FrG [(321, 64)] [65] T T1 ∧ CTx T1 (R ++ pdg w k)) := by
  intro k
  induction k with
  | zero =>
    intro T R hC hX hk hl
    have hpp : 0 < 27 ^ 0 := Nat.pow_pos (by decide)
    have hp1 := Nat.pow_le_pow_right (show 0 < 27 by decide) (show 0 ≤ 7 by omega)
    have hp2 : 27 ^ 7 < 2 ^ 63 := by decide
    have hdv : w / 27 ^ 0 ≤ w := Nat.div_le_self _ _
    have hmd : w / 27 ^ 0 % 27 < 27 := Nat.mod_lt _ (by decide)
    refine xe (fun _ _ kK => x_lload_n dX5_putWord_4 rfl 0 rfl kK) ?_
    refine xe (fun _ _ kK => x_lconst dX5_putWord_5 (show _ = lN 0 by decide) kK) ?_
    refine xe (fun _ _ kK => x_lcmp dX5_putWord_6 kK) ?_
    refine xe (fun _ _ kK => x_if_leF (tgt := 46) dX5_putWord_7 (by decide) (fun z9 => by have := (pk_lLE (by omega) (show 0 < 2 ^ 63 by decide)).mp (lc_le z9); omega) kK) ?_
    refine xe (fun _ _ kK => x_lload_n dX5_putWord_10 rfl 2 rfl kK) ?_
    refine xe (fun _ _ kK => x_lload_n dX5_putWord_11 rfl 0 rfl kK) ?_
    refine xe (fun _ _ kK => x_ldiv dX5_putWord_12 (fun z9 => by have := cvl_eq (by omega) (by omega) (z9.trans (show (0 : Int64) = lN 0 from rfl)); omega) kK) ?_
    refine xe_tl (show _ = lN (w / 27 ^ 0) from pk_lDiv (by omega) hpp (by omega)) ?_
    refine xe (fun _ _ kK => x_ldc2 dX5_putWord_13 kl_X5_21 kK) ?_
    refine xe_tl (show _ = lN 27 from by decide) ?_
    refine xe (fun _ _ kK => x_lrem dX5_putWord_16 (by decide) kK) ?_
    refine xe_tl (show _ = lN (w / 27 ^ 0 % 27) from pk_lRem (by omega) (by decide) (by decide)) ?_
    refine xe (fun _ _ kK => x_lstore dX5_putWord_17 (by decide) (show _ = [(5, .long (lN (w / 27 ^ 0 % 27))), (3, .long (lN (27 ^ 0))), (0, .ref 64), (1, .long (lN w))] from rfl) kK) ?_
    refine xe (fun _ _ kK => x_lload dX5_putWord_19 0 rfl kK) ?_
    refine xe (fun _ _ kK => x_lconst dX5_putWord_21 (show _ = lN 0 by decide) kK) ?_
    refine xe (fun _ _ kK => x_lcmp dX5_putWord_22 kK) ?_
    refine xe_if_le (tgt := 37) dX5_putWord_23 (by decide) (fun h23 => ?_) (fun h23 => ?_)
    · -- pc 37
      have h0 : w / 27 ^ 0 % 27 = 0 := by have := (pk_lLE (by omega) (show 0 < 2 ^ 63 by decide)).mp (lc_le h23); omega
      refine xe (fun _ _ kK => x_lload_n dX5_putWord_37 rfl 1 rfl kK) ?_
      refine xe (fun _ _ kK => x_ldc2 dX5_putWord_38 kl_X5_21 kK) ?_
      refine xe_tl (show _ = lN 27 from by decide) ?_
      refine xe (fun _ _ kK => x_ldiv dX5_putWord_41 (by decide) kK) ?_
      refine xe_tl (show _ = lN 0 from by decide) ?_
      refine xe (fun _ _ kK => x_lstore_n dX5_putWord_42 rfl (by decide) (show _ = [(3, .long (lN 0)), (5, .long (lN (w / 27 ^ 0 % 27))), (0, .ref 64), (1, .long (lN w))] from rfl) kK) ?_
      refine xe (fun _ _ kK => x_goto (tgt := 4) dX5_putWord_43 (by decide) kK) ?_
      refine xe (fun _ _ kK => x_lload_n dX5_putWord_4 rfl 0 rfl kK) ?_
      refine xe (fun _ _ kK => x_lconst dX5_putWord_5 (show _ = lN 0 by decide) kK) ?_
      refine xe (fun _ _ kK => x_lcmp dX5_putWord_6 kK) ?_
      refine xe (fun _ _ kK => x_if_leT (tgt := 46) dX5_putWord_7 (by decide) (by decide) kK) ?_
      rw [pdg, if_pos h0, List.append_nil]
      exact xe_retv dX5_putWord_46 rfl (⟨rfl, FrG.rf, hX⟩)
    · -- pc 26
      have h0 : ¬ w / 27 ^ 0 % 27 = 0 := fun z => h23 (by rw [z]; decide)
      rw [pdg, if_neg h0] at hl ⊢
      refine xe (fun _ _ kK => x_aload_n dX5_putWord_26 rfl 2 rfl kK) ?_
      refine xe (fun _ _ kK => x_ldc2 dX5_putWord_27 kl_X5_23 kK) ?_
      refine xe_tl (show _ = lN 96 from by decide) ?_
      refine xe (fun _ _ kK => x_lload dX5_putWord_30 0 rfl kK) ?_
      refine xe (fun _ _ kK => x_ladd dX5_putWord_32 kK) ?_
      refine xe_tl (show _ = lN (96 + (w / 27 ^ 0 % 27)) from lN_add 96 (w / 27 ^ 0 % 27)) ?_
      refine xe (fun _ _ kK => x_l2i dX5_putWord_33 kK) ?_
      refine xe_ti (show _ = nI (96 + w / 27 ^ 0 % 27) from lN_i _) ?_
      refine xe_callV (a := 64) [.int (nI (96 + w / 27 ^ 0 % 27))] dX5_putWord_34 ml_X5_25 mf_X5_put hC.2.2.2.2.2.2.2.2.2.2.2.1 (c_X5_put d (R := R) (c := 96 + w / 27 ^ 0 % 27) hC hX (by simp at hl; omega) (by omega)) rfl rfl (Nat.le_of_ble_eq_true rfl) (Nat.le_of_ble_eq_true rfl) ?_
      rintro _ T1 ⟨rfl, hF1, hX1⟩
      have hC1 := hF1.ci hC
      refine xe (fun _ _ kK => x_lload_n dX5_putWord_37 rfl 1 rfl kK) ?_
      refine xe (fun _ _ kK => x_ldc2 dX5_putWord_38 kl_X5_21 kK) ?_
      refine xe_tl (show _ = lN 27 from by decide) ?_
      refine xe (fun _ _ kK => x_ldiv dX5_putWord_41 (by decide) kK) ?_
      refine xe_tl (show _ = lN 0 from by decide) ?_
      refine xe (fun _ _ kK => x_lstore_n dX5_putWord_42 rfl (by decide) (show _ = [(3, .long (lN 0)), (5, .long (lN (w / 27 ^ 0 % 27))), (0, .ref 64), (1, .long (lN w))] from rfl) kK) ?_
      refine xe (fun _ _ kK => x_goto (tgt := 4) dX5_putWord_43 (by decide) kK) ?_
      refine xe (fun _ _ kK => x_lload_n dX5_putWord_4 rfl 0 rfl kK) ?_
      refine xe (fun _ _ kK => x_lconst dX5_putWord_5 (show _ = lN 0 by decide) kK) ?_
      refine xe (fun _ _ kK => x_lcmp dX5_putWord_6 kK) ?_
      refine xe (fun _ _ kK => x_if_leT (tgt := 46) dX5_putWord_7 (by decide) (by decide) kK) ?_
      exact xe_retv dX5_putWord_46 rfl (⟨rfl, hF1, hX1⟩)
  | succ k ih =>
    intro T R hC hX hk hl
    have hpp : 0 < 27 ^ (k + 1) := Nat.pow_pos (by decide)
    have hp1 := Nat.pow_le_pow_right (show 0 < 27 by decide) (show k + 1 ≤ 7 by omega)
    have hp2 : 27 ^ 7 < 2 ^ 63 := by decide
    have hdv : w / 27 ^ (k + 1) ≤ w := Nat.div_le_self _ _
    have hmd : w / 27 ^ (k + 1) % 27 < 27 := Nat.mod_lt _ (by decide)
    refine xe (fun _ _ kK => x_lload_n dX5_putWord_4 rfl 0 rfl kK) ?_
    refine xe (fun _ _ kK => x_lconst dX5_putWord_5 (show _ = lN 0 by decide) kK) ?_
    refine xe (fun _ _ kK => x_lcmp dX5_putWord_6 kK) ?_
    refine xe (fun _ _ kK => x_if_leF (tgt := 46) dX5_putWord_7 (by decide) (fun z9 => by have := (pk_lLE (by omega) (show 0 < 2 ^ 63 by decide)).mp (lc_le z9); omega) kK) ?_
    refine xe (fun _ _ kK => x_lload_n dX5_putWord_10 rfl 2 rfl kK) ?_
    refine xe (fun _ _ kK => x_lload_n dX5_putWord_11 rfl 0 rfl kK) ?_
    refine xe (fun _ _ kK => x_ldiv dX5_putWord_12 (fun z9 => by have := cvl_eq (by omega) (by omega) (z9.trans (show (0 : Int64) = lN 0 from rfl)); omega) kK) ?_
    refine xe_tl (show _ = lN (w / 27 ^ (k + 1)) from pk_lDiv (by omega) hpp (by omega)) ?_
    refine xe (fun _ _ kK => x_ldc2 dX5_putWord_13 kl_X5_21 kK) ?_
    refine xe_tl (show _ = lN 27 from by decide) ?_
    refine xe (fun _ _ kK => x_lrem dX5_putWord_16 (by decide) kK) ?_
    refine xe_tl (show _ = lN (w / 27 ^ (k + 1) % 27) from pk_lRem (by omega) (by decide) (by decide)) ?_
    refine xe (fun _ _ kK => x_lstore dX5_putWord_17 (by decide) (show _ = [(5, .long (lN (w / 27 ^ (k + 1) % 27))), (3, .long (lN (27 ^ (k + 1)))), (0, .ref 64), (1, .long (lN w))] from rfl) kK) ?_
    refine xe (fun _ _ kK => x_lload dX5_putWord_19 0 rfl kK) ?_
    refine xe (fun _ _ kK => x_lconst dX5_putWord_21 (show _ = lN 0 by decide) kK) ?_
    refine xe (fun _ _ kK => x_lcmp dX5_putWord_22 kK) ?_
    refine xe_if_le (tgt := 37) dX5_putWord_23 (by decide) (fun h23 => ?_) (fun h23 => ?_)
    · -- pc 37
      have h0 : w / 27 ^ (k + 1) % 27 = 0 := by have := (pk_lLE (by omega) (show 0 < 2 ^ 63 by decide)).mp (lc_le h23); omega
      refine xe (fun _ _ kK => x_lload_n dX5_putWord_37 rfl 1 rfl kK) ?_
      refine xe (fun _ _ kK => x_ldc2 dX5_putWord_38 kl_X5_21 kK) ?_
      refine xe_tl (show _ = lN 27 from by decide) ?_
      refine xe (fun _ _ kK => x_ldiv dX5_putWord_41 (by decide) kK) ?_
      refine xe_tl (show _ = lN (27 ^ k) from (pk_lDiv (by omega) (by decide) (by decide)).trans (by rw [Nat.pow_succ, Nat.mul_div_cancel _ (by decide)])) ?_
      refine xe (fun _ _ kK => x_lstore_n dX5_putWord_42 rfl (by decide) (show _ = [(3, .long (lN (27 ^ k))), (5, .long (lN (w / 27 ^ (k + 1) % 27))), (0, .ref 64), (1, .long (lN w))] from rfl) kK) ?_
      refine xe (fun _ _ kK => x_goto (tgt := 4) dX5_putWord_43 (by decide) kK) ?_
      rw [pdg, if_pos h0, List.nil_append] at hl ⊢
      exact xe_loc (by simp) (ih T R hC hX (by omega) hl)
    · -- pc 26
      have h0 : ¬ w / 27 ^ (k + 1) % 27 = 0 := fun z => h23 (by rw [z]; decide)
      rw [pdg, if_neg h0] at hl ⊢
      refine xe (fun _ _ kK => x_aload_n dX5_putWord_26 rfl 2 rfl kK) ?_
      refine xe (fun _ _ kK => x_ldc2 dX5_putWord_27 kl_X5_23 kK) ?_
      refine xe_tl (show _ = lN 96 from by decide) ?_
      refine xe (fun _ _ kK => x_lload dX5_putWord_30 0 rfl kK) ?_
      refine xe (fun _ _ kK => x_ladd dX5_putWord_32 kK) ?_
      refine xe_tl (show _ = lN (96 + (w / 27 ^ (k + 1) % 27)) from lN_add 96 (w / 27 ^ (k + 1) % 27)) ?_
      refine xe (fun _ _ kK => x_l2i dX5_putWord_33 kK) ?_
      refine xe_ti (show _ = nI (96 + w / 27 ^ (k + 1) % 27) from lN_i _) ?_
      refine xe_callV (a := 64) [.int (nI (96 + w / 27 ^ (k + 1) % 27))] dX5_putWord_34 ml_X5_25 mf_X5_put hC.2.2.2.2.2.2.2.2.2.2.2.1 (c_X5_put d (R := R) (c := 96 + w / 27 ^ (k + 1) % 27) hC hX (by simp at hl; omega) (by omega)) rfl rfl (Nat.le_of_ble_eq_true rfl) (Nat.le_of_ble_eq_true rfl) ?_
      rintro _ T1 ⟨rfl, hF1, hX1⟩
      have hC1 := hF1.ci hC
      refine xe (fun _ _ kK => x_lload_n dX5_putWord_37 rfl 1 rfl kK) ?_
      refine xe (fun _ _ kK => x_ldc2 dX5_putWord_38 kl_X5_21 kK) ?_
      refine xe_tl (show _ = lN 27 from by decide) ?_
      refine xe (fun _ _ kK => x_ldiv dX5_putWord_41 (by decide) kK) ?_
      refine xe_tl (show _ = lN (27 ^ k) from (pk_lDiv (by omega) (by decide) (by decide)).trans (by rw [Nat.pow_succ, Nat.mul_div_cancel _ (by decide)])) ?_
      refine xe (fun _ _ kK => x_lstore_n dX5_putWord_42 rfl (by decide) (show _ = [(3, .long (lN (27 ^ k))), (5, .long (lN (w / 27 ^ (k + 1) % 27))), (0, .ref 64), (1, .long (lN w))] from rfl) kK) ?_
      refine xe (fun _ _ kK => x_goto (tgt := 4) dX5_putWord_43 (by decide) kK) ?_
      refine Xe.imp (xe_loc (by simp) (ih T1 _ hC1 hX1 (by omega) (by simp at hl ⊢; omega))) ?_
      rintro _ T2 ⟨rfl, hF2, hX2⟩
      exact ⟨rfl, FrG.tr hF1 hF2, by rw [List.append_assoc] at hX2; exact hX2⟩

set_option maxHeartbeats 4000000 in
theorem c_X5_putWord (d : Nat) {T : TH} {R : List Nat} {w : Nat} (hC : CI T) (hX : CTx T R) (hW : WdOk w) (h0 : 0 < w) (h8 : w < 27 ^ 8) (hl : R.length + (wtx w).length ≤ 400) : Xe m_X5_putWord (d + 1) 0 [(0, .ref 64), (1, .long (lN w))] [] T (fun r T1 => r = none ∧ FrG [(321, 64)] [65] T T1 ∧ CTx T1 (R ++ wtx w)) := by
  refine xe (fun _ _ kK => x_ldc2 dX5_putWord_0 kl_X5_19 kK) ?_
  refine xe_tl (show _ = lN 10460353203 from by decide) ?_
  refine xe (fun _ _ kK => x_lstore_n dX5_putWord_3 rfl (by decide) (show _ = [(3, .long (lN 10460353203)), (0, .ref 64), (1, .long (lN w))] from rfl) kK) ?_
  rw [← pdg_wtx hW h0 h8] at hl ⊢
  refine xe_loc (L' := [(3, .long (lN (27 ^ 7))), (0, .ref 64), (1, .long (lN w))]) (by simp) ?_
  exact l_X5_putWord d (by omega) 7 T R hC hX (Nat.le_refl _) hl

set_option maxHeartbeats 4000000 in
theorem l_X5_putNumber (d : Nat) {w : Nat} (hw : w < 2 ^ 63) : ∀ (k : Nat) (T : TH) (R : List Nat), CI T → CTx T R → k ≤ 5 → R.length + (ndg w k).length ≤ 400 → Xe m_X5_putNumber (d + 1) 22 [(5, .long (lN (10 ^ k))), (3, .long (lN w)), (0, .ref 64)] [] T (fun r T1 => r = none ∧ FrG [(321, 64)] [65] T T1 ∧ CTx T1 (R ++ ndg w k)) := by
  intro k
  induction k with
  | zero =>
    intro T R hC hX hk hl
    have hpp : 0 < 10 ^ 0 := Nat.pow_pos (by decide)
    have hp1 := Nat.pow_le_pow_right (show 0 < 10 by decide) (show 0 ≤ 5 by omega)
    have hp2 : 10 ^ 5 < 2 ^ 63 := by decide
    have hdv : w / 10 ^ 0 ≤ w := Nat.div_le_self _ _
    have hmd : w / 10 ^ 0 % 10 < 10 := Nat.mod_lt _ (by decide)
    refine xe (fun _ _ kK => x_lload dX5_putNumber_22 0 rfl kK) ?_
    refine xe (fun _ _ kK => x_lconst dX5_putNumber_24 (show _ = lN 0 by decide) kK) ?_
    refine xe (fun _ _ kK => x_lcmp dX5_putNumber_25 kK) ?_
    refine xe (fun _ _ kK => x_if_leF (tgt := 71) dX5_putNumber_26 (by decide) (fun z9 => by have := (pk_lLE (by omega) (show 0 < 2 ^ 63 by decide)).mp (lc_le z9); omega) kK) ?_
    refine xe (fun _ _ kK => x_lload_n dX5_putNumber_29 rfl 1 rfl kK) ?_
    refine xe (fun _ _ kK => x_lload dX5_putNumber_30 0 rfl kK) ?_
    refine xe (fun _ _ kK => x_lcmp dX5_putNumber_32 kK) ?_
    refine xe_if_ge (tgt := 43) dX5_putNumber_33 (by decide) (fun h33 => ?_) (fun h33 => ?_)
    · -- pc 43
      have h33 := lc_ge h33
      have hge := (pk_lLE (by omega) (by omega)).mp h33
      rw [ndg] at hl ⊢
      refine xe (fun _ _ kK => x_aload_n dX5_putNumber_43 rfl 2 rfl kK) ?_
      refine xe (fun _ _ kK => x_ldc2 dX5_putNumber_44 kl_X5_37 kK) ?_
      refine xe_tl (show _ = lN 48 from by decide) ?_
      refine xe (fun _ _ kK => x_lload_n dX5_putNumber_47 rfl 1 rfl kK) ?_
      refine xe (fun _ _ kK => x_lload dX5_putNumber_48 0 rfl kK) ?_
      refine xe (fun _ _ kK => x_ldiv dX5_putNumber_50 (fun z9 => by have := cvl_eq (by omega) (by omega) (z9.trans (show (0 : Int64) = lN 0 from rfl)); omega) kK) ?_
      refine xe_tl (show _ = lN (w / 10 ^ 0) from pk_lDiv (by omega) hpp (by omega)) ?_
      refine xe (fun _ _ kK => x_ldc2 dX5_putNumber_51 kl_X5_39 kK) ?_
      refine xe_tl (show _ = lN 10 from by decide) ?_
      refine xe (fun _ _ kK => x_lrem dX5_putNumber_54 (by decide) kK) ?_
      refine xe_tl (show _ = lN (w / 10 ^ 0 % 10) from pk_lRem (by omega) (by decide) (by decide)) ?_
      refine xe (fun _ _ kK => x_ladd dX5_putNumber_55 kK) ?_
      refine xe_tl (show _ = lN (48 + (w / 10 ^ 0 % 10)) from lN_add 48 (w / 10 ^ 0 % 10)) ?_
      refine xe (fun _ _ kK => x_l2i dX5_putNumber_56 kK) ?_
      refine xe_ti (show _ = nI (48 + w / 10 ^ 0 % 10) from lN_i _) ?_
      refine xe_callV (a := 64) [.int (nI (48 + w / 10 ^ 0 % 10))] dX5_putNumber_57 ml_X5_25 mf_X5_put hC.2.2.2.2.2.2.2.2.2.2.2.1 (c_X5_put d (R := R) (c := 48 + w / 10 ^ 0 % 10) hC hX (by simp at hl; omega) (by omega)) rfl rfl (Nat.le_of_ble_eq_true rfl) (Nat.le_of_ble_eq_true rfl) ?_
      rintro _ T1 ⟨rfl, hF1, hX1⟩
      have hC1 := hF1.ci hC
      refine xe (fun _ _ kK => x_lload dX5_putNumber_60 0 rfl kK) ?_
      refine xe (fun _ _ kK => x_ldc2 dX5_putNumber_62 kl_X5_39 kK) ?_
      refine xe_tl (show _ = lN 10 from by decide) ?_
      refine xe (fun _ _ kK => x_ldiv dX5_putNumber_65 (by decide) kK) ?_
      refine xe_tl (show _ = lN 0 from by decide) ?_
      refine xe (fun _ _ kK => x_lstore dX5_putNumber_66 (by decide) (show _ = [(5, .long (lN 0)), (3, .long (lN w)), (0, .ref 64)] from rfl) kK) ?_
      refine xe (fun _ _ kK => x_goto (tgt := 22) dX5_putNumber_68 (by decide) kK) ?_
      refine xe (fun _ _ kK => x_lload dX5_putNumber_22 0 rfl kK) ?_
      refine xe (fun _ _ kK => x_lconst dX5_putNumber_24 (show _ = lN 0 by decide) kK) ?_
      refine xe (fun _ _ kK => x_lcmp dX5_putNumber_25 kK) ?_
      refine xe (fun _ _ kK => x_if_leT (tgt := 71) dX5_putNumber_26 (by decide) (by decide) kK) ?_
      exact xe_retv dX5_putNumber_71 rfl (⟨rfl, hF1, hX1⟩)
    · -- pc 36
      have h33 := lc_ltn h33
      have hlt := (pk_lLT (by omega) (by omega)).mp h33
      refine xe (fun _ _ kK => x_lload dX5_putNumber_36 0 rfl kK) ?_
      refine xe (fun _ _ kK => x_lconst dX5_putNumber_38 (show _ = lN 1 by decide) kK) ?_
      refine xe (fun _ _ kK => x_lcmp dX5_putNumber_39 kK) ?_
      refine xe (fun _ _ kK => x_if_neF (tgt := 60) dX5_putNumber_40 (by decide) (by decide) kK) ?_
      rw [ndg] at hl ⊢
      refine xe (fun _ _ kK => x_aload_n dX5_putNumber_43 rfl 2 rfl kK) ?_
      refine xe (fun _ _ kK => x_ldc2 dX5_putNumber_44 kl_X5_37 kK) ?_
      refine xe_tl (show _ = lN 48 from by decide) ?_
      refine xe (fun _ _ kK => x_lload_n dX5_putNumber_47 rfl 1 rfl kK) ?_
      refine xe (fun _ _ kK => x_lload dX5_putNumber_48 0 rfl kK) ?_
      refine xe (fun _ _ kK => x_ldiv dX5_putNumber_50 (fun z9 => by have := cvl_eq (by omega) (by omega) (z9.trans (show (0 : Int64) = lN 0 from rfl)); omega) kK) ?_
      refine xe_tl (show _ = lN (w / 10 ^ 0) from pk_lDiv (by omega) hpp (by omega)) ?_
      refine xe (fun _ _ kK => x_ldc2 dX5_putNumber_51 kl_X5_39 kK) ?_
      refine xe_tl (show _ = lN 10 from by decide) ?_
      refine xe (fun _ _ kK => x_lrem dX5_putNumber_54 (by decide) kK) ?_
      refine xe_tl (show _ = lN (w / 10 ^ 0 % 10) from pk_lRem (by omega) (by decide) (by decide)) ?_
      refine xe (fun _ _ kK => x_ladd dX5_putNumber_55 kK) ?_
      refine xe_tl (show _ = lN (48 + (w / 10 ^ 0 % 10)) from lN_add 48 (w / 10 ^ 0 % 10)) ?_
      refine xe (fun _ _ kK => x_l2i dX5_putNumber_56 kK) ?_
      refine xe_ti (show _ = nI (48 + w / 10 ^ 0 % 10) from lN_i _) ?_
      refine xe_callV (a := 64) [.int (nI (48 + w / 10 ^ 0 % 10))] dX5_putNumber_57 ml_X5_25 mf_X5_put hC.2.2.2.2.2.2.2.2.2.2.2.1 (c_X5_put d (R := R) (c := 48 + w / 10 ^ 0 % 10) hC hX (by simp at hl; omega) (by omega)) rfl rfl (Nat.le_of_ble_eq_true rfl) (Nat.le_of_ble_eq_true rfl) ?_
      rintro _ T1 ⟨rfl, hF1, hX1⟩
      have hC1 := hF1.ci hC
      refine xe (fun _ _ kK => x_lload dX5_putNumber_60 0 rfl kK) ?_
      refine xe (fun _ _ kK => x_ldc2 dX5_putNumber_62 kl_X5_39 kK) ?_
      refine xe_tl (show _ = lN 10 from by decide) ?_
      refine xe (fun _ _ kK => x_ldiv dX5_putNumber_65 (by decide) kK) ?_
      refine xe_tl (show _ = lN 0 from by decide) ?_
      refine xe (fun _ _ kK => x_lstore dX5_putNumber_66 (by decide) (show _ = [(5, .long (lN 0)), (3, .long (lN w)), (0, .ref 64)] from rfl) kK) ?_
      refine xe (fun _ _ kK => x_goto (tgt := 22) dX5_putNumber_68 (by decide) kK) ?_
      refine xe (fun _ _ kK => x_lload dX5_putNumber_22 0 rfl kK) ?_
      refine xe (fun _ _ kK => x_lconst dX5_putNumber_24 (show _ = lN 0 by decide) kK) ?_
      refine xe (fun _ _ kK => x_lcmp dX5_putNumber_25 kK) ?_
      refine xe (fun _ _ kK => x_if_leT (tgt := 71) dX5_putNumber_26 (by decide) (by decide) kK) ?_
      exact xe_retv dX5_putNumber_71 rfl (⟨rfl, hF1, hX1⟩)
  | succ k ih =>
    intro T R hC hX hk hl
    have hpp : 0 < 10 ^ (k + 1) := Nat.pow_pos (by decide)
    have hp1 := Nat.pow_le_pow_right (show 0 < 10 by decide) (show k + 1 ≤ 5 by omega)
    have hp2 : 10 ^ 5 < 2 ^ 63 := by decide
    have hdv : w / 10 ^ (k + 1) ≤ w := Nat.div_le_self _ _
    have hmd : w / 10 ^ (k + 1) % 10 < 10 := Nat.mod_lt _ (by decide)
    refine xe (fun _ _ kK => x_lload dX5_putNumber_22 0 rfl kK) ?_
    refine xe (fun _ _ kK => x_lconst dX5_putNumber_24 (show _ = lN 0 by decide) kK) ?_
    refine xe (fun _ _ kK => x_lcmp dX5_putNumber_25 kK) ?_
    refine xe (fun _ _ kK => x_if_leF (tgt := 71) dX5_putNumber_26 (by decide) (fun z9 => by have := (pk_lLE (by omega) (show 0 < 2 ^ 63 by decide)).mp (lc_le z9); omega) kK) ?_
    refine xe (fun _ _ kK => x_lload_n dX5_putNumber_29 rfl 1 rfl kK) ?_
    refine xe (fun _ _ kK => x_lload dX5_putNumber_30 0 rfl kK) ?_
    refine xe (fun _ _ kK => x_lcmp dX5_putNumber_32 kK) ?_
    refine xe_if_ge (tgt := 43) dX5_putNumber_33 (by decide) (fun h33 => ?_) (fun h33 => ?_)
    · -- pc 43
      have h33 := lc_ge h33
      have hge := (pk_lLE (by omega) (by omega)).mp h33
      rw [ndg, if_pos hge] at hl ⊢
      refine xe (fun _ _ kK => x_aload_n dX5_putNumber_43 rfl 2 rfl kK) ?_
      refine xe (fun _ _ kK => x_ldc2 dX5_putNumber_44 kl_X5_37 kK) ?_
      refine xe_tl (show _ = lN 48 from by decide) ?_
      refine xe (fun _ _ kK => x_lload_n dX5_putNumber_47 rfl 1 rfl kK) ?_
      refine xe (fun _ _ kK => x_lload dX5_putNumber_48 0 rfl kK) ?_
      refine xe (fun _ _ kK => x_ldiv dX5_putNumber_50 (fun z9 => by have := cvl_eq (by omega) (by omega) (z9.trans (show (0 : Int64) = lN 0 from rfl)); omega) kK) ?_
      refine xe_tl (show _ = lN (w / 10 ^ (k + 1)) from pk_lDiv (by omega) hpp (by omega)) ?_
      refine xe (fun _ _ kK => x_ldc2 dX5_putNumber_51 kl_X5_39 kK) ?_
      refine xe_tl (show _ = lN 10 from by decide) ?_
      refine xe (fun _ _ kK => x_lrem dX5_putNumber_54 (by decide) kK) ?_
      refine xe_tl (show _ = lN (w / 10 ^ (k + 1) % 10) from pk_lRem (by omega) (by decide) (by decide)) ?_
      refine xe (fun _ _ kK => x_ladd dX5_putNumber_55 kK) ?_
      refine xe_tl (show _ = lN (48 + (w / 10 ^ (k + 1) % 10)) from lN_add 48 (w / 10 ^ (k + 1) % 10)) ?_
      refine xe (fun _ _ kK => x_l2i dX5_putNumber_56 kK) ?_
      refine xe_ti (show _ = nI (48 + w / 10 ^ (k + 1) % 10) from lN_i _) ?_
      refine xe_callV (a := 64) [.int (nI (48 + w / 10 ^ (k + 1) % 10))] dX5_putNumber_57 ml_X5_25 mf_X5_put hC.2.2.2.2.2.2.2.2.2.2.2.1 (c_X5_put d (R := R) (c := 48 + w / 10 ^ (k + 1) % 10) hC hX (by simp at hl; omega) (by omega)) rfl rfl (Nat.le_of_ble_eq_true rfl) (Nat.le_of_ble_eq_true rfl) ?_
      rintro _ T1 ⟨rfl, hF1, hX1⟩
      have hC1 := hF1.ci hC
      refine xe (fun _ _ kK => x_lload dX5_putNumber_60 0 rfl kK) ?_
      refine xe (fun _ _ kK => x_ldc2 dX5_putNumber_62 kl_X5_39 kK) ?_
      refine xe_tl (show _ = lN 10 from by decide) ?_
      refine xe (fun _ _ kK => x_ldiv dX5_putNumber_65 (by decide) kK) ?_
      refine xe_tl (show _ = lN (10 ^ k) from (pk_lDiv (by omega) (by decide) (by decide)).trans (by rw [Nat.pow_succ, Nat.mul_div_cancel _ (by decide)])) ?_
      refine xe (fun _ _ kK => x_lstore dX5_putNumber_66 (by decide) (show _ = [(5, .long (lN (10 ^ k))), (3, .long (lN w)), (0, .ref 64)] from rfl) kK) ?_
      refine xe (fun _ _ kK => x_goto (tgt := 22) dX5_putNumber_68 (by decide) kK) ?_
      refine Xe.imp (xe_loc (by simp) (ih T1 _ hC1 hX1 (by omega) (by simp at hl ⊢; omega))) ?_
      rintro _ T2 ⟨rfl, hF2, hX2⟩
      exact ⟨rfl, FrG.tr hF1 hF2, by rw [List.append_assoc] at hX2; exact hX2⟩
    · -- pc 36
      have h33 := lc_ltn h33
      have hlt := (pk_lLT (by omega) (by omega)).mp h33
      refine xe (fun _ _ kK => x_lload dX5_putNumber_36 0 rfl kK) ?_
      refine xe (fun _ _ kK => x_lconst dX5_putNumber_38 (show _ = lN 1 by decide) kK) ?_
      refine xe (fun _ _ kK => x_lcmp dX5_putNumber_39 kK) ?_
      refine xe (fun _ _ kK => x_if_neT (tgt := 60) dX5_putNumber_40 (by decide) (fun z9 => by have h9 := lc_eq z9; have := cvl_eq (by omega) (by decide) h9; have := Nat.pow_le_pow_right (show 0 < 10 by decide) (show 1 ≤ k + 1 by omega); omega) kK) ?_
      rw [ndg, if_neg (by omega), List.nil_append] at hl ⊢
      refine xe (fun _ _ kK => x_lload dX5_putNumber_60 0 rfl kK) ?_
      refine xe (fun _ _ kK => x_ldc2 dX5_putNumber_62 kl_X5_39 kK) ?_
      refine xe_tl (show _ = lN 10 from by decide) ?_
      refine xe (fun _ _ kK => x_ldiv dX5_putNumber_65 (by decide) kK) ?_
      refine xe_tl (show _ = lN (10 ^ k) from (pk_lDiv (by omega) (by decide) (by decide)).trans (by rw [Nat.pow_succ, Nat.mul_div_cancel _ (by decide)])) ?_
      refine xe (fun _ _ kK => x_lstore dX5_putNumber_66 (by decide) (show _ = [(5, .long (lN (10 ^ k))), (3, .long (lN w)), (0, .ref 64)] from rfl) kK) ?_
      refine xe (fun _ _ kK => x_goto (tgt := 22) dX5_putNumber_68 (by decide) kK) ?_
      exact xe_loc (by simp) (ih T R hC hX (by omega) hl)

theorem lc_gz {v : Int64} (h : 0 ≤ lg_cmp v (lN 0)) : ¬ v < 0 := fun hneg => by
  have h1 := lc_ge h
  exact i64_nlt2 h1 hneg
theorem i64_asym {x y : Int64} (h : x < y) : ¬ y < x := fun k => by
  have h1 := Int64.lt_iff_toInt_lt.mp h
  have h2 := Int64.lt_iff_toInt_lt.mp k
  omega
theorem abs0 {v : Int64} {w : Nat} (h : v = lN w) (h1 : ¬ v < 0) (h2 : ¬ 0 < v) : -v = lN w := by
  have e : v = 0 := by
    apply Int64.toInt_inj.mp
    have k1 : ¬ v.toInt < 0 := fun z => h1 (Int64.lt_iff_toInt_lt.mpr z)
    have k2 : ¬ 0 < v.toInt := fun z => h2 (Int64.lt_iff_toInt_lt.mpr z)
    show v.toInt = 0
    omega
  rw [← h, e]; rfl

set_option maxHeartbeats 4000000 in
theorem c_X5_putNumber (d : Nat) {T : TH} {R : List Nat} {v : Int64} (hC : CI T) (hX : CTx T R) (hv : ∃ w, w < 10 ^ 6 ∧ ((v = lN w) ∨ (-v = lN w ∧ v < 0))) (hl : R.length + (ntv v).length ≤ 400) : Xe m_X5_putNumber (d + 1) 0 [(0, .ref 64), (1, .long v)] [] T (fun r T1 => r = none ∧ FrG [(321, 64)] [65] T T1 ∧ CTx T1 (R ++ ntv v)) := by
  refine xe (fun _ _ kK => x_lload_n dX5_putNumber_0 rfl 1 rfl kK) ?_
  refine xe (fun _ _ kK => x_lconst dX5_putNumber_1 (show _ = lN 0 by decide) kK) ?_
  refine xe (fun _ _ kK => x_lcmp dX5_putNumber_2 kK) ?_
  obtain ⟨w, hw6, hvw⟩ := hv
  by_cases hneg : v < 0
  · -- pc 3
    have hvw2 : -v = lN w := by
      rcases hvw with z | z
      · exact absurd hneg (z ▸ lN_nn (by omega))
      · exact z.1
    have hna := neg_na (by omega) hvw2 hneg
    have htx : ntv v = [45] ++ ntx w := by unfold ntv; rw [if_pos hneg, hna]
    rw [htx] at hl ⊢
    refine xe (fun _ _ kK => x_if_geF (tgt := 12) dX5_putNumber_3 (by decide) (fun z9 => (lc_gz z9) hneg) kK) ?_
    refine xe (fun _ _ kK => x_aload_n dX5_putNumber_6 rfl 0 rfl kK) ?_
    refine xe (fun _ _ kK => x_bipush dX5_putNumber_7 (show _ = nI 45 by decide) kK) ?_
    refine xe_callV (a := 64) [.int (nI 45)] dX5_putNumber_9 ml_X5_25 mf_X5_put hC.2.2.2.2.2.2.2.2.2.2.2.1 (c_X5_put d (R := R) (c := 45) hC hX (by simp at hl; omega) (by decide)) rfl rfl (Nat.le_of_ble_eq_true rfl) (Nat.le_of_ble_eq_true rfl) ?_
    rintro _ T1 ⟨rfl, hF1, hX1⟩
    have hC1 := hF1.ci hC
    refine xe (fun _ _ kK => x_lload_n dX5_putNumber_12 rfl 1 rfl kK) ?_
    refine xe (fun _ _ kK => x_mabs dX5_putNumber_13 ml_X5_29 (Nat.le_of_ble_eq_true rfl) kK) ?_
    refine xe_tl (show _ = lN w from (by rw [if_neg (fun z9 => i64_asym z9 hneg)]; exact hvw2)) ?_
    refine xe (fun _ _ kK => x_lstore_n dX5_putNumber_16 rfl (by decide) (show _ = [(3, .long (lN w)), (0, .ref 64), (1, .long v)] from rfl) kK) ?_
    refine xe (fun _ _ kK => x_ldc2 dX5_putNumber_17 kl_X5_35 kK) ?_
    refine xe_tl (show _ = lN 100000 from by decide) ?_
    refine xe (fun _ _ kK => x_lstore dX5_putNumber_20 (by decide) (show _ = [(5, .long (lN 100000)), (3, .long (lN w)), (0, .ref 64), (1, .long v)] from rfl) kK) ?_
    refine xe_loc (L' := [(5, .long (lN (10 ^ 5))), (3, .long (lN w)), (0, .ref 64)]) (by simp) ?_
    have hfin := l_X5_putNumber d (w := w) (by omega) 5 T1 (R ++ [45]) hC1 hX1 (Nat.le_refl _) (by rw [ndg_ntx hw6]; simp at hl ⊢; omega)
    rw [ndg_ntx hw6] at hfin
    refine hfin.imp ?_
    rintro _ T2 ⟨rfl, hF2, hX2⟩
    exact ⟨rfl, FrG.tr hF1 hF2, by rw [List.append_assoc] at hX2; exact hX2⟩
  · -- pc 3
    have hvw2 : v = lN w := by
      rcases hvw with z | z
      · exact z
      · exact absurd z.2 hneg
    have htx : ntv v = ntx w := by unfold ntv; rw [if_neg hneg, hvw2, lN_na (by omega)]; rfl
    rw [htx] at hl ⊢
    refine xe (fun _ _ kK => x_if_geT (tgt := 12) dX5_putNumber_3 (by decide) (lg_ge0 hneg) kK) ?_
    refine xe (fun _ _ kK => x_lload_n dX5_putNumber_12 rfl 1 rfl kK) ?_
    refine xe (fun _ _ kK => x_mabs dX5_putNumber_13 ml_X5_29 (Nat.le_of_ble_eq_true rfl) kK) ?_
    refine xe_tl (show _ = lN w from (by by_cases z9 : 0 < v; rw [if_pos z9, hvw2]; rw [if_neg z9]; exact abs0 hvw2 hneg z9)) ?_
    refine xe (fun _ _ kK => x_lstore_n dX5_putNumber_16 rfl (by decide) (show _ = [(3, .long (lN w)), (0, .ref 64), (1, .long v)] from rfl) kK) ?_
    refine xe (fun _ _ kK => x_ldc2 dX5_putNumber_17 kl_X5_35 kK) ?_
    refine xe_tl (show _ = lN 100000 from by decide) ?_
    refine xe (fun _ _ kK => x_lstore dX5_putNumber_20 (by decide) (show _ = [(5, .long (lN 100000)), (3, .long (lN w)), (0, .ref 64), (1, .long v)] from rfl) kK) ?_
    refine xe_loc (L' := [(5, .long (lN (10 ^ 5))), (3, .long (lN w)), (0, .ref 64)]) (by simp) ?_
    have hfin := l_X5_putNumber d (w := w) (by omega) 5 T R hC hX (Nat.le_refl _) (by rw [ndg_ntx hw6]; exact hl)
    rw [ndg_ntx hw6] at hfin
    exact hfin
