/-! a PAPER's rows are taken out -/
def shR (i : Nat) (r : Row) : Row := (r.1, r.2.1, r.2.2.1, r.2.2.2.1, if i < r.2.2.2.2 then r.2.2.2.2 - 1 else r.2.2.2.2)
def fgR (i : Nat) (R : List Row) : List Row := (R.filter (fun r => decide (r.2.2.2.2 ≠ i))).map (shR i)
theorem rowAt_get {R : List Row} {k : Nat} (h : k < R.length) : R[k]? = some (rowAt R k) := by unfold rowAt; simp [List.getD, h]
theorem take_r {R : List Row} {k : Nat} (h : k < R.length) : R.take (k + 1) = R.take k ++ [rowAt R k] := by rw [List.take_add_one, rowAt_get h]; rfl
theorem fgR_app (i : Nat) (R S : List Row) : fgR i (R ++ S) = fgR i R ++ fgR i S := by unfold fgR; rw [List.filter_append, List.map_append]
theorem fgR_out {i : Nat} {R : List Row} {k : Nat} (h : k < R.length) (e : (rowAt R k).2.2.2.2 = i) : fgR i (R.take (k + 1)) = fgR i (R.take k) := by
  rw [take_r h, fgR_app]
  have : fgR i [rowAt R k] = [] := by unfold fgR; simp [e]
  rw [this]; simp
theorem fgR_in {i : Nat} {R : List Row} {k : Nat} (h : k < R.length) (e : ¬ (rowAt R k).2.2.2.2 = i) : fgR i (R.take (k + 1)) = fgR i (R.take k) ++ [shR i (rowAt R k)] := by
  rw [take_r h, fgR_app]
  have : fgR i [rowAt R k] = [shR i (rowAt R k)] := by unfold fgR; simp [e]
  rw [this]
theorem fgR_le (i : Nat) (R : List Row) : (fgR i R).length ≤ R.length := by unfold fgR; rw [List.length_map]; exact List.length_filter_le _ _
theorem fgR_lek (i : Nat) (R : List Row) (k : Nat) : (fgR i (R.take k)).length ≤ k := by have := fgR_le i (R.take k); rw [List.length_take] at this; omega
/-- while rows are taken out: k are looked at -/
def Fgt (T T' : TH) (A : Nat → Nat → Nat) (c i k : Nat) (R : List Row) : Prop := FrG [] [A c 0, A c 1, A c 2, A c 3] T T' ∧ (∀ j, j < (fgR i (R.take k)).length → e_ai T' (A c 0) j = nI (rowAt (fgR i (R.take k)) j).1 ∧ e_ai T' (A c 1) j = nI (rowAt (fgR i (R.take k)) j).2.1 ∧ e_ai T' (A c 2) j = nI (rowAt (fgR i (R.take k)) j).2.2.2.2 ∧ e_al T' (A c 3) j = (rowAt (fgR i (R.take k)) j).2.2.2.1) ∧ ∀ j, k ≤ j → j < R.length → e_ai T' (A c 0) j = nI (rowAt R j).1 ∧ e_ai T' (A c 1) j = nI (rowAt R j).2.1 ∧ e_ai T' (A c 2) j = nI (rowAt R j).2.2.2.2 ∧ e_al T' (A c 3) j = (rowAt R j).2.2.2.1

set_option maxHeartbeats 4000000 in
theorem l_X3_forget (d : Nat) {T : TH} {A : Nat → Nat → Nat} {cp : Nat → Nat} {c i : Nat} {R : List Row} (hA : TbA T A cp) (hc : c < 12) (hR : TbR T A cp c R) (hP : ∀ k, k < R.length → (rowAt R k).2.2.2.2 < 2 ^ 31) (hi : i < 2 ^ 31) : ∀ (m k : Nat) (T' : TH), R.length - k = m → k ≤ R.length → Fgt T T' A c i k R → Xe m_X3_forget d 4 [(3, .int (nI k)), (2, .int (nI (fgR i (R.take k)).length)), (0, .ref (4 + 5 * c)), (1, .int (nI i))] [] T' (fun r T1 => r = none ∧ FrG [(196, 4 + 5 * c)] [A c 0, A c 1, A c 2, A c 3] T T1 ∧ TbR T1 A cp c (fgR i R)) := by
  intro m
  induction m using Nat.strongRecOn with
  | ind m ih =>
    intro k T' hm hk hG
    subst hm
    have hA2 := hA.ofG hG.1
    have hle0 := (hA2.2.1 c 0 hc (by decide)).2.2.1
    have hle1 := (hA2.2.1 c 1 hc (by decide)).2.2.1
    have hle2 := (hA2.2.1 c 2 hc (by decide)).2.2.1
    have hle3 := (hA2.2.1 c 3 hc (by decide)).2.2.1
    have hkl := fgR_lek i R k
    have hcl := hR.2.1
    have hcp := (hA.1 c hc).2.2
    have n01 : A c 0 ≠ A c 1 := fun z => by have := hA.2.2.1 c 0 c 1 hc (by decide) hc (by decide) z; omega
    have n02 : A c 0 ≠ A c 2 := fun z => by have := hA.2.2.1 c 0 c 2 hc (by decide) hc (by decide) z; omega
    have n12 : A c 1 ≠ A c 2 := fun z => by have := hA.2.2.1 c 1 c 2 hc (by decide) hc (by decide) z; omega
    refine xe (fun _ _ kK => x_iload_n dX3_forget_4 rfl 0 rfl kK) ?_
    refine xe (fun _ _ kK => x_aload_n dX3_forget_5 rfl 2 rfl kK) ?_
    refine xe (fun _ _ kK => x_get dX3_forget_6 fl_X3_25 (hA2.1 c hc).1 (gvl_i fz_3_4.2.2 (show e_i T' 196 (4 + 5 * c) = nI R.length from ((hG.1.i (by simp)).trans hR.1))) kK) ?_
    refine xe_icmp_ge (tgt := 100) dX3_forget_9 (by decide) (fun h9 => ?_) (fun h9 => ?_)
    · -- pc 100
      have h9 := cv_le (by omega) (by omega) h9
      have ek : k = R.length := by omega
      subst ek
      have etk : R.take R.length = R := List.take_length
      unfold Fgt at hG; rw [etk] at hG hkl ⊢
      refine xe (fun _ _ kK => x_aload_n dX3_forget_100 rfl 2 rfl kK) ?_
      refine xe (fun _ _ kK => x_iload_n dX3_forget_101 rfl 1 rfl kK) ?_
      refine xe (fun _ _ kK => x_puti dX3_forget_102 ⟨fl_X3_25, fz_3_4.1, fz_3_4.2.1⟩ (Or.inl fz_3_4.2.2) rfl rfl (hA2.1 c hc).1 kK) ?_
      have hF : FrG [(196, 4 + 5 * c)] [A c 0, A c 1, A c 2, A c 3] T (s_i T' 196 (4 + 5 * c) (nI (fgR i R).length)) := FrG.si (hG.1.mono (by simp) (by simp)) (by simp) _
      refine xe_retv dX3_forget_105 rfl (⟨rfl, hF, by simp [q_i_i, q_i_l, q_i_ai, q_i_al, q_ai_ai, q_ai_i, q_ai_l, q_ai_al, q_al_al, q_al_i, q_al_ai, q_al_l, q_l_i, q_l_l, q_l_ai, q_l_al, q_r_r, q_r_i, q_r_l, q_r_ai, q_r_al, q_i_r, q_l_r, q_ai_r, q_al_r, q_K_i, q_K_r, q_K_l, q_K_ai, q_K_al, q_len_i, q_len_r, q_len_l, q_len_ai, q_len_al, q_n_i, q_n_r, q_n_l, q_n_ai, q_n_al, q_s_i, q_s_r, q_s_l, q_s_ai, q_s_al], by omega, fun j hj => ?_⟩)
      exact hG.2.1 j hj
    · -- pc 12
      have h9 := cv_nle (by omega) (by omega) h9
      have hpk := hP k h9
      refine xe (fun _ _ kK => x_aload_n dX3_forget_12 rfl 2 rfl kK) ?_
      refine xe (fun _ _ kK => x_get dX3_forget_13 fl_X3_18 (hA2.1 c hc).1 (gvl_r1 fz_3_2.2.2 (show e_r T' 194 (4 + 5 * c) = some (A c 2) from (hA2.2.1 c 2 hc (by decide)).1)) kK) ?_
      refine xe (fun _ _ kK => x_iload_n dX3_forget_16 rfl 0 rfl kK) ?_
      refine xe (fun _ _ kK => x_iald dX3_forget_17 (show e_K _ (A c 2) = 20 from (hA2.2.1 c 2 hc (by decide)).2.1) (show (nI k) = nI k from rfl) (show k < e_len T' (A c 2) by omega) (show e_ai T' (A c 2) k = nI (rowAt R k).2.2.2.2 from (hG.2.2 k (Nat.le_refl _) h9).2.2.1) kK) ?_
      refine xe (fun _ _ kK => x_iload_n dX3_forget_18 rfl 3 rfl kK) ?_
      refine xe_icmp_eq (tgt := 94) dX3_forget_19 (by decide) (fun h19 => ?_) (fun h19 => ?_)
      · -- pc 94
        have h19 := cv_eq (by omega) (by omega) h19
        refine xe (fun _ _ kK => x_iinc dX3_forget_94 0 rfl (show (nI k) + Int32.ofInt 1 = nI (k + 1) from nI_add k 1) (by decide) (show _ = [(3, .int (nI (k + 1))), (2, .int (nI (fgR i (R.take k)).length)), (0, .ref (4 + 5 * c)), (1, .int (nI i))] from rfl) kK) ?_
        refine xe (fun _ _ kK => x_goto (tgt := 4) dX3_forget_97 (by decide) kK) ?_
        have hG2 : Fgt T T' A c i (k + 1) R := ⟨hG.1, by rw [fgR_out h9 h19]; exact hG.2.1, fun j h1 h2 => hG.2.2 j (by omega) h2⟩
        have e9 := ih (R.length - (k + 1)) (by omega) (k + 1) T' rfl (by omega) hG2
        rw [fgR_out h9 h19] at e9
        exact xe_loc (by simp) e9
      · -- pc 22
        have h19 := cv_ne (by omega) (by omega) h19
        refine xe (fun _ _ kK => x_aload_n dX3_forget_22 rfl 2 rfl kK) ?_
        refine xe (fun _ _ kK => x_get dX3_forget_23 fl_X3_9 (hA2.1 c hc).1 (gvl_r1 fz_3_0.2.2 (show e_r T' 192 (4 + 5 * c) = some (A c 0) from (hA2.2.1 c 0 hc (by decide)).1)) kK) ?_
        refine xe (fun _ _ kK => x_iload_n dX3_forget_26 rfl 1 rfl kK) ?_
        refine xe (fun _ _ kK => x_aload_n dX3_forget_27 rfl 2 rfl kK) ?_
        refine xe (fun _ _ kK => x_get dX3_forget_28 fl_X3_9 (hA2.1 c hc).1 (gvl_r1 fz_3_0.2.2 (show e_r T' 192 (4 + 5 * c) = some (A c 0) from (hA2.2.1 c 0 hc (by decide)).1)) kK) ?_
        refine xe (fun _ _ kK => x_iload_n dX3_forget_31 rfl 0 rfl kK) ?_
        refine xe (fun _ _ kK => x_iald dX3_forget_32 (show e_K _ (A c 0) = 20 from (hA2.2.1 c 0 hc (by decide)).2.1) (show (nI k) = nI k from rfl) (show k < e_len T' (A c 0) by omega) (show e_ai T' (A c 0) k = nI (rowAt R k).1 from (hG.2.2 k (Nat.le_refl _) h9).1) kK) ?_
        refine xe (fun _ _ kK => x_iast dX3_forget_33 (show e_K _ (A c 0) = 20 from (hA2.2.1 c 0 hc (by decide)).2.1) (show (nI (fgR i (R.take k)).length) = nI ((fgR i (R.take k)).length) from rfl) (show (fgR i (R.take k)).length < e_len T' (A c 0) by omega) kK) ?_
        refine xe (fun _ _ kK => x_aload_n dX3_forget_34 rfl 2 rfl kK) ?_
        refine xe (fun _ _ kK => x_get dX3_forget_35 fl_X3_15 (wK_ai (hA2.1 c hc).1) (gvl_r1 fz_3_1.2.2 (show e_r (s_ai T' (A c 0) ((fgR i (R.take k)).length) (nI (rowAt R k).1)) 193 (4 + 5 * c) = some (A c 1) from (wr_ai (hA2.2.1 c 1 hc (by decide)).1))) kK) ?_
        refine xe (fun _ _ kK => x_iload_n dX3_forget_38 rfl 1 rfl kK) ?_
        refine xe (fun _ _ kK => x_aload_n dX3_forget_39 rfl 2 rfl kK) ?_
        refine xe (fun _ _ kK => x_get dX3_forget_40 fl_X3_15 (wK_ai (hA2.1 c hc).1) (gvl_r1 fz_3_1.2.2 (show e_r (s_ai T' (A c 0) ((fgR i (R.take k)).length) (nI (rowAt R k).1)) 193 (4 + 5 * c) = some (A c 1) from (wr_ai (hA2.2.1 c 1 hc (by decide)).1))) kK) ?_
        refine xe (fun _ _ kK => x_iload_n dX3_forget_43 rfl 0 rfl kK) ?_
        refine xe (fun _ _ kK => x_iald dX3_forget_44 (wK_ai (show e_K _ (A c 1) = 20 from (hA2.2.1 c 1 hc (by decide)).2.1)) (show (nI k) = nI k from rfl) (wN_ai (show k < e_len T' (A c 1) by omega)) (show e_ai (s_ai T' (A c 0) ((fgR i (R.take k)).length) (nI (rowAt R k).1)) (A c 1) k = nI (rowAt R k).2.1 from ((eai_a _ _ (show A c 1 ≠ (A c 0) from (by omega))).trans (hG.2.2 k (Nat.le_refl _) h9).2.1)) kK) ?_
        refine xe (fun _ _ kK => x_iast dX3_forget_45 (wK_ai (show e_K _ (A c 1) = 20 from (hA2.2.1 c 1 hc (by decide)).2.1)) (show (nI (fgR i (R.take k)).length) = nI ((fgR i (R.take k)).length) from rfl) (wN_ai (show (fgR i (R.take k)).length < e_len T' (A c 1) by omega)) kK) ?_
        refine xe (fun _ _ kK => x_aload_n dX3_forget_46 rfl 2 rfl kK) ?_
        refine xe (fun _ _ kK => x_get dX3_forget_47 fl_X3_18 (wK_ai (wK_ai (hA2.1 c hc).1)) (gvl_r1 fz_3_2.2.2 (show e_r (s_ai (s_ai T' (A c 0) ((fgR i (R.take k)).length) (nI (rowAt R k).1)) (A c 1) ((fgR i (R.take k)).length) (nI (rowAt R k).2.1)) 194 (4 + 5 * c) = some (A c 2) from (wr_ai (wr_ai (hA2.2.1 c 2 hc (by decide)).1)))) kK) ?_
        refine xe (fun _ _ kK => x_iload_n dX3_forget_50 rfl 1 rfl kK) ?_
        refine xe (fun _ _ kK => x_aload_n dX3_forget_51 rfl 2 rfl kK) ?_
        refine xe (fun _ _ kK => x_get dX3_forget_52 fl_X3_18 (wK_ai (wK_ai (hA2.1 c hc).1)) (gvl_r1 fz_3_2.2.2 (show e_r (s_ai (s_ai T' (A c 0) ((fgR i (R.take k)).length) (nI (rowAt R k).1)) (A c 1) ((fgR i (R.take k)).length) (nI (rowAt R k).2.1)) 194 (4 + 5 * c) = some (A c 2) from (wr_ai (wr_ai (hA2.2.1 c 2 hc (by decide)).1)))) kK) ?_
        refine xe (fun _ _ kK => x_iload_n dX3_forget_55 rfl 0 rfl kK) ?_
        refine xe (fun _ _ kK => x_iald dX3_forget_56 (wK_ai (wK_ai (show e_K _ (A c 2) = 20 from (hA2.2.1 c 2 hc (by decide)).2.1))) (show (nI k) = nI k from rfl) (wN_ai (wN_ai (show k < e_len T' (A c 2) by omega))) (show e_ai (s_ai (s_ai T' (A c 0) ((fgR i (R.take k)).length) (nI (rowAt R k).1)) (A c 1) ((fgR i (R.take k)).length) (nI (rowAt R k).2.1)) (A c 2) k = nI (rowAt R k).2.2.2.2 from ((eai_a _ _ (show A c 2 ≠ (A c 1) from (by omega))).trans ((eai_a _ _ (show A c 2 ≠ (A c 0) from (by omega))).trans (hG.2.2 k (Nat.le_refl _) h9).2.2.1))) kK) ?_
        refine xe (fun _ _ kK => x_iload_n dX3_forget_57 rfl 3 rfl kK) ?_
        refine xe_icmp_le (tgt := 72) dX3_forget_58 (by decide) (fun h58 => ?_) (fun h58 => ?_)
        · -- pc 72
          have h58 := cv_le (by omega) (by omega) h58
          refine xe (fun _ _ kK => x_aload_n dX3_forget_72 rfl 2 rfl kK) ?_
          refine xe (fun _ _ kK => x_get dX3_forget_73 fl_X3_18 (wK_ai (wK_ai (hA2.1 c hc).1)) (gvl_r1 fz_3_2.2.2 (show e_r (s_ai (s_ai T' (A c 0) ((fgR i (R.take k)).length) (nI (rowAt R k).1)) (A c 1) ((fgR i (R.take k)).length) (nI (rowAt R k).2.1)) 194 (4 + 5 * c) = some (A c 2) from (wr_ai (wr_ai (hA2.2.1 c 2 hc (by decide)).1)))) kK) ?_
          refine xe (fun _ _ kK => x_iload_n dX3_forget_76 rfl 0 rfl kK) ?_
          refine xe (fun _ _ kK => x_iald dX3_forget_77 (wK_ai (wK_ai (show e_K _ (A c 2) = 20 from (hA2.2.1 c 2 hc (by decide)).2.1))) (show (nI k) = nI k from rfl) (wN_ai (wN_ai (show k < e_len T' (A c 2) by omega))) (show e_ai (s_ai (s_ai T' (A c 0) ((fgR i (R.take k)).length) (nI (rowAt R k).1)) (A c 1) ((fgR i (R.take k)).length) (nI (rowAt R k).2.1)) (A c 2) k = nI (rowAt R k).2.2.2.2 from ((eai_a _ _ (show A c 2 ≠ (A c 1) from (by omega))).trans ((eai_a _ _ (show A c 2 ≠ (A c 0) from (by omega))).trans (hG.2.2 k (Nat.le_refl _) h9).2.2.1))) kK) ?_
          refine xe (fun _ _ kK => x_iast dX3_forget_78 (wK_ai (wK_ai (show e_K _ (A c 2) = 20 from (hA2.2.1 c 2 hc (by decide)).2.1))) (show (nI (fgR i (R.take k)).length) = nI ((fgR i (R.take k)).length) from rfl) (wN_ai (wN_ai (show (fgR i (R.take k)).length < e_len T' (A c 2) by omega))) kK) ?_
          refine xe (fun _ _ kK => x_aload_n dX3_forget_79 rfl 2 rfl kK) ?_
          refine xe (fun _ _ kK => x_get dX3_forget_80 fl_X3_21 (wK_ai (wK_ai (wK_ai (hA2.1 c hc).1))) (gvl_r1 fz_3_3.2.2 (show e_r (s_ai (s_ai (s_ai T' (A c 0) ((fgR i (R.take k)).length) (nI (rowAt R k).1)) (A c 1) ((fgR i (R.take k)).length) (nI (rowAt R k).2.1)) (A c 2) ((fgR i (R.take k)).length) (nI (rowAt R k).2.2.2.2)) 195 (4 + 5 * c) = some (A c 3) from (wr_ai (wr_ai (wr_ai (hA2.2.1 c 3 hc (by decide)).1))))) kK) ?_
          refine xe (fun _ _ kK => x_iload_n dX3_forget_83 rfl 1 rfl kK) ?_
          refine xe (fun _ _ kK => x_aload_n dX3_forget_84 rfl 2 rfl kK) ?_
          refine xe (fun _ _ kK => x_get dX3_forget_85 fl_X3_21 (wK_ai (wK_ai (wK_ai (hA2.1 c hc).1))) (gvl_r1 fz_3_3.2.2 (show e_r (s_ai (s_ai (s_ai T' (A c 0) ((fgR i (R.take k)).length) (nI (rowAt R k).1)) (A c 1) ((fgR i (R.take k)).length) (nI (rowAt R k).2.1)) (A c 2) ((fgR i (R.take k)).length) (nI (rowAt R k).2.2.2.2)) 195 (4 + 5 * c) = some (A c 3) from (wr_ai (wr_ai (wr_ai (hA2.2.1 c 3 hc (by decide)).1))))) kK) ?_
          refine xe (fun _ _ kK => x_iload_n dX3_forget_88 rfl 0 rfl kK) ?_
          refine xe (fun _ _ kK => x_lald dX3_forget_89 (wK_ai (wK_ai (wK_ai (show e_K _ (A c 3) = 23 from (hA2.2.1 c 3 hc (by decide)).2.1)))) (show (nI k) = nI k from rfl) (wN_ai (wN_ai (wN_ai (show k < e_len T' (A c 3) by omega)))) (show e_al (s_ai (s_ai (s_ai T' (A c 0) ((fgR i (R.take k)).length) (nI (rowAt R k).1)) (A c 1) ((fgR i (R.take k)).length) (nI (rowAt R k).2.1)) (A c 2) ((fgR i (R.take k)).length) (nI (rowAt R k).2.2.2.2)) (A c 3) k = (rowAt R k).2.2.2.1 from (wal_ai (wal_ai (wal_ai (hG.2.2 k (Nat.le_refl _) h9).2.2.2)))) kK) ?_
          refine xe (fun _ _ kK => x_last dX3_forget_90 (wK_ai (wK_ai (wK_ai (show e_K _ (A c 3) = 23 from (hA2.2.1 c 3 hc (by decide)).2.1)))) (show (nI (fgR i (R.take k)).length) = nI ((fgR i (R.take k)).length) from rfl) (wN_ai (wN_ai (wN_ai (show (fgR i (R.take k)).length < e_len T' (A c 3) by omega)))) kK) ?_
          refine xe (fun _ _ kK => x_iinc dX3_forget_91 1 rfl (show (nI (fgR i (R.take k)).length) + Int32.ofInt 1 = nI ((fgR i (R.take k)).length + 1) from nI_add ((fgR i (R.take k)).length) 1) (by decide) (show _ = [(2, .int (nI ((fgR i (R.take k)).length + 1))), (3, .int (nI k)), (0, .ref (4 + 5 * c)), (1, .int (nI i))] from rfl) kK) ?_
          refine xe (fun _ _ kK => x_iinc dX3_forget_94 1 rfl (show (nI k) + Int32.ofInt 1 = nI (k + 1) from nI_add k 1) (by decide) (show _ = [(3, .int (nI (k + 1))), (2, .int (nI ((fgR i (R.take k)).length + 1))), (0, .ref (4 + 5 * c)), (1, .int (nI i))] from rfl) kK) ?_
          refine xe (fun _ _ kK => x_goto (tgt := 4) dX3_forget_97 (by decide) kK) ?_
          have hF : FrG [] [A c 0, A c 1, A c 2, A c 3] T' (s_al (s_ai (s_ai (s_ai T' (A c 0) ((fgR i (R.take k)).length) (nI (rowAt R k).1)) (A c 1) ((fgR i (R.take k)).length) (nI (rowAt R k).2.1)) (A c 2) ((fgR i (R.take k)).length) (nI (rowAt R k).2.2.2.2)) (A c 3) ((fgR i (R.take k)).length) ((rowAt R k).2.2.2.1)) := (FrG.sal (FrG.sai (FrG.sai (FrG.sai FrG.rf (by simp) _ _) (by simp) _ _) (by simp) _ _) (by simp) _ _)
          have hsr : shR i (rowAt R k) = ((rowAt R k).1, (rowAt R k).2.1, (rowAt R k).2.2.1, (rowAt R k).2.2.2.1, (rowAt R k).2.2.2.2) := by unfold shR; rw [if_neg (by omega)]
          have hG2 : Fgt T (s_al (s_ai (s_ai (s_ai T' (A c 0) ((fgR i (R.take k)).length) (nI (rowAt R k).1)) (A c 1) ((fgR i (R.take k)).length) (nI (rowAt R k).2.1)) (A c 2) ((fgR i (R.take k)).length) (nI (rowAt R k).2.2.2.2)) (A c 3) ((fgR i (R.take k)).length) ((rowAt R k).2.2.2.1)) A c i (k + 1) R := by
            refine ⟨FrG.tr hG.1 hF, fun j hj => ?_, fun j h1 h2 => ?_⟩
            · rw [fgR_in h9 h19] at hj ⊢
              have hj2 : j < (fgR i (R.take k)).length + 1 := by simpa using hj
              by_cases ej : j = (fgR i (R.take k)).length
              · subst ej; rw [rowAt_end, hsr]; simp [q_i_i, q_i_l, q_i_ai, q_i_al, q_ai_ai, q_ai_i, q_ai_l, q_ai_al, q_al_al, q_al_i, q_al_ai, q_al_l, q_l_i, q_l_l, q_l_ai, q_l_al, q_r_r, q_r_i, q_r_l, q_r_ai, q_r_al, q_i_r, q_l_r, q_ai_r, q_al_r, q_K_i, q_K_r, q_K_l, q_K_ai, q_K_al, q_len_i, q_len_r, q_len_l, q_len_ai, q_len_al, q_n_i, q_n_r, q_n_l, q_n_ai, q_n_al, q_s_i, q_s_r, q_s_l, q_s_ai, q_s_al, n01, n02, n12, n01.symm, n02.symm, n12.symm]
              · rw [rowAt_app (by omega)]; have h1 := hG.2.1 j (by omega); simp [q_i_i, q_i_l, q_i_ai, q_i_al, q_ai_ai, q_ai_i, q_ai_l, q_ai_al, q_al_al, q_al_i, q_al_ai, q_al_l, q_l_i, q_l_l, q_l_ai, q_l_al, q_r_r, q_r_i, q_r_l, q_r_ai, q_r_al, q_i_r, q_l_r, q_ai_r, q_al_r, q_K_i, q_K_r, q_K_l, q_K_ai, q_K_al, q_len_i, q_len_r, q_len_l, q_len_ai, q_len_al, q_n_i, q_n_r, q_n_l, q_n_ai, q_n_al, q_s_i, q_s_r, q_s_l, q_s_ai, q_s_al, ej]; exact h1
            · have h1' := hG.2.2 j (by omega) h2; have ej : ¬ j = (fgR i (R.take k)).length := by omega
              simp [q_i_i, q_i_l, q_i_ai, q_i_al, q_ai_ai, q_ai_i, q_ai_l, q_ai_al, q_al_al, q_al_i, q_al_ai, q_al_l, q_l_i, q_l_l, q_l_ai, q_l_al, q_r_r, q_r_i, q_r_l, q_r_ai, q_r_al, q_i_r, q_l_r, q_ai_r, q_al_r, q_K_i, q_K_r, q_K_l, q_K_ai, q_K_al, q_len_i, q_len_r, q_len_l, q_len_ai, q_len_al, q_n_i, q_n_r, q_n_l, q_n_ai, q_n_al, q_s_i, q_s_r, q_s_l, q_s_ai, q_s_al, ej]; exact h1'
          have e9 := ih (R.length - (k + 1)) (by omega) (k + 1) _ rfl (by omega) hG2
          rw [show (fgR i (R.take (k + 1))).length = (fgR i (R.take k)).length + 1 by rw [fgR_in h9 h19]; simp] at e9
          exact xe_loc (by simp) e9
        · -- pc 61
          have h58 := cv_nle (by omega) (by omega) h58
          refine xe (fun _ _ kK => x_aload_n dX3_forget_61 rfl 2 rfl kK) ?_
          refine xe (fun _ _ kK => x_get dX3_forget_62 fl_X3_18 (wK_ai (wK_ai (hA2.1 c hc).1)) (gvl_r1 fz_3_2.2.2 (show e_r (s_ai (s_ai T' (A c 0) ((fgR i (R.take k)).length) (nI (rowAt R k).1)) (A c 1) ((fgR i (R.take k)).length) (nI (rowAt R k).2.1)) 194 (4 + 5 * c) = some (A c 2) from (wr_ai (wr_ai (hA2.2.1 c 2 hc (by decide)).1)))) kK) ?_
          refine xe (fun _ _ kK => x_iload_n dX3_forget_65 rfl 0 rfl kK) ?_
          refine xe (fun _ _ kK => x_iald dX3_forget_66 (wK_ai (wK_ai (show e_K _ (A c 2) = 20 from (hA2.2.1 c 2 hc (by decide)).2.1))) (show (nI k) = nI k from rfl) (wN_ai (wN_ai (show k < e_len T' (A c 2) by omega))) (show e_ai (s_ai (s_ai T' (A c 0) ((fgR i (R.take k)).length) (nI (rowAt R k).1)) (A c 1) ((fgR i (R.take k)).length) (nI (rowAt R k).2.1)) (A c 2) k = nI (rowAt R k).2.2.2.2 from ((eai_a _ _ (show A c 2 ≠ (A c 1) from (by omega))).trans ((eai_a _ _ (show A c 2 ≠ (A c 0) from (by omega))).trans (hG.2.2 k (Nat.le_refl _) h9).2.2.1))) kK) ?_
          refine xe (fun _ _ kK => x_iconst dX3_forget_67 (show _ = nI 1 by decide) kK) ?_
          refine xe (fun _ _ kK => x_isub dX3_forget_68 kK) ?_
          refine xe_ti (show _ = nI ((rowAt R k).2.2.2.2 - 1) from pk_sub (by omega)) ?_
          refine xe (fun _ _ kK => x_goto (tgt := 78) dX3_forget_69 (by decide) kK) ?_
          refine xe (fun _ _ kK => x_iast dX3_forget_78 (wK_ai (wK_ai (show e_K _ (A c 2) = 20 from (hA2.2.1 c 2 hc (by decide)).2.1))) (show (nI (fgR i (R.take k)).length) = nI ((fgR i (R.take k)).length) from rfl) (wN_ai (wN_ai (show (fgR i (R.take k)).length < e_len T' (A c 2) by omega))) kK) ?_
          refine xe (fun _ _ kK => x_aload_n dX3_forget_79 rfl 2 rfl kK) ?_
          refine xe (fun _ _ kK => x_get dX3_forget_80 fl_X3_21 (wK_ai (wK_ai (wK_ai (hA2.1 c hc).1))) (gvl_r1 fz_3_3.2.2 (show e_r (s_ai (s_ai (s_ai T' (A c 0) ((fgR i (R.take k)).length) (nI (rowAt R k).1)) (A c 1) ((fgR i (R.take k)).length) (nI (rowAt R k).2.1)) (A c 2) ((fgR i (R.take k)).length) (nI ((rowAt R k).2.2.2.2 - 1))) 195 (4 + 5 * c) = some (A c 3) from (wr_ai (wr_ai (wr_ai (hA2.2.1 c 3 hc (by decide)).1))))) kK) ?_
          refine xe (fun _ _ kK => x_iload_n dX3_forget_83 rfl 1 rfl kK) ?_
          refine xe (fun _ _ kK => x_aload_n dX3_forget_84 rfl 2 rfl kK) ?_
          refine xe (fun _ _ kK => x_get dX3_forget_85 fl_X3_21 (wK_ai (wK_ai (wK_ai (hA2.1 c hc).1))) (gvl_r1 fz_3_3.2.2 (show e_r (s_ai (s_ai (s_ai T' (A c 0) ((fgR i (R.take k)).length) (nI (rowAt R k).1)) (A c 1) ((fgR i (R.take k)).length) (nI (rowAt R k).2.1)) (A c 2) ((fgR i (R.take k)).length) (nI ((rowAt R k).2.2.2.2 - 1))) 195 (4 + 5 * c) = some (A c 3) from (wr_ai (wr_ai (wr_ai (hA2.2.1 c 3 hc (by decide)).1))))) kK) ?_
          refine xe (fun _ _ kK => x_iload_n dX3_forget_88 rfl 0 rfl kK) ?_
          refine xe (fun _ _ kK => x_lald dX3_forget_89 (wK_ai (wK_ai (wK_ai (show e_K _ (A c 3) = 23 from (hA2.2.1 c 3 hc (by decide)).2.1)))) (show (nI k) = nI k from rfl) (wN_ai (wN_ai (wN_ai (show k < e_len T' (A c 3) by omega)))) (show e_al (s_ai (s_ai (s_ai T' (A c 0) ((fgR i (R.take k)).length) (nI (rowAt R k).1)) (A c 1) ((fgR i (R.take k)).length) (nI (rowAt R k).2.1)) (A c 2) ((fgR i (R.take k)).length) (nI ((rowAt R k).2.2.2.2 - 1))) (A c 3) k = (rowAt R k).2.2.2.1 from (wal_ai (wal_ai (wal_ai (hG.2.2 k (Nat.le_refl _) h9).2.2.2)))) kK) ?_
          refine xe (fun _ _ kK => x_last dX3_forget_90 (wK_ai (wK_ai (wK_ai (show e_K _ (A c 3) = 23 from (hA2.2.1 c 3 hc (by decide)).2.1)))) (show (nI (fgR i (R.take k)).length) = nI ((fgR i (R.take k)).length) from rfl) (wN_ai (wN_ai (wN_ai (show (fgR i (R.take k)).length < e_len T' (A c 3) by omega)))) kK) ?_
          refine xe (fun _ _ kK => x_iinc dX3_forget_91 1 rfl (show (nI (fgR i (R.take k)).length) + Int32.ofInt 1 = nI ((fgR i (R.take k)).length + 1) from nI_add ((fgR i (R.take k)).length) 1) (by decide) (show _ = [(2, .int (nI ((fgR i (R.take k)).length + 1))), (3, .int (nI k)), (0, .ref (4 + 5 * c)), (1, .int (nI i))] from rfl) kK) ?_
          refine xe (fun _ _ kK => x_iinc dX3_forget_94 1 rfl (show (nI k) + Int32.ofInt 1 = nI (k + 1) from nI_add k 1) (by decide) (show _ = [(3, .int (nI (k + 1))), (2, .int (nI ((fgR i (R.take k)).length + 1))), (0, .ref (4 + 5 * c)), (1, .int (nI i))] from rfl) kK) ?_
          refine xe (fun _ _ kK => x_goto (tgt := 4) dX3_forget_97 (by decide) kK) ?_
          have hF : FrG [] [A c 0, A c 1, A c 2, A c 3] T' (s_al (s_ai (s_ai (s_ai T' (A c 0) ((fgR i (R.take k)).length) (nI (rowAt R k).1)) (A c 1) ((fgR i (R.take k)).length) (nI (rowAt R k).2.1)) (A c 2) ((fgR i (R.take k)).length) (nI ((rowAt R k).2.2.2.2 - 1))) (A c 3) ((fgR i (R.take k)).length) ((rowAt R k).2.2.2.1)) := (FrG.sal (FrG.sai (FrG.sai (FrG.sai FrG.rf (by simp) _ _) (by simp) _ _) (by simp) _ _) (by simp) _ _)
          have hsr : shR i (rowAt R k) = ((rowAt R k).1, (rowAt R k).2.1, (rowAt R k).2.2.1, (rowAt R k).2.2.2.1, (rowAt R k).2.2.2.2 - 1) := by unfold shR; rw [if_pos (by omega)]
          have hG2 : Fgt T (s_al (s_ai (s_ai (s_ai T' (A c 0) ((fgR i (R.take k)).length) (nI (rowAt R k).1)) (A c 1) ((fgR i (R.take k)).length) (nI (rowAt R k).2.1)) (A c 2) ((fgR i (R.take k)).length) (nI ((rowAt R k).2.2.2.2 - 1))) (A c 3) ((fgR i (R.take k)).length) ((rowAt R k).2.2.2.1)) A c i (k + 1) R := by
            refine ⟨FrG.tr hG.1 hF, fun j hj => ?_, fun j h1 h2 => ?_⟩
            · rw [fgR_in h9 h19] at hj ⊢
              have hj2 : j < (fgR i (R.take k)).length + 1 := by simpa using hj
              by_cases ej : j = (fgR i (R.take k)).length
              · subst ej; rw [rowAt_end, hsr]; simp [q_i_i, q_i_l, q_i_ai, q_i_al, q_ai_ai, q_ai_i, q_ai_l, q_ai_al, q_al_al, q_al_i, q_al_ai, q_al_l, q_l_i, q_l_l, q_l_ai, q_l_al, q_r_r, q_r_i, q_r_l, q_r_ai, q_r_al, q_i_r, q_l_r, q_ai_r, q_al_r, q_K_i, q_K_r, q_K_l, q_K_ai, q_K_al, q_len_i, q_len_r, q_len_l, q_len_ai, q_len_al, q_n_i, q_n_r, q_n_l, q_n_ai, q_n_al, q_s_i, q_s_r, q_s_l, q_s_ai, q_s_al, n01, n02, n12, n01.symm, n02.symm, n12.symm]
              · rw [rowAt_app (by omega)]; have h1 := hG.2.1 j (by omega); simp [q_i_i, q_i_l, q_i_ai, q_i_al, q_ai_ai, q_ai_i, q_ai_l, q_ai_al, q_al_al, q_al_i, q_al_ai, q_al_l, q_l_i, q_l_l, q_l_ai, q_l_al, q_r_r, q_r_i, q_r_l, q_r_ai, q_r_al, q_i_r, q_l_r, q_ai_r, q_al_r, q_K_i, q_K_r, q_K_l, q_K_ai, q_K_al, q_len_i, q_len_r, q_len_l, q_len_ai, q_len_al, q_n_i, q_n_r, q_n_l, q_n_ai, q_n_al, q_s_i, q_s_r, q_s_l, q_s_ai, q_s_al, ej]; exact h1
            · have h1' := hG.2.2 j (by omega) h2; have ej : ¬ j = (fgR i (R.take k)).length := by omega
              simp [q_i_i, q_i_l, q_i_ai, q_i_al, q_ai_ai, q_ai_i, q_ai_l, q_ai_al, q_al_al, q_al_i, q_al_ai, q_al_l, q_l_i, q_l_l, q_l_ai, q_l_al, q_r_r, q_r_i, q_r_l, q_r_ai, q_r_al, q_i_r, q_l_r, q_ai_r, q_al_r, q_K_i, q_K_r, q_K_l, q_K_ai, q_K_al, q_len_i, q_len_r, q_len_l, q_len_ai, q_len_al, q_n_i, q_n_r, q_n_l, q_n_ai, q_n_al, q_s_i, q_s_r, q_s_l, q_s_ai, q_s_al, ej]; exact h1'
          have e9 := ih (R.length - (k + 1)) (by omega) (k + 1) _ rfl (by omega) hG2
          rw [show (fgR i (R.take (k + 1))).length = (fgR i (R.take k)).length + 1 by rw [fgR_in h9 h19]; simp] at e9
          exact xe_loc (by simp) e9

set_option maxHeartbeats 4000000 in
theorem c_X3_forget (d : Nat) {T : TH} {A : Nat → Nat → Nat} {cp : Nat → Nat} {c i : Nat} {R : List Row} (hA : TbA T A cp) (hc : c < 12) (hR : TbR T A cp c R) (hP : ∀ k, k < R.length → (rowAt R k).2.2.2.2 < 2 ^ 31) (hi : i < 2 ^ 31) : Xe m_X3_forget d 0 [(0, .ref (4 + 5 * c)), (1, .int (nI i))] [] T (fun r T1 => r = none ∧ FrG [(196, 4 + 5 * c)] [A c 0, A c 1, A c 2, A c 3] T T1 ∧ TbR T1 A cp c (fgR i R)) := by
  refine xe (fun _ _ kK => x_iconst dX3_forget_0 (show _ = nI 0 by decide) kK) ?_
  refine xe (fun _ _ kK => x_istore_n dX3_forget_1 rfl (by decide) (show _ = [(2, .int (nI 0)), (0, .ref (4 + 5 * c)), (1, .int (nI i))] from rfl) kK) ?_
  refine xe (fun _ _ kK => x_iconst dX3_forget_2 (show _ = nI 0 by decide) kK) ?_
  refine xe (fun _ _ kK => x_istore_n dX3_forget_3 rfl (by decide) (show _ = [(3, .int (nI 0)), (2, .int (nI 0)), (0, .ref (4 + 5 * c)), (1, .int (nI i))] from rfl) kK) ?_
  exact xe_loc (by simp [fgR]) (l_X3_forget d hA hc hR hP hi R.length 0 T rfl (Nat.zero_le _) ⟨FrG.rf, fun j hj => absurd hj (by simp [fgR]), fun j _ hj => hR.2.2 j hj⟩)

/-- the TABLES' cells -/
def TS (A : Nat → Nat → Nat) (x : Nat) : Prop := (∃ c, c < 12 ∧ x = 4 + 5 * c) ∨ ∃ c k, c < 12 ∧ k < 4 ∧ x = A c k
theorem TS.no {T : TH} {A : Nat → Nat → Nat} {cp : Nat → Nat} (hA : TbA T A cp) {x : Nat} (h : x < 4 ∨ (64 ≤ x ∧ x < 120)) : ¬ TS A x := by
  rintro (⟨c, hc, e⟩ | ⟨c, k, hc, hk, e⟩)
  · omega
  · have := (hA.2.1 c k hc hk).2.2.2.2; omega
theorem FrG.ts {T T1 : TH} {A : Nat → Nat → Nat} {c : Nat} (hc : c < 12) (hF : FrG [(196, 4 + 5 * c)] [A c 0, A c 1, A c 2, A c 3] T T1) : FrA (TS A) T T1 := by
  refine hF.A (fun q hq => ?_) (fun a ha => ?_)
  · simp at hq; rw [hq]; exact Or.inl ⟨c, hc, rfl⟩
  · simp at ha
    rcases ha with e | e | e | e
    · exact Or.inr ⟨c, 0, hc, by decide, e⟩
    · exact Or.inr ⟨c, 1, hc, by decide, e⟩
    · exact Or.inr ⟨c, 2, hc, by decide, e⟩
    · exact Or.inr ⟨c, 3, hc, by decide, e⟩
theorem CU.ofA {S : Nat → Prop} {T T1 : TH} {cu n : Nat} (h : CU T cu n) (hF : FrA S T T1) (hS : ∀ a, a < 88 → (a < 4 ∨ 64 ≤ a) → ¬ S a) : CU T1 cu n := by
  have hcu := h.2.2.1
  exact ⟨h.1.ofA hF hS, by rw [hF.r (hS 0 (by omega) (by omega))]; exact h.2.1, hcu, by rw [hF.i (hS cu (by omega) (by omega))]; exact h.2.2.2.1, h.2.2.2.2⟩
/-- all rows of PAPER i are out of the first k TABLES -/
def FgA (T T1 : TH) (A : Nat → Nat → Nat) (cp : Nat → Nat) (i k : Nat) (RR : Nat → List Row) (n : Nat) : Prop := FrA (TS A) T T1 ∧ e_n T1 = e_n T ∧ e_s T1 = e_s T ∧ TbA T1 A cp ∧ (∀ c, c < n → TbR T1 A cp c (if c < k then fgR i (RR c) else RR c)) ∧ ∀ c g, g ≠ 196 → e_i T1 g (4 + 5 * c) = e_i T g (4 + 5 * c)
theorem FgA.step {T T1 T2 : TH} {A : Nat → Nat → Nat} {cp : Nat → Nat} {i k n : Nat} {RR : Nat → List Row} (h : FgA T T1 A cp i k RR n) (hn : n ≤ 12) (hk : k < n) (hF : FrG [(196, 4 + 5 * k)] [A k 0, A k 1, A k 2, A k 3] T1 T2) (hR : TbR T2 A cp k (fgR i (RR k))) : FgA T T2 A cp i (k + 1) RR n := by
  obtain ⟨h1, h2, h3, h4, h5, h6⟩ := h
  refine ⟨h1.tr (hF.ts (by omega)), hF.2.2.2.2.1.trans h2, hF.2.2.2.2.2.1.trans h3, h4.ofG hF, fun c hc => ?_, fun c g hg => (hF.i (by simp; omega)).trans (h6 c g hg)⟩
  by_cases e : c = k
  · subst e; rw [if_pos (by omega)]; exact hR
  · have h7 := h5 c hc
    have h8 : TbR T2 A cp c (if c < k then fgR i (RR c) else RR c) := h7.ofG hF (by simp; omega) (fun j hj z => by
      simp at z
      rcases z with z | z | z | z
      · exact e (h4.2.2.1 c j k 0 (by omega) hj (by omega) (by decide) z).1
      · exact e (h4.2.2.1 c j k 1 (by omega) hj (by omega) (by decide) z).1
      · exact e (h4.2.2.1 c j k 2 (by omega) hj (by omega) (by decide) z).1
      · exact e (h4.2.2.1 c j k 3 (by omega) hj (by omega) (by decide) z).1)
    by_cases e2 : c < k
    · rw [if_pos e2] at h8; rw [if_pos (by omega)]; exact h8
    · rw [if_neg e2] at h8; rw [if_neg (by omega)]; exact h8

set_option maxHeartbeats 4000000 in
theorem l_X7_forgetRows (d : Nat) {T : TH} {A : Nat → Nat → Nat} {cp : Nat → Nat} {cu n i : Nat} {RR : Nat → List Row} (hU : CU T cu n) (hA : TbA T A cp) (hP : ∀ c, c < n → ∀ k, k < (RR c).length → (rowAt (RR c) k).2.2.2.2 < 2 ^ 31) (hi : i < 2 ^ 31) : ∀ (m k : Nat) (T1 : TH), n - k = m → k ≤ n → FgA T T1 A cp i k RR n → Xe m_X7_forgetRows (d + 1) 2 [(2, .int (nI k)), (0, .ref 0), (1, .int (nI i))] [] T1 (fun r T1 => r = none ∧ FgA T T1 A cp i n RR n) := by
  intro m
  induction m using Nat.strongRecOn with
  | ind m ih =>
    intro k T1 hm hk hG
    subst hm
    have hU1 := hU.ofA hG.1 (fun a h1 h2 => TS.no hA (by omega))
    have h12 := hU.2.2.2.2
    refine xe (fun _ _ kK => x_iload_n dX7_forgetRows_2 rfl 0 rfl kK) ?_
    refine xe (fun _ _ kK => x_aload_n dX7_forgetRows_3 rfl 1 rfl kK) ?_
    refine xe (fun _ _ kK => x_get dX7_forgetRows_4 fl_X7_33 hU1.1.1 (gvl_r1 fz_7_3.2.2 (show e_r T1 451 0 = some cu from hU1.2.1)) kK) ?_
    refine xe (fun _ _ kK => x_get dX7_forgetRows_7 fl_X7_60 (hU1.1.sh hU1.2.2.1).1 (gvl_i fz_1_11.2.2 (show e_i T1 75 cu = nI n from hU1.2.2.2.1)) kK) ?_
    refine xe_icmp_ge (tgt := 34) dX7_forgetRows_10 (by decide) (fun h10 => ?_) (fun h10 => ?_)
    · -- pc 34
      have h10 := cv_le (by omega) (by omega) h10
      have ek : k = n := by omega
      subst ek
      exact xe_retv dX7_forgetRows_34 rfl (⟨rfl, hG⟩)
    · -- pc 13
      have h10 := cv_nle (by omega) (by omega) h10
      refine xe (fun _ _ kK => x_aload_n dX7_forgetRows_13 rfl 1 rfl kK) ?_
      refine xe (fun _ _ kK => x_iload_n dX7_forgetRows_14 rfl 0 rfl kK) ?_
      refine xe_callV (a := 0) [.int (nI k)] dX7_forgetRows_15 ml_X7_85 mf_X7_tableOf hU1.1.1 (by have := c_X7_tableOf (d + 0) hU1 (nI k); rw [ix_in h10 (by omega)] at this; exact this) rfl rfl (Nat.le_of_ble_eq_true rfl) (Nat.le_of_ble_eq_true rfl) ?_
      rintro _ T9 ⟨rfl, hTq9⟩
      refine xe_T hTq9 ?_
      refine xe (fun _ _ kK => x_astore_n dX7_forgetRows_18 rfl (by decide) (show _ = [(3, .ref (4 + 5 * k)), (2, .int (nI k)), (0, .ref 0), (1, .int (nI i))] from rfl) kK) ?_
      refine xe (fun _ _ kK => x_aload_n dX7_forgetRows_19 rfl 0 rfl kK) ?_
      refine xe (fun _ _ kK => x_ifnull dX7_forgetRows_20 kK) ?_
      refine xe (fun _ _ kK => x_aload_n dX7_forgetRows_23 rfl 0 rfl kK) ?_
      refine xe (fun _ _ kK => x_iload_n dX7_forgetRows_24 rfl 3 rfl kK) ?_
      have hRk : TbR T1 A cp k (RR k) := by have := hG.2.2.2.2.1 k h10; rw [if_neg (by omega)] at this; exact this
      refine xe_callV (a := (4 + 5 * k)) [.int (nI i)] dX7_forgetRows_25 ml_X7_183 mf_X3_forget (hG.2.2.2.1.1 k (by omega)).1 (c_X3_forget d hG.2.2.2.1 (by omega) hRk (hP k h10) hi) rfl rfl (Nat.le_of_ble_eq_true rfl) (Nat.le_of_ble_eq_true rfl) ?_
      rintro _ T2 ⟨rfl, hF2, hR2⟩
      refine xe (fun _ _ kK => x_iinc dX7_forgetRows_28 1 rfl (show (nI k) + Int32.ofInt 1 = nI (k + 1) from nI_add k 1) (by decide) (show _ = [(2, .int (nI (k + 1))), (3, .ref (4 + 5 * k)), (0, .ref 0), (1, .int (nI i))] from rfl) kK) ?_
      refine xe (fun _ _ kK => x_goto (tgt := 2) dX7_forgetRows_31 (by decide) kK) ?_
      exact xe_loc (by simp) (ih (n - (k + 1)) (by omega) (k + 1) T2 rfl (by omega) (hG.step h12 h10 hF2 hR2))

set_option maxHeartbeats 4000000 in
theorem c_X7_forgetRows (d : Nat) {T : TH} {A : Nat → Nat → Nat} {cp : Nat → Nat} {cu n i : Nat} {RR : Nat → List Row} (hU : CU T cu n) (hA : TbA T A cp) (hP : ∀ c, c < n → ∀ k, k < (RR c).length → (rowAt (RR c) k).2.2.2.2 < 2 ^ 31) (hi : i < 2 ^ 31) (hR : ∀ c, c < n → TbR T A cp c (RR c)) : Xe m_X7_forgetRows (d + 1) 0 [(0, .ref 0), (1, .int (nI i))] [] T (fun r T1 => r = none ∧ FgA T T1 A cp i n RR n) := by
  refine xe (fun _ _ kK => x_iconst dX7_forgetRows_0 (show _ = nI 0 by decide) kK) ?_
  refine xe (fun _ _ kK => x_istore_n dX7_forgetRows_1 rfl (by decide) (show _ = [(2, .int (nI 0)), (0, .ref 0), (1, .int (nI i))] from rfl) kK) ?_
  exact xe_loc (by simp) (l_X7_forgetRows d hU hA hP hi n 0 T rfl (Nat.zero_le _) ⟨FrA.rf, rfl, rfl, hA, fun c hc => by rw [if_neg (by omega)]; exact hR c hc, fun _ _ _ => rfl⟩)

set_option maxHeartbeats 4000000 in
theorem c_X7_drop (d : Nat) {T : TH} {A : Nat → Nat → Nat} {cp : Nat → Nat} {cu n i : Nat} {RR : Nat → List Row} (hU : CU T cu n) (hA : TbA T A cp) (hP : ∀ c, c < n → ∀ k, k < (RR c).length → (rowAt (RR c) k).2.2.2.2 < 2 ^ 31) (hR : ∀ c, c < n → TbR T A cp c (RR c)) {np : Nat} (hnp : e_i T 453 0 = nI np) (hn30 : np ≤ 30) (hin : i < np) : Xe m_X7_drop (d + 2) 0 [(0, .ref 0), (1, .int (nI i))] [] T (fun r T2 => ∃ T1, FgA T T1 A cp i n RR n ∧ r = some (.int (nI (np - 1))) ∧ T2 = s_i T1 453 0 (nI (np - 1))) := by
  refine xe (fun _ _ kK => x_aload_n dX7_drop_0 rfl 0 rfl kK) ?_
  refine xe (fun _ _ kK => x_iload_n dX7_drop_1 rfl 1 rfl kK) ?_
  refine xe_callV (a := 0) [.int (nI i)] dX7_drop_2 ml_X7_81 mf_X7_isPaper hU.1.1 (by have := c_X7_isPaper (d + 1) hU.1 hnp hn30 (nI i); rw [ix_in hin (by omega)] at this; exact this) rfl rfl (Nat.le_of_ble_eq_true rfl) (Nat.le_of_ble_eq_true rfl) ?_
  rintro _ T9 ⟨rfl, hTq9⟩
  refine xe_T hTq9 ?_
  refine xe (fun _ _ kK => x_if_neT (tgt := 10) dX7_drop_5 (by decide) (show ¬ bI true = 0 by decide) kK) ?_
  refine xe (fun _ _ kK => x_aload_n dX7_drop_10 rfl 0 rfl kK) ?_
  refine xe (fun _ _ kK => x_iload_n dX7_drop_11 rfl 1 rfl kK) ?_
  refine xe_callV (a := 0) [.int (nI i)] dX7_drop_12 ml_X7_72 mf_X7_forgetRows hU.1.1 (c_X7_forgetRows d hU hA hP (by omega) hR) rfl rfl (Nat.le_of_ble_eq_true rfl) (Nat.le_of_ble_eq_true rfl) ?_
  rintro _ T1 ⟨rfl, hG⟩
  have hU1 := hU.ofA hG.1 (fun a h1 h2 => TS.no hA (by omega))
  refine xe (fun _ _ kK => x_aload_n dX7_drop_15 rfl 0 rfl kK) ?_
  refine xe (fun _ _ kK => x_dup dX7_drop_16 rfl kK) ?_
  refine xe (fun _ _ kK => x_get dX7_drop_17 fl_X7_40 hU1.1.1 (gvl_i fz_7_5.2.2 (show e_i T1 453 0 = nI np from ((hG.1.i (TS.no hA (by omega))).trans hnp))) kK) ?_
  refine xe (fun _ _ kK => x_iconst dX7_drop_20 (show _ = nI 1 by decide) kK) ?_
  refine xe (fun _ _ kK => x_isub dX7_drop_21 kK) ?_
  refine xe_ti (show _ = nI (np - 1) from pk_sub (by omega)) ?_
  refine xe (fun _ _ kK => x_puti dX7_drop_22 ⟨fl_X7_40, fz_7_5.1, fz_7_5.2.1⟩ (Or.inl fz_7_5.2.2) rfl rfl hU1.1.1 kK) ?_
  refine xe (fun _ _ kK => x_aload_n dX7_drop_25 rfl 0 rfl kK) ?_
  refine xe (fun _ _ kK => x_get dX7_drop_26 fl_X7_40 (wK_i hU1.1.1) (gvl_i fz_7_5.2.2 (show e_i (s_i T1 453 0 (nI (np - 1))) 453 0 = nI (np - 1) from rfl)) kK) ?_
  exact xe_reti dX7_drop_29 rfl (⟨T1, hG, rfl, rfl⟩)

set_option maxHeartbeats 4000000 in
theorem c_X7_drop0 (d : Nat) {T : TH} {np : Nat} {x : Int32} (hC : CI T) (hnp : e_i T 453 0 = nI np) (hn30 : np ≤ 30) (hx : ix x np = none) : Xe m_X7_drop (d + 1) 0 [(0, .ref 0), (1, .int x)] [] T (fun r T2 => r = some (.int (-1)) ∧ T2 = T) := by
  refine xe (fun _ _ kK => x_aload_n dX7_drop_0 rfl 0 rfl kK) ?_
  refine xe (fun _ _ kK => x_iload_n dX7_drop_1 rfl 1 rfl kK) ?_
  refine xe_callV (a := 0) [.int x] dX7_drop_2 ml_X7_81 mf_X7_isPaper hC.1 (by have := c_X7_isPaper d hC hnp hn30 x; rw [hx] at this; exact this) rfl rfl (Nat.le_of_ble_eq_true rfl) (Nat.le_of_ble_eq_true rfl) ?_
  rintro _ T9 ⟨rfl, hTq9⟩
  refine xe_T hTq9 ?_
  refine xe (fun _ _ kK => x_if_neF (tgt := 10) dX7_drop_5 (by decide) rfl kK) ?_
  refine xe (fun _ _ kK => x_iconst dX7_drop_8 (show _ = (-1) by decide) kK) ?_
  exact xe_reti dX7_drop_9 rfl (⟨rfl, rfl⟩)
