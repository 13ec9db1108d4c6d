/-! the class's SHAPE, measured -/
theorem Chn.ex {W : Nat → Option Nat} {n : Nat} (hW : ∀ f g, f < n → W f = some g → g < f) : ∀ f, f < n → ∃ l, Chn W (some f) (f :: l) := by
  intro f
  induction f using Nat.strongRecOn with
  | ind f ih =>
    intro hf
    cases hw : W f with
    | none => exact ⟨[], rfl, hw⟩
    | some g =>
      have := hW f g hf hw
      obtain ⟨l, hl⟩ := ih g this (by omega)
      exact ⟨g :: l, rfl, by rw [hw]; exact hl⟩
theorem dc_n (M : Nat → Nat) : dc M [] = 0 := rfl
theorem mc_n (M : Nat → Nat) : mc M [] = 0 := rfl
theorem dc_c (M : Nat → Nat) (f : Nat) (l : List Nat) : dc M (f :: l) = dc M l + if M f = 0 then 0 else 1 := by
  have := dc_app M [f] l
  rw [dc_1] at this
  rw [show f :: l = [f] ++ l from rfl, this]; omega
theorem mc_c (M : Nat → Nat) (f : Nat) (l : List Nat) : mc M (f :: l) = mc M l + if M f = 2 then 1 else 0 := by
  have := mc_app M [f] l
  rw [mc_1] at this
  rw [show f :: l = [f] ++ l from rfl, this]; omega
def MsK (T : TH) (p : Nat) (s : Sh) (k : Nat) : Prop := ∀ f, f < k → ∀ l, Chn s.2.2.1 (some f) l → e_ai T (p + 6) f = nI (dc s.2.2.2.2.2.1 l) ∧ e_ai T (p + 7) f = nI (mc s.2.2.2.2.2.1 l) ∧ e_ai T (p + 8) f = nI (l.length - 1)
theorem MsK.of {I : List (Nat × Nat)} {A : List Nat} {T T1 : TH} {p : Nat} {s : Sh} {k : Nat} (h : MsK T p s k) (hF : FrG I A T T1) (h1 : p + 6 ∉ A) (h2 : p + 7 ∉ A) (h3 : p + 8 ∉ A) : MsK T1 p s k := fun f hf l hl => by
  rw [hF.ai h1, hF.ai h2, hF.ai h3]; exact h f hf l hl

set_option maxHeartbeats 4000000 in
theorem l_X1_measure (d : Nat) {p : Nat} {s : Sh} {en : Nat → Nat} {lo : Nat → Option Nat} (hMe : MeOk s) : ∀ (m k : Nat) (T : TH), s.1 - k = m → k ≤ s.1 → CSp T p s en lo → MsK T p s k → ∀ P : Option Value → TH → Prop, (∀ T1, FrG [] [p + 6, p + 7, p + 8] T T1 → MsK T1 p s s.1 → P none T1) → Xe m_X1_measure (d + 2) 2 [(1, .int (nI k)), (0, .ref p)] [] T P := by
  intro m
  induction m using Nat.strongRecOn with
  | ind m ih =>
    intro k T hm hk hS hK P hP
    subst hm
    have hI := hS.1
    have hs60 := hMe.1
    refine xe (fun _ _ kK => x_iload_n dX1_measure_2 rfl 0 rfl kK) ?_
    refine xe (fun _ _ kK => x_aload_n dX1_measure_3 rfl 1 rfl kK) ?_
    refine xe (fun _ _ kK => x_get dX1_measure_4 fl_X1_43 hI.1 (gvl_i fz_1_10.2.2 (show e_i T 74 p = nI s.1 from hS.2.1)) kK) ?_
    refine xe_icmp_ge (tgt := 114) dX1_measure_7 (by decide) (fun hk9 => ?_) (fun hk9 => ?_)
    · -- pc 114
      have hk9 := cv_le (by omega) (by omega) hk9
      have ek : k = s.1 := by omega
      subst ek
      exact xe_retv dX1_measure_114 rfl (hP T FrG.rf hK)
    · -- pc 10
      have hk9 := cv_nle (by omega) (by omega) hk9
      rcases hW9 : s.2.2.1 k with _ | g
      · -- pc 10
        have hM2 := hMe.2.2 k hk9
        refine xe (fun _ _ kK => x_aload_n dX1_measure_10 rfl 1 rfl kK) ?_
        refine xe (fun _ _ kK => x_get dX1_measure_11 fl_X1_22 hI.1 (gvl_r1 fz_1_3.2.2 (show e_r T 67 p = some (p + 4) from (hI.2.1 3 (by decide)))) kK) ?_
        refine xe (fun _ _ kK => x_iload_n dX1_measure_14 rfl 0 rfl kK) ?_
        refine xe (fun _ _ kK => x_iald dX1_measure_15 (show e_K _ (p + 4) = 20 from (hI.2.2.1 3 (by decide))) (show (nI k) = nI k from rfl) (shi_len hI 3 (by decide) (show k < 66 by omega)) (show e_ai T (p + 4) k = (-1) from (by rw [(hS.2.2.2.1 k hk9).2.2.2.1, hW9]; rfl)) kK) ?_
        refine xe (fun _ _ kK => x_istore_n dX1_measure_16 rfl (by decide) (show _ = [(2, .int (-1)), (1, .int (nI k)), (0, .ref p)] from rfl) kK) ?_
        refine xe (fun _ _ kK => x_aload_n dX1_measure_17 rfl 2 rfl kK) ?_
        refine xe (fun _ _ kK => x_iload_n dX1_measure_18 rfl 0 rfl kK) ?_
        refine xe_callV (a := p) [.int (-1)] dX1_measure_19 ml_X1_50 mf_X1_isField hI.1 (by have := c_X1_isField (d + 1) hS.1 hS.2.1 (by omega) (-1); rw [ix_neg (by decide)] at this; exact this) rfl rfl (Nat.le_of_ble_eq_true rfl) (Nat.le_of_ble_eq_true rfl) ?_
        rintro _ T9 ⟨rfl, hTq9⟩
        refine xe_T hTq9 ?_
        refine xe (fun _ _ kK => x_istore_n dX1_measure_22 rfl (by decide) (show _ = [(3, .int (bI false)), (2, .int (-1)), (1, .int (nI k)), (0, .ref p)] from rfl) kK) ?_
        refine xe (fun _ _ kK => x_aload_n dX1_measure_23 rfl 3 rfl kK) ?_
        refine xe (fun _ _ kK => x_get dX1_measure_24 fl_X1_28 hI.1 (gvl_r1 fz_1_5.2.2 (show e_r T 69 p = some (p + 6) from (hI.2.1 5 (by decide)))) kK) ?_
        refine xe (fun _ _ kK => x_iload_n dX1_measure_27 rfl 2 rfl kK) ?_
        refine xe (fun _ _ kK => x_aload_n dX1_measure_28 rfl 3 rfl kK) ?_
        refine xe (fun _ _ kK => x_iload_n dX1_measure_29 rfl 1 rfl kK) ?_
        refine xe_callV (a := p) [.int (-1)] dX1_measure_30 ml_X1_54 mf_X1_deepUpTo hI.1 (c_X1_deepUpTo d hS hs60 (dg := fun _ => 0) (o := none) (fun g9 hg => by cases hg) (fun g9 hg => by cases hg)) rfl rfl (Nat.le_of_ble_eq_true rfl) (Nat.le_of_ble_eq_true rfl) ?_
        rintro _ T9 ⟨rfl, hTq9⟩
        refine xe_T hTq9 ?_
        refine xe (fun _ _ kK => x_aload_n dX1_measure_33 rfl 3 rfl kK) ?_
        refine xe (fun _ _ kK => x_get dX1_measure_34 fl_X1_19 hI.1 (gvl_r1 fz_1_2.2.2 (show e_r T 66 p = some (p + 3) from (hI.2.1 2 (by decide)))) kK) ?_
        refine xe (fun _ _ kK => x_iload_n dX1_measure_37 rfl 2 rfl kK) ?_
        refine xe (fun _ _ kK => x_iald dX1_measure_38 (show e_K _ (p + 3) = 20 from (hI.2.2.1 2 (by decide))) (show (nI k) = nI k from rfl) (shi_len hI 2 (by decide) (show k < 66 by omega)) (show e_ai T (p + 3) k = nI (s.2.2.2.2.2.1 k + 1) from (hS.2.2.2.1 k hk9).2.2.1) kK) ?_
        refine xe (fun _ _ kK => x_iconst dX1_measure_39 (show _ = nI 1 by decide) kK) ?_
        refine xe_icmp_ne (tgt := 47) dX1_measure_40 (by decide) (fun h40 => ?_) (fun h40 => ?_)
        · -- pc 47
          have h40 := cv_ne (by omega) (by omega) h40
          have h40 : ¬ s.2.2.2.2.2.1 k = 0 := by omega
          refine xe (fun _ _ kK => x_iconst dX1_measure_47 (show _ = nI 1 by decide) kK) ?_
          refine xe (fun _ _ kK => x_iadd dX1_measure_48 kK) ?_
          refine xe_ti (show _ = nI (0 + 1) from nI_add 0 1) ?_
          refine xe (fun _ _ kK => x_iast dX1_measure_49 (show e_K _ (p + 6) = 20 from (hI.2.2.1 5 (by decide))) (show (nI k) = nI k from rfl) (shi_len hI 5 (by decide) (show k < 66 by omega)) kK) ?_
          refine xe (fun _ _ kK => x_aload_n dX1_measure_50 rfl 3 rfl kK) ?_
          refine xe (fun _ _ kK => x_get dX1_measure_51 fl_X1_31 (wK_ai hI.1) (gvl_r1 fz_1_6.2.2 (show e_r (s_ai T (p + 6) k (nI (0 + 1))) 70 p = some (p + 7) from (wr_ai (hI.2.1 6 (by decide))))) kK) ?_
          refine xe (fun _ _ kK => x_iload_n dX1_measure_54 rfl 2 rfl kK) ?_
          refine xe (fun _ _ kK => x_iload_n dX1_measure_55 rfl 0 rfl kK) ?_
          refine xe (fun _ _ kK => x_if_eqT (tgt := 68) dX1_measure_56 (by decide) rfl kK) ?_
          refine xe (fun _ _ kK => x_iconst dX1_measure_68 (show _ = nI 0 by decide) kK) ?_
          refine xe (fun _ _ kK => x_aload_n dX1_measure_69 rfl 3 rfl kK) ?_
          refine xe (fun _ _ kK => x_get dX1_measure_70 fl_X1_19 (wK_ai hI.1) (gvl_r1 fz_1_2.2.2 (show e_r (s_ai T (p + 6) k (nI (0 + 1))) 66 p = some (p + 3) from (wr_ai (hI.2.1 2 (by decide))))) kK) ?_
          refine xe (fun _ _ kK => x_iload_n dX1_measure_73 rfl 2 rfl kK) ?_
          refine xe (fun _ _ kK => x_iald dX1_measure_74 (wK_ai (show e_K _ (p + 3) = 20 from (hI.2.2.1 2 (by decide)))) (show (nI k) = nI k from rfl) (wN_ai (shi_len hI 2 (by decide) (show k < 66 by omega))) (show e_ai (s_ai T (p + 6) k (nI (0 + 1))) (p + 3) k = nI (s.2.2.2.2.2.1 k + 1) from ((eai_a _ _ (show p + 3 ≠ (p + 6) from (by omega))).trans (hS.2.2.2.1 k hk9).2.2.1)) kK) ?_
          refine xe (fun _ _ kK => x_iconst dX1_measure_75 (show _ = nI 3 by decide) kK) ?_
          refine xe_icmp_ne (tgt := 83) dX1_measure_76 (by decide) (fun h76 => ?_) (fun h76 => ?_)
          · -- pc 83
            have h76 := cv_ne (by omega) (by omega) h76
            have h76 : ¬ s.2.2.2.2.2.1 k = 2 := by omega
            refine xe (fun _ _ kK => x_iconst dX1_measure_83 (show _ = nI 0 by decide) kK) ?_
            refine xe (fun _ _ kK => x_iadd dX1_measure_84 kK) ?_
            refine xe_ti (show _ = nI (0 + 0) from nI_add 0 0) ?_
            refine xe (fun _ _ kK => x_iast dX1_measure_85 (wK_ai (show e_K _ (p + 7) = 20 from (hI.2.2.1 6 (by decide)))) (show (nI k) = nI k from rfl) (wN_ai (shi_len hI 6 (by decide) (show k < 66 by omega))) kK) ?_
            refine xe (fun _ _ kK => x_aload_n dX1_measure_86 rfl 3 rfl kK) ?_
            refine xe (fun _ _ kK => x_get dX1_measure_87 fl_X1_34 (wK_ai (wK_ai hI.1)) (gvl_r1 fz_1_7.2.2 (show e_r (s_ai (s_ai T (p + 6) k (nI (0 + 1))) (p + 7) k (nI (0 + 0))) 71 p = some (p + 8) from (wr_ai (wr_ai (hI.2.1 7 (by decide)))))) kK) ?_
            refine xe (fun _ _ kK => x_iload_n dX1_measure_90 rfl 2 rfl kK) ?_
            refine xe (fun _ _ kK => x_iload_n dX1_measure_91 rfl 0 rfl kK) ?_
            refine xe (fun _ _ kK => x_if_eqT (tgt := 106) dX1_measure_92 (by decide) rfl kK) ?_
            refine xe (fun _ _ kK => x_iconst dX1_measure_106 (show _ = nI 0 by decide) kK) ?_
            refine xe (fun _ _ kK => x_iast dX1_measure_107 (wK_ai (wK_ai (show e_K _ (p + 8) = 20 from (hI.2.2.1 7 (by decide))))) (show (nI k) = nI k from rfl) (wN_ai (wN_ai (shi_len hI 7 (by decide) (show k < 66 by omega)))) kK) ?_
            refine xe (fun _ _ kK => x_iinc dX1_measure_108 2 rfl (show (nI k) + Int32.ofInt 1 = nI (k + 1) from nI_add k 1) (by decide) (show _ = [(1, .int (nI (k + 1))), (3, .int (bI false)), (2, .int (-1)), (0, .ref p)] from rfl) kK) ?_
            refine xe (fun _ _ kK => x_goto (tgt := 2) dX1_measure_111 (by decide) kK) ?_
            have hF : FrG [] [p + 6, p + 7, p + 8] T (s_ai (s_ai (s_ai T (p + 6) k (nI (0 + 1))) (p + 7) k (nI (0 + 0))) (p + 8) k (nI 0)) := (FrG.sai (FrG.sai (FrG.sai FrG.rf (by simp) _ _) (by simp) _ _) (by simp) _ _)
            have hK2 : MsK (s_ai (s_ai (s_ai T (p + 6) k (nI (0 + 1))) (p + 7) k (nI (0 + 0))) (p + 8) k (nI 0)) p s (k + 1) := fun f hf l hl => by
              by_cases e9 : f = k
              · subst e9
                have e8 := Chn.uniq hl (show Chn s.2.2.1 (some f) [f] from ⟨rfl, hW9⟩)
                subst e8; rw [dc_c _ f, mc_c _ f]; simp [q_i_i, q_i_l, q_i_ai, q_i_al, q_ai_ai, q_ai_i, q_ai_l, q_ai_al, q_al_al, q_al_i, q_al_ai, q_al_l, q_l_i, q_l_l, q_l_ai, q_l_al, dc_n, mc_n, h40, h76]
              · have h1 := hK f (by omega) l hl
                simp [q_i_i, q_i_l, q_i_ai, q_i_al, q_ai_ai, q_ai_i, q_ai_l, q_ai_al, q_al_al, q_al_i, q_al_ai, q_al_l, q_l_i, q_l_l, q_l_ai, q_l_al, e9]; exact h1
            refine xe_loc (by simp) (ih (s.1 - (k + 1)) (by omega) (k + 1) _ rfl (by omega) (hS.of hF (by simp) (by simp) (by simp)) hK2 P (fun T1 h1 h2 => hP T1 (FrG.tr hF h1) h2))
          · -- pc 79
            have h76 := cv_eq (by omega) (by omega) h76
            have h76 : s.2.2.2.2.2.1 k = 2 := by omega
            refine xe (fun _ _ kK => x_iconst dX1_measure_79 (show _ = nI 1 by decide) kK) ?_
            refine xe (fun _ _ kK => x_goto (tgt := 84) dX1_measure_80 (by decide) kK) ?_
            refine xe (fun _ _ kK => x_iadd dX1_measure_84 kK) ?_
            refine xe_ti (show _ = nI (0 + 1) from nI_add 0 1) ?_
            refine xe (fun _ _ kK => x_iast dX1_measure_85 (wK_ai (show e_K _ (p + 7) = 20 from (hI.2.2.1 6 (by decide)))) (show (nI k) = nI k from rfl) (wN_ai (shi_len hI 6 (by decide) (show k < 66 by omega))) kK) ?_
            refine xe (fun _ _ kK => x_aload_n dX1_measure_86 rfl 3 rfl kK) ?_
            refine xe (fun _ _ kK => x_get dX1_measure_87 fl_X1_34 (wK_ai (wK_ai hI.1)) (gvl_r1 fz_1_7.2.2 (show e_r (s_ai (s_ai T (p + 6) k (nI (0 + 1))) (p + 7) k (nI (0 + 1))) 71 p = some (p + 8) from (wr_ai (wr_ai (hI.2.1 7 (by decide)))))) kK) ?_
            refine xe (fun _ _ kK => x_iload_n dX1_measure_90 rfl 2 rfl kK) ?_
            refine xe (fun _ _ kK => x_iload_n dX1_measure_91 rfl 0 rfl kK) ?_
            refine xe (fun _ _ kK => x_if_eqT (tgt := 106) dX1_measure_92 (by decide) rfl kK) ?_
            refine xe (fun _ _ kK => x_iconst dX1_measure_106 (show _ = nI 0 by decide) kK) ?_
            refine xe (fun _ _ kK => x_iast dX1_measure_107 (wK_ai (wK_ai (show e_K _ (p + 8) = 20 from (hI.2.2.1 7 (by decide))))) (show (nI k) = nI k from rfl) (wN_ai (wN_ai (shi_len hI 7 (by decide) (show k < 66 by omega)))) kK) ?_
            refine xe (fun _ _ kK => x_iinc dX1_measure_108 2 rfl (show (nI k) + Int32.ofInt 1 = nI (k + 1) from nI_add k 1) (by decide) (show _ = [(1, .int (nI (k + 1))), (3, .int (bI false)), (2, .int (-1)), (0, .ref p)] from rfl) kK) ?_
            refine xe (fun _ _ kK => x_goto (tgt := 2) dX1_measure_111 (by decide) kK) ?_
            have hF : FrG [] [p + 6, p + 7, p + 8] T (s_ai (s_ai (s_ai T (p + 6) k (nI (0 + 1))) (p + 7) k (nI (0 + 1))) (p + 8) k (nI 0)) := (FrG.sai (FrG.sai (FrG.sai FrG.rf (by simp) _ _) (by simp) _ _) (by simp) _ _)
            have hK2 : MsK (s_ai (s_ai (s_ai T (p + 6) k (nI (0 + 1))) (p + 7) k (nI (0 + 1))) (p + 8) k (nI 0)) p s (k + 1) := fun f hf l hl => by
              by_cases e9 : f = k
              · subst e9
                have e8 := Chn.uniq hl (show Chn s.2.2.1 (some f) [f] from ⟨rfl, hW9⟩)
                subst e8; rw [dc_c _ f, mc_c _ f]; simp [q_i_i, q_i_l, q_i_ai, q_i_al, q_ai_ai, q_ai_i, q_ai_l, q_ai_al, q_al_al, q_al_i, q_al_ai, q_al_l, q_l_i, q_l_l, q_l_ai, q_l_al, dc_n, mc_n, h76]
              · have h1 := hK f (by omega) l hl
                simp [q_i_i, q_i_l, q_i_ai, q_i_al, q_ai_ai, q_ai_i, q_ai_l, q_ai_al, q_al_al, q_al_i, q_al_ai, q_al_l, q_l_i, q_l_l, q_l_ai, q_l_al, e9]; exact h1
            refine xe_loc (by simp) (ih (s.1 - (k + 1)) (by omega) (k + 1) _ rfl (by omega) (hS.of hF (by simp) (by simp) (by simp)) hK2 P (fun T1 h1 h2 => hP T1 (FrG.tr hF h1) h2))
        · -- pc 43
          have h40 := cv_eq (by omega) (by omega) h40
          have h40 : s.2.2.2.2.2.1 k = 0 := by omega
          refine xe (fun _ _ kK => x_iconst dX1_measure_43 (show _ = nI 0 by decide) kK) ?_
          refine xe (fun _ _ kK => x_goto (tgt := 48) dX1_measure_44 (by decide) kK) ?_
          refine xe (fun _ _ kK => x_iadd dX1_measure_48 kK) ?_
          refine xe_ti (show _ = nI (0 + 0) from nI_add 0 0) ?_
          refine xe (fun _ _ kK => x_iast dX1_measure_49 (show e_K _ (p + 6) = 20 from (hI.2.2.1 5 (by decide))) (show (nI k) = nI k from rfl) (shi_len hI 5 (by decide) (show k < 66 by omega)) kK) ?_
          refine xe (fun _ _ kK => x_aload_n dX1_measure_50 rfl 3 rfl kK) ?_
          refine xe (fun _ _ kK => x_get dX1_measure_51 fl_X1_31 (wK_ai hI.1) (gvl_r1 fz_1_6.2.2 (show e_r (s_ai T (p + 6) k (nI (0 + 0))) 70 p = some (p + 7) from (wr_ai (hI.2.1 6 (by decide))))) kK) ?_
          refine xe (fun _ _ kK => x_iload_n dX1_measure_54 rfl 2 rfl kK) ?_
          refine xe (fun _ _ kK => x_iload_n dX1_measure_55 rfl 0 rfl kK) ?_
          refine xe (fun _ _ kK => x_if_eqT (tgt := 68) dX1_measure_56 (by decide) rfl kK) ?_
          refine xe (fun _ _ kK => x_iconst dX1_measure_68 (show _ = nI 0 by decide) kK) ?_
          refine xe (fun _ _ kK => x_aload_n dX1_measure_69 rfl 3 rfl kK) ?_
          refine xe (fun _ _ kK => x_get dX1_measure_70 fl_X1_19 (wK_ai hI.1) (gvl_r1 fz_1_2.2.2 (show e_r (s_ai T (p + 6) k (nI (0 + 0))) 66 p = some (p + 3) from (wr_ai (hI.2.1 2 (by decide))))) kK) ?_
          refine xe (fun _ _ kK => x_iload_n dX1_measure_73 rfl 2 rfl kK) ?_
          refine xe (fun _ _ kK => x_iald dX1_measure_74 (wK_ai (show e_K _ (p + 3) = 20 from (hI.2.2.1 2 (by decide)))) (show (nI k) = nI k from rfl) (wN_ai (shi_len hI 2 (by decide) (show k < 66 by omega))) (show e_ai (s_ai T (p + 6) k (nI (0 + 0))) (p + 3) k = nI (s.2.2.2.2.2.1 k + 1) from ((eai_a _ _ (show p + 3 ≠ (p + 6) from (by omega))).trans (hS.2.2.2.1 k hk9).2.2.1)) kK) ?_
          refine xe (fun _ _ kK => x_iconst dX1_measure_75 (show _ = nI 3 by decide) kK) ?_
          refine xe_icmp_ne (tgt := 83) dX1_measure_76 (by decide) (fun h76 => ?_) (fun h76 => ?_)
          · -- pc 83
            have h76 := cv_ne (by omega) (by omega) h76
            have h76 : ¬ s.2.2.2.2.2.1 k = 2 := by omega
            refine xe (fun _ _ kK => x_iconst dX1_measure_83 (show _ = nI 0 by decide) kK) ?_
            refine xe (fun _ _ kK => x_iadd dX1_measure_84 kK) ?_
            refine xe_ti (show _ = nI (0 + 0) from nI_add 0 0) ?_
            refine xe (fun _ _ kK => x_iast dX1_measure_85 (wK_ai (show e_K _ (p + 7) = 20 from (hI.2.2.1 6 (by decide)))) (show (nI k) = nI k from rfl) (wN_ai (shi_len hI 6 (by decide) (show k < 66 by omega))) kK) ?_
            refine xe (fun _ _ kK => x_aload_n dX1_measure_86 rfl 3 rfl kK) ?_
            refine xe (fun _ _ kK => x_get dX1_measure_87 fl_X1_34 (wK_ai (wK_ai hI.1)) (gvl_r1 fz_1_7.2.2 (show e_r (s_ai (s_ai T (p + 6) k (nI (0 + 0))) (p + 7) k (nI (0 + 0))) 71 p = some (p + 8) from (wr_ai (wr_ai (hI.2.1 7 (by decide)))))) kK) ?_
            refine xe (fun _ _ kK => x_iload_n dX1_measure_90 rfl 2 rfl kK) ?_
            refine xe (fun _ _ kK => x_iload_n dX1_measure_91 rfl 0 rfl kK) ?_
            refine xe (fun _ _ kK => x_if_eqT (tgt := 106) dX1_measure_92 (by decide) rfl kK) ?_
            refine xe (fun _ _ kK => x_iconst dX1_measure_106 (show _ = nI 0 by decide) kK) ?_
            refine xe (fun _ _ kK => x_iast dX1_measure_107 (wK_ai (wK_ai (show e_K _ (p + 8) = 20 from (hI.2.2.1 7 (by decide))))) (show (nI k) = nI k from rfl) (wN_ai (wN_ai (shi_len hI 7 (by decide) (show k < 66 by omega)))) kK) ?_
            refine xe (fun _ _ kK => x_iinc dX1_measure_108 2 rfl (show (nI k) + Int32.ofInt 1 = nI (k + 1) from nI_add k 1) (by decide) (show _ = [(1, .int (nI (k + 1))), (3, .int (bI false)), (2, .int (-1)), (0, .ref p)] from rfl) kK) ?_
            refine xe (fun _ _ kK => x_goto (tgt := 2) dX1_measure_111 (by decide) kK) ?_
            have hF : FrG [] [p + 6, p + 7, p + 8] T (s_ai (s_ai (s_ai T (p + 6) k (nI (0 + 0))) (p + 7) k (nI (0 + 0))) (p + 8) k (nI 0)) := (FrG.sai (FrG.sai (FrG.sai FrG.rf (by simp) _ _) (by simp) _ _) (by simp) _ _)
            have hK2 : MsK (s_ai (s_ai (s_ai T (p + 6) k (nI (0 + 0))) (p + 7) k (nI (0 + 0))) (p + 8) k (nI 0)) p s (k + 1) := fun f hf l hl => by
              by_cases e9 : f = k
              · subst e9
                have e8 := Chn.uniq hl (show Chn s.2.2.1 (some f) [f] from ⟨rfl, hW9⟩)
                subst e8; rw [dc_c _ f, mc_c _ f]; simp [q_i_i, q_i_l, q_i_ai, q_i_al, q_ai_ai, q_ai_i, q_ai_l, q_ai_al, q_al_al, q_al_i, q_al_ai, q_al_l, q_l_i, q_l_l, q_l_ai, q_l_al, dc_n, mc_n, h40, h76]
              · have h1 := hK f (by omega) l hl
                simp [q_i_i, q_i_l, q_i_ai, q_i_al, q_ai_ai, q_ai_i, q_ai_l, q_ai_al, q_al_al, q_al_i, q_al_ai, q_al_l, q_l_i, q_l_l, q_l_ai, q_l_al, e9]; exact h1
            refine xe_loc (by simp) (ih (s.1 - (k + 1)) (by omega) (k + 1) _ rfl (by omega) (hS.of hF (by simp) (by simp) (by simp)) hK2 P (fun T1 h1 h2 => hP T1 (FrG.tr hF h1) h2))
          · -- pc 79
            have h76 := cv_eq (by omega) (by omega) h76
            have h76 : s.2.2.2.2.2.1 k = 2 := by omega
            exact absurd h76 (by omega)
      · -- pc 10
        have hM2 := hMe.2.2 k hk9
        have hg9 := hMe.2.1 k g hk9 hW9
        obtain ⟨l9, hl9⟩ := Chn.ex hMe.2.1 g (by omega)
        obtain ⟨m1, m2, m3⟩ := hK g hg9 _ hl9
        refine xe (fun _ _ kK => x_aload_n dX1_measure_10 rfl 1 rfl kK) ?_
        refine xe (fun _ _ kK => x_get dX1_measure_11 fl_X1_22 hI.1 (gvl_r1 fz_1_3.2.2 (show e_r T 67 p = some (p + 4) from (hI.2.1 3 (by decide)))) kK) ?_
        refine xe (fun _ _ kK => x_iload_n dX1_measure_14 rfl 0 rfl kK) ?_
        refine xe (fun _ _ kK => x_iald dX1_measure_15 (show e_K _ (p + 4) = 20 from (hI.2.2.1 3 (by decide))) (show (nI k) = nI k from rfl) (shi_len hI 3 (by decide) (show k < 66 by omega)) (show e_ai T (p + 4) k = nI g from (by rw [(hS.2.2.2.1 k hk9).2.2.2.1, hW9]; rfl)) kK) ?_
        refine xe (fun _ _ kK => x_istore_n dX1_measure_16 rfl (by decide) (show _ = [(2, .int (nI g)), (1, .int (nI k)), (0, .ref p)] from rfl) kK) ?_
        refine xe (fun _ _ kK => x_aload_n dX1_measure_17 rfl 2 rfl kK) ?_
        refine xe (fun _ _ kK => x_iload_n dX1_measure_18 rfl 0 rfl kK) ?_
        refine xe_callV (a := p) [.int (nI g)] dX1_measure_19 ml_X1_50 mf_X1_isField hI.1 (by have := c_X1_isField (d + 1) hS.1 hS.2.1 (by omega) (nI g); rw [ix_in (show g < s.1 by omega) (by omega)] at this; exact this) rfl rfl (Nat.le_of_ble_eq_true rfl) (Nat.le_of_ble_eq_true rfl) ?_
        rintro _ T9 ⟨rfl, hTq9⟩
        refine xe_T hTq9 ?_
        refine xe (fun _ _ kK => x_istore_n dX1_measure_22 rfl (by decide) (show _ = [(3, .int (bI true)), (2, .int (nI g)), (1, .int (nI k)), (0, .ref p)] from rfl) kK) ?_
        refine xe (fun _ _ kK => x_aload_n dX1_measure_23 rfl 3 rfl kK) ?_
        refine xe (fun _ _ kK => x_get dX1_measure_24 fl_X1_28 hI.1 (gvl_r1 fz_1_5.2.2 (show e_r T 69 p = some (p + 6) from (hI.2.1 5 (by decide)))) kK) ?_
        refine xe (fun _ _ kK => x_iload_n dX1_measure_27 rfl 2 rfl kK) ?_
        refine xe (fun _ _ kK => x_aload_n dX1_measure_28 rfl 3 rfl kK) ?_
        refine xe (fun _ _ kK => x_iload_n dX1_measure_29 rfl 1 rfl kK) ?_
        refine xe_callV (a := p) [.int (nI g)] dX1_measure_30 ml_X1_54 mf_X1_deepUpTo hI.1 (c_X1_deepUpTo d hS hs60 (dg := fun _ => dc s.2.2.2.2.2.1 (g :: l9)) (o := some g) (fun g9 hg => by cases hg; omega) (fun g9 hg => by cases hg; exact m1)) rfl rfl (Nat.le_of_ble_eq_true rfl) (Nat.le_of_ble_eq_true rfl) ?_
        rintro _ T9 ⟨rfl, hTq9⟩
        refine xe_T hTq9 ?_
        refine xe (fun _ _ kK => x_aload_n dX1_measure_33 rfl 3 rfl kK) ?_
        refine xe (fun _ _ kK => x_get dX1_measure_34 fl_X1_19 hI.1 (gvl_r1 fz_1_2.2.2 (show e_r T 66 p = some (p + 3) from (hI.2.1 2 (by decide)))) kK) ?_
        refine xe (fun _ _ kK => x_iload_n dX1_measure_37 rfl 2 rfl kK) ?_
        refine xe (fun _ _ kK => x_iald dX1_measure_38 (show e_K _ (p + 3) = 20 from (hI.2.2.1 2 (by decide))) (show (nI k) = nI k from rfl) (shi_len hI 2 (by decide) (show k < 66 by omega)) (show e_ai T (p + 3) k = nI (s.2.2.2.2.2.1 k + 1) from (hS.2.2.2.1 k hk9).2.2.1) kK) ?_
        refine xe (fun _ _ kK => x_iconst dX1_measure_39 (show _ = nI 1 by decide) kK) ?_
        refine xe_icmp_ne (tgt := 47) dX1_measure_40 (by decide) (fun h40 => ?_) (fun h40 => ?_)
        · -- pc 47
          have h40 := cv_ne (by omega) (by omega) h40
          have h40 : ¬ s.2.2.2.2.2.1 k = 0 := by omega
          refine xe (fun _ _ kK => x_iconst dX1_measure_47 (show _ = nI 1 by decide) kK) ?_
          refine xe (fun _ _ kK => x_iadd dX1_measure_48 kK) ?_
          refine xe_ti (show _ = nI ((dc s.2.2.2.2.2.1 (g :: l9)) + 1) from nI_add (dc s.2.2.2.2.2.1 (g :: l9)) 1) ?_
          refine xe (fun _ _ kK => x_iast dX1_measure_49 (show e_K _ (p + 6) = 20 from (hI.2.2.1 5 (by decide))) (show (nI k) = nI k from rfl) (shi_len hI 5 (by decide) (show k < 66 by omega)) kK) ?_
          refine xe (fun _ _ kK => x_aload_n dX1_measure_50 rfl 3 rfl kK) ?_
          refine xe (fun _ _ kK => x_get dX1_measure_51 fl_X1_31 (wK_ai hI.1) (gvl_r1 fz_1_6.2.2 (show e_r (s_ai T (p + 6) k (nI ((dc s.2.2.2.2.2.1 (g :: l9)) + 1))) 70 p = some (p + 7) from (wr_ai (hI.2.1 6 (by decide))))) kK) ?_
          refine xe (fun _ _ kK => x_iload_n dX1_measure_54 rfl 2 rfl kK) ?_
          refine xe (fun _ _ kK => x_iload_n dX1_measure_55 rfl 0 rfl kK) ?_
          refine xe (fun _ _ kK => x_if_eqF (tgt := 68) dX1_measure_56 (by decide) (show ¬ bI true = 0 by decide) kK) ?_
          refine xe (fun _ _ kK => x_aload_n dX1_measure_59 rfl 3 rfl kK) ?_
          refine xe (fun _ _ kK => x_get dX1_measure_60 fl_X1_31 (wK_ai hI.1) (gvl_r1 fz_1_6.2.2 (show e_r (s_ai T (p + 6) k (nI ((dc s.2.2.2.2.2.1 (g :: l9)) + 1))) 70 p = some (p + 7) from (wr_ai (hI.2.1 6 (by decide))))) kK) ?_
          refine xe (fun _ _ kK => x_iload_n dX1_measure_63 rfl 1 rfl kK) ?_
          refine xe (fun _ _ kK => x_iald dX1_measure_64 (wK_ai (show e_K _ (p + 7) = 20 from (hI.2.2.1 6 (by decide)))) (show (nI g) = nI g from rfl) (wN_ai (shi_len hI 6 (by decide) (show g < 66 by omega))) (show e_ai (s_ai T (p + 6) k (nI ((dc s.2.2.2.2.2.1 (g :: l9)) + 1))) (p + 7) g = nI (mc s.2.2.2.2.2.1 (g :: l9)) from ((eai_a _ _ (show p + 7 ≠ (p + 6) from (by omega))).trans m2)) kK) ?_
          refine xe (fun _ _ kK => x_goto (tgt := 69) dX1_measure_65 (by decide) kK) ?_
          refine xe (fun _ _ kK => x_aload_n dX1_measure_69 rfl 3 rfl kK) ?_
          refine xe (fun _ _ kK => x_get dX1_measure_70 fl_X1_19 (wK_ai hI.1) (gvl_r1 fz_1_2.2.2 (show e_r (s_ai T (p + 6) k (nI ((dc s.2.2.2.2.2.1 (g :: l9)) + 1))) 66 p = some (p + 3) from (wr_ai (hI.2.1 2 (by decide))))) kK) ?_
          refine xe (fun _ _ kK => x_iload_n dX1_measure_73 rfl 2 rfl kK) ?_
          refine xe (fun _ _ kK => x_iald dX1_measure_74 (wK_ai (show e_K _ (p + 3) = 20 from (hI.2.2.1 2 (by decide)))) (show (nI k) = nI k from rfl) (wN_ai (shi_len hI 2 (by decide) (show k < 66 by omega))) (show e_ai (s_ai T (p + 6) k (nI ((dc s.2.2.2.2.2.1 (g :: l9)) + 1))) (p + 3) k = nI (s.2.2.2.2.2.1 k + 1) from ((eai_a _ _ (show p + 3 ≠ (p + 6) from (by omega))).trans (hS.2.2.2.1 k hk9).2.2.1)) kK) ?_
          refine xe (fun _ _ kK => x_iconst dX1_measure_75 (show _ = nI 3 by decide) kK) ?_
          refine xe_icmp_ne (tgt := 83) dX1_measure_76 (by decide) (fun h76 => ?_) (fun h76 => ?_)
          · -- pc 83
            have h76 := cv_ne (by omega) (by omega) h76
            have h76 : ¬ s.2.2.2.2.2.1 k = 2 := by omega
            refine xe (fun _ _ kK => x_iconst dX1_measure_83 (show _ = nI 0 by decide) kK) ?_
            refine xe (fun _ _ kK => x_iadd dX1_measure_84 kK) ?_
            refine xe_ti (show _ = nI ((mc s.2.2.2.2.2.1 (g :: l9)) + 0) from nI_add (mc s.2.2.2.2.2.1 (g :: l9)) 0) ?_
            refine xe (fun _ _ kK => x_iast dX1_measure_85 (wK_ai (show e_K _ (p + 7) = 20 from (hI.2.2.1 6 (by decide)))) (show (nI k) = nI k from rfl) (wN_ai (shi_len hI 6 (by decide) (show k < 66 by omega))) kK) ?_
            refine xe (fun _ _ kK => x_aload_n dX1_measure_86 rfl 3 rfl kK) ?_
            refine xe (fun _ _ kK => x_get dX1_measure_87 fl_X1_34 (wK_ai (wK_ai hI.1)) (gvl_r1 fz_1_7.2.2 (show e_r (s_ai (s_ai T (p + 6) k (nI ((dc s.2.2.2.2.2.1 (g :: l9)) + 1))) (p + 7) k (nI ((mc s.2.2.2.2.2.1 (g :: l9)) + 0))) 71 p = some (p + 8) from (wr_ai (wr_ai (hI.2.1 7 (by decide)))))) kK) ?_
            refine xe (fun _ _ kK => x_iload_n dX1_measure_90 rfl 2 rfl kK) ?_
            refine xe (fun _ _ kK => x_iload_n dX1_measure_91 rfl 0 rfl kK) ?_
            refine xe (fun _ _ kK => x_if_eqF (tgt := 106) dX1_measure_92 (by decide) (show ¬ bI true = 0 by decide) kK) ?_
            refine xe (fun _ _ kK => x_aload_n dX1_measure_95 rfl 3 rfl kK) ?_
            refine xe (fun _ _ kK => x_get dX1_measure_96 fl_X1_34 (wK_ai (wK_ai hI.1)) (gvl_r1 fz_1_7.2.2 (show e_r (s_ai (s_ai T (p + 6) k (nI ((dc s.2.2.2.2.2.1 (g :: l9)) + 1))) (p + 7) k (nI ((mc s.2.2.2.2.2.1 (g :: l9)) + 0))) 71 p = some (p + 8) from (wr_ai (wr_ai (hI.2.1 7 (by decide)))))) kK) ?_
            refine xe (fun _ _ kK => x_iload_n dX1_measure_99 rfl 1 rfl kK) ?_
            refine xe (fun _ _ kK => x_iald dX1_measure_100 (wK_ai (wK_ai (show e_K _ (p + 8) = 20 from (hI.2.2.1 7 (by decide))))) (show (nI g) = nI g from rfl) (wN_ai (wN_ai (shi_len hI 7 (by decide) (show g < 66 by omega)))) (show e_ai (s_ai (s_ai T (p + 6) k (nI ((dc s.2.2.2.2.2.1 (g :: l9)) + 1))) (p + 7) k (nI ((mc s.2.2.2.2.2.1 (g :: l9)) + 0))) (p + 8) g = nI l9.length from ((eai_a _ _ (show p + 8 ≠ (p + 7) from (by omega))).trans ((eai_a _ _ (show p + 8 ≠ (p + 6) from (by omega))).trans m3))) kK) ?_
            refine xe (fun _ _ kK => x_iconst dX1_measure_101 (show _ = nI 1 by decide) kK) ?_
            refine xe (fun _ _ kK => x_iadd dX1_measure_102 kK) ?_
            refine xe_ti (show _ = nI (l9.length + 1) from nI_add l9.length 1) ?_
            refine xe (fun _ _ kK => x_goto (tgt := 107) dX1_measure_103 (by decide) kK) ?_
            refine xe (fun _ _ kK => x_iast dX1_measure_107 (wK_ai (wK_ai (show e_K _ (p + 8) = 20 from (hI.2.2.1 7 (by decide))))) (show (nI k) = nI k from rfl) (wN_ai (wN_ai (shi_len hI 7 (by decide) (show k < 66 by omega)))) kK) ?_
            refine xe (fun _ _ kK => x_iinc dX1_measure_108 2 rfl (show (nI k) + Int32.ofInt 1 = nI (k + 1) from nI_add k 1) (by decide) (show _ = [(1, .int (nI (k + 1))), (3, .int (bI true)), (2, .int (nI g)), (0, .ref p)] from rfl) kK) ?_
            refine xe (fun _ _ kK => x_goto (tgt := 2) dX1_measure_111 (by decide) kK) ?_
            have hF : FrG [] [p + 6, p + 7, p + 8] T (s_ai (s_ai (s_ai T (p + 6) k (nI ((dc s.2.2.2.2.2.1 (g :: l9)) + 1))) (p + 7) k (nI ((mc s.2.2.2.2.2.1 (g :: l9)) + 0))) (p + 8) k (nI (l9.length + 1))) := (FrG.sai (FrG.sai (FrG.sai FrG.rf (by simp) _ _) (by simp) _ _) (by simp) _ _)
            have hK2 : MsK (s_ai (s_ai (s_ai T (p + 6) k (nI ((dc s.2.2.2.2.2.1 (g :: l9)) + 1))) (p + 7) k (nI ((mc s.2.2.2.2.2.1 (g :: l9)) + 0))) (p + 8) k (nI (l9.length + 1))) p s (k + 1) := fun f hf l hl => by
              by_cases e9 : f = k
              · subst e9
                have e8 := Chn.uniq hl (show Chn s.2.2.1 (some f) (f :: g :: l9) from ⟨rfl, by rw [hW9]; exact hl9⟩)
                subst e8; rw [dc_c _ f, mc_c _ f]; simp [q_i_i, q_i_l, q_i_ai, q_i_al, q_ai_ai, q_ai_i, q_ai_l, q_ai_al, q_al_al, q_al_i, q_al_ai, q_al_l, q_l_i, q_l_l, q_l_ai, q_l_al, dc_n, mc_n, h40, h76]
              · have h1 := hK f (by omega) l hl
                simp [q_i_i, q_i_l, q_i_ai, q_i_al, q_ai_ai, q_ai_i, q_ai_l, q_ai_al, q_al_al, q_al_i, q_al_ai, q_al_l, q_l_i, q_l_l, q_l_ai, q_l_al, e9]; exact h1
            refine xe_loc (by simp) (ih (s.1 - (k + 1)) (by omega) (k + 1) _ rfl (by omega) (hS.of hF (by simp) (by simp) (by simp)) hK2 P (fun T1 h1 h2 => hP T1 (FrG.tr hF h1) h2))
          · -- pc 79
            have h76 := cv_eq (by omega) (by omega) h76
            have h76 : s.2.2.2.2.2.1 k = 2 := by omega
            refine xe (fun _ _ kK => x_iconst dX1_measure_79 (show _ = nI 1 by decide) kK) ?_
            refine xe (fun _ _ kK => x_goto (tgt := 84) dX1_measure_80 (by decide) kK) ?_
            refine xe (fun _ _ kK => x_iadd dX1_measure_84 kK) ?_
            refine xe_ti (show _ = nI ((mc s.2.2.2.2.2.1 (g :: l9)) + 1) from nI_add (mc s.2.2.2.2.2.1 (g :: l9)) 1) ?_
            refine xe (fun _ _ kK => x_iast dX1_measure_85 (wK_ai (show e_K _ (p + 7) = 20 from (hI.2.2.1 6 (by decide)))) (show (nI k) = nI k from rfl) (wN_ai (shi_len hI 6 (by decide) (show k < 66 by omega))) kK) ?_
            refine xe (fun _ _ kK => x_aload_n dX1_measure_86 rfl 3 rfl kK) ?_
            refine xe (fun _ _ kK => x_get dX1_measure_87 fl_X1_34 (wK_ai (wK_ai hI.1)) (gvl_r1 fz_1_7.2.2 (show e_r (s_ai (s_ai T (p + 6) k (nI ((dc s.2.2.2.2.2.1 (g :: l9)) + 1))) (p + 7) k (nI ((mc s.2.2.2.2.2.1 (g :: l9)) + 1))) 71 p = some (p + 8) from (wr_ai (wr_ai (hI.2.1 7 (by decide)))))) kK) ?_
            refine xe (fun _ _ kK => x_iload_n dX1_measure_90 rfl 2 rfl kK) ?_
            refine xe (fun _ _ kK => x_iload_n dX1_measure_91 rfl 0 rfl kK) ?_
            refine xe (fun _ _ kK => x_if_eqF (tgt := 106) dX1_measure_92 (by decide) (show ¬ bI true = 0 by decide) kK) ?_
            refine xe (fun _ _ kK => x_aload_n dX1_measure_95 rfl 3 rfl kK) ?_
            refine xe (fun _ _ kK => x_get dX1_measure_96 fl_X1_34 (wK_ai (wK_ai hI.1)) (gvl_r1 fz_1_7.2.2 (show e_r (s_ai (s_ai T (p + 6) k (nI ((dc s.2.2.2.2.2.1 (g :: l9)) + 1))) (p + 7) k (nI ((mc s.2.2.2.2.2.1 (g :: l9)) + 1))) 71 p = some (p + 8) from (wr_ai (wr_ai (hI.2.1 7 (by decide)))))) kK) ?_
            refine xe (fun _ _ kK => x_iload_n dX1_measure_99 rfl 1 rfl kK) ?_
            refine xe (fun _ _ kK => x_iald dX1_measure_100 (wK_ai (wK_ai (show e_K _ (p + 8) = 20 from (hI.2.2.1 7 (by decide))))) (show (nI g) = nI g from rfl) (wN_ai (wN_ai (shi_len hI 7 (by decide) (show g < 66 by omega)))) (show e_ai (s_ai (s_ai T (p + 6) k (nI ((dc s.2.2.2.2.2.1 (g :: l9)) + 1))) (p + 7) k (nI ((mc s.2.2.2.2.2.1 (g :: l9)) + 1))) (p + 8) g = nI l9.length from ((eai_a _ _ (show p + 8 ≠ (p + 7) from (by omega))).trans ((eai_a _ _ (show p + 8 ≠ (p + 6) from (by omega))).trans m3))) kK) ?_
            refine xe (fun _ _ kK => x_iconst dX1_measure_101 (show _ = nI 1 by decide) kK) ?_
            refine xe (fun _ _ kK => x_iadd dX1_measure_102 kK) ?_
            refine xe_ti (show _ = nI (l9.length + 1) from nI_add l9.length 1) ?_
            refine xe (fun _ _ kK => x_goto (tgt := 107) dX1_measure_103 (by decide) kK) ?_
            refine xe (fun _ _ kK => x_iast dX1_measure_107 (wK_ai (wK_ai (show e_K _ (p + 8) = 20 from (hI.2.2.1 7 (by decide))))) (show (nI k) = nI k from rfl) (wN_ai (wN_ai (shi_len hI 7 (by decide) (show k < 66 by omega)))) kK) ?_
            refine xe (fun _ _ kK => x_iinc dX1_measure_108 2 rfl (show (nI k) + Int32.ofInt 1 = nI (k + 1) from nI_add k 1) (by decide) (show _ = [(1, .int (nI (k + 1))), (3, .int (bI true)), (2, .int (nI g)), (0, .ref p)] from rfl) kK) ?_
            refine xe (fun _ _ kK => x_goto (tgt := 2) dX1_measure_111 (by decide) kK) ?_
            have hF : FrG [] [p + 6, p + 7, p + 8] T (s_ai (s_ai (s_ai T (p + 6) k (nI ((dc s.2.2.2.2.2.1 (g :: l9)) + 1))) (p + 7) k (nI ((mc s.2.2.2.2.2.1 (g :: l9)) + 1))) (p + 8) k (nI (l9.length + 1))) := (FrG.sai (FrG.sai (FrG.sai FrG.rf (by simp) _ _) (by simp) _ _) (by simp) _ _)
            have hK2 : MsK (s_ai (s_ai (s_ai T (p + 6) k (nI ((dc s.2.2.2.2.2.1 (g :: l9)) + 1))) (p + 7) k (nI ((mc s.2.2.2.2.2.1 (g :: l9)) + 1))) (p + 8) k (nI (l9.length + 1))) p s (k + 1) := fun f hf l hl => by
              by_cases e9 : f = k
              · subst e9
                have e8 := Chn.uniq hl (show Chn s.2.2.1 (some f) (f :: g :: l9) from ⟨rfl, by rw [hW9]; exact hl9⟩)
                subst e8; rw [dc_c _ f, mc_c _ f]; simp [q_i_i, q_i_l, q_i_ai, q_i_al, q_ai_ai, q_ai_i, q_ai_l, q_ai_al, q_al_al, q_al_i, q_al_ai, q_al_l, q_l_i, q_l_l, q_l_ai, q_l_al, dc_n, mc_n, h76]
              · have h1 := hK f (by omega) l hl
                simp [q_i_i, q_i_l, q_i_ai, q_i_al, q_ai_ai, q_ai_i, q_ai_l, q_ai_al, q_al_al, q_al_i, q_al_ai, q_al_l, q_l_i, q_l_l, q_l_ai, q_l_al, e9]; exact h1
            refine xe_loc (by simp) (ih (s.1 - (k + 1)) (by omega) (k + 1) _ rfl (by omega) (hS.of hF (by simp) (by simp) (by simp)) hK2 P (fun T1 h1 h2 => hP T1 (FrG.tr hF h1) h2))
        · -- pc 43
          have h40 := cv_eq (by omega) (by omega) h40
          have h40 : s.2.2.2.2.2.1 k = 0 := by omega
          refine xe (fun _ _ kK => x_iconst dX1_measure_43 (show _ = nI 0 by decide) kK) ?_
          refine xe (fun _ _ kK => x_goto (tgt := 48) dX1_measure_44 (by decide) kK) ?_
          refine xe (fun _ _ kK => x_iadd dX1_measure_48 kK) ?_
          refine xe_ti (show _ = nI ((dc s.2.2.2.2.2.1 (g :: l9)) + 0) from nI_add (dc s.2.2.2.2.2.1 (g :: l9)) 0) ?_
          refine xe (fun _ _ kK => x_iast dX1_measure_49 (show e_K _ (p + 6) = 20 from (hI.2.2.1 5 (by decide))) (show (nI k) = nI k from rfl) (shi_len hI 5 (by decide) (show k < 66 by omega)) kK) ?_
          refine xe (fun _ _ kK => x_aload_n dX1_measure_50 rfl 3 rfl kK) ?_
          refine xe (fun _ _ kK => x_get dX1_measure_51 fl_X1_31 (wK_ai hI.1) (gvl_r1 fz_1_6.2.2 (show e_r (s_ai T (p + 6) k (nI ((dc s.2.2.2.2.2.1 (g :: l9)) + 0))) 70 p = some (p + 7) from (wr_ai (hI.2.1 6 (by decide))))) kK) ?_
          refine xe (fun _ _ kK => x_iload_n dX1_measure_54 rfl 2 rfl kK) ?_
          refine xe (fun _ _ kK => x_iload_n dX1_measure_55 rfl 0 rfl kK) ?_
          refine xe (fun _ _ kK => x_if_eqF (tgt := 68) dX1_measure_56 (by decide) (show ¬ bI true = 0 by decide) kK) ?_
          refine xe (fun _ _ kK => x_aload_n dX1_measure_59 rfl 3 rfl kK) ?_
          refine xe (fun _ _ kK => x_get dX1_measure_60 fl_X1_31 (wK_ai hI.1) (gvl_r1 fz_1_6.2.2 (show e_r (s_ai T (p + 6) k (nI ((dc s.2.2.2.2.2.1 (g :: l9)) + 0))) 70 p = some (p + 7) from (wr_ai (hI.2.1 6 (by decide))))) kK) ?_
          refine xe (fun _ _ kK => x_iload_n dX1_measure_63 rfl 1 rfl kK) ?_
          refine xe (fun _ _ kK => x_iald dX1_measure_64 (wK_ai (show e_K _ (p + 7) = 20 from (hI.2.2.1 6 (by decide)))) (show (nI g) = nI g from rfl) (wN_ai (shi_len hI 6 (by decide) (show g < 66 by omega))) (show e_ai (s_ai T (p + 6) k (nI ((dc s.2.2.2.2.2.1 (g :: l9)) + 0))) (p + 7) g = nI (mc s.2.2.2.2.2.1 (g :: l9)) from ((eai_a _ _ (show p + 7 ≠ (p + 6) from (by omega))).trans m2)) kK) ?_
          refine xe (fun _ _ kK => x_goto (tgt := 69) dX1_measure_65 (by decide) kK) ?_
          refine xe (fun _ _ kK => x_aload_n dX1_measure_69 rfl 3 rfl kK) ?_
          refine xe (fun _ _ kK => x_get dX1_measure_70 fl_X1_19 (wK_ai hI.1) (gvl_r1 fz_1_2.2.2 (show e_r (s_ai T (p + 6) k (nI ((dc s.2.2.2.2.2.1 (g :: l9)) + 0))) 66 p = some (p + 3) from (wr_ai (hI.2.1 2 (by decide))))) kK) ?_
          refine xe (fun _ _ kK => x_iload_n dX1_measure_73 rfl 2 rfl kK) ?_
          refine xe (fun _ _ kK => x_iald dX1_measure_74 (wK_ai (show e_K _ (p + 3) = 20 from (hI.2.2.1 2 (by decide)))) (show (nI k) = nI k from rfl) (wN_ai (shi_len hI 2 (by decide) (show k < 66 by omega))) (show e_ai (s_ai T (p + 6) k (nI ((dc s.2.2.2.2.2.1 (g :: l9)) + 0))) (p + 3) k = nI (s.2.2.2.2.2.1 k + 1) from ((eai_a _ _ (show p + 3 ≠ (p + 6) from (by omega))).trans (hS.2.2.2.1 k hk9).2.2.1)) kK) ?_
          refine xe (fun _ _ kK => x_iconst dX1_measure_75 (show _ = nI 3 by decide) kK) ?_
          refine xe_icmp_ne (tgt := 83) dX1_measure_76 (by decide) (fun h76 => ?_) (fun h76 => ?_)
          · -- pc 83
            have h76 := cv_ne (by omega) (by omega) h76
            have h76 : ¬ s.2.2.2.2.2.1 k = 2 := by omega
            refine xe (fun _ _ kK => x_iconst dX1_measure_83 (show _ = nI 0 by decide) kK) ?_
            refine xe (fun _ _ kK => x_iadd dX1_measure_84 kK) ?_
            refine xe_ti (show _ = nI ((mc s.2.2.2.2.2.1 (g :: l9)) + 0) from nI_add (mc s.2.2.2.2.2.1 (g :: l9)) 0) ?_
            refine xe (fun _ _ kK => x_iast dX1_measure_85 (wK_ai (show e_K _ (p + 7) = 20 from (hI.2.2.1 6 (by decide)))) (show (nI k) = nI k from rfl) (wN_ai (shi_len hI 6 (by decide) (show k < 66 by omega))) kK) ?_
            refine xe (fun _ _ kK => x_aload_n dX1_measure_86 rfl 3 rfl kK) ?_
            refine xe (fun _ _ kK => x_get dX1_measure_87 fl_X1_34 (wK_ai (wK_ai hI.1)) (gvl_r1 fz_1_7.2.2 (show e_r (s_ai (s_ai T (p + 6) k (nI ((dc s.2.2.2.2.2.1 (g :: l9)) + 0))) (p + 7) k (nI ((mc s.2.2.2.2.2.1 (g :: l9)) + 0))) 71 p = some (p + 8) from (wr_ai (wr_ai (hI.2.1 7 (by decide)))))) kK) ?_
            refine xe (fun _ _ kK => x_iload_n dX1_measure_90 rfl 2 rfl kK) ?_
            refine xe (fun _ _ kK => x_iload_n dX1_measure_91 rfl 0 rfl kK) ?_
            refine xe (fun _ _ kK => x_if_eqF (tgt := 106) dX1_measure_92 (by decide) (show ¬ bI true = 0 by decide) kK) ?_
            refine xe (fun _ _ kK => x_aload_n dX1_measure_95 rfl 3 rfl kK) ?_
            refine xe (fun _ _ kK => x_get dX1_measure_96 fl_X1_34 (wK_ai (wK_ai hI.1)) (gvl_r1 fz_1_7.2.2 (show e_r (s_ai (s_ai T (p + 6) k (nI ((dc s.2.2.2.2.2.1 (g :: l9)) + 0))) (p + 7) k (nI ((mc s.2.2.2.2.2.1 (g :: l9)) + 0))) 71 p = some (p + 8) from (wr_ai (wr_ai (hI.2.1 7 (by decide)))))) kK) ?_
            refine xe (fun _ _ kK => x_iload_n dX1_measure_99 rfl 1 rfl kK) ?_
            refine xe (fun _ _ kK => x_iald dX1_measure_100 (wK_ai (wK_ai (show e_K _ (p + 8) = 20 from (hI.2.2.1 7 (by decide))))) (show (nI g) = nI g from rfl) (wN_ai (wN_ai (shi_len hI 7 (by decide) (show g < 66 by omega)))) (show e_ai (s_ai (s_ai T (p + 6) k (nI ((dc s.2.2.2.2.2.1 (g :: l9)) + 0))) (p + 7) k (nI ((mc s.2.2.2.2.2.1 (g :: l9)) + 0))) (p + 8) g = nI l9.length from ((eai_a _ _ (show p + 8 ≠ (p + 7) from (by omega))).trans ((eai_a _ _ (show p + 8 ≠ (p + 6) from (by omega))).trans m3))) kK) ?_
            refine xe (fun _ _ kK => x_iconst dX1_measure_101 (show _ = nI 1 by decide) kK) ?_
            refine xe (fun _ _ kK => x_iadd dX1_measure_102 kK) ?_
            refine xe_ti (show _ = nI (l9.length + 1) from nI_add l9.length 1) ?_
            refine xe (fun _ _ kK => x_goto (tgt := 107) dX1_measure_103 (by decide) kK) ?_
            refine xe (fun _ _ kK => x_iast dX1_measure_107 (wK_ai (wK_ai (show e_K _ (p + 8) = 20 from (hI.2.2.1 7 (by decide))))) (show (nI k) = nI k from rfl) (wN_ai (wN_ai (shi_len hI 7 (by decide) (show k < 66 by omega)))) kK) ?_
            refine xe (fun _ _ kK => x_iinc dX1_measure_108 2 rfl (show (nI k) + Int32.ofInt 1 = nI (k + 1) from nI_add k 1) (by decide) (show _ = [(1, .int (nI (k + 1))), (3, .int (bI true)), (2, .int (nI g)), (0, .ref p)] from rfl) kK) ?_
            refine xe (fun _ _ kK => x_goto (tgt := 2) dX1_measure_111 (by decide) kK) ?_
            have hF : FrG [] [p + 6, p + 7, p + 8] T (s_ai (s_ai (s_ai T (p + 6) k (nI ((dc s.2.2.2.2.2.1 (g :: l9)) + 0))) (p + 7) k (nI ((mc s.2.2.2.2.2.1 (g :: l9)) + 0))) (p + 8) k (nI (l9.length + 1))) := (FrG.sai (FrG.sai (FrG.sai FrG.rf (by simp) _ _) (by simp) _ _) (by simp) _ _)
            have hK2 : MsK (s_ai (s_ai (s_ai T (p + 6) k (nI ((dc s.2.2.2.2.2.1 (g :: l9)) + 0))) (p + 7) k (nI ((mc s.2.2.2.2.2.1 (g :: l9)) + 0))) (p + 8) k (nI (l9.length + 1))) p s (k + 1) := fun f hf l hl => by
              by_cases e9 : f = k
              · subst e9
                have e8 := Chn.uniq hl (show Chn s.2.2.1 (some f) (f :: g :: l9) from ⟨rfl, by rw [hW9]; exact hl9⟩)
                subst e8; rw [dc_c _ f, mc_c _ f]; simp [q_i_i, q_i_l, q_i_ai, q_i_al, q_ai_ai, q_ai_i, q_ai_l, q_ai_al, q_al_al, q_al_i, q_al_ai, q_al_l, q_l_i, q_l_l, q_l_ai, q_l_al, dc_n, mc_n, h40, h76]
              · have h1 := hK f (by omega) l hl
                simp [q_i_i, q_i_l, q_i_ai, q_i_al, q_ai_ai, q_ai_i, q_ai_l, q_ai_al, q_al_al, q_al_i, q_al_ai, q_al_l, q_l_i, q_l_l, q_l_ai, q_l_al, e9]; exact h1
            refine xe_loc (by simp) (ih (s.1 - (k + 1)) (by omega) (k + 1) _ rfl (by omega) (hS.of hF (by simp) (by simp) (by simp)) hK2 P (fun T1 h1 h2 => hP T1 (FrG.tr hF h1) h2))
          · -- pc 79
            have h76 := cv_eq (by omega) (by omega) h76
            have h76 : s.2.2.2.2.2.1 k = 2 := by omega
            exact absurd h76 (by omega)

set_option maxHeartbeats 4000000 in
theorem c_X1_measure (d : Nat) {T : TH} {p : Nat} {s : Sh} {en : Nat → Nat} {lo : Nat → Option Nat} (hS : CSp T p s en lo) (hMe : MeOk s) : Xe m_X1_measure (d + 2) 0 [(0, .ref p)] [] T (fun r T1 => r = none ∧ FrG [] [p + 6, p + 7, p + 8] T T1 ∧ MsK T1 p s s.1) := by
  have hI := hS.1
  refine xe (fun _ _ kK => x_iconst dX1_measure_0 (show _ = nI 0 by decide) kK) ?_
  refine xe (fun _ _ kK => x_istore_n dX1_measure_1 rfl (by decide) (show _ = [(1, .int (nI 0)), (0, .ref p)] from rfl) kK) ?_
  exact l_X1_measure d hMe s.1 0 T rfl (Nat.zero_le _) hS (fun f hf => absurd hf (Nat.not_lt_zero _)) _ (fun T1 h1 h2 => ⟨rfl, h1, h2⟩)

theorem nI_max {a b : Nat} (ha : a < 2 ^ 31) (hb : b < 2 ^ 31) : (if nI a < nI b then nI b else nI a) = nI (max a b) := by
  by_cases h : a < b
  · rw [if_pos ((nI_ltI ha hb).mpr h), show max a b = b by omega]
  · rw [if_neg (fun z => h ((nI_ltI ha hb).mp z)), show max a b = a by omega]
theorem nI_min {a b : Nat} (ha : a < 2 ^ 31) (hb : b < 2 ^ 31) : (if nI b < nI a then nI b else nI a) = nI (min a b) := by
  by_cases h : b < a
  · rw [if_pos ((nI_ltI hb ha).mpr h), show min a b = b by omega]
  · rw [if_neg (fun z => h ((nI_ltI hb ha).mp z)), show min a b = a by omega]

/-- the most many on what is on the road to both -/
def shM (en A : Nat → Nat) (fa fb : Nat) : Nat → Nat
  | 0 => 0
  | k + 1 => if (k ≤ fa ∧ fa < en k) ∧ (k ≤ fb ∧ fb < en k) then max (shM en A fa fb k) (A k) else shM en A fa fb k
theorem shM_le {en A : Nat → Nat} {fa fb n B : Nat} (h : ∀ k, k < n → A k ≤ B) : ∀ k, k ≤ n → shM en A fa fb k ≤ B := by
  intro k
  induction k with
  | zero => intro _; exact Nat.zero_le _
  | succ k ih =>
    intro hk
    have h1 := ih (by omega)
    have h2 := h k (by omega)
    rw [shM]
    split <;> omega

set_option maxHeartbeats 4000000 in
theorem l_X1_sharedMany (d : Nat) {T : TH} {p : Nat} {s : Sh} {en : Nat → Nat} {lo : Nat → Option Nat} (hS : CSp T p s en lo) (hs60 : s.1 ≤ 60) {A : Nat → Nat} {ca cb : Nat} (hA : ∀ f, f < s.1 → e_ai T (p + 7) f = nI (A f) ∧ A f ≤ 10) (hen : ∀ f, f < s.1 → en f < 2 ^ 31) (hfa : s.2.2.2.2.2.2 ca < s.1) (hfb : s.2.2.2.2.2.2 cb < s.1) : ∀ (m k : Nat), s.1 - k = m → k ≤ s.1 → Xe m_X1_sharedMany (d + 2) 19 [(6, .int (nI k)), (5, .int (nI (shM en A (s.2.2.2.2.2.2 ca) (s.2.2.2.2.2.2 cb) k))), (4, .int (nI (s.2.2.2.2.2.2 cb))), (3, .int (nI (s.2.2.2.2.2.2 ca))), (0, .ref p), (1, .int (nI ca)), (2, .int (nI cb))] [] T (fun r T1 => r = some (.int (nI (shM en A (s.2.2.2.2.2.2 ca) (s.2.2.2.2.2.2 cb) s.1))) ∧ T1 = T) := by
  intro m
  induction m using Nat.strongRecOn with
  | ind m ih =>
    intro k hm hk
    subst hm
    have hI := hS.1
    refine xe (fun _ _ kK => x_iload dX1_sharedMany_19 0 rfl kK) ?_
    refine xe (fun _ _ kK => x_aload_n dX1_sharedMany_21 rfl 4 rfl kK) ?_
    refine xe (fun _ _ kK => x_get dX1_sharedMany_22 fl_X1_43 hI.1 (gvl_i fz_1_10.2.2 (show e_i T 74 p = nI s.1 from hS.2.1)) kK) ?_
    refine xe_icmp_ge (tgt := 69) dX1_sharedMany_25 (by decide) (fun h25 => ?_) (fun h25 => ?_)
    · -- pc 69
      have h25 := cv_le (by omega) (by omega) h25
      refine xe (fun _ _ kK => x_iload dX1_sharedMany_69 1 rfl kK) ?_
      have ek : k = s.1 := by omega
      subst ek
      exact xe_reti dX1_sharedMany_71 rfl (⟨rfl, rfl⟩)
    · -- pc 28
      have h25 := cv_nle (by omega) (by omega) h25
      refine xe (fun _ _ kK => x_aload_n dX1_sharedMany_28 rfl 4 rfl kK) ?_
      refine xe (fun _ _ kK => x_iload dX1_sharedMany_29 0 rfl kK) ?_
      refine xe (fun _ _ kK => x_iload_n dX1_sharedMany_31 rfl 3 rfl kK) ?_
      refine xe_callV (a := p) [.int (nI k), .int (nI (s.2.2.2.2.2.2 ca))] dX1_sharedMany_32 ml_X1_61 mf_X1_isOnRoad hI.1 (c_X1_isOnRoad d hS hs60 (f := k) (t := (s.2.2.2.2.2.2 ca)) h25 (by omega) (hen k h25)) rfl rfl (Nat.le_of_ble_eq_true rfl) (Nat.le_of_ble_eq_true rfl) ?_
      rintro _ T9 ⟨rfl, hTq9⟩
      refine xe_T hTq9 ?_
      refine xe_if_eq (tgt := 63) dX1_sharedMany_35 (by decide) (fun h35 => ?_) (fun h35 => ?_)
      · -- pc 63
        have h35 := cv_b0 h35
        refine xe (fun _ _ kK => x_iinc dX1_sharedMany_63 0 rfl (show (nI k) + Int32.ofInt 1 = nI (k + 1) from nI_add k 1) (by decide) (show _ = [(6, .int (nI (k + 1))), (5, .int (nI (shM en A (s.2.2.2.2.2.2 ca) (s.2.2.2.2.2.2 cb) k))), (4, .int (nI (s.2.2.2.2.2.2 cb))), (3, .int (nI (s.2.2.2.2.2.2 ca))), (0, .ref p), (1, .int (nI ca)), (2, .int (nI cb))] from rfl) kK) ?_
        refine xe (fun _ _ kK => x_goto (tgt := 19) dX1_sharedMany_66 (by decide) kK) ?_
        have hs : shM en A (s.2.2.2.2.2.2 ca) (s.2.2.2.2.2.2 cb) (k + 1) = shM en A (s.2.2.2.2.2.2 ca) (s.2.2.2.2.2.2 cb) k := by rw [shM, if_neg (fun z9 => by simp at h35; omega)]
        refine xe_loc (L' := [(6, .int (nI (k + 1))), (5, .int (nI (shM en A (s.2.2.2.2.2.2 ca) (s.2.2.2.2.2.2 cb) (k + 1)))), (4, .int (nI (s.2.2.2.2.2.2 cb))), (3, .int (nI (s.2.2.2.2.2.2 ca))), (0, .ref p), (1, .int (nI ca)), (2, .int (nI cb))]) (by rw [hs]; simp) ?_
        exact ih (s.1 - (k + 1)) (by omega) (k + 1) rfl (by omega)
      · -- pc 38
        have h35 := cv_b1 h35
        refine xe (fun _ _ kK => x_aload_n dX1_sharedMany_38 rfl 4 rfl kK) ?_
        refine xe (fun _ _ kK => x_iload dX1_sharedMany_39 0 rfl kK) ?_
        refine xe (fun _ _ kK => x_iload dX1_sharedMany_41 2 rfl kK) ?_
        refine xe_callV (a := p) [.int (nI k), .int (nI (s.2.2.2.2.2.2 cb))] dX1_sharedMany_43 ml_X1_61 mf_X1_isOnRoad hI.1 (c_X1_isOnRoad d hS hs60 (f := k) (t := (s.2.2.2.2.2.2 cb)) h25 (by omega) (hen k h25)) rfl rfl (Nat.le_of_ble_eq_true rfl) (Nat.le_of_ble_eq_true rfl) ?_
        rintro _ T9 ⟨rfl, hTq9⟩
        refine xe_T hTq9 ?_
        refine xe_if_eq (tgt := 63) dX1_sharedMany_46 (by decide) (fun h46 => ?_) (fun h46 => ?_)
        · -- pc 63
          have h46 := cv_b0 h46
          refine xe (fun _ _ kK => x_iinc dX1_sharedMany_63 0 rfl (show (nI k) + Int32.ofInt 1 = nI (k + 1) from nI_add k 1) (by decide) (show _ = [(6, .int (nI (k + 1))), (5, .int (nI (shM en A (s.2.2.2.2.2.2 ca) (s.2.2.2.2.2.2 cb) k))), (4, .int (nI (s.2.2.2.2.2.2 cb))), (3, .int (nI (s.2.2.2.2.2.2 ca))), (0, .ref p), (1, .int (nI ca)), (2, .int (nI cb))] from rfl) kK) ?_
          refine xe (fun _ _ kK => x_goto (tgt := 19) dX1_sharedMany_66 (by decide) kK) ?_
          have hs : shM en A (s.2.2.2.2.2.2 ca) (s.2.2.2.2.2.2 cb) (k + 1) = shM en A (s.2.2.2.2.2.2 ca) (s.2.2.2.2.2.2 cb) k := by rw [shM, if_neg (fun z9 => by simp at h46; omega)]
          refine xe_loc (L' := [(6, .int (nI (k + 1))), (5, .int (nI (shM en A (s.2.2.2.2.2.2 ca) (s.2.2.2.2.2.2 cb) (k + 1)))), (4, .int (nI (s.2.2.2.2.2.2 cb))), (3, .int (nI (s.2.2.2.2.2.2 ca))), (0, .ref p), (1, .int (nI ca)), (2, .int (nI cb))]) (by rw [hs]; simp) ?_
          exact ih (s.1 - (k + 1)) (by omega) (k + 1) rfl (by omega)
        · -- pc 49
          have h46 := cv_b1 h46
          have hsm := shM_le (en := en) (fa := (s.2.2.2.2.2.2 ca)) (fb := (s.2.2.2.2.2.2 cb)) (n := s.1) (B := 10) (fun k hk => (hA k hk).2) k hk
          have hAk := (hA k h25).2
          refine xe (fun _ _ kK => x_iload dX1_sharedMany_49 1 rfl kK) ?_
          refine xe (fun _ _ kK => x_aload_n dX1_sharedMany_51 rfl 4 rfl kK) ?_
          refine xe (fun _ _ kK => x_get dX1_sharedMany_52 fl_X1_31 hI.1 (gvl_r1 fz_1_6.2.2 (show e_r T 70 p = some (p + 7) from (hI.2.1 6 (by decide)))) kK) ?_
          refine xe (fun _ _ kK => x_iload dX1_sharedMany_55 0 rfl kK) ?_
          refine xe (fun _ _ kK => x_iald dX1_sharedMany_57 (show e_K _ (p + 7) = 20 from (hI.2.2.1 6 (by decide))) (show (nI k) = nI k from rfl) (shi_len hI 6 (by decide) (show k < 66 by omega)) (show e_ai T (p + 7) k = nI (A k) from (hA k h25).1) kK) ?_
          refine xe (fun _ _ kK => x_mmax dX1_sharedMany_58 ml_X1_65 (Nat.le_of_ble_eq_true rfl) kK) ?_
          refine xe_ti (show _ = nI (max (shM en A (s.2.2.2.2.2.2 ca) (s.2.2.2.2.2.2 cb) k) (A k)) from nI_max (by omega) (by omega)) ?_
          refine xe (fun _ _ kK => x_istore dX1_sharedMany_61 (by decide) (show _ = [(5, .int (nI (max (shM en A (s.2.2.2.2.2.2 ca) (s.2.2.2.2.2.2 cb) k) (A k)))), (6, .int (nI k)), (4, .int (nI (s.2.2.2.2.2.2 cb))), (3, .int (nI (s.2.2.2.2.2.2 ca))), (0, .ref p), (1, .int (nI ca)), (2, .int (nI cb))] from rfl) kK) ?_
          refine xe (fun _ _ kK => x_iinc dX1_sharedMany_63 1 rfl (show (nI k) + Int32.ofInt 1 = nI (k + 1) from nI_add k 1) (by decide) (show _ = [(6, .int (nI (k + 1))), (5, .int (nI (max (shM en A (s.2.2.2.2.2.2 ca) (s.2.2.2.2.2.2 cb) k) (A k)))), (4, .int (nI (s.2.2.2.2.2.2 cb))), (3, .int (nI (s.2.2.2.2.2.2 ca))), (0, .ref p), (1, .int (nI ca)), (2, .int (nI cb))] from rfl) kK) ?_
          refine xe (fun _ _ kK => x_goto (tgt := 19) dX1_sharedMany_66 (by decide) kK) ?_
          have hs : shM en A (s.2.2.2.2.2.2 ca) (s.2.2.2.2.2.2 cb) (k + 1) = max (shM en A (s.2.2.2.2.2.2 ca) (s.2.2.2.2.2.2 cb) k) (A k) := by rw [shM, if_pos ⟨by simpa using h35, by simpa using h46⟩]
          refine xe_loc (L' := [(6, .int (nI (k + 1))), (5, .int (nI (shM en A (s.2.2.2.2.2.2 ca) (s.2.2.2.2.2.2 cb) (k + 1)))), (4, .int (nI (s.2.2.2.2.2.2 cb))), (3, .int (nI (s.2.2.2.2.2.2 ca))), (0, .ref p), (1, .int (nI ca)), (2, .int (nI cb))]) (by rw [hs]; simp) ?_
          exact ih (s.1 - (k + 1)) (by omega) (k + 1) rfl (by omega)

set_option maxHeartbeats 4000000 in
theorem c_X1_sharedMany (d : Nat) {T : TH} {p : Nat} {s : Sh} {en : Nat → Nat} {lo : Nat → Option Nat} (hS : CSp T p s en lo) (hs60 : s.1 ≤ 60) {A : Nat → Nat} {ca cb : Nat} (hA : ∀ f, f < s.1 → e_ai T (p + 7) f = nI (A f) ∧ A f ≤ 10) (hen : ∀ f, f < s.1 → en f < 2 ^ 31) (hfa : s.2.2.2.2.2.2 ca < s.1) (hfb : s.2.2.2.2.2.2 cb < s.1) (hc12 : s.2.1 ≤ 12) (hca : ca < s.2.1) (hcb : cb < s.2.1) : Xe m_X1_sharedMany (d + 2) 0 [(0, .ref p), (1, .int (nI ca)), (2, .int (nI cb))] [] T (fun r T1 => r = some (.int (nI (shM en A (s.2.2.2.2.2.2 ca) (s.2.2.2.2.2.2 cb) s.1))) ∧ T1 = T) := by
  have hI := hS.1
  refine xe (fun _ _ kK => x_aload_n dX1_sharedMany_0 rfl 0 rfl kK) ?_
  refine xe (fun _ _ kK => x_iload_n dX1_sharedMany_1 rfl 1 rfl kK) ?_
  refine xe_callV (a := p) [.int (nI ca)] dX1_sharedMany_2 ml_X1_58 mf_X1_fieldOfLeaf hI.1 (by have := c_X1_fieldOfLeaf (d + 1) hS hs60 hc12 (nI ca); rw [ix_in hca (by omega)] at this; exact this) rfl rfl (Nat.le_of_ble_eq_true rfl) (Nat.le_of_ble_eq_true rfl) ?_
  rintro _ T9 ⟨rfl, hTq9⟩
  refine xe_T hTq9 ?_
  refine xe (fun _ _ kK => x_istore_n dX1_sharedMany_5 rfl (by decide) (show _ = [(3, .int (nI (s.2.2.2.2.2.2 ca))), (0, .ref p), (1, .int (nI ca)), (2, .int (nI cb))] from rfl) kK) ?_
  refine xe (fun _ _ kK => x_aload_n dX1_sharedMany_6 rfl 1 rfl kK) ?_
  refine xe (fun _ _ kK => x_iload_n dX1_sharedMany_7 rfl 3 rfl kK) ?_
  refine xe_callV (a := p) [.int (nI cb)] dX1_sharedMany_8 ml_X1_58 mf_X1_fieldOfLeaf hI.1 (by have := c_X1_fieldOfLeaf (d + 1) hS hs60 hc12 (nI cb); rw [ix_in hcb (by omega)] at this; exact this) rfl rfl (Nat.le_of_ble_eq_true rfl) (Nat.le_of_ble_eq_true rfl) ?_
  rintro _ T9 ⟨rfl, hTq9⟩
  refine xe_T hTq9 ?_
  refine xe (fun _ _ kK => x_istore dX1_sharedMany_11 (by decide) (show _ = [(4, .int (nI (s.2.2.2.2.2.2 cb))), (3, .int (nI (s.2.2.2.2.2.2 ca))), (0, .ref p), (1, .int (nI ca)), (2, .int (nI cb))] from rfl) kK) ?_
  refine xe (fun _ _ kK => x_iconst dX1_sharedMany_13 (show _ = nI 0 by decide) kK) ?_
  refine xe (fun _ _ kK => x_istore dX1_sharedMany_14 (by decide) (show _ = [(5, .int (nI 0)), (4, .int (nI (s.2.2.2.2.2.2 cb))), (3, .int (nI (s.2.2.2.2.2.2 ca))), (0, .ref p), (1, .int (nI ca)), (2, .int (nI cb))] from rfl) kK) ?_
  refine xe (fun _ _ kK => x_iconst dX1_sharedMany_16 (show _ = nI 0 by decide) kK) ?_
  refine xe (fun _ _ kK => x_istore dX1_sharedMany_17 (by decide) (show _ = [(6, .int (nI 0)), (5, .int (nI 0)), (4, .int (nI (s.2.2.2.2.2.2 cb))), (3, .int (nI (s.2.2.2.2.2.2 ca))), (0, .ref p), (1, .int (nI ca)), (2, .int (nI cb))] from rfl) kK) ?_
  exact xe_loc (by simp [shM]) (l_X1_sharedMany d hS hs60 hA hen hfa hfb s.1 0 rfl (Nat.zero_le _))
