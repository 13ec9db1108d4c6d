/-! TreeTables.text -/
def hK0 (h0 : Nat → Nat) (k : Nat) : Nat → Nat := fun c => if c < k then h0 c else 0

set_option maxHeartbeats 4000000 in
theorem l_X6_writeAll {wr cu : Nat} {bits : Int32} {s : Sh} {en : Nat → Nat} {lo : Nat → Option Nat} {A : Nat → Nat → Nat} {cp : Nat → Nat} {RR : Nat → List Row} {pa : Pa} {i : Nat} (d : Nat) {T : TH} {h0 : Nat → Nat} (hZ : WZ cu s en lo RR) (hPT : PTv s pa) (hi : i < 30) (hst : ∀ c, c < s.2.1 → fnd (fun k => decide ((rowAt (RR c) k).2.2.2.2 = i)) (RR c).length 0 = some (h0 c)) (hB : HBk s bits pa i RR 0 [] 0 none h0) (hl : (txN s pa (wnB s bits) 5 0).length ≤ 400) : ∀ (m k : Nat) (T1 : TH), 12 - k = m → k ≤ 12 → FrG [(321, 64)] [65, wr + 1] T T1 → WSt T1 wr cu bits s en lo A cp RR ([]) (hK0 h0 k) → Xe m_X6_writeAll (d + 21) 10 [(2, .int (nI k)), (0, .ref wr), (1, .int (nI i))] [] T1 (fun r T2 => r = none ∧ FrG [(321, 64)] [65, wr + 1] T T2 ∧ ∃ h9, WSt T2 wr cu bits s en lo A cp RR ([] ++ txN s pa (wnB s bits) 5 0) h9) := by
  intro m
  induction m using Nat.strongRecOn with
  | ind m ih =>
    intro k T1 hm hk hF0 hW
    subst hm
    obtain ⟨hC, hS, hK, hTW, hHD, hA, hTR, hX, hwr, hsep⟩ := id hW
    obtain ⟨hu, hV, ⟨hs60, h12⟩, hWl, hNb, hRO⟩ := id hZ
    refine xe (fun _ _ kK => x_iload_n dX6_writeAll_10 rfl 0 rfl kK) ?_
    refine xe (fun _ _ kK => x_bipush dX6_writeAll_11 (show _ = nI 12 by decide) kK) ?_
    refine xe_icmp_ge (tgt := 47) dX6_writeAll_13 (by decide) (fun h13 => ?_) (fun h13 => ?_)
    · -- pc 47
      have h13 := cv_le (by omega) (by omega) h13
      have ek : k = 12 := by omega
      subst ek
      refine xe (fun _ _ kK => x_aload_n dX6_writeAll_47 rfl 1 rfl kK) ?_
      refine xe (fun _ _ kK => x_iconst dX6_writeAll_48 (show _ = (-1) by decide) kK) ?_
      refine xe (fun _ _ kK => x_iconst dX6_writeAll_49 (show _ = nI 0 by decide) kK) ?_
      have hW9 : WSt T1 wr cu bits s en lo A cp RR ([]) h0 := hW.hc (fun c hc hb => by unfold hK0; rw [if_pos (by omega)])
      refine xe_callV (a := wr) [.int (-1), .int (nI 0)] dX6_writeAll_50 ml_X6_46 mf_X6_writeParts hTW.1 (c_X6_writeParts (wr := wr) (bits := bits) (A := A) (cp := cp) (i := i) hZ hPT 5 (d + 1) T1 [] h0 0 [] 0 none hW9 hPT.2.2.2.1 hPT.2.1 rfl rfl (by decide) (fun g hg => by cases hg) hB (by rw [List.length_nil, Nat.zero_add]; exact hl)) rfl rfl (Nat.le_of_ble_eq_true rfl) (Nat.le_of_ble_eq_true rfl) ?_
      rintro _ T2 ⟨rfl, hF2, hW2⟩
      exact xe_retv dX6_writeAll_53 rfl (⟨rfl, FrG.tr hF0 hF2, _, hW2⟩)
    · -- pc 16
      have h13 := cv_nle (by omega) (by omega) h13
      refine xe (fun _ _ kK => x_aload_n dX6_writeAll_16 rfl 1 rfl kK) ?_
      refine xe (fun _ _ kK => x_iload_n dX6_writeAll_17 rfl 0 rfl kK) ?_
      by_cases hc : k < s.2.1
      · -- pc 18
        by_cases hb : bitOn bits k
        · -- pc 18
          refine xe_callV (a := wr) [.int (nI k)] dX6_writeAll_18 ml_X6_36 mf_X6_wantedTable hTW.1 (c_X6_wantedY (d + 20) hW hZ hc hb) rfl rfl (Nat.le_of_ble_eq_true rfl) (Nat.le_of_ble_eq_true rfl) ?_
          rintro _ T9 ⟨rfl, hTq9⟩
          refine xe_T hTq9 ?_
          refine xe (fun _ _ kK => x_astore_n dX6_writeAll_21 rfl (by decide) (show _ = [(3, .ref (4 + 5 * k)), (2, .int (nI k)), (0, .ref wr), (1, .int (nI i))] from rfl) kK) ?_
          refine xe (fun _ _ kK => x_aload_n dX6_writeAll_22 rfl 2 rfl kK) ?_
          refine xe (fun _ _ kK => x_get dX6_writeAll_23 fl_X6_27 hTW.1 (gvl_r1 fz_6_4.2.2 (show e_r T1 388 wr = some (wr + 1) from hTW.2.2.2.2.2.1)) kK) ?_
          refine xe (fun _ _ kK => x_iload_n dX6_writeAll_26 rfl 1 rfl kK) ?_
          refine xe (fun _ _ kK => x_aload_n dX6_writeAll_27 rfl 0 rfl kK) ?_
          refine xe (fun _ _ kK => x_ifnonnull (tgt := 35) dX6_writeAll_28 (by decide) kK) ?_
          refine xe (fun _ _ kK => x_aload_n dX6_writeAll_35 rfl 0 rfl kK) ?_
          refine xe (fun _ _ kK => x_iload_n dX6_writeAll_36 rfl 3 rfl kK) ?_
          have hT := hW.tb h12 hc
          obtain ⟨hO, hH⟩ := hRO k hc
          have hst9 := hst k hc
          have hh0 : h0 k < 2 ^ 31 := by have := (fnd_lt _ _ hst9).2.1; have := hO.1; omega
          refine xe_callV (a := (4 + 5 * k)) [.int (nI i)] dX6_writeAll_37 ml_X6_40 mf_X3_firstRowOf hT.1 (by have := c_X3_firstRowOf (d + 20) hT hO (i := i) (by omega); rw [hst9] at this; exact this) rfl rfl (Nat.le_of_ble_eq_true rfl) (Nat.le_of_ble_eq_true rfl) ?_
          rintro _ T9 ⟨rfl, hTq9⟩
          refine xe_T hTq9 ?_
          refine xe (fun _ _ kK => x_iast dX6_writeAll_40 hTW.2.2.2.2.2.2.1 (show (nI k) = nI k from rfl) (by rw [hTW.2.2.2.2.2.2.2]; omega) kK) ?_
          refine xe (fun _ _ kK => x_iinc dX6_writeAll_41 1 rfl (show (nI k) + Int32.ofInt 1 = nI (k + 1) from nI_add k 1) (by decide) (show _ = [(2, .int (nI (k + 1))), (3, .ref (4 + 5 * k)), (0, .ref wr), (1, .int (nI i))] from rfl) kK) ?_
          refine xe (fun _ _ kK => x_goto (tgt := 10) dX6_writeAll_44 (by decide) kK) ?_
          have hF : FrG [(321, 64)] [65, wr + 1] T1 (s_ai T1 (wr + 1) k (nI (h0 k))) := (FrG.sai FrG.rf (by simp) _ _)
          have hX2 : CTx (s_ai T1 (wr + 1) k (nI (h0 k))) [] := ⟨hX.1, hX.2.1, fun k9 c9 hk9 => by rw [show e_ai (s_ai T1 (wr + 1) k (nI (h0 k))) 65 = e_ai T1 65 from funext (fun j => by rw [q_ai_ai, if_neg (by omega)])]; exact hX.2.2 k9 c9 hk9⟩
          have hH2 : HD (s_ai T1 (wr + 1) k (nI (h0 k))) wr s bits (hK0 h0 (k + 1)) := fun c9 hc9 hb9 => by
            by_cases e9 : c9 = k
            · subst e9; unfold hK0; rw [if_pos (by omega)]; simp [q_i_i, q_i_l, q_i_ai, q_i_al, q_ai_ai, q_ai_i, q_ai_l, q_ai_al, q_al_al, q_al_i, q_al_ai, q_al_l, q_l_i, q_l_l, q_l_ai, q_l_al, q_r_r, q_r_i, q_r_l, q_r_ai, q_r_al, q_i_r, q_l_r, q_ai_r, q_al_r, q_K_i, q_K_r, q_K_l, q_K_ai, q_K_al, q_len_i, q_len_r, q_len_l, q_len_ai, q_len_al, q_n_i, q_n_r, q_n_l, q_n_ai, q_n_al, q_s_i, q_s_r, q_s_l, q_s_ai, q_s_al]
            · have h1 := hHD c9 hc9 hb9; rw [show hK0 h0 (k + 1) c9 = hK0 h0 k c9 by unfold hK0; by_cases e8 : c9 < k; rw [if_pos e8, if_pos (by omega)]; rw [if_neg e8, if_neg (by omega)]]; simp [q_i_i, q_i_l, q_i_ai, q_i_al, q_ai_ai, q_ai_i, q_ai_l, q_ai_al, q_al_al, q_al_i, q_al_ai, q_al_l, q_l_i, q_l_l, q_l_ai, q_l_al, q_r_r, q_r_i, q_r_l, q_r_ai, q_r_al, q_i_r, q_l_r, q_ai_r, q_al_r, q_K_i, q_K_r, q_K_l, q_K_ai, q_K_al, q_len_i, q_len_r, q_len_l, q_len_ai, q_len_al, q_n_i, q_n_r, q_n_l, q_n_ai, q_n_al, q_s_i, q_s_r, q_s_l, q_s_ai, q_s_al, e9]; exact h1
          exact xe_loc (by simp) (ih (12 - (k + 1)) (by omega) (k + 1) _ rfl (by omega) (FrG.tr hF0 hF) (hW.of hZ hF hX2 hH2))
        · -- pc 18
          refine xe_callV (a := wr) [.int (nI k)] dX6_writeAll_18 ml_X6_36 mf_X6_wantedTable hTW.1 (c_X6_wantedN (d + 20) hW hZ hc hb) rfl rfl (Nat.le_of_ble_eq_true rfl) (Nat.le_of_ble_eq_true rfl) ?_
          rintro _ T9 ⟨rfl, hTq9⟩
          refine xe_T hTq9 ?_
          refine xe (fun _ _ kK => x_astore_nN dX6_writeAll_21 rfl (by decide) (show _ = [(3, .null), (2, .int (nI k)), (0, .ref wr), (1, .int (nI i))] from rfl) kK) ?_
          refine xe (fun _ _ kK => x_aload_n dX6_writeAll_22 rfl 2 rfl kK) ?_
          refine xe (fun _ _ kK => x_get dX6_writeAll_23 fl_X6_27 hTW.1 (gvl_r1 fz_6_4.2.2 (show e_r T1 388 wr = some (wr + 1) from hTW.2.2.2.2.2.1)) kK) ?_
          refine xe (fun _ _ kK => x_iload_n dX6_writeAll_26 rfl 1 rfl kK) ?_
          refine xe (fun _ _ kK => x_aload_nN dX6_writeAll_27 rfl 0 rfl kK) ?_
          refine xe (fun _ _ kK => x_ifnonnullN dX6_writeAll_28 kK) ?_
          refine xe (fun _ _ kK => x_iconst dX6_writeAll_31 (show _ = (-1) by decide) kK) ?_
          refine xe (fun _ _ kK => x_goto (tgt := 40) dX6_writeAll_32 (by decide) kK) ?_
          refine xe (fun _ _ kK => x_iast dX6_writeAll_40 hTW.2.2.2.2.2.2.1 (show (nI k) = nI k from rfl) (by rw [hTW.2.2.2.2.2.2.2]; omega) kK) ?_
          refine xe (fun _ _ kK => x_iinc dX6_writeAll_41 1 rfl (show (nI k) + Int32.ofInt 1 = nI (k + 1) from nI_add k 1) (by decide) (show _ = [(2, .int (nI (k + 1))), (3, .null), (0, .ref wr), (1, .int (nI i))] from rfl) kK) ?_
          refine xe (fun _ _ kK => x_goto (tgt := 10) dX6_writeAll_44 (by decide) kK) ?_
          have hF : FrG [(321, 64)] [65, wr + 1] T1 (s_ai T1 (wr + 1) k (-1)) := (FrG.sai FrG.rf (by simp) _ _)
          have hX2 : CTx (s_ai T1 (wr + 1) k (-1)) [] := ⟨hX.1, hX.2.1, fun k9 c9 hk9 => by rw [show e_ai (s_ai T1 (wr + 1) k (-1)) 65 = e_ai T1 65 from funext (fun j => by rw [q_ai_ai, if_neg (by omega)])]; exact hX.2.2 k9 c9 hk9⟩
          have hH2 : HD (s_ai T1 (wr + 1) k (-1)) wr s bits (hK0 h0 (k + 1)) := fun c9 hc9 hb9 => by
            by_cases e9 : c9 = k
            · subst e9; exact absurd hb9 hb
            · have h1 := hHD c9 hc9 hb9; rw [show hK0 h0 (k + 1) c9 = hK0 h0 k c9 by unfold hK0; by_cases e8 : c9 < k; rw [if_pos e8, if_pos (by omega)]; rw [if_neg e8, if_neg (by omega)]]; simp [q_i_i, q_i_l, q_i_ai, q_i_al, q_ai_ai, q_ai_i, q_ai_l, q_ai_al, q_al_al, q_al_i, q_al_ai, q_al_l, q_l_i, q_l_l, q_l_ai, q_l_al, q_r_r, q_r_i, q_r_l, q_r_ai, q_r_al, q_i_r, q_l_r, q_ai_r, q_al_r, q_K_i, q_K_r, q_K_l, q_K_ai, q_K_al, q_len_i, q_len_r, q_len_l, q_len_ai, q_len_al, q_n_i, q_n_r, q_n_l, q_n_ai, q_n_al, q_s_i, q_s_r, q_s_l, q_s_ai, q_s_al, e9]; exact h1
          exact xe_loc (by simp) (ih (12 - (k + 1)) (by omega) (k + 1) _ rfl (by omega) (FrG.tr hF0 hF) (hW.of hZ hF hX2 hH2))
      · -- pc 18
        refine xe_callV (a := wr) [.int (nI k)] dX6_writeAll_18 ml_X6_36 mf_X6_wantedTable hTW.1 (c_X6_wantedO (d + 20) hW hZ (by omega) (by omega)) rfl rfl (Nat.le_of_ble_eq_true rfl) (Nat.le_of_ble_eq_true rfl) ?_
        rintro _ T9 ⟨rfl, hTq9⟩
        refine xe_T hTq9 ?_
        refine xe (fun _ _ kK => x_astore_nN dX6_writeAll_21 rfl (by decide) (show _ = [(3, .null), (2, .int (nI k)), (0, .ref wr), (1, .int (nI i))] from rfl) kK) ?_
        refine xe (fun _ _ kK => x_aload_n dX6_writeAll_22 rfl 2 rfl kK) ?_
        refine xe (fun _ _ kK => x_get dX6_writeAll_23 fl_X6_27 hTW.1 (gvl_r1 fz_6_4.2.2 (show e_r T1 388 wr = some (wr + 1) from hTW.2.2.2.2.2.1)) kK) ?_
        refine xe (fun _ _ kK => x_iload_n dX6_writeAll_26 rfl 1 rfl kK) ?_
        refine xe (fun _ _ kK => x_aload_nN dX6_writeAll_27 rfl 0 rfl kK) ?_
        refine xe (fun _ _ kK => x_ifnonnullN dX6_writeAll_28 kK) ?_
        refine xe (fun _ _ kK => x_iconst dX6_writeAll_31 (show _ = (-1) by decide) kK) ?_
        refine xe (fun _ _ kK => x_goto (tgt := 40) dX6_writeAll_32 (by decide) kK) ?_
        refine xe (fun _ _ kK => x_iast dX6_writeAll_40 hTW.2.2.2.2.2.2.1 (show (nI k) = nI k from rfl) (by rw [hTW.2.2.2.2.2.2.2]; omega) kK) ?_
        refine xe (fun _ _ kK => x_iinc dX6_writeAll_41 1 rfl (show (nI k) + Int32.ofInt 1 = nI (k + 1) from nI_add k 1) (by decide) (show _ = [(2, .int (nI (k + 1))), (3, .null), (0, .ref wr), (1, .int (nI i))] from rfl) kK) ?_
        refine xe (fun _ _ kK => x_goto (tgt := 10) dX6_writeAll_44 (by decide) kK) ?_
        have hF : FrG [(321, 64)] [65, wr + 1] T1 (s_ai T1 (wr + 1) k (-1)) := (FrG.sai FrG.rf (by simp) _ _)
        have hX2 : CTx (s_ai T1 (wr + 1) k (-1)) [] := ⟨hX.1, hX.2.1, fun k9 c9 hk9 => by rw [show e_ai (s_ai T1 (wr + 1) k (-1)) 65 = e_ai T1 65 from funext (fun j => by rw [q_ai_ai, if_neg (by omega)])]; exact hX.2.2 k9 c9 hk9⟩
        have hH2 : HD (s_ai T1 (wr + 1) k (-1)) wr s bits (hK0 h0 (k + 1)) := fun c9 hc9 hb9 => by
          by_cases e9 : c9 = k
          · subst e9; omega
          · have h1 := hHD c9 hc9 hb9; rw [show hK0 h0 (k + 1) c9 = hK0 h0 k c9 by unfold hK0; by_cases e8 : c9 < k; rw [if_pos e8, if_pos (by omega)]; rw [if_neg e8, if_neg (by omega)]]; simp [q_i_i, q_i_l, q_i_ai, q_i_al, q_ai_ai, q_ai_i, q_ai_l, q_ai_al, q_al_al, q_al_i, q_al_ai, q_al_l, q_l_i, q_l_l, q_l_ai, q_l_al, q_r_r, q_r_i, q_r_l, q_r_ai, q_r_al, q_i_r, q_l_r, q_ai_r, q_al_r, q_K_i, q_K_r, q_K_l, q_K_ai, q_K_al, q_len_i, q_len_r, q_len_l, q_len_ai, q_len_al, q_n_i, q_n_r, q_n_l, q_n_ai, q_n_al, q_s_i, q_s_r, q_s_l, q_s_ai, q_s_al, e9]; exact h1
        exact xe_loc (by simp) (ih (12 - (k + 1)) (by omega) (k + 1) _ rfl (by omega) (FrG.tr hF0 hF) (hW.of hZ hF hX2 hH2))

set_option maxHeartbeats 4000000 in
theorem c_X6_writeAll {wr cu : Nat} {bits : Int32} {s : Sh} {en : Nat → Nat} {lo : Nat → Option Nat} {A : Nat → Nat → Nat} {cp : Nat → Nat} {RR : Nat → List Row} {pa : Pa} {i : Nat} (d : Nat) {T : TH} {R : List Nat} {h0 : Nat → Nat} (hZ : WZ cu s en lo RR) (hPT : PTv s pa) (hi : i < 30) (hst : ∀ c, c < s.2.1 → fnd (fun k => decide ((rowAt (RR c) k).2.2.2.2 = i)) (RR c).length 0 = some (h0 c)) (hB : HBk s bits pa i RR 0 [] 0 none h0) (hl : (txN s pa (wnB s bits) 5 0).length ≤ 400) (hW : WSt T wr cu bits s en lo A cp RR R (fun _ => 0)) : Xe m_X6_writeAll (d + 21) 0 [(0, .ref wr), (1, .int (nI i))] [] T (fun r T2 => r = none ∧ FrG [(321, 64)] [65, wr + 1] T T2 ∧ ∃ h9, WSt T2 wr cu bits s en lo A cp RR ([] ++ txN s pa (wnB s bits) 5 0) h9) := by
  obtain ⟨hC, hS, hK, hTW, hHD, hA, hTR, hX, hwr, hsep⟩ := id hW
  obtain ⟨hu, hV, ⟨hs60, h12⟩, hWl, hNb, hRO⟩ := id hZ
  refine xe (fun _ _ kK => x_aload_n dX6_writeAll_0 rfl 0 rfl kK) ?_
  refine xe (fun _ _ kK => x_get dX6_writeAll_1 fl_X6_23 hTW.1 (gvl_r1 fz_6_3.2.2 (show e_r T 387 wr = some 64 from hTW.2.2.2.2.1)) kK) ?_
  refine xe (fun _ _ kK => x_iconst dX6_writeAll_4 (show _ = nI 0 by decide) kK) ?_
  refine xe (fun _ _ kK => x_puti dX6_writeAll_5 ⟨fl_X6_31, fz_5_1.1, fz_5_1.2.1⟩ (Or.inl fz_5_1.2.2) rfl rfl hC.2.2.2.2.2.2.2.2.2.2.2.1 kK) ?_
  refine xe (fun _ _ kK => x_iconst dX6_writeAll_8 (show _ = nI 0 by decide) kK) ?_
  refine xe (fun _ _ kK => x_istore_n dX6_writeAll_9 rfl (by decide) (show _ = [(2, .int (nI 0)), (0, .ref wr), (1, .int (nI i))] from rfl) kK) ?_
  have hF : FrG [(321, 64)] [65, wr + 1] T (s_i T 321 64 (nI 0)) := (FrG.si FrG.rf (by simp) _)
  have hX2 : CTx (s_i T 321 64 (nI 0)) [] := ⟨by simp [q_i_i, q_i_l, q_i_ai, q_i_al, q_ai_ai, q_ai_i, q_ai_l, q_ai_al, q_al_al, q_al_i, q_al_ai, q_al_l, q_l_i, q_l_l, q_l_ai, q_l_al, q_r_r, q_r_i, q_r_l, q_r_ai, q_r_al, q_i_r, q_l_r, q_ai_r, q_al_r, q_K_i, q_K_r, q_K_l, q_K_ai, q_K_al, q_len_i, q_len_r, q_len_l, q_len_ai, q_len_al, q_n_i, q_n_r, q_n_l, q_n_ai, q_n_al, q_s_i, q_s_r, q_s_l, q_s_ai, q_s_al], by simp, fun k c hk => by simp at hk⟩
  have hFx : FrG [(321, 64)] [] T (s_i T 321 64 (nI 0)) := (FrG.si FrG.rf (by simp) _)
  have hW2 : WSt (s_i T 321 64 (nI 0)) wr cu bits s en lo A cp RR ([]) (hK0 h0 0) := (hW.of hZ hF hX2 (hHD.of hFx (by simp))).hc (fun c hc hb => rfl)
  exact xe_loc (by simp) (l_X6_writeAll d hZ hPT hi hst hB hl 12 0 _ rfl (Nat.zero_le _) hF hW2)

set_option maxHeartbeats 4000000 in
theorem c_X6_init (d : Nat) {T : TH} {wr cu : Nat} {bits : Int32} (hK : e_K T wr = 7) (hn : e_n T = wr + 1) : Xe m_X6_init (d + 1) 0 [(0, .ref wr), (1, .ref cu), (2, .ref 3), (3, .int bits), (4, .ref 64)] [] T (fun r T1 => r = none ∧ TWc T1 wr cu bits ∧ (∀ j, e_ai T1 (wr + 1) j = 0) ∧ e_n T1 = wr + 2 ∧ e_s T1 = e_s T + 12 ∧ FrA (fun x => wr ≤ x ∧ x ≤ wr + 1) T T1) := by
  refine xe (fun _ _ kK => x_aload_n dX6_init_0 rfl 0 rfl kK) ?_
  refine xe (fun _ _ kK => x_objInit dX6_init_1 ml_X6_3 (Nat.le_of_ble_eq_true rfl) kK) ?_
  refine xe (fun _ _ kK => x_aload_n dX6_init_4 rfl 0 rfl kK) ?_
  refine xe (fun _ _ kK => x_aload_n dX6_init_5 rfl 1 rfl kK) ?_
  refine xe (fun _ _ kK => x_putrF dX6_init_6 ⟨fl_X6_9, fz_6_0.1, fz_6_0.2.1, rfl, rfl⟩ fz_6_0.2.2 (fun _ => rfl) (fun _ => rfl) hK kK) ?_
  refine xe (fun _ _ kK => x_aload_n dX6_init_9 rfl 0 rfl kK) ?_
  refine xe (fun _ _ kK => x_aload_n dX6_init_10 rfl 2 rfl kK) ?_
  refine xe (fun _ _ kK => x_putrF dX6_init_11 ⟨fl_X6_15, fz_6_1.1, fz_6_1.2.1, rfl, rfl⟩ fz_6_1.2.2 (fun _ => rfl) (fun _ => rfl) (wK_r hK) kK) ?_
  refine xe (fun _ _ kK => x_aload_n dX6_init_14 rfl 0 rfl kK) ?_
  refine xe (fun _ _ kK => x_iload_n dX6_init_15 rfl 3 rfl kK) ?_
  refine xe (fun _ _ kK => x_putiF dX6_init_16 ⟨fl_X6_19, fz_6_2.1, fz_6_2.2.1, rfl, rfl⟩ (Or.inl fz_6_2.2.2) rfl rfl (wK_r (wK_r hK)) kK) ?_
  refine xe (fun _ _ kK => x_aload_n dX6_init_19 rfl 0 rfl kK) ?_
  refine xe (fun _ _ kK => x_aload dX6_init_20 4 rfl kK) ?_
  refine xe (fun _ _ kK => x_putrF dX6_init_22 ⟨fl_X6_23, fz_6_3.1, fz_6_3.2.1, rfl, rfl⟩ fz_6_3.2.2 (fun _ => rfl) (fun _ => rfl) (wK_i (wK_r (wK_r hK))) kK) ?_
  refine xe (fun _ _ kK => x_aload_n dX6_init_25 rfl 0 rfl kK) ?_
  refine xe (fun _ _ kK => x_bipush dX6_init_26 (show _ = nI 12 by decide) kK) ?_
  have hA1 : FrA (fun x => wr ≤ x ∧ x ≤ wr + 1) T (s_r (s_i (s_r (s_r T 384 wr (some cu)) 385 wr (some 3)) 386 wr bits) 387 wr (some 64)) := ((((FrA.rf (S := fun x => wr ≤ x ∧ x ≤ wr + 1)).sr (by omega) _ _).sr (by omega) _ _).si (by omega) _ _).sr (by omega) _ _
  have r0 : e_r (s_r (s_i (s_r (s_r T 384 wr (some cu)) 385 wr (some 3)) 386 wr bits) 387 wr (some 64)) 384 wr = some cu := by simp [q_i_i, q_i_l, q_i_ai, q_i_al, q_ai_ai, q_ai_i, q_ai_l, q_ai_al, q_al_al, q_al_i, q_al_ai, q_al_l, q_l_i, q_l_l, q_l_ai, q_l_al, q_r_r, q_r_i, q_r_l, q_r_ai, q_r_al, q_i_r, q_l_r, q_ai_r, q_al_r, q_K_i, q_K_r, q_K_l, q_K_ai, q_K_al, q_len_i, q_len_r, q_len_l, q_len_ai, q_len_al, q_n_i, q_n_r, q_n_l, q_n_ai, q_n_al, q_s_i, q_s_r, q_s_l, q_s_ai, q_s_al]
  have r1 : e_r (s_r (s_i (s_r (s_r T 384 wr (some cu)) 385 wr (some 3)) 386 wr bits) 387 wr (some 64)) 385 wr = some 3 := by simp [q_i_i, q_i_l, q_i_ai, q_i_al, q_ai_ai, q_ai_i, q_ai_l, q_ai_al, q_al_al, q_al_i, q_al_ai, q_al_l, q_l_i, q_l_l, q_l_ai, q_l_al, q_r_r, q_r_i, q_r_l, q_r_ai, q_r_al, q_i_r, q_l_r, q_ai_r, q_al_r, q_K_i, q_K_r, q_K_l, q_K_ai, q_K_al, q_len_i, q_len_r, q_len_l, q_len_ai, q_len_al, q_n_i, q_n_r, q_n_l, q_n_ai, q_n_al, q_s_i, q_s_r, q_s_l, q_s_ai, q_s_al]
  have r3 : e_r (s_r (s_i (s_r (s_r T 384 wr (some cu)) 385 wr (some 3)) 386 wr bits) 387 wr (some 64)) 387 wr = some 64 := by simp [q_i_i, q_i_l, q_i_ai, q_i_al, q_ai_ai, q_ai_i, q_ai_l, q_ai_al, q_al_al, q_al_i, q_al_ai, q_al_l, q_l_i, q_l_l, q_l_ai, q_l_al, q_r_r, q_r_i, q_r_l, q_r_ai, q_r_al, q_i_r, q_l_r, q_ai_r, q_al_r, q_K_i, q_K_r, q_K_l, q_K_ai, q_K_al, q_len_i, q_len_r, q_len_l, q_len_ai, q_len_al, q_n_i, q_n_r, q_n_l, q_n_ai, q_n_al, q_s_i, q_s_r, q_s_l, q_s_ai, q_s_al]
  have i2 : e_i (s_r (s_i (s_r (s_r T 384 wr (some cu)) 385 wr (some 3)) 386 wr bits) 387 wr (some 64)) 386 wr = bits := by simp [q_i_i, q_i_l, q_i_ai, q_i_al, q_ai_ai, q_ai_i, q_ai_l, q_ai_al, q_al_al, q_al_i, q_al_ai, q_al_l, q_l_i, q_l_l, q_l_ai, q_l_al, q_r_r, q_r_i, q_r_l, q_r_ai, q_r_al, q_i_r, q_l_r, q_ai_r, q_al_r, q_K_i, q_K_r, q_K_l, q_K_ai, q_K_al, q_len_i, q_len_r, q_len_l, q_len_ai, q_len_al, q_n_i, q_n_r, q_n_l, q_n_ai, q_n_al, q_s_i, q_s_r, q_s_l, q_s_ai, q_s_al]
  have k1 : e_K (s_r (s_i (s_r (s_r T 384 wr (some cu)) 385 wr (some 3)) 386 wr bits) 387 wr (some 64)) wr = 7 := hK
  have n1 : e_n (s_r (s_i (s_r (s_r T 384 wr (some cu)) 385 wr (some 3)) 386 wr bits) 387 wr (some 64)) = wr + 1 := hn
  have s1 : e_s (s_r (s_i (s_r (s_r T 384 wr (some cu)) 385 wr (some 3)) 386 wr bits) 387 wr (some 64)) = e_s T := rfl
  generalize hT1 : (s_r (s_i (s_r (s_r T 384 wr (some cu)) 385 wr (some 3)) 386 wr bits) 387 wr (some 64)) = T1 at hA1 r0 r1 r3 i2 k1 n1 s1 ⊢
  refine xe (fun _ _ kK => x_newai dX6_init_28 (show (nI 12) = nI 12 from rfl) (by omega) kK) ?_
  have hA2 : FrA (fun x => x = wr + 1) T1 (s_new T1 20 12) := FrA.rf.new n1
  have kA : e_K (s_new T1 20 12) (wr + 1) = 20 := by rw [← n1]; exact sn_K
  have lA : e_len (s_new T1 20 12) (wr + 1) = 12 := by rw [← n1]; exact sn_len
  have cA : ∀ j, e_ai (s_new T1 20 12) (wr + 1) j = 0 := fun j => by rw [← n1]; exact sn_ai
  have n2 : e_n (s_new T1 20 12) = wr + 2 := by rw [sn_n, n1]
  have s2 : e_s (s_new T1 20 12) = e_s T + 12 := by rw [sn_s, s1]
  rw [n1]
  generalize hT2 : s_new T1 20 12 = T2 at hA2 kA lA cA n2 s2 ⊢
  refine xe (fun _ _ kK => x_putrF dX6_init_30 ⟨fl_X6_27, fz_6_4.1, fz_6_4.2.1, rfl, rfl⟩ fz_6_4.2.2 (fun _ => rfl) (fun _ => rfl) ((hA2.K (by omega)).trans k1) kK) ?_
  have hA3 : FrA (fun x => x = wr) T2 (s_r T2 388 wr (some (wr + 1))) := (FrA.rf (S := fun x => x = wr)).sr rfl _ _
  have e1 : ¬ wr + 1 = wr := by omega
  have e4 : ¬ wr = wr + 1 := by omega
  have rr : ∀ g, g ≠ 388 → e_r (s_r T2 388 wr (some (wr + 1))) g wr = e_r T1 g wr := fun g hg => by simp [q_i_i, q_i_l, q_i_ai, q_i_al, q_ai_ai, q_ai_i, q_ai_l, q_ai_al, q_al_al, q_al_i, q_al_ai, q_al_l, q_l_i, q_l_l, q_l_ai, q_l_al, q_r_r, q_r_i, q_r_l, q_r_ai, q_r_al, q_i_r, q_l_r, q_ai_r, q_al_r, q_K_i, q_K_r, q_K_l, q_K_ai, q_K_al, q_len_i, q_len_r, q_len_l, q_len_ai, q_len_al, q_n_i, q_n_r, q_n_l, q_n_ai, q_n_al, q_s_i, q_s_r, q_s_l, q_s_ai, q_s_al, hg]; exact hA2.r e4
  exact xe_retv dX6_init_33 rfl (⟨rfl, ⟨(hA2.K e4).trans k1, (rr 384 (by decide)).trans r0, (rr 385 (by decide)).trans r1, (hA2.i e4).trans i2, (rr 387 (by decide)).trans r3, by simp [q_i_i, q_i_l, q_i_ai, q_i_al, q_ai_ai, q_ai_i, q_ai_l, q_ai_al, q_al_al, q_al_i, q_al_ai, q_al_l, q_l_i, q_l_l, q_l_ai, q_l_al, q_r_r, q_r_i, q_r_l, q_r_ai, q_r_al, q_i_r, q_l_r, q_ai_r, q_al_r, q_K_i, q_K_r, q_K_l, q_K_ai, q_K_al, q_len_i, q_len_r, q_len_l, q_len_ai, q_len_al, q_n_i, q_n_r, q_n_l, q_n_ai, q_n_al, q_s_i, q_s_r, q_s_l, q_s_ai, q_s_al], kA, lA⟩, fun j => cA j, n2, s2, hA1.tr ((hA2.mono (fun x hx => by omega)).tr (hA3.mono (fun x hx => by omega)))⟩)

set_option maxHeartbeats 4000000 in
theorem c_X7_text (d : Nat) {T : TH} {A : Nat → Nat → Nat} {cp : Nat → Nat} {cu np i : Nat} {bits : Int32} {s : Sh} {en : Nat → Nat} {lo : Nat → Option Nat} {RR : Nat → List Row} {R : List Nat} {pa : Pa} {h0 : Nat → Nat} (hU : CU T cu s.2.1) (hnp : e_i T 453 0 = nI np) (hn30 : np ≤ 30) (hin : i < np) (hS : CSp T cu s en lo) (hK : MsK T cu s s.1) (hA : TbA T A cp) (hR : ∀ c, c < s.2.1 → TbR T A cp c (RR c) ∧ TbL T s c) (hX : CTx T R) (hZ : WZ cu s en lo RR) (hPT : PTv s pa) (hst : ∀ c, c < s.2.1 → fnd (fun k => decide ((rowAt (RR c) k).2.2.2.2 = i)) (RR c).length 0 = some (h0 c)) (hB : HBk s bits pa i RR 0 [] 0 none h0) (hl : (txN s pa (wnB s bits) 5 0).length ≤ 400) : Xe m_X7_text (d + 22) 0 [(0, .ref 0), (1, .int (nI i)), (2, .int bits)] [] T (fun r T1 => r = some (.int (nI (txN s pa (wnB s bits) 5 0).length)) ∧ CI T1 ∧ CTx T1 (txN s pa (wnB s bits) 5 0) ∧ e_n T1 = e_n T + 2 ∧ e_s T1 = e_s T + 17 ∧ FrA (fun x => x = 64 ∨ x = 65 ∨ e_n T ≤ x) T T1) := by
  refine xe (fun _ _ kK => x_aload_n dX7_text_0 rfl 0 rfl kK) ?_
  refine xe (fun _ _ kK => x_iload_n dX7_text_1 rfl 1 rfl kK) ?_
  refine xe_callV (a := 0) [.int (nI i)] dX7_text_2 ml_X7_81 mf_X7_isPaper hU.1.1 (by have := c_X7_isPaper (d + 21) hU.1 hnp hn30 (nI i); rw [ix_in hin (by omega)] at this; exact this) rfl rfl (Nat.le_of_ble_eq_true rfl) (Nat.le_of_ble_eq_true rfl) ?_
  rintro _ T9 ⟨rfl, hTq9⟩
  refine xe_T hTq9 ?_
  refine xe (fun _ _ kK => x_if_neT (tgt := 10) dX7_text_5 (by decide) (show ¬ bI true = 0 by decide) kK) ?_
  refine xe (fun _ _ kK => x_new dX7_text_10 kc_X7_135 kK) ?_
  have hA0 : FrA (fun x => x = e_n T) T (s_new T (6 + 1) (nfd 6)) := FrA.rf.new rfl
  have hK0 : e_K (s_new T (6 + 1) (nfd 6)) (e_n T) = 7 := sn_K
  have hn0 : e_n (s_new T (6 + 1) (nfd 6)) = e_n T + 1 := rfl
  have hs0 : e_s (s_new T (6 + 1) (nfd 6)) = e_s T + 5 := rfl
  have h120 := hA.2.2.2
  have hU0 := hU.ofA hA0 (fun a h1 h2 => by omega)
  generalize hT0 : (s_new T (6 + 1) (nfd 6)) = T0 at hA0 hK0 hn0 hs0 hU0 ⊢
  refine xe (fun _ _ kK => x_dup dX7_text_13 rfl kK) ?_
  refine xe (fun _ _ kK => x_aload_n dX7_text_14 rfl 0 rfl kK) ?_
  refine xe (fun _ _ kK => x_get dX7_text_15 fl_X7_33 hU0.1.1 (gvl_r1 fz_7_3.2.2 (show e_r T0 451 0 = some cu from hU0.2.1)) kK) ?_
  refine xe (fun _ _ kK => x_aload_n dX7_text_18 rfl 0 rfl kK) ?_
  refine xe (fun _ _ kK => x_get dX7_text_19 fl_X7_18 hU0.1.1 (gvl_r1 fz_7_1.2.2 (show e_r T0 449 0 = some 3 from hU0.1.2.2.1)) kK) ?_
  refine xe (fun _ _ kK => x_iload_n dX7_text_22 rfl 2 rfl kK) ?_
  refine xe (fun _ _ kK => x_aload_n dX7_text_23 rfl 0 rfl kK) ?_
  refine xe (fun _ _ kK => x_get dX7_text_24 fl_X7_26 hU0.1.1 (gvl_r1 fz_7_2.2.2 (show e_r T0 450 0 = some 64 from hU0.1.2.2.2.1)) kK) ?_
  refine xe_callI (a := (e_n T)) [.ref cu, .ref 3, .int bits, .ref 64] dX7_text_27 ml_X7_137 mf_X6_init (c_X6_init (d + 20) (bits := bits) hK0 hn0) rfl rfl (Nat.le_of_ble_eq_true rfl) (Nat.le_of_ble_eq_true rfl) ?_
  rintro _ T1 ⟨rfl, hTW, hz, hn1, hs1, hA1⟩
  have hAA : FrA (fun x => e_n T ≤ x) T T1 := (hA0.mono (fun x hx => by omega)).tr (hA1.mono (fun x hx => hx.1))
  have hnoA : ∀ a, a < 120 → ¬ e_n T ≤ a := fun a h1 => by omega
  have hcu := hU.2.2.1
  have h12 := hU.2.2.2.2
  have hU1 := hU.ofA hAA (fun a h1 h2 => hnoA a (by omega))
  have hAl : ∀ c k, c < 12 → k < 4 → A c k < e_n T := fun c k hc hk => (hA.2.1 c k hc hk).2.2.2.1
  have hTA1 : TbA T1 A cp := hA.ofA hAA (fun c hc => hnoA _ (by omega)) (fun c k hc hk => by have := hAl c k hc hk; omega)
  have hW : WSt T1 (e_n T) cu bits s en lo A cp RR R (fun _ => 0) := ⟨hU1.1, hS.ofA hAA (fun a h1 h2 => hnoA a (by omega)), hK.ofA hAA (fun a h1 h2 => hnoA a (by omega)), hTW, fun c hc hb => hz c, hTA1, fun c hc => ⟨(hR c hc).1.ofA hAA (hnoA _ (by omega)) (fun k hk => by have := hAl c k (by omega) hk; omega), (hR c hc).2.ofA hAA (hnoA _ (by omega))⟩, hX.ofA hAA (hnoA _ (by omega)) (hnoA _ (by omega)), h120, fun c k hc hk => by have := hAl c k hc hk; omega⟩
  refine xe (fun _ _ kK => x_iload_n dX7_text_30 rfl 1 rfl kK) ?_
  refine xe_callV (a := (e_n T)) [.int (nI i)] dX7_text_31 ml_X7_140 mf_X6_writeAll hTW.1 (c_X6_writeAll (d + 0) (i := i) hZ hPT (by omega) hst hB hl hW) rfl rfl (Nat.le_of_ble_eq_true rfl) (Nat.le_of_ble_eq_true rfl) ?_
  rintro _ T2 ⟨rfl, hF2, h9, hW2⟩
  rw [List.nil_append] at hW2
  have hX2 := hW2.2.2.2.2.2.2.2.1
  refine xe (fun _ _ kK => x_aload_n dX7_text_34 rfl 0 rfl kK) ?_
  refine xe (fun _ _ kK => x_get dX7_text_35 fl_X7_26 hW2.1.1 (gvl_r1 fz_7_2.2.2 (show e_r T2 450 0 = some 64 from hW2.1.2.2.2.1)) kK) ?_
  refine xe (fun _ _ kK => x_get dX7_text_38 fl_X7_143 hW2.1.2.2.2.2.2.2.2.2.2.2.2.1 (gvl_i fz_5_1.2.2 (show e_i T2 321 64 = nI (txN s pa (wnB s bits) 5 0).length from hX2.1)) kK) ?_
  exact xe_reti dX7_text_41 rfl (⟨rfl, hW2.1, hX2, by rw [hF2.2.2.2.2.1, hn1], by rw [hF2.2.2.2.2.2.1, hs1, hs0], (hAA.mono (fun x hx => Or.inr (Or.inr hx))).tr (hF2.A (fun q hq => by simp at hq; rw [hq]; exact Or.inl rfl) (fun a ha => by simp at ha; rcases ha with e | e; exact Or.inr (Or.inl e); exact Or.inr (Or.inr (by omega))))⟩)

set_option maxHeartbeats 4000000 in
theorem c_X7_text0 (d : Nat) {T : TH} {np : Nat} {x bits : Int32} (hC : CI T) (hnp : e_i T 453 0 = nI np) (hn30 : np ≤ 30) (hx : ix x np = none) : Xe m_X7_text (d + 1) 0 [(0, .ref 0), (1, .int x), (2, .int bits)] [] T (fun r T2 => r = some (.int (-1)) ∧ T2 = T) := by
  refine xe (fun _ _ kK => x_aload_n dX7_text_0 rfl 0 rfl kK) ?_
  refine xe (fun _ _ kK => x_iload_n dX7_text_1 rfl 1 rfl kK) ?_
  refine xe_callV (a := 0) [.int x] dX7_text_2 ml_X7_81 mf_X7_isPaper hC.1 (by have := c_X7_isPaper d hC hnp hn30 x; rw [hx] at this; exact this) rfl rfl (Nat.le_of_ble_eq_true rfl) (Nat.le_of_ble_eq_true rfl) ?_
  rintro _ T9 ⟨rfl, hTq9⟩
  refine xe_T hTq9 ?_
  refine xe (fun _ _ kK => x_if_neF (tgt := 10) dX7_text_5 (by decide) rfl kK) ?_
  refine xe (fun _ _ kK => x_iconst dX7_text_8 (show _ = (-1) by decide) kK) ?_
  exact xe_reti dX7_text_9 rfl (⟨rfl, rfl⟩)
