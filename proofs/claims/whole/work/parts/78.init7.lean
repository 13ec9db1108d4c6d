/-! TreeTables.<init> -/
def TbI (T : TH) (c : Nat) : Prop := e_K T (4 + 5 * c) = 4 ∧ ∀ k, k < 4 → e_r T (192 + k) (4 + 5 * c) = some (5 + 5 * c + k) ∧ e_K T (5 + 5 * c + k) = (if k = 3 then 23 else 20) ∧ e_len T (5 + 5 * c + k) = 16
def X7a (T : TH) (c : Nat) : Prop := e_n T = 4 + 5 * c ∧ e_s T ≤ 1000 + 80 * c ∧ (e_K T 0 = 8 ∧ e_r T 448 0 = some 1 ∧ e_r T 449 0 = some 3) ∧ (e_K T 1 = 5 ∧ e_r T 256 1 = some 2 ∧ e_K T 2 = 21 ∧ e_len T 2 = 400 ∧ e_K T 3 = 24 ∧ e_len T 3 = 12) ∧ (e_i T 257 1 = nI 0 ∧ e_i T 259 1 = nI 0 ∧ e_i T 260 1 = -1) ∧ ∀ c', c' < c → e_ar T 3 c' = some (4 + 5 * c') ∧ TbI T c'
theorem TbI.ofA {S : Nat → Prop} {T T1 : TH} {c : Nat} (h : TbI T c) (hF : FrA S T T1) (hS : ∀ x, 4 + 5 * c ≤ x → x < 9 + 5 * c → ¬ S x) : TbI T1 c := by
  refine ⟨by rw [hF.K (hS _ (by omega) (by omega))]; exact h.1, fun k hk => ?_⟩
  obtain ⟨h1, h2, h3⟩ := h.2 k hk
  exact ⟨by rw [hF.r (hS _ (by omega) (by omega))]; exact h1, by rw [hF.K (hS _ (by omega) (by omega))]; exact h2, by rw [hF.len (hS _ (by omega) (by omega))]; exact h3⟩
theorem X7a.step {T T1 : TH} {c : Nat} {I : Nat → Int32} {J : Nat → Int64} (h : X7a T c) (hN : NwA (s_new T 4 9) (4 + 5 * c) 4 [(192, 20, 16), (193, 20, 16), (194, 20, 16), (195, 23, 16)] I J T1) : X7a (s_ar T1 3 c (some (4 + 5 * c))) (c + 1) := by
  obtain ⟨a1, a2, ⟨a3, a4, a5⟩, ⟨b1, b2, b3, b4, b5, b6⟩, ⟨i1, i2, i3⟩, h6⟩ := h
  obtain ⟨n1, n2, n3, n4, n5, n6, n7, n8⟩ := hN
  have hF : FrA (fun x => 4 + 5 * c ≤ x) T T1 := (FrA.new (S := fun x => 4 + 5 * c ≤ x) FrA.rf (by omega)).tr n3
  have z0 : ¬ 4 + 5 * c ≤ 0 := by omega
  have z1 : ¬ 4 + 5 * c ≤ 1 := by omega
  have z2 : ¬ 4 + 5 * c ≤ 2 := by omega
  have z3 : ¬ 4 + 5 * c ≤ 3 := by omega
  have hs9 : e_s (s_new T 4 9) = e_s T + 9 := rfl
  refine ⟨by show e_n T1 = _; rw [n1]; simp; omega, by show e_s T1 ≤ _; rw [n2, hs9]; simp; omega, ⟨(hF.K z0).trans a3, (hF.r z0).trans a4, (hF.r z0).trans a5⟩, ⟨(hF.K z1).trans b1, (hF.r z1).trans b2, (hF.K z2).trans b3, (hF.len z2).trans b4, (hF.K z3).trans b5, (hF.len z3).trans b6⟩, ⟨(hF.i z1).trans i1, (hF.i z1).trans i2, (hF.i z1).trans i3⟩, fun c' hc' => ?_⟩
  by_cases e : c' = c
  · subst e
    refine ⟨by rw [q_ar_ar, if_pos ⟨rfl, rfl⟩], n4, fun k hk => ?_⟩
    have hk4 : k = 0 ∨ k = 1 ∨ k = 2 ∨ k = 3 := by omega
    rcases hk4 with rfl | rfl | rfl | rfl
    · obtain ⟨k1, k2, k3, -⟩ := n8 0 192 20 16 rfl
      exact ⟨by rw [show 5 + 5 * c' + 0 = 4 + 5 * c' + 1 + 0 by omega]; exact k1, by rw [show 5 + 5 * c' + 0 = 4 + 5 * c' + 1 + 0 by omega]; exact k2, by rw [show 5 + 5 * c' + 0 = 4 + 5 * c' + 1 + 0 by omega]; exact k3⟩
    · obtain ⟨k1, k2, k3, -⟩ := n8 1 193 20 16 rfl
      exact ⟨by rw [show 5 + 5 * c' + 1 = 4 + 5 * c' + 1 + 1 by omega]; exact k1, by rw [show 5 + 5 * c' + 1 = 4 + 5 * c' + 1 + 1 by omega]; exact k2, by rw [show 5 + 5 * c' + 1 = 4 + 5 * c' + 1 + 1 by omega]; exact k3⟩
    · obtain ⟨k1, k2, k3, -⟩ := n8 2 194 20 16 rfl
      exact ⟨by rw [show 5 + 5 * c' + 2 = 4 + 5 * c' + 1 + 2 by omega]; exact k1, by rw [show 5 + 5 * c' + 2 = 4 + 5 * c' + 1 + 2 by omega]; exact k2, by rw [show 5 + 5 * c' + 2 = 4 + 5 * c' + 1 + 2 by omega]; exact k3⟩
    · obtain ⟨k1, k2, k3, -⟩ := n8 3 195 23 16 rfl
      exact ⟨by rw [show 5 + 5 * c' + 3 = 4 + 5 * c' + 1 + 3 by omega]; exact k1, by rw [show 5 + 5 * c' + 3 = 4 + 5 * c' + 1 + 3 by omega]; exact k2, by rw [show 5 + 5 * c' + 3 = 4 + 5 * c' + 1 + 3 by omega]; exact k3⟩
  · obtain ⟨q1, q2⟩ := h6 c' (by omega)
    refine ⟨by rw [q_ar_ar, if_neg (fun z => e z.2), hF.ar z3]; exact q1, ?_⟩
    exact (show TbI T1 c' from q2.ofA hF (fun x h1 h2 => by omega))

set_option maxHeartbeats 4000000 in
theorem l_X7_init (d : Nat) {P : Option Value → TH → Prop} (hno : ∀ T1, X7a T1 12 → Xe m_X7_init (d + 3) 51 [(0, .ref 0)] [] T1 P) : ∀ (m c : Nat) (T : TH), 12 - c = m → c ≤ 12 → X7a T c → Xe m_X7_init (d + 3) 26 [(1, .int (nI c)), (0, .ref 0)] [] T P := by
  intro m
  induction m using Nat.strongRecOn with
  | ind m ih =>
    intro c T hm hc h
    subst hm
    refine xe (fun _ _ kK => x_iload_n dX7_init_26 rfl 0 rfl kK) ?_
    refine xe (fun _ _ kK => x_bipush dX7_init_27 (show _ = nI 12 by decide) kK) ?_
    refine xe_icmp_ge (tgt := 51) dX7_init_29 (by decide) (fun h29 => ?_) (fun h29 => ?_)
    · -- pc 51
      have h29 := cv_le (by omega) (by omega) h29
      have ec : c = 12 := by omega
      subst ec
      exact xe_loc (by simp) (hno T h)
    · -- pc 32
      have h29 := cv_nle (by omega) (by omega) h29
      refine xe (fun _ _ kK => x_aload_n dX7_init_32 rfl 1 rfl kK) ?_
      refine xe (fun _ _ kK => x_get dX7_init_33 fl_X7_18 h.2.2.1.1 (gvl_r1 fz_7_1.2.2 (show e_r T 449 0 = some 3 from h.2.2.1.2.2)) kK) ?_
      refine xe (fun _ _ kK => x_iload_n dX7_init_36 rfl 0 rfl kK) ?_
      refine xe (fun _ _ kK => x_new dX7_init_37 kc_X7_16 kK) ?_
      have hN0 : NwA (s_new T (3 + 1) (nfd 3)) (4 + 5 * c) 4 [] (fun _ => 0) (fun _ => 0) (s_new T (3 + 1) (nfd 3)) := NwA.made h.1
      rw [h.1]
      refine xe (fun _ _ kK => x_dup dX7_init_40 rfl kK) ?_
      refine xe_callIN (a := (4 + 5 * c)) [] dX7_init_41 ml_X7_22 mf_X3_init (c_X3_init (d + 0) hN0) rfl rfl (Nat.le_of_ble_eq_true rfl) (Nat.le_of_ble_eq_true rfl) ?_
      rintro _ T1 ⟨rfl, hN⟩
      have hs := h.step hN
      have hF : FrA (fun x => 4 + 5 * c ≤ x) T T1 := (FrA.new (S := fun x => 4 + 5 * c ≤ x) FrA.rf (by have := h.1; omega)).tr hN.2.2.1
      refine xe (fun _ _ kK => x_aast dX7_init_44 (a := 3) (j := c) (b := 4 + 5 * c) ((hF.K (by omega)).trans h.2.2.2.1.2.2.2.2.1) rfl (by rw [hF.len (show ¬ 4 + 5 * c ≤ 3 by omega), h.2.2.2.1.2.2.2.2.2]; omega) hN.2.2.2.1 kK) ?_
      refine xe (fun _ _ kK => x_iinc dX7_init_45 0 rfl (show (nI c) + Int32.ofInt 1 = nI (c + 1) from nI_add c 1) (by decide) (show _ = [(1, .int (nI (c + 1))), (0, .ref 0)] from rfl) kK) ?_
      refine xe (fun _ _ kK => x_goto (tgt := 26) dX7_init_48 (by decide) kK) ?_
      exact xe_loc (by simp) (ih (12 - (c + 1)) (by omega) (c + 1) _ rfl (by omega) hs)

theorem NwA.shi {T T1 : TH} {p : Nat} {I : Nat → Int32} {J : Nat → Int64} (h : NwA T p 2 [(64, 23, 66), (65, 20, 66), (66, 20, 66), (67, 20, 66), (68, 20, 66), (69, 20, 66), (70, 20, 66), (71, 20, 66), (72, 20, 66), (73, 20, 12)] I J T1) : ShI T1 p := by
  obtain ⟨n1, n2, n3, n4, n5, n6, n7, n8⟩ := h
  have H : ∀ k, k < 10 → e_r T1 (64 + k) p = some (p + 1 + k) ∧ e_K T1 (p + 1 + k) = (if k = 0 then 23 else 20) ∧ e_len T1 (p + 1 + k) = (if k = 9 then 12 else 66) := fun k hk => by
    have hk10 : k = 0 ∨ k = 1 ∨ k = 2 ∨ k = 3 ∨ k = 4 ∨ k = 5 ∨ k = 6 ∨ k = 7 ∨ k = 8 ∨ k = 9 := by omega
    rcases hk10 with rfl | rfl | rfl | rfl | rfl | rfl | rfl | rfl | rfl | rfl
    · obtain ⟨k1, k2, k3, -⟩ := n8 0 64 23 66 rfl; exact ⟨k1, k2, k3⟩
    · obtain ⟨k1, k2, k3, -⟩ := n8 1 65 20 66 rfl; exact ⟨k1, k2, k3⟩
    · obtain ⟨k1, k2, k3, -⟩ := n8 2 66 20 66 rfl; exact ⟨k1, k2, k3⟩
    · obtain ⟨k1, k2, k3, -⟩ := n8 3 67 20 66 rfl; exact ⟨k1, k2, k3⟩
    · obtain ⟨k1, k2, k3, -⟩ := n8 4 68 20 66 rfl; exact ⟨k1, k2, k3⟩
    · obtain ⟨k1, k2, k3, -⟩ := n8 5 69 20 66 rfl; exact ⟨k1, k2, k3⟩
    · obtain ⟨k1, k2, k3, -⟩ := n8 6 70 20 66 rfl; exact ⟨k1, k2, k3⟩
    · obtain ⟨k1, k2, k3, -⟩ := n8 7 71 20 66 rfl; exact ⟨k1, k2, k3⟩
    · obtain ⟨k1, k2, k3, -⟩ := n8 8 72 20 66 rfl; exact ⟨k1, k2, k3⟩
    · obtain ⟨k1, k2, k3, -⟩ := n8 9 73 20 12 rfl; exact ⟨k1, k2, k3⟩
  exact ⟨n4, fun k hk => (H k hk).1, fun k hk => (H k hk).2.1, fun k hk => (H k hk).2.2⟩
def X7p (T : TH) : Prop := CI T ∧ e_r T 451 0 = some 66 ∧ e_r T 452 0 = some 77 ∧ e_i T 453 0 = nI 0 ∧ (e_i T 257 1 = nI 0 ∧ e_i T 259 1 = nI 0 ∧ e_i T 260 1 = -1) ∧ e_i T 321 64 = nI 0 ∧ (e_i T 74 66 = nI 0 ∧ e_i T 75 66 = nI 0) ∧ (∀ c, c < 12 → TbI T c) ∧ e_n T = 88 ∧ e_s T ≤ 4000

set_option maxHeartbeats 4000000 in
theorem c_X7_init (d : Nat) {T : TH} (hK : e_K T 0 = 8) (hn : e_n T = 1) (hs : e_s T ≤ 100) : Xe m_X7_init (d + 3) 0 [(0, .ref 0)] [] T (fun r T1 => r = none ∧ X7p T1) := by
  refine xe (fun _ _ kK => x_aload_n dX7_init_0 rfl 0 rfl kK) ?_
  refine xe (fun _ _ kK => x_objInit dX7_init_1 ml_X7_3 (Nat.le_of_ble_eq_true rfl) kK) ?_
  refine xe (fun _ _ kK => x_aload_n dX7_init_4 rfl 0 rfl kK) ?_
  refine xe (fun _ _ kK => x_new dX7_init_5 kc_X7_9 kK) ?_
  have hN0 : NwA (s_new T (4 + 1) (nfd 4)) 1 5 [] (fun _ => 0) (fun _ => 0) (s_new T (4 + 1) (nfd 4)) := NwA.made hn
  rw [hn]
  refine xe (fun _ _ kK => x_dup dX7_init_8 rfl kK) ?_
  refine xe_callIN (a := 1) [] dX7_init_9 ml_X7_11 mf_X4_init (c_X4_init (d + 0) hN0) rfl rfl (Nat.le_of_ble_eq_true rfl) (Nat.le_of_ble_eq_true rfl) ?_
  rintro _ T1 ⟨rfl, hN⟩
  have hF1 : FrA (fun x => 1 ≤ x) T T1 := (FrA.new (S := fun x => 1 ≤ x) FrA.rf (by omega)).tr hN.2.2.1
  have hK1 : e_K T1 0 = 8 := (hF1.K (by omega)).trans hK
  obtain ⟨n1, n2, n3, n4, n5, n6, n7, n8⟩ := hN
  obtain ⟨k1, k2, k3, -⟩ := n8 0 256 21 400 rfl
  have hsT : e_s (s_new T (4 + 1) (nfd 4)) = e_s T + 8 := rfl
  have hs1 : e_s T1 = e_s T + 408 := by rw [n2, hsT]; rfl
  have hn1 : e_n T1 = 3 := n1
  refine xe (fun _ _ kK => x_putrF dX7_init_12 ⟨fl_X7_12, fz_7_0.1, fz_7_0.2.1, rfl, rfl⟩ fz_7_0.2.2 (fun _ => rfl) (fun _ => rfl) hK1 kK) ?_
  refine xe (fun _ _ kK => x_aload_n dX7_init_15 rfl 0 rfl kK) ?_
  refine xe (fun _ _ kK => x_bipush dX7_init_16 (show _ = nI 12 by decide) kK) ?_
  refine xe (fun _ _ kK => x_newaT dX7_init_18 kc_X7_16.2.1 (show nI 12 = nI 12 from rfl) (by omega) kK) ?_
  rw [show e_n (s_r T1 448 0 (some 1)) = 3 from hn1]
  have hA2 : FrA (fun x => x = 3) (s_r T1 448 0 (some 1)) (s_new (s_r T1 448 0 (some 1)) 24 12) := FrA.rf.new hn1
  refine xe (fun _ _ kK => x_putrF dX7_init_21 ⟨fl_X7_18, fz_7_1.1, fz_7_1.2.1, rfl, rfl⟩ fz_7_1.2.2 (fun _ => rfl) (fun _ => rfl) ((hA2.K (by omega)).trans hK1) kK) ?_
  have hX0 : X7a (s_r (s_new (s_r T1 448 0 (some 1)) 24 12) 449 0 (some 3)) 0 := ⟨by show e_n T1 + 1 = _; rw [hn1], by show e_s T1 + 12 ≤ _; omega, ⟨(hA2.K (by omega)).trans hK1, ?_, ?_⟩, ⟨?_, ?_, ?_, ?_, ?_, ?_⟩, ⟨?_, ?_, ?_⟩, fun c hc => absurd hc (Nat.not_lt_zero _)⟩
  rotate_left
  · rw [q_r_r, if_neg (by omega), hA2.r (by omega), q_r_r, if_pos ⟨rfl, rfl⟩]
  · rw [q_r_r, if_pos ⟨rfl, rfl⟩]
  · exact (hA2.K (by omega)).trans n4
  · rw [q_r_r, if_neg (by omega), hA2.r (by omega), q_r_r, if_neg (by omega)]; exact k1
  · exact (hA2.K (by omega)).trans k2
  · exact (hA2.len (by omega)).trans k3
  · show e_K (s_new (s_r T1 448 0 (some 1)) 24 12) 3 = 24; rw [← show e_n (s_r T1 448 0 (some 1)) = 3 from hn1]; exact sn_K
  · show e_len (s_new (s_r T1 448 0 (some 1)) 24 12) 3 = 12; rw [← show e_n (s_r T1 448 0 (some 1)) = 3 from hn1]; exact sn_len
  · exact (hA2.i (by omega)).trans ((n5 257).trans (by decide))
  · exact (hA2.i (by omega)).trans ((n5 259).trans (by decide))
  · exact (hA2.i (by omega)).trans ((n5 260).trans (by decide))
  generalize hT3 : (s_r (s_new (s_r T1 448 0 (some 1)) 24 12) 449 0 (some 3)) = T3 at hX0 ⊢
  refine xe (fun _ _ kK => x_iconst dX7_init_24 (show _ = nI 0 by decide) kK) ?_
  refine xe (fun _ _ kK => x_istore_n dX7_init_25 rfl (by decide) (show _ = [(1, .int (nI 0)), (0, .ref 0)] from rfl) kK) ?_
  refine xe_loc (by simp) (l_X7_init d (fun T4 h4 => ?_) 12 0 T3 rfl (Nat.zero_le _) hX0)
  obtain ⟨a1, a2, ⟨a3, a4, a5⟩, ⟨b1, b2, b3, b4, b5, b6⟩, ⟨i1, i2, i3⟩, h6⟩ := h4
  refine xe (fun _ _ kK => x_aload_n dX7_init_51 rfl 0 rfl kK) ?_
  refine xe (fun _ _ kK => x_new dX7_init_52 kc_X7_23 kK) ?_
  have hM0 : NwA (s_new T4 (5 + 1) (nfd 5)) 64 6 [] (fun _ => 0) (fun _ => 0) (s_new T4 (5 + 1) (nfd 5)) := NwA.made a1
  rw [a1]
  refine xe (fun _ _ kK => x_dup dX7_init_55 rfl kK) ?_
  refine xe_callIN (a := 64) [] dX7_init_56 ml_X7_25 mf_X5_init (c_X5_init (d + 0) hM0) rfl rfl (Nat.le_of_ble_eq_true rfl) (Nat.le_of_ble_eq_true rfl) ?_
  rintro _ T5 ⟨rfl, hM⟩
  have hF5 : FrA (fun x => 64 ≤ x) T4 T5 := (FrA.new (S := fun x => 64 ≤ x) FrA.rf (by omega)).tr hM.2.2.1
  obtain ⟨m1, m2, m3, m4, m5, m6, m7, m8⟩ := hM
  obtain ⟨x1, x2, x3, -⟩ := m8 0 320 21 400 rfl
  have hs5 : e_s T5 = e_s T4 + 402 := by rw [m2]; show e_s T4 + 2 + _ = _; simp
  have hn5 : e_n T5 = 66 := m1
  refine xe (fun _ _ kK => x_putrF dX7_init_59 ⟨fl_X7_26, fz_7_2.1, fz_7_2.2.1, rfl, rfl⟩ fz_7_2.2.2 (fun _ => rfl) (fun _ => rfl) ((hF5.K (by omega)).trans a3) kK) ?_
  have hA6 : FrA (fun x => x = 0) T5 (s_r T5 450 0 (some 64)) := (FrA.rf (S := fun x => x = 0)).sr rfl _ _
  have r450 : e_r (s_r T5 450 0 (some 64)) 450 0 = some 64 := by simp [q_i_i, q_i_l, q_i_ai, q_i_al, q_ai_ai, q_ai_i, q_ai_l, q_ai_al, q_al_al, q_al_i, q_al_ai, q_al_l, q_l_i, q_l_l, q_l_ai, q_l_al, q_r_r, q_r_i, q_r_l, q_r_ai, q_r_al, q_i_r, q_l_r, q_ai_r, q_al_r, q_K_i, q_K_r, q_K_l, q_K_ai, q_K_al, q_len_i, q_len_r, q_len_l, q_len_ai, q_len_al, q_n_i, q_n_r, q_n_l, q_n_ai, q_n_al, q_s_i, q_s_r, q_s_l, q_s_ai, q_s_al]
  have r448 : e_r (s_r T5 450 0 (some 64)) 448 0 = some 1 := by simp [q_i_i, q_i_l, q_i_ai, q_i_al, q_ai_ai, q_ai_i, q_ai_l, q_ai_al, q_al_al, q_al_i, q_al_ai, q_al_l, q_l_i, q_l_l, q_l_ai, q_l_al, q_r_r, q_r_i, q_r_l, q_r_ai, q_r_al, q_i_r, q_l_r, q_ai_r, q_al_r, q_K_i, q_K_r, q_K_l, q_K_ai, q_K_al, q_len_i, q_len_r, q_len_l, q_len_ai, q_len_al, q_n_i, q_n_r, q_n_l, q_n_ai, q_n_al, q_s_i, q_s_r, q_s_l, q_s_ai, q_s_al]; exact (hF5.r (by omega)).trans a4
  have r449 : e_r (s_r T5 450 0 (some 64)) 449 0 = some 3 := by simp [q_i_i, q_i_l, q_i_ai, q_i_al, q_ai_ai, q_ai_i, q_ai_l, q_ai_al, q_al_al, q_al_i, q_al_ai, q_al_l, q_l_i, q_l_l, q_l_ai, q_l_al, q_r_r, q_r_i, q_r_l, q_r_ai, q_r_al, q_i_r, q_l_r, q_ai_r, q_al_r, q_K_i, q_K_r, q_K_l, q_K_ai, q_K_al, q_len_i, q_len_r, q_len_l, q_len_ai, q_len_al, q_n_i, q_n_r, q_n_l, q_n_ai, q_n_al, q_s_i, q_s_r, q_s_l, q_s_ai, q_s_al]; exact (hF5.r (by omega)).trans a5
  have n6x : e_n (s_r T5 450 0 (some 64)) = 66 := hn5
  have s6x : e_s (s_r T5 450 0 (some 64)) = e_s T5 := rfl
  have k6x : e_K (s_r T5 450 0 (some 64)) 0 = 8 := (hF5.K (by omega)).trans a3
  generalize hT6 : (s_r T5 450 0 (some 64)) = T6 at hA6 r450 r448 r449 n6x s6x k6x ⊢
  refine xe (fun _ _ kK => x_aload_n dX7_init_62 rfl 0 rfl kK) ?_
  refine xe (fun _ _ kK => x_new dX7_init_63 kc_X7_30 kK) ?_
  have hA0 : NwA (s_new T6 (1 + 1) (nfd 1)) 66 2 [] (fun _ => 0) (fun _ => 0) (s_new T6 (1 + 1) (nfd 1)) := NwA.made n6x
  rw [n6x]
  refine xe (fun _ _ kK => x_dup dX7_init_66 rfl kK) ?_
  refine xe_callIN (a := 66) [] dX7_init_67 ml_X7_32 mf_X1_init (c_X1_init (d + 0) hA0) rfl rfl (Nat.le_of_ble_eq_true rfl) (Nat.le_of_ble_eq_true rfl) ?_
  rintro _ UA ⟨rfl, hA⟩
  have hFA : FrA (fun x => 66 ≤ x) T6 UA := (FrA.new (S := fun x => 66 ≤ x) FrA.rf (by omega)).tr hA.2.2.1
  have shA := hA.shi
  have hsA : e_s UA = e_s T6 + 618 := by rw [hA.2.1]; show e_s T6 + 12 + _ = _; simp
  have hnA : e_n UA = 77 := hA.1
  have jA1 : e_i UA 74 66 = nI 0 := (hA.2.2.2.2.1 74).trans (by decide)
  have jA2 : e_i UA 75 66 = nI 0 := (hA.2.2.2.2.1 75).trans (by decide)
  refine xe (fun _ _ kK => x_putr dX7_init_70 ⟨fl_X7_33, fz_7_3.1, fz_7_3.2.1⟩ fz_7_3.2.2 (fun _ => rfl) (fun _ => rfl) ((hFA.K (by omega)).trans k6x) kK) ?_
  have hSA : FrA (fun x => x = 0) UA (s_r UA 451 0 (some 66)) := (FrA.rf (S := fun x => x = 0)).sr rfl _ _
  have rxA : ∀ g, g ≠ 451 → e_r (s_r UA 451 0 (some 66)) g 0 = e_r T6 g 0 := fun g hg => by rw [q_r_r, if_neg (fun z => hg z.1)]; exact hFA.r (by omega)
  have ryA : e_r (s_r UA 451 0 (some 66)) 451 0 = some 66 := by simp [q_i_i, q_i_l, q_i_ai, q_i_al, q_ai_ai, q_ai_i, q_ai_l, q_ai_al, q_al_al, q_al_i, q_al_ai, q_al_l, q_l_i, q_l_l, q_l_ai, q_l_al, q_r_r, q_r_i, q_r_l, q_r_ai, q_r_al, q_i_r, q_l_r, q_ai_r, q_al_r, q_K_i, q_K_r, q_K_l, q_K_ai, q_K_al, q_len_i, q_len_r, q_len_l, q_len_ai, q_len_al, q_n_i, q_n_r, q_n_l, q_n_ai, q_n_al, q_s_i, q_s_r, q_s_l, q_s_ai, q_s_al]
  have nzA : e_n (s_r UA 451 0 (some 66)) = 77 := hnA
  have szA : e_s (s_r UA 451 0 (some 66)) = e_s UA := rfl
  have kA : e_K (s_r UA 451 0 (some 66)) 0 = 8 := (hFA.K (by omega)).trans k6x
  generalize hTA : (s_r UA 451 0 (some 66)) = WA at hSA rxA ryA nzA szA kA ⊢
  refine xe (fun _ _ kK => x_aload_n dX7_init_73 rfl 0 rfl kK) ?_
  refine xe (fun _ _ kK => x_new dX7_init_74 kc_X7_30 kK) ?_
  have hB0 : NwA (s_new WA (1 + 1) (nfd 1)) 77 2 [] (fun _ => 0) (fun _ => 0) (s_new WA (1 + 1) (nfd 1)) := NwA.made nzA
  rw [nzA]
  refine xe (fun _ _ kK => x_dup dX7_init_77 rfl kK) ?_
  refine xe_callIN (a := 77) [] dX7_init_78 ml_X7_32 mf_X1_init (c_X1_init (d + 0) hB0) rfl rfl (Nat.le_of_ble_eq_true rfl) (Nat.le_of_ble_eq_true rfl) ?_
  rintro _ UB ⟨rfl, hB⟩
  have hFB : FrA (fun x => 77 ≤ x) WA UB := (FrA.new (S := fun x => 77 ≤ x) FrA.rf (by omega)).tr hB.2.2.1
  have shB := hB.shi
  have hsB : e_s UB = e_s WA + 618 := by rw [hB.2.1]; show e_s WA + 12 + _ = _; simp
  have hnB : e_n UB = 88 := hB.1
  have jB1 : e_i UB 74 77 = nI 0 := (hB.2.2.2.2.1 74).trans (by decide)
  have jB2 : e_i UB 75 77 = nI 0 := (hB.2.2.2.2.1 75).trans (by decide)
  refine xe (fun _ _ kK => x_putr dX7_init_81 ⟨fl_X7_37, fz_7_4.1, fz_7_4.2.1⟩ fz_7_4.2.2 (fun _ => rfl) (fun _ => rfl) ((hFB.K (by omega)).trans kA) kK) ?_
  have hSB : FrA (fun x => x = 0) UB (s_r UB 452 0 (some 77)) := (FrA.rf (S := fun x => x = 0)).sr rfl _ _
  have rxB : ∀ g, g ≠ 452 → e_r (s_r UB 452 0 (some 77)) g 0 = e_r WA g 0 := fun g hg => by rw [q_r_r, if_neg (fun z => hg z.1)]; exact hFB.r (by omega)
  have ryB : e_r (s_r UB 452 0 (some 77)) 452 0 = some 77 := by simp [q_i_i, q_i_l, q_i_ai, q_i_al, q_ai_ai, q_ai_i, q_ai_l, q_ai_al, q_al_al, q_al_i, q_al_ai, q_al_l, q_l_i, q_l_l, q_l_ai, q_l_al, q_r_r, q_r_i, q_r_l, q_r_ai, q_r_al, q_i_r, q_l_r, q_ai_r, q_al_r, q_K_i, q_K_r, q_K_l, q_K_ai, q_K_al, q_len_i, q_len_r, q_len_l, q_len_ai, q_len_al, q_n_i, q_n_r, q_n_l, q_n_ai, q_n_al, q_s_i, q_s_r, q_s_l, q_s_ai, q_s_al]
  have nzB : e_n (s_r UB 452 0 (some 77)) = 88 := hnB
  have szB : e_s (s_r UB 452 0 (some 77)) = e_s UB := rfl
  have kB : e_K (s_r UB 452 0 (some 77)) 0 = 8 := (hFB.K (by omega)).trans kA
  generalize hTB : (s_r UB 452 0 (some 77)) = WB at hSB rxB ryB nzB szB kB ⊢
  refine xe (fun _ _ kK => x_aload_n dX7_init_84 rfl 0 rfl kK) ?_
  refine xe (fun _ _ kK => x_iconst dX7_init_85 (show _ = nI 0 by decide) kK) ?_
  refine xe (fun _ _ kK => x_puti dX7_init_86 ⟨fl_X7_40, fz_7_5.1, fz_7_5.2.1⟩ (Or.inl fz_7_5.2.2) rfl rfl kB kK) ?_
  have hT9 : FrA (fun x => x = 0) WB (s_i WB 453 0 (nI 0)) := (FrA.rf (S := fun x => x = 0)).si rfl _ _
  have gB : FrA (fun x => x = 0) UB (s_i WB 453 0 (nI 0)) := hSB.tr hT9
  have gA : FrA (fun x => x = 0 ∨ 77 ≤ x) UA (s_i WB 453 0 (nI 0)) := (hSA.mono (fun x hx => Or.inl hx)).tr ((hFB.mono (fun x hx => Or.inr hx)).tr (gB.mono (fun x hx => Or.inl hx)))
  have g6 : FrA (fun x => x = 0 ∨ 66 ≤ x) T6 (s_i WB 453 0 (nI 0)) := (hFA.mono (fun x hx => Or.inr hx)).tr (gA.mono (fun x hx => by omega))
  have g5 : FrA (fun x => x = 0 ∨ 66 ≤ x) T5 (s_i WB 453 0 (nI 0)) := (hA6.mono (fun x hx => Or.inl hx)).tr g6
  have g4 : FrA (fun x => x = 0 ∨ 64 ≤ x) T4 (s_i WB 453 0 (nI 0)) := (hF5.mono (fun x hx => Or.inr hx)).tr (g5.mono (fun x hx => by omega))
  have rr : ∀ g, g ≠ 451 → g ≠ 452 → e_r (s_i WB 453 0 (nI 0)) g 0 = e_r T6 g 0 := fun g h1 h2 => by show e_r WB g 0 = _; rw [rxB g h2, rxA g h1]
  refine xe_retv dX7_init_89 rfl (⟨rfl, ⟨kB, (rr 448 (by decide) (by decide)).trans r448, (rr 449 (by decide) (by decide)).trans r449, (rr 450 (by decide) (by decide)).trans r450, (g4.K (by omega)).trans b1, (g4.r (by omega)).trans b2, (g4.K (by omega)).trans b3, (g4.len (by omega)).trans b4, (g4.K (by omega)).trans b5, (g4.len (by omega)).trans b6, fun c hc => by rw [g4.ar (by omega)]; exact (h6 c hc).1, (g5.K (by omega)).trans m4, (g5.r (by omega)).trans x1, (g5.K (by omega)).trans x2, (g5.len (by omega)).trans x3, shA.ofA gA (fun a h1 h2 => by omega), shB.ofA gB (fun a h1 h2 => by omega)⟩, ?_, ?_, by simp [q_i_i, q_i_l, q_i_ai, q_i_al, q_ai_ai, q_ai_i, q_ai_l, q_ai_al, q_al_al, q_al_i, q_al_ai, q_al_l, q_l_i, q_l_l, q_l_ai, q_l_al, q_r_r, q_r_i, q_r_l, q_r_ai, q_r_al, q_i_r, q_l_r, q_ai_r, q_al_r, q_K_i, q_K_r, q_K_l, q_K_ai, q_K_al, q_len_i, q_len_r, q_len_l, q_len_ai, q_len_al, q_n_i, q_n_r, q_n_l, q_n_ai, q_n_al, q_s_i, q_s_r, q_s_l, q_s_ai, q_s_al], ⟨(g4.i (by omega)).trans i1, (g4.i (by omega)).trans i2, (g4.i (by omega)).trans i3⟩, (g5.i (by omega)).trans ((m5 321).trans (by decide)), ⟨(gA.i (by omega)).trans jA1, (gA.i (by omega)).trans jA2⟩, fun c hc => (h6 c hc).2.ofA g4 (fun x h1 h2 => by omega), nzB, ?_⟩)
  · show e_r WB 451 0 = _; rw [rxB 451 (by decide)]; exact ryA
  · exact ryB
  · show e_s WB ≤ _; rw [szB, hsB, szA, hsA, s6x, hs5]; omega
