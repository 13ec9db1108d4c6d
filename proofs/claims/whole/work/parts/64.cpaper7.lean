/-! TreeTables.paper -/
theorem REL.init {s : Sh} {en : Nat → Nat} {lo : Nat → Option Nat} {i : Nat} {R0 : Nat → List Row} (hV : ShV s [] en lo) : REL s i R0 Pa0 [] 0 none 0 (fun _ => false) (fun _ => 0) R0 := by
  have hch : ∀ f, ch Pa0 0 f 1 = [] := fun f => ch_end (Nat.le_refl _)
  refine ⟨trivial, ⟨rfl, rfl, Nat.one_pos⟩, ⟨rfl, rfl⟩, fun y hy f hf hW => ?_, fun j hj => ?_, fun c hc => ?_⟩
  · rw [List.mem_singleton.mp hy]; exact (pB_f (fun z => hasN_ch.mp z (hch f))).symm
  · have : j = 0 := Nat.le_zero.mp hj
    subst this; rfl
  · obtain ⟨f, fs, hr⟩ := road_ne hV hc
    have : rwQ s.2.2.2.2.2.1 Pa0 i [0] (road s c) 0 0 0 0 = [] := by rw [hr, rwQ_c, hch, if_pos List.mem_cons_self]; rfl
    rw [this]; simp
theorem TVd.init {s : Sh} : TVd s Pa0 [0] 0 := by
  refine ⟨fun k hk h0 => ?_, fun k k' y f hk hk' p1 => ?_, fun y hy hyS => ?_, fun y hy f hf => ?_, Nat.le_refl _⟩
  · have : k < 1 := hk; omega
  · cases p1
  · have : y < 1 := hy; exact absurd (List.mem_singleton.mpr (by omega)) hyS
  · cases hf

set_option maxHeartbeats 4000000 in
theorem c_X0_readAll (d : Nat) {T : TH} {rd cu i n : Nat} {s : Sh} {en : Nat → Nat} {lo : Nat → Option Nat} {b : Nat → Nat} {A : Nat → Nat → Nat} {cp : Nat → Nat} {R0 : Nat → List Row} (hZ : PZ cu i s en lo) (hR0 : ∀ c, c < s.2.1 → (R0 c).length ≤ 2900) (hC : CI T) (hB : CBt T n b) (hn : e_i T 257 1 = nI n) (hn4 : n ≤ 400) (hS : CSp T cu s en lo) (hK : MsK T cu s s.1) (hPC : PC T rd cu i) (hPV : PV T rd none 0 (fun _ => false) (fun _ => 0)) (hA : TbA T A cp) (hR : ∀ c, c < s.2.1 → TbR T A cp c (R0 c)) (hs1 : ∀ c k, c < 12 → k < 4 → A c k < rd ∨ rd + 2 < A c k) (hs2 : 120 ≤ rd) (hs3 : rd + 2 < e_n T) : Xe m_X0_readAll (d + 10) 0 [(0, .ref rd)] [] T (fun r T1 => PAL T T1 i s n cp R0 (qPaper s b n) r) := by
  refine xe (fun _ _ kK => x_aload_n dX0_readAll_0 rfl 0 rfl kK) ?_
  refine xe (fun _ _ kK => x_get dX0_readAll_1 fl_X0_9 hPC.1 (gvl_r1 fz_0_0.2.2 (show e_r T 0 rd = some 1 from hPC.2.1)) kK) ?_
  refine xe_callV (a := 1) [] dX0_readAll_4 ml_X0_41 mf_X4_begin hC.2.2.2.2.1 (c_X4_begin (d + 9) hC) rfl rfl (Nat.le_of_ble_eq_true rfl) (Nat.le_of_ble_eq_true rfl) ?_
  rintro _ _ ⟨rfl, rfl⟩
  have hG1 : FrG [(258, 1), (259, 1), (260, 1)] [] T (s_i (s_i (s_i T 258 1 (nI 0)) 259 1 (nI 0)) 260 1 (-1)) := (FrG.si (FrG.si (FrG.si FrG.rf (by simp) _) (by simp) _) (by simp) _)
  have hu := hZ.1
  have hP1 : PRs (s_i (s_i (s_i T 258 1 (nI 0)) 259 1 (nI 0)) 260 1 (-1)) rd cu i s en lo n b 0 none 0 (fun _ => false) (fun _ => 0) A cp R0 := ⟨⟨hG1.ci hC, fun j hj => hB j hj, by simp [q_i_i, q_i_l, q_i_ai, q_i_al, q_ai_ai, q_ai_i, q_ai_l, q_ai_al, q_al_al, q_al_i, q_al_ai, q_al_l, q_l_i, q_l_l, q_l_ai, q_l_al, q_r_r, q_r_i, q_r_l, q_r_ai, q_r_al, q_i_r, q_l_r, q_ai_r, q_al_r, q_K_i, q_K_r, q_K_l, q_K_ai, q_K_al, q_len_i, q_len_r, q_len_l, q_len_ai, q_len_al, q_n_i, q_n_r, q_n_l, q_n_ai, q_n_al, q_s_i, q_s_r, q_s_l, q_s_ai, q_s_al], by simp [q_i_i, q_i_l, q_i_ai, q_i_al, q_ai_ai, q_ai_i, q_ai_l, q_ai_al, q_al_al, q_al_i, q_al_ai, q_al_l, q_l_i, q_l_l, q_l_ai, q_l_al, q_r_r, q_r_i, q_r_l, q_r_ai, q_r_al, q_i_r, q_l_r, q_ai_r, q_al_r, q_K_i, q_K_r, q_K_l, q_K_ai, q_K_al, q_len_i, q_len_r, q_len_l, q_len_ai, q_len_al, q_n_i, q_n_r, q_n_l, q_n_ai, q_n_al, q_s_i, q_s_r, q_s_l, q_s_ai, q_s_al]; exact hn, Nat.zero_le _, hn4⟩, hS.of hG1 (by simp <;> omega) (by simp <;> omega) (by simp), hK.of hG1 (by simp) (by simp) (by simp), hPC.ofG hG1 (by simp), hPV.ofG hG1 (by simp) (by simp) (by simp) (by simp), hA.ofG hG1, fun c hc => (hR c hc).ofG hG1 (by simp) (by simp), ⟨hs1, hs2, hs3⟩, by simp [q_i_i, q_i_l, q_i_ai, q_i_al, q_ai_ai, q_ai_i, q_ai_l, q_ai_al, q_al_al, q_al_i, q_al_ai, q_al_l, q_l_i, q_l_l, q_l_ai, q_l_al, q_r_r, q_r_i, q_r_l, q_r_ai, q_r_al, q_i_r, q_l_r, q_ai_r, q_al_r, q_K_i, q_K_r, q_K_l, q_K_ai, q_K_al, q_len_i, q_len_r, q_len_l, q_len_ai, q_len_al, q_n_i, q_n_r, q_n_l, q_n_ai, q_n_al, q_s_i, q_s_r, q_s_l, q_s_ai, q_s_al], by simp [q_i_i, q_i_l, q_i_ai, q_i_al, q_ai_ai, q_ai_i, q_ai_l, q_ai_al, q_al_al, q_al_i, q_al_ai, q_al_l, q_l_i, q_l_l, q_l_ai, q_l_al, q_r_r, q_r_i, q_r_l, q_r_ai, q_r_al, q_i_r, q_l_r, q_ai_r, q_al_r, q_K_i, q_K_r, q_K_l, q_K_ai, q_K_al, q_len_i, q_len_r, q_len_l, q_len_ai, q_len_al, q_n_i, q_n_r, q_n_l, q_n_ai, q_n_al, q_s_i, q_s_r, q_s_l, q_s_ai, q_s_al]⟩
  have hF1 : PFr T _ cp cp := PFr.ofG hG1 (by simp) (by simp)
  generalize hT1 : (s_i (s_i (s_i T 258 1 (nI 0)) 259 1 (nI 0)) 260 1 (-1)) = T1 at hG1 hP1 hF1 ⊢
  refine xe (fun _ _ kK => x_iconst dX0_readAll_7 (show _ = nI 1 by decide) kK) ?_
  refine xe (fun _ _ kK => x_istore_n dX0_readAll_8 rfl (by decide) (show _ = [(1, .int (nI 1)), (0, .ref rd)] from rfl) kK) ?_
  refine xe (fun _ _ kK => x_iconst dX0_readAll_9 (show _ = nI 0 by decide) kK) ?_
  refine xe (fun _ _ kK => x_istore_n dX0_readAll_10 rfl (by decide) (show _ = [(2, .int (nI 0)), (1, .int (nI 1)), (0, .ref rd)] from rfl) kK) ?_
  exact xe_loc (by simp) (l_X0_readAll d hZ hR0 (n + 1) 0 T1 0 Pa0 [] none 0 _ _ A cp R0 (by omega) (Nat.le_refl _) hP1 (REL.init hZ.2.1) TVd.init hF1)

set_option maxHeartbeats 4000000 in
theorem c_X0_init (d : Nat) {T : TH} {rd cu i : Nat} (hK : e_K T rd = 1) (hn : e_n T = rd + 1) : Xe m_X0_init (d + 1) 0 [(0, .ref rd), (1, .ref 1), (2, .ref cu), (3, .ref 3), (4, .int (nI i))] [] T (fun r T1 => r = none ∧ PC T1 rd cu i ∧ PV T1 rd none 0 (fun _ => false) (fun _ => 0) ∧ e_n T1 = rd + 3 ∧ e_s T1 = e_s T + 71 ∧ FrA (fun x => rd ≤ x ∧ x ≤ rd + 2) T T1) := by
  refine xe (fun _ _ kK => x_aload_n dX0_init_0 rfl 0 rfl kK) ?_
  refine xe (fun _ _ kK => x_objInit dX0_init_1 ml_X0_3 (Nat.le_of_ble_eq_true rfl) kK) ?_
  refine xe (fun _ _ kK => x_aload_n dX0_init_4 rfl 0 rfl kK) ?_
  refine xe (fun _ _ kK => x_aload_n dX0_init_5 rfl 1 rfl kK) ?_
  refine xe (fun _ _ kK => x_putrF dX0_init_6 ⟨fl_X0_9, fz_0_0.1, fz_0_0.2.1, rfl, rfl⟩ fz_0_0.2.2 (fun _ => rfl) (fun _ => rfl) hK kK) ?_
  refine xe (fun _ _ kK => x_aload_n dX0_init_9 rfl 0 rfl kK) ?_
  refine xe (fun _ _ kK => x_aload_n dX0_init_10 rfl 2 rfl kK) ?_
  refine xe (fun _ _ kK => x_putrF dX0_init_11 ⟨fl_X0_15, fz_0_1.1, fz_0_1.2.1, rfl, rfl⟩ fz_0_1.2.2 (fun _ => rfl) (fun _ => rfl) (wK_r hK) kK) ?_
  refine xe (fun _ _ kK => x_aload_n dX0_init_14 rfl 0 rfl kK) ?_
  refine xe (fun _ _ kK => x_aload_n dX0_init_15 rfl 3 rfl kK) ?_
  refine xe (fun _ _ kK => x_putrF dX0_init_16 ⟨fl_X0_19, fz_0_2.1, fz_0_2.2.1, rfl, rfl⟩ fz_0_2.2.2 (fun _ => rfl) (fun _ => rfl) (wK_r (wK_r hK)) kK) ?_
  refine xe (fun _ _ kK => x_aload_n dX0_init_19 rfl 0 rfl kK) ?_
  refine xe (fun _ _ kK => x_iload dX0_init_20 4 rfl kK) ?_
  refine xe (fun _ _ kK => x_putiF dX0_init_22 ⟨fl_X0_23, fz_0_3.1, fz_0_3.2.1, rfl, rfl⟩ (Or.inl fz_0_3.2.2) rfl rfl (wK_r (wK_r (wK_r hK))) kK) ?_
  refine xe (fun _ _ kK => x_aload_n dX0_init_25 rfl 0 rfl kK) ?_
  refine xe (fun _ _ kK => x_bipush dX0_init_26 (show _ = nI 66 by decide) kK) ?_
  have hA1 : FrA (fun x => rd ≤ x ∧ x ≤ rd + 2) T (s_i (s_r (s_r (s_r T 0 rd (some 1)) 1 rd (some cu)) 2 rd (some 3)) 3 rd (nI i)) := ((((FrA.rf (S := fun x => rd ≤ x ∧ x ≤ rd + 2)).sr (by omega) _ _).sr (by omega) _ _).sr (by omega) _ _).si (by omega) _ _
  have r0 : e_r (s_i (s_r (s_r (s_r T 0 rd (some 1)) 1 rd (some cu)) 2 rd (some 3)) 3 rd (nI i)) 0 rd = some 1 := by simp [q_i_i, q_i_l, q_i_ai, q_i_al, q_ai_ai, q_ai_i, q_ai_l, q_ai_al, q_al_al, q_al_i, q_al_ai, q_al_l, q_l_i, q_l_l, q_l_ai, q_l_al, q_r_r, q_r_i, q_r_l, q_r_ai, q_r_al, q_i_r, q_l_r, q_ai_r, q_al_r, q_K_i, q_K_r, q_K_l, q_K_ai, q_K_al, q_len_i, q_len_r, q_len_l, q_len_ai, q_len_al, q_n_i, q_n_r, q_n_l, q_n_ai, q_n_al, q_s_i, q_s_r, q_s_l, q_s_ai, q_s_al]
  have r1 : e_r (s_i (s_r (s_r (s_r T 0 rd (some 1)) 1 rd (some cu)) 2 rd (some 3)) 3 rd (nI i)) 1 rd = some cu := by simp [q_i_i, q_i_l, q_i_ai, q_i_al, q_ai_ai, q_ai_i, q_ai_l, q_ai_al, q_al_al, q_al_i, q_al_ai, q_al_l, q_l_i, q_l_l, q_l_ai, q_l_al, q_r_r, q_r_i, q_r_l, q_r_ai, q_r_al, q_i_r, q_l_r, q_ai_r, q_al_r, q_K_i, q_K_r, q_K_l, q_K_ai, q_K_al, q_len_i, q_len_r, q_len_l, q_len_ai, q_len_al, q_n_i, q_n_r, q_n_l, q_n_ai, q_n_al, q_s_i, q_s_r, q_s_l, q_s_ai, q_s_al]
  have r2 : e_r (s_i (s_r (s_r (s_r T 0 rd (some 1)) 1 rd (some cu)) 2 rd (some 3)) 3 rd (nI i)) 2 rd = some 3 := by simp [q_i_i, q_i_l, q_i_ai, q_i_al, q_ai_ai, q_ai_i, q_ai_l, q_ai_al, q_al_al, q_al_i, q_al_ai, q_al_l, q_l_i, q_l_l, q_l_ai, q_l_al, q_r_r, q_r_i, q_r_l, q_r_ai, q_r_al, q_i_r, q_l_r, q_ai_r, q_al_r, q_K_i, q_K_r, q_K_l, q_K_ai, q_K_al, q_len_i, q_len_r, q_len_l, q_len_ai, q_len_al, q_n_i, q_n_r, q_n_l, q_n_ai, q_n_al, q_s_i, q_s_r, q_s_l, q_s_ai, q_s_al]
  have i3 : e_i (s_i (s_r (s_r (s_r T 0 rd (some 1)) 1 rd (some cu)) 2 rd (some 3)) 3 rd (nI i)) 3 rd = nI i := by simp [q_i_i, q_i_l, q_i_ai, q_i_al, q_ai_ai, q_ai_i, q_ai_l, q_ai_al, q_al_al, q_al_i, q_al_ai, q_al_l, q_l_i, q_l_l, q_l_ai, q_l_al, q_r_r, q_r_i, q_r_l, q_r_ai, q_r_al, q_i_r, q_l_r, q_ai_r, q_al_r, q_K_i, q_K_r, q_K_l, q_K_ai, q_K_al, q_len_i, q_len_r, q_len_l, q_len_ai, q_len_al, q_n_i, q_n_r, q_n_l, q_n_ai, q_n_al, q_s_i, q_s_r, q_s_l, q_s_ai, q_s_al]
  have k1 : e_K (s_i (s_r (s_r (s_r T 0 rd (some 1)) 1 rd (some cu)) 2 rd (some 3)) 3 rd (nI i)) rd = 1 := hK
  have n1 : e_n (s_i (s_r (s_r (s_r T 0 rd (some 1)) 1 rd (some cu)) 2 rd (some 3)) 3 rd (nI i)) = rd + 1 := hn
  have s1 : e_s (s_i (s_r (s_r (s_r T 0 rd (some 1)) 1 rd (some cu)) 2 rd (some 3)) 3 rd (nI i)) = e_s T := rfl
  generalize hT1 : (s_i (s_r (s_r (s_r T 0 rd (some 1)) 1 rd (some cu)) 2 rd (some 3)) 3 rd (nI i)) = T1 at hA1 r0 r1 r2 i3 k1 n1 s1 ⊢
  refine xe (fun _ _ kK => x_newaz dX0_init_28 (show (nI 66) = nI 66 from rfl) (by omega) kK) ?_
  have hA2 : FrA (fun x => x = rd + 1) T1 (s_new T1 22 66) := FrA.rf.new n1
  have kA : e_K (s_new T1 22 66) (rd + 1) = 22 := by rw [← n1]; exact sn_K
  have lA : e_len (s_new T1 22 66) (rd + 1) = 66 := by rw [← n1]; exact sn_len
  have cA : ∀ j, e_ai (s_new T1 22 66) (rd + 1) j = 0 := fun j => by rw [← n1]; exact sn_ai
  have n2 : e_n (s_new T1 22 66) = rd + 2 := by rw [sn_n, n1]
  have s2 : e_s (s_new T1 22 66) = e_s T + 66 := by rw [sn_s, s1]
  rw [n1]
  generalize hT2 : s_new T1 22 66 = T2 at hA2 kA lA cA n2 s2 ⊢
  refine xe (fun _ _ kK => x_putrF dX0_init_30 ⟨fl_X0_27, fz_0_4.1, fz_0_4.2.1, rfl, rfl⟩ fz_0_4.2.2 (fun _ => rfl) (fun _ => rfl) ((hA2.K (by omega)).trans k1) kK) ?_
  have hA3 : FrA (fun x => x = rd) T2 (s_r T2 4 rd (some (rd + 1))) := (FrA.rf (S := fun x => x = rd)).sr rfl _ _
  have r4 : e_r (s_r T2 4 rd (some (rd + 1))) 4 rd = some (rd + 1) := by simp [q_i_i, q_i_l, q_i_ai, q_i_al, q_ai_ai, q_ai_i, q_ai_l, q_ai_al, q_al_al, q_al_i, q_al_ai, q_al_l, q_l_i, q_l_l, q_l_ai, q_l_al, q_r_r, q_r_i, q_r_l, q_r_ai, q_r_al, q_i_r, q_l_r, q_ai_r, q_al_r, q_K_i, q_K_r, q_K_l, q_K_ai, q_K_al, q_len_i, q_len_r, q_len_l, q_len_ai, q_len_al, q_n_i, q_n_r, q_n_l, q_n_ai, q_n_al, q_s_i, q_s_r, q_s_l, q_s_ai, q_s_al]
  have rx : ∀ g, g ≠ 4 → e_r (s_r T2 4 rd (some (rd + 1))) g rd = e_r T1 g rd := fun g hg => by rw [q_r_r, if_neg (fun z => hg z.1)]; exact hA2.r (by omega)
  have ix9 : ∀ g, e_i (s_r T2 4 rd (some (rd + 1))) g rd = e_i T1 g rd := fun g => hA2.i (show ¬ rd = rd + 1 by omega)
  have k3 : e_K (s_r T2 4 rd (some (rd + 1))) rd = 1 := (hA2.K (show ¬ rd = rd + 1 by omega)).trans k1
  have n3 : e_n (s_r T2 4 rd (some (rd + 1))) = rd + 2 := n2
  have s3 : e_s (s_r T2 4 rd (some (rd + 1))) = e_s T + 66 := s2
  generalize hT3 : (s_r T2 4 rd (some (rd + 1))) = T3 at hA3 r4 rx ix9 k3 n3 s3 ⊢
  refine xe (fun _ _ kK => x_aload_n dX0_init_33 rfl 0 rfl kK) ?_
  refine xe (fun _ _ kK => x_iconst dX0_init_34 (show _ = nI 5 by decide) kK) ?_
  refine xe (fun _ _ kK => x_newai dX0_init_35 (show (nI 5) = nI 5 from rfl) (by omega) kK) ?_
  have hA4 : FrA (fun x => x = rd + 2) T3 (s_new T3 20 5) := FrA.rf.new n3
  have kB : e_K (s_new T3 20 5) (rd + 2) = 20 := by rw [← n3]; exact sn_K
  have lB : e_len (s_new T3 20 5) (rd + 2) = 5 := by rw [← n3]; exact sn_len
  have cB : ∀ j, e_ai (s_new T3 20 5) (rd + 2) j = 0 := fun j => by rw [← n3]; exact sn_ai
  have n4 : e_n (s_new T3 20 5) = rd + 3 := by rw [sn_n, n3]
  have s4 : e_s (s_new T3 20 5) = e_s T + 71 := by rw [sn_s, s3]
  rw [n3]
  generalize hT4 : s_new T3 20 5 = T4 at hA4 kB lB cB n4 s4 ⊢
  refine xe (fun _ _ kK => x_putrF dX0_init_37 ⟨fl_X0_31, fz_0_5.1, fz_0_5.2.1, rfl, rfl⟩ fz_0_5.2.2 (fun _ => rfl) (fun _ => rfl) ((hA4.K (by omega)).trans k3) kK) ?_
  refine xe (fun _ _ kK => x_aload_n dX0_init_40 rfl 0 rfl kK) ?_
  refine xe (fun _ _ kK => x_iconst dX0_init_41 (show _ = (-1) by decide) kK) ?_
  refine xe (fun _ _ kK => x_puti dX0_init_42 ⟨fl_X0_35, fz_0_6.1, fz_0_6.2.1⟩ (Or.inl fz_0_6.2.2) rfl rfl (wK_r ((hA4.K (by omega)).trans k3)) kK) ?_
  refine xe (fun _ _ kK => x_aload_n dX0_init_45 rfl 0 rfl kK) ?_
  refine xe (fun _ _ kK => x_iconst dX0_init_46 (show _ = nI 0 by decide) kK) ?_
  refine xe (fun _ _ kK => x_puti dX0_init_47 ⟨fl_X0_38, fz_0_7.1, fz_0_7.2.1⟩ (Or.inl fz_0_7.2.2) rfl rfl (wK_i (wK_r ((hA4.K (by omega)).trans k3))) kK) ?_
  have hA5 : FrA (fun x => x = rd) T4 (s_i (s_i (s_r T4 5 rd (some (rd + 2))) 6 rd (-1)) 7 rd (nI 0)) := (((FrA.rf (S := fun x => x = rd)).sr rfl _ _).si rfl _ _).si rfl _ _
  have e1 : ¬ rd + 1 = rd := by omega
  have e2 : ¬ rd + 2 = rd := by omega
  have e3 : ¬ rd + 1 = rd + 2 := by omega
  have e4 : ¬ rd = rd + 2 := by omega
  have e5 : ¬ rd + 2 = rd + 1 := by omega
  have rr : ∀ g, g ≠ 5 → e_r (s_i (s_i (s_r T4 5 rd (some (rd + 2))) 6 rd (-1)) 7 rd (nI 0)) g rd = e_r T3 g rd := fun g hg => by simp [q_i_i, q_i_l, q_i_ai, q_i_al, q_ai_ai, q_ai_i, q_ai_l, q_ai_al, q_al_al, q_al_i, q_al_ai, q_al_l, q_l_i, q_l_l, q_l_ai, q_l_al, q_r_r, q_r_i, q_r_l, q_r_ai, q_r_al, q_i_r, q_l_r, q_ai_r, q_al_r, q_K_i, q_K_r, q_K_l, q_K_ai, q_K_al, q_len_i, q_len_r, q_len_l, q_len_ai, q_len_al, q_n_i, q_n_r, q_n_l, q_n_ai, q_n_al, q_s_i, q_s_r, q_s_l, q_s_ai, q_s_al, hg]; exact hA4.r e4
  refine xe_retv dX0_init_50 rfl (⟨rfl, ⟨(hA4.K e4).trans k3, (rr 0 (by decide)).trans ((rx 0 (by decide)).trans r0), (rr 1 (by decide)).trans ((rx 1 (by decide)).trans r1), (rr 2 (by decide)).trans ((rx 2 (by decide)).trans r2), ?_, (rr 4 (by decide)).trans r4, by simp [q_i_i, q_i_l, q_i_ai, q_i_al, q_ai_ai, q_ai_i, q_ai_l, q_ai_al, q_al_al, q_al_i, q_al_ai, q_al_l, q_l_i, q_l_l, q_l_ai, q_l_al, q_r_r, q_r_i, q_r_l, q_r_ai, q_r_al, q_i_r, q_l_r, q_ai_r, q_al_r, q_K_i, q_K_r, q_K_l, q_K_ai, q_K_al, q_len_i, q_len_r, q_len_l, q_len_ai, q_len_al, q_n_i, q_n_r, q_n_l, q_n_ai, q_n_al, q_s_i, q_s_r, q_s_l, q_s_ai, q_s_al], ?_, ?_, kB, lB⟩, ⟨by simp [q_i_i, q_i_l, q_i_ai, q_i_al, q_ai_ai, q_ai_i, q_ai_l, q_ai_al, q_al_al, q_al_i, q_al_ai, q_al_l, q_l_i, q_l_l, q_l_ai, q_l_al, q_r_r, q_r_i, q_r_l, q_r_ai, q_r_al, q_i_r, q_l_r, q_ai_r, q_al_r, q_K_i, q_K_r, q_K_l, q_K_ai, q_K_al, q_len_i, q_len_r, q_len_l, q_len_ai, q_len_al, q_n_i, q_n_r, q_n_l, q_n_ai, q_n_al, q_s_i, q_s_r, q_s_l, q_s_ai, q_s_al]; rfl, by simp [q_i_i, q_i_l, q_i_ai, q_i_al, q_ai_ai, q_ai_i, q_ai_l, q_ai_al, q_al_al, q_al_i, q_al_ai, q_al_l, q_l_i, q_l_l, q_l_ai, q_l_al, q_r_r, q_r_i, q_r_l, q_r_ai, q_r_al, q_i_r, q_l_r, q_ai_r, q_al_r, q_K_i, q_K_r, q_K_l, q_K_ai, q_K_al, q_len_i, q_len_r, q_len_l, q_len_ai, q_len_al, q_n_i, q_n_r, q_n_l, q_n_ai, q_n_al, q_s_i, q_s_r, q_s_l, q_s_ai, q_s_al], fun f hf => ?_, fun j hj => ?_⟩, n4, s4, ?_⟩)
  · simp [q_i_i, q_i_l, q_i_ai, q_i_al, q_ai_ai, q_ai_i, q_ai_l, q_ai_al, q_al_al, q_al_i, q_al_ai, q_al_l, q_l_i, q_l_l, q_l_ai, q_l_al, q_r_r, q_r_i, q_r_l, q_r_ai, q_r_al, q_i_r, q_l_r, q_ai_r, q_al_r, q_K_i, q_K_r, q_K_l, q_K_ai, q_K_al, q_len_i, q_len_r, q_len_l, q_len_ai, q_len_al, q_n_i, q_n_r, q_n_l, q_n_ai, q_n_al, q_s_i, q_s_r, q_s_l, q_s_ai, q_s_al]; rw [hA4.i e4, ix9]; exact i3
  · rw [hA5.K e1, hA4.K e3, hA3.K e1]; exact kA
  · rw [hA5.len e1, hA4.len e3, hA3.len e1]; exact lA
  · rw [hA5.ai e1, hA4.ai e3, hA3.ai e1, cA]; rfl
  · rw [hA5.ai e2, cB]; rfl
  · exact hA1.tr ((hA2.mono (fun x hx => by omega)).tr ((hA3.mono (fun x hx => by omega)).tr ((hA4.mono (fun x hx => by omega)).tr (hA5.mono (fun x hx => by omega)))))
