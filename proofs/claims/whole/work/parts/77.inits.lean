/-! an object a and its rows behind it, as they are made: l tells of each row the field, the kind, the length -/
def NwA (T : TH) (a Ka : Nat) (l : List (Nat × Nat × Nat)) (I : Nat → Int32) (J : Nat → Int64) (T' : TH) : Prop := e_n T' = a + 1 + l.length ∧ e_s T' = e_s T + (l.map (fun q => q.2.2)).sum ∧ FrA (fun x => a ≤ x) T T' ∧ e_K T' a = Ka ∧ (∀ g, e_i T' g a = I g) ∧ (∀ g, e_l T' g a = J g) ∧ (∀ g, g ∉ l.map (fun q => q.1) → e_r T' g a = none) ∧ ∀ j g K N, l[j]? = some (g, K, N) → e_r T' g a = some (a + 1 + j) ∧ e_K T' (a + 1 + j) = K ∧ e_len T' (a + 1 + j) = N ∧ (∀ i, e_ai T' (a + 1 + j) i = 0) ∧ ∀ i, e_al T' (a + 1 + j) i = 0
theorem NwA.kn {T T1 : TH} {a Ka K N : Nat} {l : List (Nat × Nat × Nat)} {I : Nat → Int32} {J : Nat → Int64} (h : NwA T a Ka l I J T1) : e_K (s_new T1 K N) a = Ka := by
  rw [show e_K (s_new T1 K N) a = e_K T1 a from upn (by have := h.1; omega)]; exact h.2.2.2.1
theorem NwA.arr {T T1 : TH} {a Ka K N g : Nat} {l : List (Nat × Nat × Nat)} {I : Nat → Int32} {J : Nat → Int64} (h : NwA T a Ka l I J T1) (hg : g ∉ l.map (fun q => q.1)) : NwA T a Ka (l ++ [(g, K, N)]) I J (s_r (s_new T1 K N) g a (some (e_n T1))) := by
  obtain ⟨h1, h2, h3, h4, h5, h6, h7, h8⟩ := h
  have hne : a ≠ e_n T1 := by omega
  have hA : FrA (fun x => x = e_n T1) T1 (s_new T1 K N) := FrA.rf.new rfl
  refine ⟨?_, ?_, (h3.tr (hA.mono (fun x hx => by omega))).sr (Nat.le_refl _) _ _, ?_, fun g' => ?_, fun g' => ?_, fun g' hg' => ?_, fun j g' K' N' hj => ?_⟩
  · show e_n T1 + 1 = _; rw [h1]; simp; omega
  · show e_s T1 + N = _; rw [h2]; simp; omega
  · show e_K (s_new T1 K N) a = Ka; rw [hA.K hne]; exact h4
  · show e_i (s_new T1 K N) g' a = I g'; rw [hA.i hne]; exact h5 g'
  · show e_l (s_new T1 K N) g' a = J g'; rw [hA.l hne]; exact h6 g'
  · have hq : g' ∉ l.map (fun q => q.1) ∧ g' ≠ g := by simpa using hg'
    rw [q_r_r, if_neg (fun (z : g' = g ∧ a = a) => hq.2 z.1), hA.r hne]
    exact h7 g' hq.1
  · rcases Nat.lt_or_ge j l.length with z | z
    · rw [List.getElem?_append_left z] at hj
      obtain ⟨k1, k2, k3, k4, k5⟩ := h8 j g' K' N' hj
      have hgg : g' ≠ g := fun e => hg (List.mem_map.mpr ⟨(g', K', N'), List.mem_of_getElem? hj, e⟩)
      have hn2 : a + 1 + j ≠ e_n T1 := by omega
      refine ⟨?_, ?_, ?_, fun i => ?_, fun i => ?_⟩
      · rw [q_r_r, if_neg (fun (w : g' = g ∧ a = a) => hgg w.1), hA.r hne]; exact k1
      · show e_K (s_new T1 K N) _ = _; rw [hA.K hn2]; exact k2
      · show e_len (s_new T1 K N) _ = _; rw [hA.len hn2]; exact k3
      · show e_ai (s_new T1 K N) _ i = _; rw [hA.ai hn2]; exact k4 i
      · show e_al (s_new T1 K N) _ i = _; rw [hA.al hn2]; exact k5 i
    · rw [List.getElem?_append_right z] at hj
      have hz : j - l.length < 1 := (List.getElem?_eq_some_iff.mp hj).1
      have hjl : j = l.length := by omega
      subst hjl
      simp at hj
      obtain ⟨e1, e2, e3⟩ := hj
      subst e1; subst e2; subst e3
      have en : a + 1 + l.length = e_n T1 := h1.symm
      refine ⟨?_, ?_, ?_, fun i => ?_, fun i => ?_⟩
      · rw [q_r_r, if_pos ⟨rfl, rfl⟩, en]
      · rw [en, q_K_r]; exact sn_K
      · rw [en, q_len_r]; exact sn_len
      · rw [en, q_ai_r]; exact sn_ai
      · rw [en, q_al_r]; exact sn_al
theorem NwA.int {T T1 : TH} {a Ka g : Nat} {l : List (Nat × Nat × Nat)} {I : Nat → Int32} {J : Nat → Int64} (h : NwA T a Ka l I J T1) (v : Int32) : NwA T a Ka l (va_up I g v) J (s_i T1 g a v) := by
  obtain ⟨h1, h2, h3, h4, h5, h6, h7, h8⟩ := h
  refine ⟨h1, h2, h3.si (Nat.le_refl _) _ _, h4, fun g' => ?_, h6, h7, h8⟩
  rw [q_i_i]
  by_cases e : g' = g
  · subst e; rw [if_pos ⟨rfl, rfl⟩, ups]
  · rw [if_neg (fun z => e z.1), upn e]; exact h5 g'
theorem NwA.long {T T1 : TH} {a Ka g : Nat} {l : List (Nat × Nat × Nat)} {I : Nat → Int32} {J : Nat → Int64} (h : NwA T a Ka l I J T1) (v : Int64) : NwA T a Ka l I (va_up J g v) (s_l T1 g a v) := by
  obtain ⟨h1, h2, h3, h4, h5, h6, h7, h8⟩ := h
  refine ⟨h1, h2, h3.tr ⟨rfl, Nat.le_refl _, fun b hb => ⟨rfl, rfl, fun _ => rfl, fun g' => ?_, fun _ => rfl, rfl, rfl, rfl⟩⟩, h4, h5, fun g' => ?_, h7, h8⟩
  · rw [q_l_l, if_neg (fun z => hb (by omega))]
  · rw [q_l_l]
    by_cases e : g' = g
    · subst e; rw [if_pos ⟨rfl, rfl⟩, ups]
    · rw [if_neg (fun z => e z.1), upn e]; exact h6 g'
/-- a new object, before its constructor -/
theorem NwA.made {T : TH} {a Ka N : Nat} (h : e_n T = a) : NwA (s_new T Ka N) a Ka [] (fun _ => 0) (fun _ => 0) (s_new T Ka N) := by
  subst h
  exact ⟨rfl, rfl, FrA.rf, sn_K, fun g => sn_i, fun g => sn_l, fun g _ => sn_r, fun j g K N hj => by simp at hj⟩

set_option maxHeartbeats 4000000 in
theorem c_X4_init (d : Nat) {T T1 : TH} {a : Nat} (h0 : NwA T a 5 [] (fun _ => 0) (fun _ => 0) T1) : Xe m_X4_init (d + 2) 0 [(0, .ref a)] [] T1 (fun r T2 => r = none ∧ NwA T a 5 [(256, 21, 400)] (va_up (va_up (va_up (va_up (va_up (va_up (fun _ => 0) 257 (nI 0)) 258 (nI 0)) 259 (nI 0)) 260 (-1)) 261 (nI 0)) 262 (nI 0)) (va_up (fun _ => 0) 263 (lN 0)) T2) := by
  refine xe (fun _ _ kK => x_aload_n dX4_init_0 rfl 0 rfl kK) ?_
  refine xe (fun _ _ kK => x_objInit dX4_init_1 ml_X4_3 (Nat.le_of_ble_eq_true rfl) kK) ?_
  refine xe (fun _ _ kK => x_aload_n dX4_init_4 rfl 0 rfl kK) ?_
  refine xe (fun _ _ kK => x_sipush dX4_init_5 (show _ = nI 400 by decide) kK) ?_
  refine xe (fun _ _ kK => x_newab dX4_init_8 (show (nI 400) = nI 400 from rfl) (by omega) kK) ?_
  refine xe (fun _ _ kK => x_putrF dX4_init_10 ⟨fl_X4_9, fz_4_0.1, fz_4_0.2.1, rfl, rfl⟩ fz_4_0.2.2 (fun _ => rfl) (fun _ => rfl) h0.kn kK) ?_
  have h1 := h0.arr (K := 21) (N := 400) (g := 256) (by simp)
  generalize hT1 : (s_r (s_new T1 21 400) 256 a (some (e_n T1))) = V1 at h1 ⊢
  refine xe (fun _ _ kK => x_aload_n dX4_init_13 rfl 0 rfl kK) ?_
  refine xe (fun _ _ kK => x_iconst dX4_init_14 (show _ = nI 0 by decide) kK) ?_
  refine xe (fun _ _ kK => x_puti dX4_init_15 ⟨fl_X4_15, fz_4_1.1, fz_4_1.2.1⟩ (Or.inl fz_4_1.2.2) rfl rfl h1.2.2.2.1 kK) ?_
  have h2 := h1.int (g := 257) (nI 0)
  generalize hT2 : (s_i V1 257 a (nI 0)) = V2 at h2 ⊢
  refine xe (fun _ _ kK => x_aload_n dX4_init_18 rfl 0 rfl kK) ?_
  refine xe (fun _ _ kK => x_iconst dX4_init_19 (show _ = nI 0 by decide) kK) ?_
  refine xe (fun _ _ kK => x_puti dX4_init_20 ⟨fl_X4_19, fz_4_2.1, fz_4_2.2.1⟩ (Or.inl fz_4_2.2.2) rfl rfl h2.2.2.2.1 kK) ?_
  have h3 := h2.int (g := 258) (nI 0)
  generalize hT3 : (s_i V2 258 a (nI 0)) = V3 at h3 ⊢
  refine xe (fun _ _ kK => x_aload_n dX4_init_23 rfl 0 rfl kK) ?_
  refine xe (fun _ _ kK => x_iconst dX4_init_24 (show _ = nI 0 by decide) kK) ?_
  refine xe (fun _ _ kK => x_puti dX4_init_25 ⟨fl_X4_22, fz_4_3.1, fz_4_3.2.1⟩ (Or.inl fz_4_3.2.2) rfl rfl h3.2.2.2.1 kK) ?_
  have h4 := h3.int (g := 259) (nI 0)
  generalize hT4 : (s_i V3 259 a (nI 0)) = V4 at h4 ⊢
  refine xe (fun _ _ kK => x_aload_n dX4_init_28 rfl 0 rfl kK) ?_
  refine xe (fun _ _ kK => x_iconst dX4_init_29 (show _ = (-1) by decide) kK) ?_
  refine xe (fun _ _ kK => x_puti dX4_init_30 ⟨fl_X4_25, fz_4_4.1, fz_4_4.2.1⟩ (Or.inl fz_4_4.2.2) rfl rfl h4.2.2.2.1 kK) ?_
  have h5 := h4.int (g := 260) (-1)
  generalize hT5 : (s_i V4 260 a (-1)) = V5 at h5 ⊢
  refine xe (fun _ _ kK => x_aload_n dX4_init_33 rfl 0 rfl kK) ?_
  refine xe (fun _ _ kK => x_iconst dX4_init_34 (show _ = nI 0 by decide) kK) ?_
  refine xe (fun _ _ kK => x_puti dX4_init_35 ⟨fl_X4_28, fz_4_5.1, fz_4_5.2.1⟩ (Or.inl fz_4_5.2.2) rfl rfl h5.2.2.2.1 kK) ?_
  have h6 := h5.int (g := 261) (nI 0)
  generalize hT6 : (s_i V5 261 a (nI 0)) = V6 at h6 ⊢
  refine xe (fun _ _ kK => x_aload_n dX4_init_38 rfl 0 rfl kK) ?_
  refine xe (fun _ _ kK => x_iconst dX4_init_39 (show _ = nI 0 by decide) kK) ?_
  refine xe (fun _ _ kK => x_puti dX4_init_40 ⟨fl_X4_31, fz_4_6.1, fz_4_6.2.1⟩ (Or.inl fz_4_6.2.2) rfl rfl h6.2.2.2.1 kK) ?_
  have h7 := h6.int (g := 262) (nI 0)
  generalize hT7 : (s_i V6 262 a (nI 0)) = V7 at h7 ⊢
  refine xe (fun _ _ kK => x_aload_n dX4_init_43 rfl 0 rfl kK) ?_
  refine xe (fun _ _ kK => x_lconst dX4_init_44 (show _ = lN 0 by decide) kK) ?_
  refine xe (fun _ _ kK => x_putl dX4_init_45 ⟨fl_X4_34, fz_4_7.1, fz_4_7.2.1⟩ fz_4_7.2.2 rfl rfl h7.2.2.2.1 kK) ?_
  have h8 := h7.long (g := 263) (lN 0)
  generalize hT8 : (s_l V7 263 a (lN 0)) = V8 at h8 ⊢
  exact xe_retv dX4_init_48 rfl (⟨rfl, h8⟩)

set_option maxHeartbeats 4000000 in
theorem c_X3_init (d : Nat) {T T1 : TH} {a : Nat} (h0 : NwA T a 4 [] (fun _ => 0) (fun _ => 0) T1) : Xe m_X3_init (d + 2) 0 [(0, .ref a)] [] T1 (fun r T2 => r = none ∧ NwA T a 4 [(192, 20, 16), (193, 20, 16), (194, 20, 16), (195, 23, 16)] (va_up (va_up (va_up (va_up (va_up (fun _ => 0) 196 (nI 0)) 197 (nI 0)) 198 (nI 0)) 199 (nI 0)) 200 (nI 0)) (fun _ => 0) T2) := by
  refine xe (fun _ _ kK => x_aload_n dX3_init_0 rfl 0 rfl kK) ?_
  refine xe (fun _ _ kK => x_objInit dX3_init_1 ml_X3_3 (Nat.le_of_ble_eq_true rfl) kK) ?_
  refine xe (fun _ _ kK => x_aload_n dX3_init_4 rfl 0 rfl kK) ?_
  refine xe (fun _ _ kK => x_bipush dX3_init_5 (show _ = nI 16 by decide) kK) ?_
  refine xe (fun _ _ kK => x_newai dX3_init_7 (show (nI 16) = nI 16 from rfl) (by omega) kK) ?_
  refine xe (fun _ _ kK => x_putr dX3_init_9 ⟨fl_X3_9, fz_3_0.1, fz_3_0.2.1⟩ fz_3_0.2.2 (fun _ => rfl) (fun _ => rfl) h0.kn kK) ?_
  have h1 := h0.arr (K := 20) (N := 16) (g := 192) (by simp)
  generalize hT1 : (s_r (s_new T1 20 16) 192 a (some (e_n T1))) = V1 at h1 ⊢
  refine xe (fun _ _ kK => x_aload_n dX3_init_12 rfl 0 rfl kK) ?_
  refine xe (fun _ _ kK => x_bipush dX3_init_13 (show _ = nI 16 by decide) kK) ?_
  refine xe (fun _ _ kK => x_newai dX3_init_15 (show (nI 16) = nI 16 from rfl) (by omega) kK) ?_
  refine xe (fun _ _ kK => x_putr dX3_init_17 ⟨fl_X3_15, fz_3_1.1, fz_3_1.2.1⟩ fz_3_1.2.2 (fun _ => rfl) (fun _ => rfl) h1.kn kK) ?_
  have h2 := h1.arr (K := 20) (N := 16) (g := 193) (by simp)
  generalize hT2 : (s_r (s_new V1 20 16) 193 a (some (e_n V1))) = V2 at h2 ⊢
  refine xe (fun _ _ kK => x_aload_n dX3_init_20 rfl 0 rfl kK) ?_
  refine xe (fun _ _ kK => x_bipush dX3_init_21 (show _ = nI 16 by decide) kK) ?_
  refine xe (fun _ _ kK => x_newai dX3_init_23 (show (nI 16) = nI 16 from rfl) (by omega) kK) ?_
  refine xe (fun _ _ kK => x_putr dX3_init_25 ⟨fl_X3_18, fz_3_2.1, fz_3_2.2.1⟩ fz_3_2.2.2 (fun _ => rfl) (fun _ => rfl) h2.kn kK) ?_
  have h3 := h2.arr (K := 20) (N := 16) (g := 194) (by simp)
  generalize hT3 : (s_r (s_new V2 20 16) 194 a (some (e_n V2))) = V3 at h3 ⊢
  refine xe (fun _ _ kK => x_aload_n dX3_init_28 rfl 0 rfl kK) ?_
  refine xe (fun _ _ kK => x_bipush dX3_init_29 (show _ = nI 16 by decide) kK) ?_
  refine xe (fun _ _ kK => x_newaj dX3_init_31 (show (nI 16) = nI 16 from rfl) (by omega) kK) ?_
  refine xe (fun _ _ kK => x_putr dX3_init_33 ⟨fl_X3_21, fz_3_3.1, fz_3_3.2.1⟩ fz_3_3.2.2 (fun _ => rfl) (fun _ => rfl) h3.kn kK) ?_
  have h4 := h3.arr (K := 23) (N := 16) (g := 195) (by simp)
  generalize hT4 : (s_r (s_new V3 23 16) 195 a (some (e_n V3))) = V4 at h4 ⊢
  refine xe (fun _ _ kK => x_aload_n dX3_init_36 rfl 0 rfl kK) ?_
  refine xe (fun _ _ kK => x_iconst dX3_init_37 (show _ = nI 0 by decide) kK) ?_
  refine xe (fun _ _ kK => x_puti dX3_init_38 ⟨fl_X3_25, fz_3_4.1, fz_3_4.2.1⟩ (Or.inl fz_3_4.2.2) rfl rfl h4.2.2.2.1 kK) ?_
  have h5 := h4.int (g := 196) (nI 0)
  generalize hT5 : (s_i V4 196 a (nI 0)) = V5 at h5 ⊢
  refine xe (fun _ _ kK => x_aload_n dX3_init_41 rfl 0 rfl kK) ?_
  refine xe (fun _ _ kK => x_iconst dX3_init_42 (show _ = nI 0 by decide) kK) ?_
  refine xe (fun _ _ kK => x_puti dX3_init_43 ⟨fl_X3_29, fz_3_5.1, fz_3_5.2.1⟩ (Or.inl fz_3_5.2.2) rfl rfl h5.2.2.2.1 kK) ?_
  have h6 := h5.int (g := 197) (nI 0)
  generalize hT6 : (s_i V5 197 a (nI 0)) = V6 at h6 ⊢
  refine xe (fun _ _ kK => x_aload_n dX3_init_46 rfl 0 rfl kK) ?_
  refine xe (fun _ _ kK => x_iconst dX3_init_47 (show _ = nI 0 by decide) kK) ?_
  refine xe (fun _ _ kK => x_puti dX3_init_48 ⟨fl_X3_32, fz_3_6.1, fz_3_6.2.1⟩ (Or.inl fz_3_6.2.2) rfl rfl h6.2.2.2.1 kK) ?_
  have h7 := h6.int (g := 198) (nI 0)
  generalize hT7 : (s_i V6 198 a (nI 0)) = V7 at h7 ⊢
  refine xe (fun _ _ kK => x_aload_n dX3_init_51 rfl 0 rfl kK) ?_
  refine xe (fun _ _ kK => x_iconst dX3_init_52 (show _ = nI 0 by decide) kK) ?_
  refine xe (fun _ _ kK => x_puti dX3_init_53 ⟨fl_X3_35, fz_3_7.1, fz_3_7.2.1⟩ (Or.inr fz_3_7.2.2) rfl rfl h7.2.2.2.1 kK) ?_
  have h8 := h7.int (g := 199) (nI 0)
  generalize hT8 : (s_i V7 199 a (nI 0)) = V8 at h8 ⊢
  refine xe (fun _ _ kK => x_aload_n dX3_init_56 rfl 0 rfl kK) ?_
  refine xe (fun _ _ kK => x_iconst dX3_init_57 (show _ = nI 0 by decide) kK) ?_
  refine xe (fun _ _ kK => x_puti dX3_init_58 ⟨fl_X3_39, fz_3_8.1, fz_3_8.2.1⟩ (Or.inl fz_3_8.2.2) rfl rfl h8.2.2.2.1 kK) ?_
  have h9 := h8.int (g := 200) (nI 0)
  generalize hT9 : (s_i V8 200 a (nI 0)) = V9 at h9 ⊢
  exact xe_retv dX3_init_61 rfl (⟨rfl, h9⟩)

set_option maxHeartbeats 4000000 in
theorem c_X5_init (d : Nat) {T T1 : TH} {a : Nat} (h0 : NwA T a 6 [] (fun _ => 0) (fun _ => 0) T1) : Xe m_X5_init (d + 2) 0 [(0, .ref a)] [] T1 (fun r T2 => r = none ∧ NwA T a 6 [(320, 21, 400)] (va_up (fun _ => 0) 321 (nI 0)) (fun _ => 0) T2) := by
  refine xe (fun _ _ kK => x_aload_n dX5_init_0 rfl 0 rfl kK) ?_
  refine xe (fun _ _ kK => x_objInit dX5_init_1 ml_X5_3 (Nat.le_of_ble_eq_true rfl) kK) ?_
  refine xe (fun _ _ kK => x_aload_n dX5_init_4 rfl 0 rfl kK) ?_
  refine xe (fun _ _ kK => x_sipush dX5_init_5 (show _ = nI 400 by decide) kK) ?_
  refine xe (fun _ _ kK => x_newab dX5_init_8 (show (nI 400) = nI 400 from rfl) (by omega) kK) ?_
  refine xe (fun _ _ kK => x_putrF dX5_init_10 ⟨fl_X5_9, fz_5_0.1, fz_5_0.2.1, rfl, rfl⟩ fz_5_0.2.2 (fun _ => rfl) (fun _ => rfl) h0.kn kK) ?_
  have h1 := h0.arr (K := 21) (N := 400) (g := 320) (by simp)
  generalize hT1 : (s_r (s_new T1 21 400) 320 a (some (e_n T1))) = V1 at h1 ⊢
  refine xe (fun _ _ kK => x_aload_n dX5_init_13 rfl 0 rfl kK) ?_
  refine xe (fun _ _ kK => x_iconst dX5_init_14 (show _ = nI 0 by decide) kK) ?_
  refine xe (fun _ _ kK => x_puti dX5_init_15 ⟨fl_X5_15, fz_5_1.1, fz_5_1.2.1⟩ (Or.inl fz_5_1.2.2) rfl rfl h1.2.2.2.1 kK) ?_
  have h2 := h1.int (g := 321) (nI 0)
  generalize hT2 : (s_i V1 321 a (nI 0)) = V2 at h2 ⊢
  exact xe_retv dX5_init_18 rfl (⟨rfl, h2⟩)

set_option maxHeartbeats 4000000 in
theorem c_X1_init (d : Nat) {T T1 : TH} {a : Nat} (h0 : NwA T a 2 [] (fun _ => 0) (fun _ => 0) T1) : Xe m_X1_init (d + 2) 0 [(0, .ref a)] [] T1 (fun r T2 => r = none ∧ NwA T a 2 [(64, 23, 66), (65, 20, 66), (66, 20, 66), (67, 20, 66), (68, 20, 66), (69, 20, 66), (70, 20, 66), (71, 20, 66), (72, 20, 66), (73, 20, 12)] (va_up (va_up (fun _ => 0) 74 (nI 0)) 75 (nI 0)) (fun _ => 0) T2) := by
  refine xe (fun _ _ kK => x_aload_n dX1_init_0 rfl 0 rfl kK) ?_
  refine xe (fun _ _ kK => x_objInit dX1_init_1 ml_X1_3 (Nat.le_of_ble_eq_true rfl) kK) ?_
  refine xe (fun _ _ kK => x_aload_n dX1_init_4 rfl 0 rfl kK) ?_
  refine xe (fun _ _ kK => x_bipush dX1_init_5 (show _ = nI 66 by decide) kK) ?_
  refine xe (fun _ _ kK => x_newaj dX1_init_7 (show (nI 66) = nI 66 from rfl) (by omega) kK) ?_
  refine xe (fun _ _ kK => x_putrF dX1_init_9 ⟨fl_X1_9, fz_1_0.1, fz_1_0.2.1, rfl, rfl⟩ fz_1_0.2.2 (fun _ => rfl) (fun _ => rfl) h0.kn kK) ?_
  have h1 := h0.arr (K := 23) (N := 66) (g := 64) (by simp)
  generalize hT1 : (s_r (s_new T1 23 66) 64 a (some (e_n T1))) = V1 at h1 ⊢
  refine xe (fun _ _ kK => x_aload_n dX1_init_12 rfl 0 rfl kK) ?_
  refine xe (fun _ _ kK => x_bipush dX1_init_13 (show _ = nI 66 by decide) kK) ?_
  refine xe (fun _ _ kK => x_newai dX1_init_15 (show (nI 66) = nI 66 from rfl) (by omega) kK) ?_
  refine xe (fun _ _ kK => x_putrF dX1_init_17 ⟨fl_X1_15, fz_1_1.1, fz_1_1.2.1, rfl, rfl⟩ fz_1_1.2.2 (fun _ => rfl) (fun _ => rfl) h1.kn kK) ?_
  have h2 := h1.arr (K := 20) (N := 66) (g := 65) (by simp)
  generalize hT2 : (s_r (s_new V1 20 66) 65 a (some (e_n V1))) = V2 at h2 ⊢
  refine xe (fun _ _ kK => x_aload_n dX1_init_20 rfl 0 rfl kK) ?_
  refine xe (fun _ _ kK => x_bipush dX1_init_21 (show _ = nI 66 by decide) kK) ?_
  refine xe (fun _ _ kK => x_newai dX1_init_23 (show (nI 66) = nI 66 from rfl) (by omega) kK) ?_
  refine xe (fun _ _ kK => x_putrF dX1_init_25 ⟨fl_X1_19, fz_1_2.1, fz_1_2.2.1, rfl, rfl⟩ fz_1_2.2.2 (fun _ => rfl) (fun _ => rfl) h2.kn kK) ?_
  have h3 := h2.arr (K := 20) (N := 66) (g := 66) (by simp)
  generalize hT3 : (s_r (s_new V2 20 66) 66 a (some (e_n V2))) = V3 at h3 ⊢
  refine xe (fun _ _ kK => x_aload_n dX1_init_28 rfl 0 rfl kK) ?_
  refine xe (fun _ _ kK => x_bipush dX1_init_29 (show _ = nI 66 by decide) kK) ?_
  refine xe (fun _ _ kK => x_newai dX1_init_31 (show (nI 66) = nI 66 from rfl) (by omega) kK) ?_
  refine xe (fun _ _ kK => x_putrF dX1_init_33 ⟨fl_X1_22, fz_1_3.1, fz_1_3.2.1, rfl, rfl⟩ fz_1_3.2.2 (fun _ => rfl) (fun _ => rfl) h3.kn kK) ?_
  have h4 := h3.arr (K := 20) (N := 66) (g := 67) (by simp)
  generalize hT4 : (s_r (s_new V3 20 66) 67 a (some (e_n V3))) = V4 at h4 ⊢
  refine xe (fun _ _ kK => x_aload_n dX1_init_36 rfl 0 rfl kK) ?_
  refine xe (fun _ _ kK => x_bipush dX1_init_37 (show _ = nI 66 by decide) kK) ?_
  refine xe (fun _ _ kK => x_newai dX1_init_39 (show (nI 66) = nI 66 from rfl) (by omega) kK) ?_
  refine xe (fun _ _ kK => x_putrF dX1_init_41 ⟨fl_X1_25, fz_1_4.1, fz_1_4.2.1, rfl, rfl⟩ fz_1_4.2.2 (fun _ => rfl) (fun _ => rfl) h4.kn kK) ?_
  have h5 := h4.arr (K := 20) (N := 66) (g := 68) (by simp)
  generalize hT5 : (s_r (s_new V4 20 66) 68 a (some (e_n V4))) = V5 at h5 ⊢
  refine xe (fun _ _ kK => x_aload_n dX1_init_44 rfl 0 rfl kK) ?_
  refine xe (fun _ _ kK => x_bipush dX1_init_45 (show _ = nI 66 by decide) kK) ?_
  refine xe (fun _ _ kK => x_newai dX1_init_47 (show (nI 66) = nI 66 from rfl) (by omega) kK) ?_
  refine xe (fun _ _ kK => x_putrF dX1_init_49 ⟨fl_X1_28, fz_1_5.1, fz_1_5.2.1, rfl, rfl⟩ fz_1_5.2.2 (fun _ => rfl) (fun _ => rfl) h5.kn kK) ?_
  have h6 := h5.arr (K := 20) (N := 66) (g := 69) (by simp)
  generalize hT6 : (s_r (s_new V5 20 66) 69 a (some (e_n V5))) = V6 at h6 ⊢
  refine xe (fun _ _ kK => x_aload_n dX1_init_52 rfl 0 rfl kK) ?_
  refine xe (fun _ _ kK => x_bipush dX1_init_53 (show _ = nI 66 by decide) kK) ?_
  refine xe (fun _ _ kK => x_newai dX1_init_55 (show (nI 66) = nI 66 from rfl) (by omega) kK) ?_
  refine xe (fun _ _ kK => x_putrF dX1_init_57 ⟨fl_X1_31, fz_1_6.1, fz_1_6.2.1, rfl, rfl⟩ fz_1_6.2.2 (fun _ => rfl) (fun _ => rfl) h6.kn kK) ?_
  have h7 := h6.arr (K := 20) (N := 66) (g := 70) (by simp)
  generalize hT7 : (s_r (s_new V6 20 66) 70 a (some (e_n V6))) = V7 at h7 ⊢
  refine xe (fun _ _ kK => x_aload_n dX1_init_60 rfl 0 rfl kK) ?_
  refine xe (fun _ _ kK => x_bipush dX1_init_61 (show _ = nI 66 by decide) kK) ?_
  refine xe (fun _ _ kK => x_newai dX1_init_63 (show (nI 66) = nI 66 from rfl) (by omega) kK) ?_
  refine xe (fun _ _ kK => x_putrF dX1_init_65 ⟨fl_X1_34, fz_1_7.1, fz_1_7.2.1, rfl, rfl⟩ fz_1_7.2.2 (fun _ => rfl) (fun _ => rfl) h7.kn kK) ?_
  have h8 := h7.arr (K := 20) (N := 66) (g := 71) (by simp)
  generalize hT8 : (s_r (s_new V7 20 66) 71 a (some (e_n V7))) = V8 at h8 ⊢
  refine xe (fun _ _ kK => x_aload_n dX1_init_68 rfl 0 rfl kK) ?_
  refine xe (fun _ _ kK => x_bipush dX1_init_69 (show _ = nI 66 by decide) kK) ?_
  refine xe (fun _ _ kK => x_newai dX1_init_71 (show (nI 66) = nI 66 from rfl) (by omega) kK) ?_
  refine xe (fun _ _ kK => x_putrF dX1_init_73 ⟨fl_X1_37, fz_1_8.1, fz_1_8.2.1, rfl, rfl⟩ fz_1_8.2.2 (fun _ => rfl) (fun _ => rfl) h8.kn kK) ?_
  have h9 := h8.arr (K := 20) (N := 66) (g := 72) (by simp)
  generalize hT9 : (s_r (s_new V8 20 66) 72 a (some (e_n V8))) = V9 at h9 ⊢
  refine xe (fun _ _ kK => x_aload_n dX1_init_76 rfl 0 rfl kK) ?_
  refine xe (fun _ _ kK => x_bipush dX1_init_77 (show _ = nI 12 by decide) kK) ?_
  refine xe (fun _ _ kK => x_newai dX1_init_79 (show (nI 12) = nI 12 from rfl) (by omega) kK) ?_
  refine xe (fun _ _ kK => x_putrF dX1_init_81 ⟨fl_X1_40, fz_1_9.1, fz_1_9.2.1, rfl, rfl⟩ fz_1_9.2.2 (fun _ => rfl) (fun _ => rfl) h9.kn kK) ?_
  have h10 := h9.arr (K := 20) (N := 12) (g := 73) (by simp)
  generalize hT10 : (s_r (s_new V9 20 12) 73 a (some (e_n V9))) = V10 at h10 ⊢
  refine xe (fun _ _ kK => x_aload_n dX1_init_84 rfl 0 rfl kK) ?_
  refine xe (fun _ _ kK => x_iconst dX1_init_85 (show _ = nI 0 by decide) kK) ?_
  refine xe (fun _ _ kK => x_puti dX1_init_86 ⟨fl_X1_43, fz_1_10.1, fz_1_10.2.1⟩ (Or.inl fz_1_10.2.2) rfl rfl h10.2.2.2.1 kK) ?_
  have h11 := h10.int (g := 74) (nI 0)
  generalize hT11 : (s_i V10 74 a (nI 0)) = V11 at h11 ⊢
  refine xe (fun _ _ kK => x_aload_n dX1_init_89 rfl 0 rfl kK) ?_
  refine xe (fun _ _ kK => x_iconst dX1_init_90 (show _ = nI 0 by decide) kK) ?_
  refine xe (fun _ _ kK => x_puti dX1_init_91 ⟨fl_X1_47, fz_1_11.1, fz_1_11.2.1⟩ (Or.inl fz_1_11.2.2) rfl rfl h11.2.2.2.1 kK) ?_
  have h12 := h11.int (g := 75) (nI 0)
  generalize hT12 : (s_i V11 75 a (nI 0)) = V12 at h12 ⊢
  exact xe_retv dX1_init_94 rfl (⟨rfl, h12⟩)

set_option maxHeartbeats 4000000 in
theorem c_X8_packed (d : Nat) {T : TH} (x y z u : Int32) : Xe m_X8_packed d 0 [(0, .int x), (1, .int y), (2, .int z), (3, .int u)] [] T (fun r T1 => r = some (.long (if u = nI 32 then ((((lN 27) * (((((lN 27) * (((x - (nI 97)).toInt64) + (lN 1))) + y.toInt64) - (lN 97)) + (lN 1))) + z.toInt64) - (lN 97)) + (lN 1) else ((((lN 27) * (((((lN 27) * (((((lN 27) * (((x - (nI 97)).toInt64) + (lN 1))) + y.toInt64) - (lN 97)) + (lN 1))) + z.toInt64) - (lN 97)) + (lN 1))) + u.toInt64) - (lN 97)) + (lN 1))) ∧ T1 = T) := by
  refine xe (fun _ _ kK => x_ldc2 dX8_packed_0 kl_X8_156 kK) ?_
  refine xe_tl (show _ = lN 27 from by decide) ?_
  refine xe (fun _ _ kK => x_ldc2 dX8_packed_3 kl_X8_156 kK) ?_
  refine xe_tl (show _ = lN 27 from by decide) ?_
  refine xe (fun _ _ kK => x_iload_n dX8_packed_6 rfl 0 rfl kK) ?_
  refine xe (fun _ _ kK => x_bipush dX8_packed_7 (show _ = nI 97 by decide) kK) ?_
  refine xe (fun _ _ kK => x_isub dX8_packed_9 kK) ?_
  refine xe (fun _ _ kK => x_i2l dX8_packed_10 kK) ?_
  refine xe (fun _ _ kK => x_lconst dX8_packed_11 (show _ = lN 1 by decide) kK) ?_
  refine xe (fun _ _ kK => x_ladd dX8_packed_12 kK) ?_
  refine xe (fun _ _ kK => x_lmul dX8_packed_13 kK) ?_
  refine xe (fun _ _ kK => x_iload_n dX8_packed_14 rfl 1 rfl kK) ?_
  refine xe (fun _ _ kK => x_i2l dX8_packed_15 kK) ?_
  refine xe (fun _ _ kK => x_ladd dX8_packed_16 kK) ?_
  refine xe (fun _ _ kK => x_ldc2 dX8_packed_17 kl_X8_158 kK) ?_
  refine xe_tl (show _ = lN 97 from by decide) ?_
  refine xe (fun _ _ kK => x_lsub dX8_packed_20 kK) ?_
  refine xe (fun _ _ kK => x_lconst dX8_packed_21 (show _ = lN 1 by decide) kK) ?_
  refine xe (fun _ _ kK => x_ladd dX8_packed_22 kK) ?_
  refine xe (fun _ _ kK => x_lmul dX8_packed_23 kK) ?_
  refine xe (fun _ _ kK => x_iload_n dX8_packed_24 rfl 2 rfl kK) ?_
  refine xe (fun _ _ kK => x_i2l dX8_packed_25 kK) ?_
  refine xe (fun _ _ kK => x_ladd dX8_packed_26 kK) ?_
  refine xe (fun _ _ kK => x_ldc2 dX8_packed_27 kl_X8_158 kK) ?_
  refine xe_tl (show _ = lN 97 from by decide) ?_
  refine xe (fun _ _ kK => x_lsub dX8_packed_30 kK) ?_
  refine xe (fun _ _ kK => x_lconst dX8_packed_31 (show _ = lN 1 by decide) kK) ?_
  refine xe (fun _ _ kK => x_ladd dX8_packed_32 kK) ?_
  refine xe (fun _ _ kK => x_lstore dX8_packed_33 (by decide) (show _ = [(4, .long (((((lN 27) * (((((lN 27) * (((x - (nI 97)).toInt64) + (lN 1))) + y.toInt64) - (lN 97)) + (lN 1))) + z.toInt64) - (lN 97)) + (lN 1))), (0, .int x), (1, .int y), (2, .int z), (3, .int u)] from rfl) kK) ?_
  refine xe (fun _ _ kK => x_iload_n dX8_packed_35 rfl 4 rfl kK) ?_
  refine xe (fun _ _ kK => x_bipush dX8_packed_36 (show _ = nI 32 by decide) kK) ?_
  refine xe_icmp_ne (tgt := 46) dX8_packed_38 (by decide) (fun h38 => ?_) (fun h38 => ?_)
  · -- pc 46
    refine xe (fun _ _ kK => x_ldc2 dX8_packed_46 kl_X8_156 kK) ?_
    refine xe_tl (show _ = lN 27 from by decide) ?_
    refine xe (fun _ _ kK => x_lload dX8_packed_49 0 rfl kK) ?_
    refine xe (fun _ _ kK => x_lmul dX8_packed_51 kK) ?_
    refine xe (fun _ _ kK => x_iload_n dX8_packed_52 rfl 4 rfl kK) ?_
    refine xe (fun _ _ kK => x_i2l dX8_packed_53 kK) ?_
    refine xe (fun _ _ kK => x_ladd dX8_packed_54 kK) ?_
    refine xe (fun _ _ kK => x_ldc2 dX8_packed_55 kl_X8_158 kK) ?_
    refine xe_tl (show _ = lN 97 from by decide) ?_
    refine xe (fun _ _ kK => x_lsub dX8_packed_58 kK) ?_
    refine xe (fun _ _ kK => x_lconst dX8_packed_59 (show _ = lN 1 by decide) kK) ?_
    refine xe (fun _ _ kK => x_ladd dX8_packed_60 kK) ?_
    exact xe_retl dX8_packed_61 rfl (⟨by rw [if_neg h38], rfl⟩)
  · -- pc 41
    refine xe (fun _ _ kK => x_lload dX8_packed_41 0 rfl kK) ?_
    refine xe (fun _ _ kK => x_goto (tgt := 61) dX8_packed_43 (by decide) kK) ?_
    exact xe_retl dX8_packed_61 rfl (⟨by rw [if_pos h38], rfl⟩)

set_option maxHeartbeats 4000000 in
theorem c_X8_init (d : Nat) {T T1 : TH} {a : Nat} (h0 : NwA T a 9 [] (fun _ => 0) (fun _ => 0) T1) : Xe m_X8_init (d + 2) 0 [(0, .ref a)] [] T1 (fun r T2 => r = none ∧ NwA T a 9 [(512, 20, 400), (528, 20, 80), (529, 23, 80), (530, 20, 80), (531, 20, 80), (532, 20, 12), (535, 20, 80), (536, 23, 80), (537, 20, 80), (538, 20, 80), (539, 20, 12), (540, 20, 8), (541, 20, 8), (544, 20, 31), (545, 20, 6200), (546, 20, 6200), (547, 23, 6200), (550, 20, 8), (552, 20, 6300), (553, 20, 6300), (554, 22, 6300), (555, 23, 6300), (556, 20, 6300), (557, 20, 8), (558, 20, 8), (559, 20, 8), (560, 20, 8), (561, 20, 8), (563, 20, 1000), (564, 22, 80), (565, 20, 8)] (va_up (fun _ => 0) 519 (-1)) (va_up (va_up (va_up (va_up (va_up (fun _ => 0) 520 (lN w_num)) 521 (lN w_word)) 522 (lN w_one)) 523 (lN w_opt)) 524 (lN w_many)) T2) := by
  refine xe (fun _ _ kK => x_aload_n dX8_init_0 rfl 0 rfl kK) ?_
  refine xe (fun _ _ kK => x_objInit dX8_init_1 ml_X8_1 (Nat.le_of_ble_eq_true rfl) kK) ?_
  refine xe (fun _ _ kK => x_aload_n dX8_init_4 rfl 0 rfl kK) ?_
  refine xe (fun _ _ kK => x_sipush dX8_init_5 (show _ = nI 400 by decide) kK) ?_
  refine xe (fun _ _ kK => x_newai dX8_init_8 (show (nI 400) = nI 400 from rfl) (by omega) kK) ?_
  refine xe (fun _ _ kK => x_putrF dX8_init_10 ⟨fl_X8_7, fz_8_0.1, fz_8_0.2.1, rfl, rfl⟩ fz_8_0.2.2 (fun _ => rfl) (fun _ => rfl) h0.kn kK) ?_
  have h1 := h0.arr (K := 20) (N := 400) (g := 512) (by simp)
  generalize hT1 : (s_r (s_new T1 20 400) 512 a (some (e_n T1))) = V1 at h1 ⊢
  refine xe (fun _ _ kK => x_aload_n dX8_init_13 rfl 0 rfl kK) ?_
  refine xe (fun _ _ kK => x_iconst dX8_init_14 (show _ = (-1) by decide) kK) ?_
  refine xe (fun _ _ kK => x_puti dX8_init_15 ⟨fl_X8_13, fz_8_7.1, fz_8_7.2.1⟩ (Or.inl fz_8_7.2.2) rfl rfl h1.2.2.2.1 kK) ?_
  have h2 := h1.int (g := 519) (-1)
  generalize hT2 : (s_i V1 519 a (-1)) = V2 at h2 ⊢
  refine xe (fun _ _ kK => x_aload_n dX8_init_18 rfl 0 rfl kK) ?_
  refine xe (fun _ _ kK => x_bipush dX8_init_19 (show _ = nI 110 by decide) kK) ?_
  refine xe (fun _ _ kK => x_bipush dX8_init_21 (show _ = nI 117 by decide) kK) ?_
  refine xe (fun _ _ kK => x_bipush dX8_init_23 (show _ = nI 109 by decide) kK) ?_
  refine xe (fun _ _ kK => x_bipush dX8_init_25 (show _ = nI 32 by decide) kK) ?_
  refine xe_callS [.int (nI 110), .int (nI 117), .int (nI 109), .int (nI 32)] dX8_init_27 ml_X8_17 mf_X8_packed (by have := c_X8_packed (d + 1) (T := V2) (nI 110) (nI 117) (nI 109) (nI 32); rw [show (if nI 32 = nI 32 then _ else _) = lN w_num by decide] at this; exact this) rfl rfl (Nat.le_of_ble_eq_true rfl) (Nat.le_of_ble_eq_true rfl) ?_
  rintro _ T9 ⟨rfl, hTq9⟩
  refine xe_T hTq9 ?_
  refine xe (fun _ _ kK => x_putlF dX8_init_30 ⟨fl_X8_21, fz_8_8.1, fz_8_8.2.1, rfl, rfl⟩ fz_8_8.2.2 rfl rfl h2.2.2.2.1 kK) ?_
  have h3 := h2.long (g := 520) (lN w_num)
  generalize hT3 : (s_l V2 520 a (lN w_num)) = V3 at h3 ⊢
  refine xe (fun _ _ kK => x_aload_n dX8_init_33 rfl 0 rfl kK) ?_
  refine xe (fun _ _ kK => x_bipush dX8_init_34 (show _ = nI 119 by decide) kK) ?_
  refine xe (fun _ _ kK => x_bipush dX8_init_36 (show _ = nI 111 by decide) kK) ?_
  refine xe (fun _ _ kK => x_bipush dX8_init_38 (show _ = nI 114 by decide) kK) ?_
  refine xe (fun _ _ kK => x_bipush dX8_init_40 (show _ = nI 100 by decide) kK) ?_
  refine xe_callS [.int (nI 119), .int (nI 111), .int (nI 114), .int (nI 100)] dX8_init_42 ml_X8_17 mf_X8_packed (by have := c_X8_packed (d + 1) (T := V3) (nI 119) (nI 111) (nI 114) (nI 100); rw [show (if nI 100 = nI 32 then _ else _) = lN w_word by decide] at this; exact this) rfl rfl (Nat.le_of_ble_eq_true rfl) (Nat.le_of_ble_eq_true rfl) ?_
  rintro _ T9 ⟨rfl, hTq9⟩
  refine xe_T hTq9 ?_
  refine xe (fun _ _ kK => x_putlF dX8_init_45 ⟨fl_X8_25, fz_8_9.1, fz_8_9.2.1, rfl, rfl⟩ fz_8_9.2.2 rfl rfl h3.2.2.2.1 kK) ?_
  have h4 := h3.long (g := 521) (lN w_word)
  generalize hT4 : (s_l V3 521 a (lN w_word)) = V4 at h4 ⊢
  refine xe (fun _ _ kK => x_aload_n dX8_init_48 rfl 0 rfl kK) ?_
  refine xe (fun _ _ kK => x_bipush dX8_init_49 (show _ = nI 111 by decide) kK) ?_
  refine xe (fun _ _ kK => x_bipush dX8_init_51 (show _ = nI 110 by decide) kK) ?_
  refine xe (fun _ _ kK => x_bipush dX8_init_53 (show _ = nI 101 by decide) kK) ?_
  refine xe (fun _ _ kK => x_bipush dX8_init_55 (show _ = nI 32 by decide) kK) ?_
  refine xe_callS [.int (nI 111), .int (nI 110), .int (nI 101), .int (nI 32)] dX8_init_57 ml_X8_17 mf_X8_packed (by have := c_X8_packed (d + 1) (T := V4) (nI 111) (nI 110) (nI 101) (nI 32); rw [show (if nI 32 = nI 32 then _ else _) = lN w_one by decide] at this; exact this) rfl rfl (Nat.le_of_ble_eq_true rfl) (Nat.le_of_ble_eq_true rfl) ?_
  rintro _ T9 ⟨rfl, hTq9⟩
  refine xe_T hTq9 ?_
  refine xe (fun _ _ kK => x_putlF dX8_init_60 ⟨fl_X8_28, fz_8_10.1, fz_8_10.2.1, rfl, rfl⟩ fz_8_10.2.2 rfl rfl h4.2.2.2.1 kK) ?_
  have h5 := h4.long (g := 522) (lN w_one)
  generalize hT5 : (s_l V4 522 a (lN w_one)) = V5 at h5 ⊢
  refine xe (fun _ _ kK => x_aload_n dX8_init_63 rfl 0 rfl kK) ?_
  refine xe (fun _ _ kK => x_bipush dX8_init_64 (show _ = nI 111 by decide) kK) ?_
  refine xe (fun _ _ kK => x_bipush dX8_init_66 (show _ = nI 112 by decide) kK) ?_
  refine xe (fun _ _ kK => x_bipush dX8_init_68 (show _ = nI 116 by decide) kK) ?_
  refine xe (fun _ _ kK => x_bipush dX8_init_70 (show _ = nI 32 by decide) kK) ?_
  refine xe_callS [.int (nI 111), .int (nI 112), .int (nI 116), .int (nI 32)] dX8_init_72 ml_X8_17 mf_X8_packed (by have := c_X8_packed (d + 1) (T := V5) (nI 111) (nI 112) (nI 116) (nI 32); rw [show (if nI 32 = nI 32 then _ else _) = lN w_opt by decide] at this; exact this) rfl rfl (Nat.le_of_ble_eq_true rfl) (Nat.le_of_ble_eq_true rfl) ?_
  rintro _ T9 ⟨rfl, hTq9⟩
  refine xe_T hTq9 ?_
  refine xe (fun _ _ kK => x_putlF dX8_init_75 ⟨fl_X8_31, fz_8_11.1, fz_8_11.2.1, rfl, rfl⟩ fz_8_11.2.2 rfl rfl h5.2.2.2.1 kK) ?_
  have h6 := h5.long (g := 523) (lN w_opt)
  generalize hT6 : (s_l V5 523 a (lN w_opt)) = V6 at h6 ⊢
  refine xe (fun _ _ kK => x_aload_n dX8_init_78 rfl 0 rfl kK) ?_
  refine xe (fun _ _ kK => x_bipush dX8_init_79 (show _ = nI 109 by decide) kK) ?_
  refine xe (fun _ _ kK => x_bipush dX8_init_81 (show _ = nI 97 by decide) kK) ?_
  refine xe (fun _ _ kK => x_bipush dX8_init_83 (show _ = nI 110 by decide) kK) ?_
  refine xe (fun _ _ kK => x_bipush dX8_init_85 (show _ = nI 121 by decide) kK) ?_
  refine xe_callS [.int (nI 109), .int (nI 97), .int (nI 110), .int (nI 121)] dX8_init_87 ml_X8_17 mf_X8_packed (by have := c_X8_packed (d + 1) (T := V6) (nI 109) (nI 97) (nI 110) (nI 121); rw [show (if nI 121 = nI 32 then _ else _) = lN w_many by decide] at this; exact this) rfl rfl (Nat.le_of_ble_eq_true rfl) (Nat.le_of_ble_eq_true rfl) ?_
  rintro _ T9 ⟨rfl, hTq9⟩
  refine xe_T hTq9 ?_
  refine xe (fun _ _ kK => x_putlF dX8_init_90 ⟨fl_X8_34, fz_8_12.1, fz_8_12.2.1, rfl, rfl⟩ fz_8_12.2.2 rfl rfl h6.2.2.2.1 kK) ?_
  have h7 := h6.long (g := 524) (lN w_many)
  generalize hT7 : (s_l V6 524 a (lN w_many)) = V7 at h7 ⊢
  refine xe (fun _ _ kK => x_aload_n dX8_init_93 rfl 0 rfl kK) ?_
  refine xe (fun _ _ kK => x_bipush dX8_init_94 (show _ = nI 80 by decide) kK) ?_
  refine xe (fun _ _ kK => x_newai dX8_init_96 (show (nI 80) = nI 80 from rfl) (by omega) kK) ?_
  refine xe (fun _ _ kK => x_putrF dX8_init_98 ⟨fl_X8_37, fz_8_16.1, fz_8_16.2.1, rfl, rfl⟩ fz_8_16.2.2 (fun _ => rfl) (fun _ => rfl) h7.kn kK) ?_
  have h8 := h7.arr (K := 20) (N := 80) (g := 528) (by simp)
  generalize hT8 : (s_r (s_new V7 20 80) 528 a (some (e_n V7))) = V8 at h8 ⊢
  refine xe (fun _ _ kK => x_aload_n dX8_init_101 rfl 0 rfl kK) ?_
  refine xe (fun _ _ kK => x_bipush dX8_init_102 (show _ = nI 80 by decide) kK) ?_
  refine xe (fun _ _ kK => x_newaj dX8_init_104 (show (nI 80) = nI 80 from rfl) (by omega) kK) ?_
  refine xe (fun _ _ kK => x_putrF dX8_init_106 ⟨fl_X8_40, fz_8_17.1, fz_8_17.2.1, rfl, rfl⟩ fz_8_17.2.2 (fun _ => rfl) (fun _ => rfl) h8.kn kK) ?_
  have h9 := h8.arr (K := 23) (N := 80) (g := 529) (by simp)
  generalize hT9 : (s_r (s_new V8 23 80) 529 a (some (e_n V8))) = V9 at h9 ⊢
  refine xe (fun _ _ kK => x_aload_n dX8_init_109 rfl 0 rfl kK) ?_
  refine xe (fun _ _ kK => x_bipush dX8_init_110 (show _ = nI 80 by decide) kK) ?_
  refine xe (fun _ _ kK => x_newai dX8_init_112 (show (nI 80) = nI 80 from rfl) (by omega) kK) ?_
  refine xe (fun _ _ kK => x_putrF dX8_init_114 ⟨fl_X8_44, fz_8_18.1, fz_8_18.2.1, rfl, rfl⟩ fz_8_18.2.2 (fun _ => rfl) (fun _ => rfl) h9.kn kK) ?_
  have h10 := h9.arr (K := 20) (N := 80) (g := 530) (by simp)
  generalize hT10 : (s_r (s_new V9 20 80) 530 a (some (e_n V9))) = V10 at h10 ⊢
  refine xe (fun _ _ kK => x_aload_n dX8_init_117 rfl 0 rfl kK) ?_
  refine xe (fun _ _ kK => x_bipush dX8_init_118 (show _ = nI 80 by decide) kK) ?_
  refine xe (fun _ _ kK => x_newai dX8_init_120 (show (nI 80) = nI 80 from rfl) (by omega) kK) ?_
  refine xe (fun _ _ kK => x_putrF dX8_init_122 ⟨fl_X8_47, fz_8_19.1, fz_8_19.2.1, rfl, rfl⟩ fz_8_19.2.2 (fun _ => rfl) (fun _ => rfl) h10.kn kK) ?_
  have h11 := h10.arr (K := 20) (N := 80) (g := 531) (by simp)
  generalize hT11 : (s_r (s_new V10 20 80) 531 a (some (e_n V10))) = V11 at h11 ⊢
  refine xe (fun _ _ kK => x_aload_n dX8_init_125 rfl 0 rfl kK) ?_
  refine xe (fun _ _ kK => x_bipush dX8_init_126 (show _ = nI 12 by decide) kK) ?_
  refine xe (fun _ _ kK => x_newai dX8_init_128 (show (nI 12) = nI 12 from rfl) (by omega) kK) ?_
  refine xe (fun _ _ kK => x_putrF dX8_init_130 ⟨fl_X8_50, fz_8_20.1, fz_8_20.2.1, rfl, rfl⟩ fz_8_20.2.2 (fun _ => rfl) (fun _ => rfl) h11.kn kK) ?_
  have h12 := h11.arr (K := 20) (N := 12) (g := 532) (by simp)
  generalize hT12 : (s_r (s_new V11 20 12) 532 a (some (e_n V11))) = V12 at h12 ⊢
  refine xe (fun _ _ kK => x_aload_n dX8_init_133 rfl 0 rfl kK) ?_
  refine xe (fun _ _ kK => x_bipush dX8_init_134 (show _ = nI 80 by decide) kK) ?_
  refine xe (fun _ _ kK => x_newai dX8_init_136 (show (nI 80) = nI 80 from rfl) (by omega) kK) ?_
  refine xe (fun _ _ kK => x_putrF dX8_init_138 ⟨fl_X8_53, fz_8_23.1, fz_8_23.2.1, rfl, rfl⟩ fz_8_23.2.2 (fun _ => rfl) (fun _ => rfl) h12.kn kK) ?_
  have h13 := h12.arr (K := 20) (N := 80) (g := 535) (by simp)
  generalize hT13 : (s_r (s_new V12 20 80) 535 a (some (e_n V12))) = V13 at h13 ⊢
  refine xe (fun _ _ kK => x_aload_n dX8_init_141 rfl 0 rfl kK) ?_
  refine xe (fun _ _ kK => x_bipush dX8_init_142 (show _ = nI 80 by decide) kK) ?_
  refine xe (fun _ _ kK => x_newaj dX8_init_144 (show (nI 80) = nI 80 from rfl) (by omega) kK) ?_
  refine xe (fun _ _ kK => x_putrF dX8_init_146 ⟨fl_X8_56, fz_8_24.1, fz_8_24.2.1, rfl, rfl⟩ fz_8_24.2.2 (fun _ => rfl) (fun _ => rfl) h13.kn kK) ?_
  have h14 := h13.arr (K := 23) (N := 80) (g := 536) (by simp)
  generalize hT14 : (s_r (s_new V13 23 80) 536 a (some (e_n V13))) = V14 at h14 ⊢
  refine xe (fun _ _ kK => x_aload_n dX8_init_149 rfl 0 rfl kK) ?_
  refine xe (fun _ _ kK => x_bipush dX8_init_150 (show _ = nI 80 by decide) kK) ?_
  refine xe (fun _ _ kK => x_newai dX8_init_152 (show (nI 80) = nI 80 from rfl) (by omega) kK) ?_
  refine xe (fun _ _ kK => x_putrF dX8_init_154 ⟨fl_X8_59, fz_8_25.1, fz_8_25.2.1, rfl, rfl⟩ fz_8_25.2.2 (fun _ => rfl) (fun _ => rfl) h14.kn kK) ?_
  have h15 := h14.arr (K := 20) (N := 80) (g := 537) (by simp)
  generalize hT15 : (s_r (s_new V14 20 80) 537 a (some (e_n V14))) = V15 at h15 ⊢
  refine xe (fun _ _ kK => x_aload_n dX8_init_157 rfl 0 rfl kK) ?_
  refine xe (fun _ _ kK => x_bipush dX8_init_158 (show _ = nI 80 by decide) kK) ?_
  refine xe (fun _ _ kK => x_newai dX8_init_160 (show (nI 80) = nI 80 from rfl) (by omega) kK) ?_
  refine xe (fun _ _ kK => x_putrF dX8_init_162 ⟨fl_X8_62, fz_8_26.1, fz_8_26.2.1, rfl, rfl⟩ fz_8_26.2.2 (fun _ => rfl) (fun _ => rfl) h15.kn kK) ?_
  have h16 := h15.arr (K := 20) (N := 80) (g := 538) (by simp)
  generalize hT16 : (s_r (s_new V15 20 80) 538 a (some (e_n V15))) = V16 at h16 ⊢
  refine xe (fun _ _ kK => x_aload_n dX8_init_165 rfl 0 rfl kK) ?_
  refine xe (fun _ _ kK => x_bipush dX8_init_166 (show _ = nI 12 by decide) kK) ?_
  refine xe (fun _ _ kK => x_newai dX8_init_168 (show (nI 12) = nI 12 from rfl) (by omega) kK) ?_
  refine xe (fun _ _ kK => x_putrF dX8_init_170 ⟨fl_X8_65, fz_8_27.1, fz_8_27.2.1, rfl, rfl⟩ fz_8_27.2.2 (fun _ => rfl) (fun _ => rfl) h16.kn kK) ?_
  have h17 := h16.arr (K := 20) (N := 12) (g := 539) (by simp)
  generalize hT17 : (s_r (s_new V16 20 12) 539 a (some (e_n V16))) = V17 at h17 ⊢
  refine xe (fun _ _ kK => x_aload_n dX8_init_173 rfl 0 rfl kK) ?_
  refine xe (fun _ _ kK => x_bipush dX8_init_174 (show _ = nI 8 by decide) kK) ?_
  refine xe (fun _ _ kK => x_newai dX8_init_176 (show (nI 8) = nI 8 from rfl) (by omega) kK) ?_
  refine xe (fun _ _ kK => x_putrF dX8_init_178 ⟨fl_X8_68, fz_8_28.1, fz_8_28.2.1, rfl, rfl⟩ fz_8_28.2.2 (fun _ => rfl) (fun _ => rfl) h17.kn kK) ?_
  have h18 := h17.arr (K := 20) (N := 8) (g := 540) (by simp)
  generalize hT18 : (s_r (s_new V17 20 8) 540 a (some (e_n V17))) = V18 at h18 ⊢
  refine xe (fun _ _ kK => x_aload_n dX8_init_181 rfl 0 rfl kK) ?_
  refine xe (fun _ _ kK => x_bipush dX8_init_182 (show _ = nI 8 by decide) kK) ?_
  refine xe (fun _ _ kK => x_newai dX8_init_184 (show (nI 8) = nI 8 from rfl) (by omega) kK) ?_
  refine xe (fun _ _ kK => x_putrF dX8_init_186 ⟨fl_X8_71, fz_8_29.1, fz_8_29.2.1, rfl, rfl⟩ fz_8_29.2.2 (fun _ => rfl) (fun _ => rfl) h18.kn kK) ?_
  have h19 := h18.arr (K := 20) (N := 8) (g := 541) (by simp)
  generalize hT19 : (s_r (s_new V18 20 8) 541 a (some (e_n V18))) = V19 at h19 ⊢
  refine xe (fun _ _ kK => x_aload_n dX8_init_189 rfl 0 rfl kK) ?_
  refine xe (fun _ _ kK => x_bipush dX8_init_190 (show _ = nI 31 by decide) kK) ?_
  refine xe (fun _ _ kK => x_newai dX8_init_192 (show (nI 31) = nI 31 from rfl) (by omega) kK) ?_
  refine xe (fun _ _ kK => x_putrF dX8_init_194 ⟨fl_X8_74, fz_8_32.1, fz_8_32.2.1, rfl, rfl⟩ fz_8_32.2.2 (fun _ => rfl) (fun _ => rfl) h19.kn kK) ?_
  have h20 := h19.arr (K := 20) (N := 31) (g := 544) (by simp)
  generalize hT20 : (s_r (s_new V19 20 31) 544 a (some (e_n V19))) = V20 at h20 ⊢
  refine xe (fun _ _ kK => x_aload_n dX8_init_197 rfl 0 rfl kK) ?_
  refine xe (fun _ _ kK => x_sipush dX8_init_198 (show _ = nI 6200 by decide) kK) ?_
  refine xe (fun _ _ kK => x_newai dX8_init_201 (show (nI 6200) = nI 6200 from rfl) (by omega) kK) ?_
  refine xe (fun _ _ kK => x_putrF dX8_init_203 ⟨fl_X8_77, fz_8_33.1, fz_8_33.2.1, rfl, rfl⟩ fz_8_33.2.2 (fun _ => rfl) (fun _ => rfl) h20.kn kK) ?_
  have h21 := h20.arr (K := 20) (N := 6200) (g := 545) (by simp)
  generalize hT21 : (s_r (s_new V20 20 6200) 545 a (some (e_n V20))) = V21 at h21 ⊢
  refine xe (fun _ _ kK => x_aload_n dX8_init_206 rfl 0 rfl kK) ?_
  refine xe (fun _ _ kK => x_sipush dX8_init_207 (show _ = nI 6200 by decide) kK) ?_
  refine xe (fun _ _ kK => x_newai dX8_init_210 (show (nI 6200) = nI 6200 from rfl) (by omega) kK) ?_
  refine xe (fun _ _ kK => x_putrF dX8_init_212 ⟨fl_X8_80, fz_8_34.1, fz_8_34.2.1, rfl, rfl⟩ fz_8_34.2.2 (fun _ => rfl) (fun _ => rfl) h21.kn kK) ?_
  have h22 := h21.arr (K := 20) (N := 6200) (g := 546) (by simp)
  generalize hT22 : (s_r (s_new V21 20 6200) 546 a (some (e_n V21))) = V22 at h22 ⊢
  refine xe (fun _ _ kK => x_aload_n dX8_init_215 rfl 0 rfl kK) ?_
  refine xe (fun _ _ kK => x_sipush dX8_init_216 (show _ = nI 6200 by decide) kK) ?_
  refine xe (fun _ _ kK => x_newaj dX8_init_219 (show (nI 6200) = nI 6200 from rfl) (by omega) kK) ?_
  refine xe (fun _ _ kK => x_putrF dX8_init_221 ⟨fl_X8_83, fz_8_35.1, fz_8_35.2.1, rfl, rfl⟩ fz_8_35.2.2 (fun _ => rfl) (fun _ => rfl) h22.kn kK) ?_
  have h23 := h22.arr (K := 23) (N := 6200) (g := 547) (by simp)
  generalize hT23 : (s_r (s_new V22 23 6200) 547 a (some (e_n V22))) = V23 at h23 ⊢
  refine xe (fun _ _ kK => x_aload_n dX8_init_224 rfl 0 rfl kK) ?_
  refine xe (fun _ _ kK => x_bipush dX8_init_225 (show _ = nI 8 by decide) kK) ?_
  refine xe (fun _ _ kK => x_newai dX8_init_227 (show (nI 8) = nI 8 from rfl) (by omega) kK) ?_
  refine xe (fun _ _ kK => x_putrF dX8_init_229 ⟨fl_X8_86, fz_8_38.1, fz_8_38.2.1, rfl, rfl⟩ fz_8_38.2.2 (fun _ => rfl) (fun _ => rfl) h23.kn kK) ?_
  have h24 := h23.arr (K := 20) (N := 8) (g := 550) (by simp)
  generalize hT24 : (s_r (s_new V23 20 8) 550 a (some (e_n V23))) = V24 at h24 ⊢
  refine xe (fun _ _ kK => x_aload_n dX8_init_232 rfl 0 rfl kK) ?_
  refine xe (fun _ _ kK => x_sipush dX8_init_233 (show _ = nI 6300 by decide) kK) ?_
  refine xe (fun _ _ kK => x_newai dX8_init_236 (show (nI 6300) = nI 6300 from rfl) (by omega) kK) ?_
  refine xe (fun _ _ kK => x_putrF dX8_init_238 ⟨fl_X8_89, fz_8_40.1, fz_8_40.2.1, rfl, rfl⟩ fz_8_40.2.2 (fun _ => rfl) (fun _ => rfl) h24.kn kK) ?_
  have h25 := h24.arr (K := 20) (N := 6300) (g := 552) (by simp)
  generalize hT25 : (s_r (s_new V24 20 6300) 552 a (some (e_n V24))) = V25 at h25 ⊢
  refine xe (fun _ _ kK => x_aload_n dX8_init_241 rfl 0 rfl kK) ?_
  refine xe (fun _ _ kK => x_sipush dX8_init_242 (show _ = nI 6300 by decide) kK) ?_
  refine xe (fun _ _ kK => x_newai dX8_init_245 (show (nI 6300) = nI 6300 from rfl) (by omega) kK) ?_
  refine xe (fun _ _ kK => x_putrF dX8_init_247 ⟨fl_X8_92, fz_8_41.1, fz_8_41.2.1, rfl, rfl⟩ fz_8_41.2.2 (fun _ => rfl) (fun _ => rfl) h25.kn kK) ?_
  have h26 := h25.arr (K := 20) (N := 6300) (g := 553) (by simp)
  generalize hT26 : (s_r (s_new V25 20 6300) 553 a (some (e_n V25))) = V26 at h26 ⊢
  refine xe (fun _ _ kK => x_aload_n dX8_init_250 rfl 0 rfl kK) ?_
  refine xe (fun _ _ kK => x_sipush dX8_init_251 (show _ = nI 6300 by decide) kK) ?_
  refine xe (fun _ _ kK => x_newaz dX8_init_254 (show (nI 6300) = nI 6300 from rfl) (by omega) kK) ?_
  refine xe (fun _ _ kK => x_putrF dX8_init_256 ⟨fl_X8_95, fz_8_42.1, fz_8_42.2.1, rfl, rfl⟩ fz_8_42.2.2 (fun _ => rfl) (fun _ => rfl) h26.kn kK) ?_
  have h27 := h26.arr (K := 22) (N := 6300) (g := 554) (by simp)
  generalize hT27 : (s_r (s_new V26 22 6300) 554 a (some (e_n V26))) = V27 at h27 ⊢
  refine xe (fun _ _ kK => x_aload_n dX8_init_259 rfl 0 rfl kK) ?_
  refine xe (fun _ _ kK => x_sipush dX8_init_260 (show _ = nI 6300 by decide) kK) ?_
  refine xe (fun _ _ kK => x_newaj dX8_init_263 (show (nI 6300) = nI 6300 from rfl) (by omega) kK) ?_
  refine xe (fun _ _ kK => x_putrF dX8_init_265 ⟨fl_X8_99, fz_8_43.1, fz_8_43.2.1, rfl, rfl⟩ fz_8_43.2.2 (fun _ => rfl) (fun _ => rfl) h27.kn kK) ?_
  have h28 := h27.arr (K := 23) (N := 6300) (g := 555) (by simp)
  generalize hT28 : (s_r (s_new V27 23 6300) 555 a (some (e_n V27))) = V28 at h28 ⊢
  refine xe (fun _ _ kK => x_aload_n dX8_init_268 rfl 0 rfl kK) ?_
  refine xe (fun _ _ kK => x_sipush dX8_init_269 (show _ = nI 6300 by decide) kK) ?_
  refine xe (fun _ _ kK => x_newai dX8_init_272 (show (nI 6300) = nI 6300 from rfl) (by omega) kK) ?_
  refine xe (fun _ _ kK => x_putrF dX8_init_274 ⟨fl_X8_102, fz_8_44.1, fz_8_44.2.1, rfl, rfl⟩ fz_8_44.2.2 (fun _ => rfl) (fun _ => rfl) h28.kn kK) ?_
  have h29 := h28.arr (K := 20) (N := 6300) (g := 556) (by simp)
  generalize hT29 : (s_r (s_new V28 20 6300) 556 a (some (e_n V28))) = V29 at h29 ⊢
  refine xe (fun _ _ kK => x_aload_n dX8_init_277 rfl 0 rfl kK) ?_
  refine xe (fun _ _ kK => x_bipush dX8_init_278 (show _ = nI 8 by decide) kK) ?_
  refine xe (fun _ _ kK => x_newai dX8_init_280 (show (nI 8) = nI 8 from rfl) (by omega) kK) ?_
  refine xe (fun _ _ kK => x_putrF dX8_init_282 ⟨fl_X8_105, fz_8_45.1, fz_8_45.2.1, rfl, rfl⟩ fz_8_45.2.2 (fun _ => rfl) (fun _ => rfl) h29.kn kK) ?_
  have h30 := h29.arr (K := 20) (N := 8) (g := 557) (by simp)
  generalize hT30 : (s_r (s_new V29 20 8) 557 a (some (e_n V29))) = V30 at h30 ⊢
  refine xe (fun _ _ kK => x_aload_n dX8_init_285 rfl 0 rfl kK) ?_
  refine xe (fun _ _ kK => x_bipush dX8_init_286 (show _ = nI 8 by decide) kK) ?_
  refine xe (fun _ _ kK => x_newai dX8_init_288 (show (nI 8) = nI 8 from rfl) (by omega) kK) ?_
  refine xe (fun _ _ kK => x_putrF dX8_init_290 ⟨fl_X8_108, fz_8_46.1, fz_8_46.2.1, rfl, rfl⟩ fz_8_46.2.2 (fun _ => rfl) (fun _ => rfl) h30.kn kK) ?_
  have h31 := h30.arr (K := 20) (N := 8) (g := 558) (by simp)
  generalize hT31 : (s_r (s_new V30 20 8) 558 a (some (e_n V30))) = V31 at h31 ⊢
  refine xe (fun _ _ kK => x_aload_n dX8_init_293 rfl 0 rfl kK) ?_
  refine xe (fun _ _ kK => x_bipush dX8_init_294 (show _ = nI 8 by decide) kK) ?_
  refine xe (fun _ _ kK => x_newai dX8_init_296 (show (nI 8) = nI 8 from rfl) (by omega) kK) ?_
  refine xe (fun _ _ kK => x_putrF dX8_init_298 ⟨fl_X8_111, fz_8_47.1, fz_8_47.2.1, rfl, rfl⟩ fz_8_47.2.2 (fun _ => rfl) (fun _ => rfl) h31.kn kK) ?_
  have h32 := h31.arr (K := 20) (N := 8) (g := 559) (by simp)
  generalize hT32 : (s_r (s_new V31 20 8) 559 a (some (e_n V31))) = V32 at h32 ⊢
  refine xe (fun _ _ kK => x_aload_n dX8_init_301 rfl 0 rfl kK) ?_
  refine xe (fun _ _ kK => x_bipush dX8_init_302 (show _ = nI 8 by decide) kK) ?_
  refine xe (fun _ _ kK => x_newai dX8_init_304 (show (nI 8) = nI 8 from rfl) (by omega) kK) ?_
  refine xe (fun _ _ kK => x_putrF dX8_init_306 ⟨fl_X8_114, fz_8_48.1, fz_8_48.2.1, rfl, rfl⟩ fz_8_48.2.2 (fun _ => rfl) (fun _ => rfl) h32.kn kK) ?_
  have h33 := h32.arr (K := 20) (N := 8) (g := 560) (by simp)
  generalize hT33 : (s_r (s_new V32 20 8) 560 a (some (e_n V32))) = V33 at h33 ⊢
  refine xe (fun _ _ kK => x_aload_n dX8_init_309 rfl 0 rfl kK) ?_
  refine xe (fun _ _ kK => x_bipush dX8_init_310 (show _ = nI 8 by decide) kK) ?_
  refine xe (fun _ _ kK => x_newai dX8_init_312 (show (nI 8) = nI 8 from rfl) (by omega) kK) ?_
  refine xe (fun _ _ kK => x_putrF dX8_init_314 ⟨fl_X8_117, fz_8_49.1, fz_8_49.2.1, rfl, rfl⟩ fz_8_49.2.2 (fun _ => rfl) (fun _ => rfl) h33.kn kK) ?_
  have h34 := h33.arr (K := 20) (N := 8) (g := 561) (by simp)
  generalize hT34 : (s_r (s_new V33 20 8) 561 a (some (e_n V33))) = V34 at h34 ⊢
  refine xe (fun _ _ kK => x_aload_n dX8_init_317 rfl 0 rfl kK) ?_
  refine xe (fun _ _ kK => x_sipush dX8_init_318 (show _ = nI 1000 by decide) kK) ?_
  refine xe (fun _ _ kK => x_newai dX8_init_321 (show (nI 1000) = nI 1000 from rfl) (by omega) kK) ?_
  refine xe (fun _ _ kK => x_putrF dX8_init_323 ⟨fl_X8_120, fz_8_51.1, fz_8_51.2.1, rfl, rfl⟩ fz_8_51.2.2 (fun _ => rfl) (fun _ => rfl) h34.kn kK) ?_
  have h35 := h34.arr (K := 20) (N := 1000) (g := 563) (by simp)
  generalize hT35 : (s_r (s_new V34 20 1000) 563 a (some (e_n V34))) = V35 at h35 ⊢
  refine xe (fun _ _ kK => x_aload_n dX8_init_326 rfl 0 rfl kK) ?_
  refine xe (fun _ _ kK => x_bipush dX8_init_327 (show _ = nI 80 by decide) kK) ?_
  refine xe (fun _ _ kK => x_newaz dX8_init_329 (show (nI 80) = nI 80 from rfl) (by omega) kK) ?_
  refine xe (fun _ _ kK => x_putrF dX8_init_331 ⟨fl_X8_123, fz_8_52.1, fz_8_52.2.1, rfl, rfl⟩ fz_8_52.2.2 (fun _ => rfl) (fun _ => rfl) h35.kn kK) ?_
  have h36 := h35.arr (K := 22) (N := 80) (g := 564) (by simp)
  generalize hT36 : (s_r (s_new V35 22 80) 564 a (some (e_n V35))) = V36 at h36 ⊢
  refine xe (fun _ _ kK => x_aload_n dX8_init_334 rfl 0 rfl kK) ?_
  refine xe (fun _ _ kK => x_bipush dX8_init_335 (show _ = nI 8 by decide) kK) ?_
  refine xe (fun _ _ kK => x_newai dX8_init_337 (show (nI 8) = nI 8 from rfl) (by omega) kK) ?_
  refine xe (fun _ _ kK => x_putrF dX8_init_339 ⟨fl_X8_126, fz_8_53.1, fz_8_53.2.1, rfl, rfl⟩ fz_8_53.2.2 (fun _ => rfl) (fun _ => rfl) h36.kn kK) ?_
  have h37 := h36.arr (K := 20) (N := 8) (g := 565) (by simp)
  generalize hT37 : (s_r (s_new V36 20 8) 565 a (some (e_n V36))) = V37 at h37 ⊢
  exact xe_retv dX8_init_342 rfl (⟨rfl, h37⟩)
