theorem lc_self (v : Int64) : lg_cmp v v = 0 := by simp [lg_cmp]
/-! the law's sixteen calls: both answer alike, the law goes on -/
theorem xe_sc {mm : MR} {d pc : Nat} {L : List (Nat × Value)} {st : List Value} {T : TH} {P : Option Value → TH → Prop} (h : Xe mm d pc L st T P) : Xe mm d pc L st T (fun r T1 => P r T1 ∧ e_sc T1 = e_sc T) := by
  obtain ⟨r, Tf, h1, h2⟩ := h
  exact ⟨r, Tf, h1, h2, h1.1.2.2.1⟩
set_option maxHeartbeats 4000000 in
theorem w_feed {N k : Nat} {xs : Nat → Int32} {T : TH} {P : Option Value → TH → Prop} (hN : N ≤ 3584) (hk : 7 * k + 7 ≤ N) (h : LIn (N, xs) T k) (hno : ∀ T2, LIn (N, xs) T2 (k + 1) → Xe m_law 1000 834 [(3, .int (nI (7 * k))), (2, .ref 88), (1, .ref 0), (0, .float 0)] [] T2 P) : Xe m_law 1000 112 [(3, .int (nI (7 * k))), (2, .ref 88), (1, .ref 0), (0, .float 0)] [] T P := by
  have hz := h.1
  have hK0 : e_K T 0 = 8 := by
    obtain ⟨-, hs, s, en, lo, ps, n, b, tx, fk, fq, A, cp, cu, sp, hC, hR, hRs⟩ := h
    exact hC.1.1.1
  have hv : ∀ j, (e_sc T).2 j = xs j := fun j => by rw [hz]
  have hb : ∀ j, j < 7 → (7 * k) + j < (e_sc T).1 := fun j hj => by rw [hz]; show 7 * k + j < N; omega
  have hb0 : (e_sc T).1 < 2147483648 := by rw [hz]; show N < _; omega
  refine xe (fun _ _ kK => x_aload_n dL_law_112 rfl 2 rfl kK) ?_
  refine xe (fun _ _ kK => x_aload_nS dL_law_113 rfl 3 rfl kK) ?_
  refine xe (fun _ _ kK => x_iload_n dL_law_114 rfl 0 rfl kK) ?_
  refine xe (fun _ _ kK => x_iconst dL_law_115 (show _ = nI 1 by decide) kK) ?_
  refine xe (fun _ _ kK => x_iadd dL_law_116 kK) ?_
  refine xe_ti (show _ = nI ((7 * k) + 1) from nI_add (7 * k) 1) ?_
  refine xe (fun _ _ kK => x_sld dL_law_117 rfl hb0 (show (nI ((7 * k) + 1)) = nI ((7 * k) + 1) from rfl) (hb 1 (by decide)) (show _ = xs ((7 * k) + 1) from hv ((7 * k) + 1)) kK) ?_
  refine xe (fun _ _ kK => x_aload_nS dL_law_118 rfl 3 rfl kK) ?_
  refine xe (fun _ _ kK => x_iload_n dL_law_119 rfl 0 rfl kK) ?_
  refine xe (fun _ _ kK => x_iconst dL_law_120 (show _ = nI 2 by decide) kK) ?_
  refine xe (fun _ _ kK => x_iadd dL_law_121 kK) ?_
  refine xe_ti (show _ = nI ((7 * k) + 2) from nI_add (7 * k) 2) ?_
  refine xe (fun _ _ kK => x_sld dL_law_122 rfl hb0 (show (nI ((7 * k) + 2)) = nI ((7 * k) + 2) from rfl) (hb 2 (by decide)) (show _ = xs ((7 * k) + 2) from hv ((7 * k) + 2)) kK) ?_
  refine xe (fun _ _ kK => x_aload_nS dL_law_123 rfl 3 rfl kK) ?_
  refine xe (fun _ _ kK => x_iload_n dL_law_124 rfl 0 rfl kK) ?_
  refine xe (fun _ _ kK => x_iconst dL_law_125 (show _ = nI 3 by decide) kK) ?_
  refine xe (fun _ _ kK => x_iadd dL_law_126 kK) ?_
  refine xe_ti (show _ = nI ((7 * k) + 3) from nI_add (7 * k) 3) ?_
  refine xe (fun _ _ kK => x_sld dL_law_127 rfl hb0 (show (nI ((7 * k) + 3)) = nI ((7 * k) + 3) from rfl) (hb 3 (by decide)) (show _ = xs ((7 * k) + 3) from hv ((7 * k) + 3)) kK) ?_
  refine xe (fun _ _ kK => x_aload_nS dL_law_128 rfl 3 rfl kK) ?_
  refine xe (fun _ _ kK => x_iload_n dL_law_129 rfl 0 rfl kK) ?_
  refine xe (fun _ _ kK => x_iconst dL_law_130 (show _ = nI 4 by decide) kK) ?_
  refine xe (fun _ _ kK => x_iadd dL_law_131 kK) ?_
  refine xe_ti (show _ = nI ((7 * k) + 4) from nI_add (7 * k) 4) ?_
  refine xe (fun _ _ kK => x_sld dL_law_132 rfl hb0 (show (nI ((7 * k) + 4)) = nI ((7 * k) + 4) from rfl) (hb 4 (by decide)) (show _ = xs ((7 * k) + 4) from hv ((7 * k) + 4)) kK) ?_
  refine xe (fun _ _ kK => x_aload_nS dL_law_133 rfl 3 rfl kK) ?_
  refine xe (fun _ _ kK => x_iload_n dL_law_134 rfl 0 rfl kK) ?_
  refine xe (fun _ _ kK => x_iconst dL_law_135 (show _ = nI 5 by decide) kK) ?_
  refine xe (fun _ _ kK => x_iadd dL_law_136 kK) ?_
  refine xe_ti (show _ = nI ((7 * k) + 5) from nI_add (7 * k) 5) ?_
  refine xe (fun _ _ kK => x_sld dL_law_137 rfl hb0 (show (nI ((7 * k) + 5)) = nI ((7 * k) + 5) from rfl) (hb 5 (by decide)) (show _ = xs ((7 * k) + 5) from hv ((7 * k) + 5)) kK) ?_
  obtain ⟨v, M, hx, hm⟩ := sim_feed h (xs ((7 * k) + 1)) (xs ((7 * k) + 2)) (xs ((7 * k) + 3)) (xs ((7 * k) + 4)) (xs ((7 * k) + 5))
  refine xe_callV (a := 0) [.int (xs ((7 * k) + 1)), .int (xs ((7 * k) + 2)), .int (xs ((7 * k) + 3)), .int (xs ((7 * k) + 4)), .int (xs ((7 * k) + 5))] dL_law_138 ml_L_13 mf_X7_feed hK0 (hx) rfl rfl (Nat.le_of_ble_eq_true rfl) (Nat.le_of_ble_eq_true rfl) ?_
  rintro _ T1 ⟨rfl, hM⟩
  obtain ⟨hK1, hz1, hr⟩ := hm T1 hM
  have hv1 : ∀ j, (e_sc T1).2 j = xs j := fun j => by rw [hz1]
  have hb1 : ∀ j, j < 7 → (7 * k) + j < (e_sc T1).1 := fun j hj => by rw [hz1]; show 7 * k + j < N; omega
  have hb10 : (e_sc T1).1 < 2147483648 := by rw [hz1]; show N < _; omega
  refine xe (fun _ _ kK => x_aload_n dL_law_141 rfl 1 rfl kK) ?_
  refine xe (fun _ _ kK => x_aload_nS dL_law_142 rfl 3 rfl kK) ?_
  refine xe (fun _ _ kK => x_iload_n dL_law_143 rfl 0 rfl kK) ?_
  refine xe (fun _ _ kK => x_iconst dL_law_144 (show _ = nI 1 by decide) kK) ?_
  refine xe (fun _ _ kK => x_iadd dL_law_145 kK) ?_
  refine xe_ti (show _ = nI ((7 * k) + 1) from nI_add (7 * k) 1) ?_
  refine xe (fun _ _ kK => x_sld dL_law_146 rfl hb10 (show (nI ((7 * k) + 1)) = nI ((7 * k) + 1) from rfl) (hb1 1 (by decide)) (show _ = xs ((7 * k) + 1) from hv1 ((7 * k) + 1)) kK) ?_
  refine xe (fun _ _ kK => x_aload_nS dL_law_147 rfl 3 rfl kK) ?_
  refine xe (fun _ _ kK => x_iload_n dL_law_148 rfl 0 rfl kK) ?_
  refine xe (fun _ _ kK => x_iconst dL_law_149 (show _ = nI 2 by decide) kK) ?_
  refine xe (fun _ _ kK => x_iadd dL_law_150 kK) ?_
  refine xe_ti (show _ = nI ((7 * k) + 2) from nI_add (7 * k) 2) ?_
  refine xe (fun _ _ kK => x_sld dL_law_151 rfl hb10 (show (nI ((7 * k) + 2)) = nI ((7 * k) + 2) from rfl) (hb1 2 (by decide)) (show _ = xs ((7 * k) + 2) from hv1 ((7 * k) + 2)) kK) ?_
  refine xe (fun _ _ kK => x_aload_nS dL_law_152 rfl 3 rfl kK) ?_
  refine xe (fun _ _ kK => x_iload_n dL_law_153 rfl 0 rfl kK) ?_
  refine xe (fun _ _ kK => x_iconst dL_law_154 (show _ = nI 3 by decide) kK) ?_
  refine xe (fun _ _ kK => x_iadd dL_law_155 kK) ?_
  refine xe_ti (show _ = nI ((7 * k) + 3) from nI_add (7 * k) 3) ?_
  refine xe (fun _ _ kK => x_sld dL_law_156 rfl hb10 (show (nI ((7 * k) + 3)) = nI ((7 * k) + 3) from rfl) (hb1 3 (by decide)) (show _ = xs ((7 * k) + 3) from hv1 ((7 * k) + 3)) kK) ?_
  refine xe (fun _ _ kK => x_aload_nS dL_law_157 rfl 3 rfl kK) ?_
  refine xe (fun _ _ kK => x_iload_n dL_law_158 rfl 0 rfl kK) ?_
  refine xe (fun _ _ kK => x_iconst dL_law_159 (show _ = nI 4 by decide) kK) ?_
  refine xe (fun _ _ kK => x_iadd dL_law_160 kK) ?_
  refine xe_ti (show _ = nI ((7 * k) + 4) from nI_add (7 * k) 4) ?_
  refine xe (fun _ _ kK => x_sld dL_law_161 rfl hb10 (show (nI ((7 * k) + 4)) = nI ((7 * k) + 4) from rfl) (hb1 4 (by decide)) (show _ = xs ((7 * k) + 4) from hv1 ((7 * k) + 4)) kK) ?_
  refine xe (fun _ _ kK => x_aload_nS dL_law_162 rfl 3 rfl kK) ?_
  refine xe (fun _ _ kK => x_iload_n dL_law_163 rfl 0 rfl kK) ?_
  refine xe (fun _ _ kK => x_iconst dL_law_164 (show _ = nI 5 by decide) kK) ?_
  refine xe (fun _ _ kK => x_iadd dL_law_165 kK) ?_
  refine xe_ti (show _ = nI ((7 * k) + 5) from nI_add (7 * k) 5) ?_
  refine xe (fun _ _ kK => x_sld dL_law_166 rfl hb10 (show (nI ((7 * k) + 5)) = nI ((7 * k) + 5) from rfl) (hb1 5 (by decide)) (show _ = xs ((7 * k) + 5) from hv1 ((7 * k) + 5)) kK) ?_
  refine xe_callV (a := 88) [.int (xs ((7 * k) + 1)), .int (xs ((7 * k) + 2)), .int (xs ((7 * k) + 3)), .int (xs ((7 * k) + 4)), .int (xs ((7 * k) + 5))] dL_law_167 ml_L_17 mf_X8_feed hK1 (hr) rfl rfl (Nat.le_of_ble_eq_true rfl) (Nat.le_of_ble_eq_true rfl) ?_
  rintro _ T2 ⟨rfl, hL2⟩
  refine xe (fun _ _ kK => x_icmp_eqT (tgt := 834) dL_law_170 (by decide) rfl kK) ?_
  exact hno T2 hL2
set_option maxHeartbeats 4000000 in
theorem w_end {N k : Nat} {xs : Nat → Int32} {T : TH} {P : Option Value → TH → Prop} (hN : N ≤ 3584) (hk : 7 * k + 7 ≤ N) (h : LIn (N, xs) T k) (hno : ∀ T2, LIn (N, xs) T2 (k + 1) → Xe m_law 1000 834 [(3, .int (nI (7 * k))), (2, .ref 88), (1, .ref 0), (0, .float 0)] [] T2 P) : Xe m_law 1000 175 [(3, .int (nI (7 * k))), (2, .ref 88), (1, .ref 0), (0, .float 0)] [] T P := by
  have hz := h.1
  have hK0 : e_K T 0 = 8 := by
    obtain ⟨-, hs, s, en, lo, ps, n, b, tx, fk, fq, A, cp, cu, sp, hC, hR, hRs⟩ := h
    exact hC.1.1.1
  have hv : ∀ j, (e_sc T).2 j = xs j := fun j => by rw [hz]
  have hb : ∀ j, j < 7 → (7 * k) + j < (e_sc T).1 := fun j hj => by rw [hz]; show 7 * k + j < N; omega
  have hb0 : (e_sc T).1 < 2147483648 := by rw [hz]; show N < _; omega
  refine xe (fun _ _ kK => x_aload_n dL_law_175 rfl 2 rfl kK) ?_
  refine xe (fun _ _ kK => x_aload_nS dL_law_176 rfl 3 rfl kK) ?_
  refine xe (fun _ _ kK => x_iload_n dL_law_177 rfl 0 rfl kK) ?_
  refine xe (fun _ _ kK => x_iconst dL_law_178 (show _ = nI 1 by decide) kK) ?_
  refine xe (fun _ _ kK => x_iadd dL_law_179 kK) ?_
  refine xe_ti (show _ = nI ((7 * k) + 1) from nI_add (7 * k) 1) ?_
  refine xe (fun _ _ kK => x_sld dL_law_180 rfl hb0 (show (nI ((7 * k) + 1)) = nI ((7 * k) + 1) from rfl) (hb 1 (by decide)) (show _ = xs ((7 * k) + 1) from hv ((7 * k) + 1)) kK) ?_
  obtain ⟨v, M, hx, hm⟩ := sim_end h (xs ((7 * k) + 1))
  refine xe_callV (a := 0) [.int (xs ((7 * k) + 1))] dL_law_181 ml_L_18 mf_X7_end hK0 (hx) rfl rfl (Nat.le_of_ble_eq_true rfl) (Nat.le_of_ble_eq_true rfl) ?_
  rintro _ T1 ⟨rfl, hM⟩
  obtain ⟨hK1, hz1, hr⟩ := hm T1 hM
  have hv1 : ∀ j, (e_sc T1).2 j = xs j := fun j => by rw [hz1]
  have hb1 : ∀ j, j < 7 → (7 * k) + j < (e_sc T1).1 := fun j hj => by rw [hz1]; show 7 * k + j < N; omega
  have hb10 : (e_sc T1).1 < 2147483648 := by rw [hz1]; show N < _; omega
  refine xe (fun _ _ kK => x_aload_n dL_law_184 rfl 1 rfl kK) ?_
  refine xe (fun _ _ kK => x_aload_nS dL_law_185 rfl 3 rfl kK) ?_
  refine xe (fun _ _ kK => x_iload_n dL_law_186 rfl 0 rfl kK) ?_
  refine xe (fun _ _ kK => x_iconst dL_law_187 (show _ = nI 1 by decide) kK) ?_
  refine xe (fun _ _ kK => x_iadd dL_law_188 kK) ?_
  refine xe_ti (show _ = nI ((7 * k) + 1) from nI_add (7 * k) 1) ?_
  refine xe (fun _ _ kK => x_sld dL_law_189 rfl hb10 (show (nI ((7 * k) + 1)) = nI ((7 * k) + 1) from rfl) (hb1 1 (by decide)) (show _ = xs ((7 * k) + 1) from hv1 ((7 * k) + 1)) kK) ?_
  refine xe_callV (a := 88) [.int (xs ((7 * k) + 1))] dL_law_190 ml_L_22 mf_X8_end hK1 (hr) rfl rfl (Nat.le_of_ble_eq_true rfl) (Nat.le_of_ble_eq_true rfl) ?_
  rintro _ T2 ⟨rfl, hL2⟩
  refine xe (fun _ _ kK => x_icmp_eqT (tgt := 834) dL_law_193 (by decide) rfl kK) ?_
  exact hno T2 hL2
set_option maxHeartbeats 4000000 in
theorem w_shape {N k : Nat} {xs : Nat → Int32} {T : TH} {P : Option Value → TH → Prop} (hN : N ≤ 3584) (hk : 7 * k + 7 ≤ N) (h : LIn (N, xs) T k) (hno : ∀ T2, LIn (N, xs) T2 (k + 1) → Xe m_law 1000 834 [(3, .int (nI (7 * k))), (2, .ref 88), (1, .ref 0), (0, .float 0)] [] T2 P) : Xe m_law 1000 198 [(3, .int (nI (7 * k))), (2, .ref 88), (1, .ref 0), (0, .float 0)] [] T P := by
  have hz := h.1
  have hK0 : e_K T 0 = 8 := by
    obtain ⟨-, hs, s, en, lo, ps, n, b, tx, fk, fq, A, cp, cu, sp, hC, hR, hRs⟩ := h
    exact hC.1.1.1
  have hv : ∀ j, (e_sc T).2 j = xs j := fun j => by rw [hz]
  have hb : ∀ j, j < 7 → (7 * k) + j < (e_sc T).1 := fun j hj => by rw [hz]; show 7 * k + j < N; omega
  have hb0 : (e_sc T).1 < 2147483648 := by rw [hz]; show N < _; omega
  refine xe (fun _ _ kK => x_aload_n dL_law_198 rfl 2 rfl kK) ?_
  obtain ⟨v, M, hx, hm⟩ := sim_shape h 
  refine xe_callV (a := 0) [] dL_law_199 ml_L_23 mf_X7_shape hK0 (hx) rfl rfl (Nat.le_of_ble_eq_true rfl) (Nat.le_of_ble_eq_true rfl) ?_
  rintro _ T1 ⟨rfl, hM⟩
  obtain ⟨hK1, hz1, hr⟩ := hm T1 hM
  have hv1 : ∀ j, (e_sc T1).2 j = xs j := fun j => by rw [hz1]
  have hb1 : ∀ j, j < 7 → (7 * k) + j < (e_sc T1).1 := fun j hj => by rw [hz1]; show 7 * k + j < N; omega
  have hb10 : (e_sc T1).1 < 2147483648 := by rw [hz1]; show N < _; omega
  refine xe (fun _ _ kK => x_aload_n dL_law_202 rfl 1 rfl kK) ?_
  refine xe_callV (a := 88) [] dL_law_203 ml_L_27 mf_X8_shape hK1 (hr) rfl rfl (Nat.le_of_ble_eq_true rfl) (Nat.le_of_ble_eq_true rfl) ?_
  rintro _ T2 ⟨rfl, hL2⟩
  refine xe (fun _ _ kK => x_icmp_eqT (tgt := 834) dL_law_206 (by decide) rfl kK) ?_
  exact hno T2 hL2
set_option maxHeartbeats 4000000 in
theorem w_paper {N k : Nat} {xs : Nat → Int32} {T : TH} {P : Option Value → TH → Prop} (hN : N ≤ 3584) (hk : 7 * k + 7 ≤ N) (h : LIn (N, xs) T k) (hno : ∀ T2, LIn (N, xs) T2 (k + 1) → Xe m_law 1000 834 [(3, .int (nI (7 * k))), (2, .ref 88), (1, .ref 0), (0, .float 0)] [] T2 P) : Xe m_law 1000 211 [(3, .int (nI (7 * k))), (2, .ref 88), (1, .ref 0), (0, .float 0)] [] T P := by
  have hz := h.1
  have hK0 : e_K T 0 = 8 := by
    obtain ⟨-, hs, s, en, lo, ps, n, b, tx, fk, fq, A, cp, cu, sp, hC, hR, hRs⟩ := h
    exact hC.1.1.1
  have hv : ∀ j, (e_sc T).2 j = xs j := fun j => by rw [hz]
  have hb : ∀ j, j < 7 → (7 * k) + j < (e_sc T).1 := fun j hj => by rw [hz]; show 7 * k + j < N; omega
  have hb0 : (e_sc T).1 < 2147483648 := by rw [hz]; show N < _; omega
  refine xe (fun _ _ kK => x_aload_n dL_law_211 rfl 2 rfl kK) ?_
  obtain ⟨v, M, hx, hm⟩ := sim_paper h 
  refine xe_callV (a := 0) [] dL_law_212 ml_L_28 mf_X7_paper hK0 (hx) rfl rfl (Nat.le_of_ble_eq_true rfl) (Nat.le_of_ble_eq_true rfl) ?_
  rintro _ T1 ⟨rfl, hM⟩
  obtain ⟨hK1, hz1, hr⟩ := hm T1 hM
  have hv1 : ∀ j, (e_sc T1).2 j = xs j := fun j => by rw [hz1]
  have hb1 : ∀ j, j < 7 → (7 * k) + j < (e_sc T1).1 := fun j hj => by rw [hz1]; show 7 * k + j < N; omega
  have hb10 : (e_sc T1).1 < 2147483648 := by rw [hz1]; show N < _; omega
  refine xe (fun _ _ kK => x_aload_n dL_law_215 rfl 1 rfl kK) ?_
  refine xe_callV (a := 88) [] dL_law_216 ml_L_31 mf_X8_paper hK1 (hr) rfl rfl (Nat.le_of_ble_eq_true rfl) (Nat.le_of_ble_eq_true rfl) ?_
  rintro _ T2 ⟨rfl, hL2⟩
  refine xe (fun _ _ kK => x_icmp_eqT (tgt := 834) dL_law_219 (by decide) rfl kK) ?_
  exact hno T2 hL2
set_option maxHeartbeats 4000000 in
theorem w_fault {N k : Nat} {xs : Nat → Int32} {T : TH} {P : Option Value → TH → Prop} (hN : N ≤ 3584) (hk : 7 * k + 7 ≤ N) (h : LIn (N, xs) T k) (hno : ∀ T2, LIn (N, xs) T2 (k + 1) → Xe m_law 1000 834 [(3, .int (nI (7 * k))), (2, .ref 88), (1, .ref 0), (0, .float 0)] [] T2 P) : Xe m_law 1000 224 [(3, .int (nI (7 * k))), (2, .ref 88), (1, .ref 0), (0, .float 0)] [] T P := by
  have hz := h.1
  have hK0 : e_K T 0 = 8 := by
    obtain ⟨-, hs, s, en, lo, ps, n, b, tx, fk, fq, A, cp, cu, sp, hC, hR, hRs⟩ := h
    exact hC.1.1.1
  have hv : ∀ j, (e_sc T).2 j = xs j := fun j => by rw [hz]
  have hb : ∀ j, j < 7 → (7 * k) + j < (e_sc T).1 := fun j hj => by rw [hz]; show 7 * k + j < N; omega
  have hb0 : (e_sc T).1 < 2147483648 := by rw [hz]; show N < _; omega
  refine xe (fun _ _ kK => x_aload_n dL_law_224 rfl 2 rfl kK) ?_
  refine xe (fun _ _ kK => x_aload_nS dL_law_225 rfl 3 rfl kK) ?_
  refine xe (fun _ _ kK => x_iload_n dL_law_226 rfl 0 rfl kK) ?_
  refine xe (fun _ _ kK => x_iconst dL_law_227 (show _ = nI 1 by decide) kK) ?_
  refine xe (fun _ _ kK => x_iadd dL_law_228 kK) ?_
  refine xe_ti (show _ = nI ((7 * k) + 1) from nI_add (7 * k) 1) ?_
  refine xe (fun _ _ kK => x_sld dL_law_229 rfl hb0 (show (nI ((7 * k) + 1)) = nI ((7 * k) + 1) from rfl) (hb 1 (by decide)) (show _ = xs ((7 * k) + 1) from hv ((7 * k) + 1)) kK) ?_
  obtain ⟨v, M, hx, hm⟩ := sim_fault h (xs ((7 * k) + 1))
  refine xe_callV (a := 0) [.int (xs ((7 * k) + 1))] dL_law_230 ml_L_32 mf_X7_fault hK0 (hx) rfl rfl (Nat.le_of_ble_eq_true rfl) (Nat.le_of_ble_eq_true rfl) ?_
  rintro _ T1 ⟨rfl, hM⟩
  obtain ⟨hK1, hz1, hr⟩ := hm T1 hM
  have hv1 : ∀ j, (e_sc T1).2 j = xs j := fun j => by rw [hz1]
  have hb1 : ∀ j, j < 7 → (7 * k) + j < (e_sc T1).1 := fun j hj => by rw [hz1]; show 7 * k + j < N; omega
  have hb10 : (e_sc T1).1 < 2147483648 := by rw [hz1]; show N < _; omega
  refine xe (fun _ _ kK => x_aload_n dL_law_233 rfl 1 rfl kK) ?_
  refine xe (fun _ _ kK => x_aload_nS dL_law_234 rfl 3 rfl kK) ?_
  refine xe (fun _ _ kK => x_iload_n dL_law_235 rfl 0 rfl kK) ?_
  refine xe (fun _ _ kK => x_iconst dL_law_236 (show _ = nI 1 by decide) kK) ?_
  refine xe (fun _ _ kK => x_iadd dL_law_237 kK) ?_
  refine xe_ti (show _ = nI ((7 * k) + 1) from nI_add (7 * k) 1) ?_
  refine xe (fun _ _ kK => x_sld dL_law_238 rfl hb10 (show (nI ((7 * k) + 1)) = nI ((7 * k) + 1) from rfl) (hb1 1 (by decide)) (show _ = xs ((7 * k) + 1) from hv1 ((7 * k) + 1)) kK) ?_
  refine xe_callV (a := 88) [.int (xs ((7 * k) + 1))] dL_law_239 ml_L_36 mf_X8_fault hK1 (hr) rfl rfl (Nat.le_of_ble_eq_true rfl) (Nat.le_of_ble_eq_true rfl) ?_
  rintro _ T2 ⟨rfl, hL2⟩
  refine xe (fun _ _ kK => x_icmp_eqT (tgt := 834) dL_law_242 (by decide) rfl kK) ?_
  exact hno T2 hL2
set_option maxHeartbeats 4000000 in
theorem w_drop {N k : Nat} {xs : Nat → Int32} {T : TH} {P : Option Value → TH → Prop} (hN : N ≤ 3584) (hk : 7 * k + 7 ≤ N) (h : LIn (N, xs) T k) (hno : ∀ T2, LIn (N, xs) T2 (k + 1) → Xe m_law 1000 834 [(3, .int (nI (7 * k))), (2, .ref 88), (1, .ref 0), (0, .float 0)] [] T2 P) : Xe m_law 1000 247 [(3, .int (nI (7 * k))), (2, .ref 88), (1, .ref 0), (0, .float 0)] [] T P := by
  have hz := h.1
  have hK0 : e_K T 0 = 8 := by
    obtain ⟨-, hs, s, en, lo, ps, n, b, tx, fk, fq, A, cp, cu, sp, hC, hR, hRs⟩ := h
    exact hC.1.1.1
  have hv : ∀ j, (e_sc T).2 j = xs j := fun j => by rw [hz]
  have hb : ∀ j, j < 7 → (7 * k) + j < (e_sc T).1 := fun j hj => by rw [hz]; show 7 * k + j < N; omega
  have hb0 : (e_sc T).1 < 2147483648 := by rw [hz]; show N < _; omega
  refine xe (fun _ _ kK => x_aload_n dL_law_247 rfl 2 rfl kK) ?_
  refine xe (fun _ _ kK => x_aload_nS dL_law_248 rfl 3 rfl kK) ?_
  refine xe (fun _ _ kK => x_iload_n dL_law_249 rfl 0 rfl kK) ?_
  refine xe (fun _ _ kK => x_iconst dL_law_250 (show _ = nI 1 by decide) kK) ?_
  refine xe (fun _ _ kK => x_iadd dL_law_251 kK) ?_
  refine xe_ti (show _ = nI ((7 * k) + 1) from nI_add (7 * k) 1) ?_
  refine xe (fun _ _ kK => x_sld dL_law_252 rfl hb0 (show (nI ((7 * k) + 1)) = nI ((7 * k) + 1) from rfl) (hb 1 (by decide)) (show _ = xs ((7 * k) + 1) from hv ((7 * k) + 1)) kK) ?_
  obtain ⟨v, M, hx, hm⟩ := sim_drop h (xs ((7 * k) + 1))
  refine xe_callV (a := 0) [.int (xs ((7 * k) + 1))] dL_law_253 ml_L_37 mf_X7_drop hK0 (hx) rfl rfl (Nat.le_of_ble_eq_true rfl) (Nat.le_of_ble_eq_true rfl) ?_
  rintro _ T1 ⟨rfl, hM⟩
  obtain ⟨hK1, hz1, hr⟩ := hm T1 hM
  have hv1 : ∀ j, (e_sc T1).2 j = xs j := fun j => by rw [hz1]
  have hb1 : ∀ j, j < 7 → (7 * k) + j < (e_sc T1).1 := fun j hj => by rw [hz1]; show 7 * k + j < N; omega
  have hb10 : (e_sc T1).1 < 2147483648 := by rw [hz1]; show N < _; omega
  refine xe (fun _ _ kK => x_aload_n dL_law_256 rfl 1 rfl kK) ?_
  refine xe (fun _ _ kK => x_aload_nS dL_law_257 rfl 3 rfl kK) ?_
  refine xe (fun _ _ kK => x_iload_n dL_law_258 rfl 0 rfl kK) ?_
  refine xe (fun _ _ kK => x_iconst dL_law_259 (show _ = nI 1 by decide) kK) ?_
  refine xe (fun _ _ kK => x_iadd dL_law_260 kK) ?_
  refine xe_ti (show _ = nI ((7 * k) + 1) from nI_add (7 * k) 1) ?_
  refine xe (fun _ _ kK => x_sld dL_law_261 rfl hb10 (show (nI ((7 * k) + 1)) = nI ((7 * k) + 1) from rfl) (hb1 1 (by decide)) (show _ = xs ((7 * k) + 1) from hv1 ((7 * k) + 1)) kK) ?_
  refine xe_callV (a := 88) [.int (xs ((7 * k) + 1))] dL_law_262 ml_L_40 mf_X8_drop hK1 (hr) rfl rfl (Nat.le_of_ble_eq_true rfl) (Nat.le_of_ble_eq_true rfl) ?_
  rintro _ T2 ⟨rfl, hL2⟩
  refine xe (fun _ _ kK => x_icmp_eqT (tgt := 834) dL_law_265 (by decide) rfl kK) ?_
  exact hno T2 hL2
set_option maxHeartbeats 4000000 in
theorem w_leaf {N k : Nat} {xs : Nat → Int32} {T : TH} {P : Option Value → TH → Prop} (hN : N ≤ 3584) (hk : 7 * k + 7 ≤ N) (h : LIn (N, xs) T k) (hno : ∀ T2, LIn (N, xs) T2 (k + 1) → Xe m_law 1000 834 [(3, .int (nI (7 * k))), (2, .ref 88), (1, .ref 0), (0, .float 0)] [] T2 P) : Xe m_law 1000 270 [(3, .int (nI (7 * k))), (2, .ref 88), (1, .ref 0), (0, .float 0)] [] T P := by
  have hz := h.1
  have hK0 : e_K T 0 = 8 := by
    obtain ⟨-, hs, s, en, lo, ps, n, b, tx, fk, fq, A, cp, cu, sp, hC, hR, hRs⟩ := h
    exact hC.1.1.1
  have hv : ∀ j, (e_sc T).2 j = xs j := fun j => by rw [hz]
  have hb : ∀ j, j < 7 → (7 * k) + j < (e_sc T).1 := fun j hj => by rw [hz]; show 7 * k + j < N; omega
  have hb0 : (e_sc T).1 < 2147483648 := by rw [hz]; show N < _; omega
  refine xe (fun _ _ kK => x_aload_n dL_law_270 rfl 2 rfl kK) ?_
  refine xe (fun _ _ kK => x_aload_nS dL_law_271 rfl 3 rfl kK) ?_
  refine xe (fun _ _ kK => x_iload_n dL_law_272 rfl 0 rfl kK) ?_
  refine xe (fun _ _ kK => x_iconst dL_law_273 (show _ = nI 1 by decide) kK) ?_
  refine xe (fun _ _ kK => x_iadd dL_law_274 kK) ?_
  refine xe_ti (show _ = nI ((7 * k) + 1) from nI_add (7 * k) 1) ?_
  refine xe (fun _ _ kK => x_sld dL_law_275 rfl hb0 (show (nI ((7 * k) + 1)) = nI ((7 * k) + 1) from rfl) (hb 1 (by decide)) (show _ = xs ((7 * k) + 1) from hv ((7 * k) + 1)) kK) ?_
  refine xe (fun _ _ kK => x_aload_nS dL_law_276 rfl 3 rfl kK) ?_
  refine xe (fun _ _ kK => x_iload_n dL_law_277 rfl 0 rfl kK) ?_
  refine xe (fun _ _ kK => x_iconst dL_law_278 (show _ = nI 2 by decide) kK) ?_
  refine xe (fun _ _ kK => x_iadd dL_law_279 kK) ?_
  refine xe_ti (show _ = nI ((7 * k) + 2) from nI_add (7 * k) 2) ?_
  refine xe (fun _ _ kK => x_sld dL_law_280 rfl hb0 (show (nI ((7 * k) + 2)) = nI ((7 * k) + 2) from rfl) (hb 2 (by decide)) (show _ = xs ((7 * k) + 2) from hv ((7 * k) + 2)) kK) ?_
  obtain ⟨v, M, hx, hm⟩ := sim_leaf h (xs ((7 * k) + 1)) (xs ((7 * k) + 2))
  refine xe_callV (a := 0) [.int (xs ((7 * k) + 1)), .int (xs ((7 * k) + 2))] dL_law_281 ml_L_41 mf_X7_leaf hK0 (hx) rfl rfl (Nat.le_of_ble_eq_true rfl) (Nat.le_of_ble_eq_true rfl) ?_
  rintro _ T1 ⟨rfl, hM⟩
  obtain ⟨hK1, hz1, hr⟩ := hm T1 hM
  have hv1 : ∀ j, (e_sc T1).2 j = xs j := fun j => by rw [hz1]
  have hb1 : ∀ j, j < 7 → (7 * k) + j < (e_sc T1).1 := fun j hj => by rw [hz1]; show 7 * k + j < N; omega
  have hb10 : (e_sc T1).1 < 2147483648 := by rw [hz1]; show N < _; omega
  refine xe (fun _ _ kK => x_aload_n dL_law_284 rfl 1 rfl kK) ?_
  refine xe (fun _ _ kK => x_aload_nS dL_law_285 rfl 3 rfl kK) ?_
  refine xe (fun _ _ kK => x_iload_n dL_law_286 rfl 0 rfl kK) ?_
  refine xe (fun _ _ kK => x_iconst dL_law_287 (show _ = nI 1 by decide) kK) ?_
  refine xe (fun _ _ kK => x_iadd dL_law_288 kK) ?_
  refine xe_ti (show _ = nI ((7 * k) + 1) from nI_add (7 * k) 1) ?_
  refine xe (fun _ _ kK => x_sld dL_law_289 rfl hb10 (show (nI ((7 * k) + 1)) = nI ((7 * k) + 1) from rfl) (hb1 1 (by decide)) (show _ = xs ((7 * k) + 1) from hv1 ((7 * k) + 1)) kK) ?_
  refine xe (fun _ _ kK => x_aload_nS dL_law_290 rfl 3 rfl kK) ?_
  refine xe (fun _ _ kK => x_iload_n dL_law_291 rfl 0 rfl kK) ?_
  refine xe (fun _ _ kK => x_iconst dL_law_292 (show _ = nI 2 by decide) kK) ?_
  refine xe (fun _ _ kK => x_iadd dL_law_293 kK) ?_
  refine xe_ti (show _ = nI ((7 * k) + 2) from nI_add (7 * k) 2) ?_
  refine xe (fun _ _ kK => x_sld dL_law_294 rfl hb10 (show (nI ((7 * k) + 2)) = nI ((7 * k) + 2) from rfl) (hb1 2 (by decide)) (show _ = xs ((7 * k) + 2) from hv1 ((7 * k) + 2)) kK) ?_
  refine xe_callV (a := 88) [.int (xs ((7 * k) + 1)), .int (xs ((7 * k) + 2))] dL_law_295 ml_L_45 mf_X8_leaf hK1 (hr) rfl rfl (Nat.le_of_ble_eq_true rfl) (Nat.le_of_ble_eq_true rfl) ?_
  rintro _ T2 ⟨rfl, hL2⟩
  refine xe (fun _ _ kK => x_icmp_eqT (tgt := 834) dL_law_298 (by decide) rfl kK) ?_
  exact hno T2 hL2
set_option maxHeartbeats 4000000 in
theorem w_row {N k : Nat} {xs : Nat → Int32} {T : TH} {P : Option Value → TH → Prop} (hN : N ≤ 3584) (hk : 7 * k + 7 ≤ N) (h : LIn (N, xs) T k) (hno : ∀ T2, LIn (N, xs) T2 (k + 1) → Xe m_law 1000 834 [(3, .int (nI (7 * k))), (2, .ref 88), (1, .ref 0), (0, .float 0)] [] T2 P) : Xe m_law 1000 303 [(3, .int (nI (7 * k))), (2, .ref 88), (1, .ref 0), (0, .float 0)] [] T P := by
  have hz := h.1
  have hK0 : e_K T 0 = 8 := by
    obtain ⟨-, hs, s, en, lo, ps, n, b, tx, fk, fq, A, cp, cu, sp, hC, hR, hRs⟩ := h
    exact hC.1.1.1
  have hv : ∀ j, (e_sc T).2 j = xs j := fun j => by rw [hz]
  have hb : ∀ j, j < 7 → (7 * k) + j < (e_sc T).1 := fun j hj => by rw [hz]; show 7 * k + j < N; omega
  have hb0 : (e_sc T).1 < 2147483648 := by rw [hz]; show N < _; omega
  refine xe (fun _ _ kK => x_aload_n dL_law_303 rfl 2 rfl kK) ?_
  refine xe (fun _ _ kK => x_aload_nS dL_law_304 rfl 3 rfl kK) ?_
  refine xe (fun _ _ kK => x_iload_n dL_law_305 rfl 0 rfl kK) ?_
  refine xe (fun _ _ kK => x_iconst dL_law_306 (show _ = nI 1 by decide) kK) ?_
  refine xe (fun _ _ kK => x_iadd dL_law_307 kK) ?_
  refine xe_ti (show _ = nI ((7 * k) + 1) from nI_add (7 * k) 1) ?_
  refine xe (fun _ _ kK => x_sld dL_law_308 rfl hb0 (show (nI ((7 * k) + 1)) = nI ((7 * k) + 1) from rfl) (hb 1 (by decide)) (show _ = xs ((7 * k) + 1) from hv ((7 * k) + 1)) kK) ?_
  refine xe (fun _ _ kK => x_aload_nS dL_law_309 rfl 3 rfl kK) ?_
  refine xe (fun _ _ kK => x_iload_n dL_law_310 rfl 0 rfl kK) ?_
  refine xe (fun _ _ kK => x_iconst dL_law_311 (show _ = nI 2 by decide) kK) ?_
  refine xe (fun _ _ kK => x_iadd dL_law_312 kK) ?_
  refine xe_ti (show _ = nI ((7 * k) + 2) from nI_add (7 * k) 2) ?_
  refine xe (fun _ _ kK => x_sld dL_law_313 rfl hb0 (show (nI ((7 * k) + 2)) = nI ((7 * k) + 2) from rfl) (hb 2 (by decide)) (show _ = xs ((7 * k) + 2) from hv ((7 * k) + 2)) kK) ?_
  refine xe (fun _ _ kK => x_aload_nS dL_law_314 rfl 3 rfl kK) ?_
  refine xe (fun _ _ kK => x_iload_n dL_law_315 rfl 0 rfl kK) ?_
  refine xe (fun _ _ kK => x_iconst dL_law_316 (show _ = nI 3 by decide) kK) ?_
  refine xe (fun _ _ kK => x_iadd dL_law_317 kK) ?_
  refine xe_ti (show _ = nI ((7 * k) + 3) from nI_add (7 * k) 3) ?_
  refine xe (fun _ _ kK => x_sld dL_law_318 rfl hb0 (show (nI ((7 * k) + 3)) = nI ((7 * k) + 3) from rfl) (hb 3 (by decide)) (show _ = xs ((7 * k) + 3) from hv ((7 * k) + 3)) kK) ?_
  obtain ⟨v, M, hx, hm⟩ := sim_row h (xs ((7 * k) + 1)) (xs ((7 * k) + 2)) (xs ((7 * k) + 3))
  refine xe_callV (a := 0) [.int (xs ((7 * k) + 1)), .int (xs ((7 * k) + 2)), .int (xs ((7 * k) + 3))] dL_law_319 ml_L_46 mf_X7_row hK0 (hx) rfl rfl (Nat.le_of_ble_eq_true rfl) (Nat.le_of_ble_eq_true rfl) ?_
  rintro _ T1 ⟨rfl, hM⟩
  obtain ⟨hK1, hz1, hr⟩ := hm T1 hM
  have hv1 : ∀ j, (e_sc T1).2 j = xs j := fun j => by rw [hz1]
  have hb1 : ∀ j, j < 7 → (7 * k) + j < (e_sc T1).1 := fun j hj => by rw [hz1]; show 7 * k + j < N; omega
  have hb10 : (e_sc T1).1 < 2147483648 := by rw [hz1]; show N < _; omega
  refine xe (fun _ _ kK => x_aload_n dL_law_322 rfl 1 rfl kK) ?_
  refine xe (fun _ _ kK => x_aload_nS dL_law_323 rfl 3 rfl kK) ?_
  refine xe (fun _ _ kK => x_iload_n dL_law_324 rfl 0 rfl kK) ?_
  refine xe (fun _ _ kK => x_iconst dL_law_325 (show _ = nI 1 by decide) kK) ?_
  refine xe (fun _ _ kK => x_iadd dL_law_326 kK) ?_
  refine xe_ti (show _ = nI ((7 * k) + 1) from nI_add (7 * k) 1) ?_
  refine xe (fun _ _ kK => x_sld dL_law_327 rfl hb10 (show (nI ((7 * k) + 1)) = nI ((7 * k) + 1) from rfl) (hb1 1 (by decide)) (show _ = xs ((7 * k) + 1) from hv1 ((7 * k) + 1)) kK) ?_
  refine xe (fun _ _ kK => x_aload_nS dL_law_328 rfl 3 rfl kK) ?_
  refine xe (fun _ _ kK => x_iload_n dL_law_329 rfl 0 rfl kK) ?_
  refine xe (fun _ _ kK => x_iconst dL_law_330 (show _ = nI 2 by decide) kK) ?_
  refine xe (fun _ _ kK => x_iadd dL_law_331 kK) ?_
  refine xe_ti (show _ = nI ((7 * k) + 2) from nI_add (7 * k) 2) ?_
  refine xe (fun _ _ kK => x_sld dL_law_332 rfl hb10 (show (nI ((7 * k) + 2)) = nI ((7 * k) + 2) from rfl) (hb1 2 (by decide)) (show _ = xs ((7 * k) + 2) from hv1 ((7 * k) + 2)) kK) ?_
  refine xe (fun _ _ kK => x_aload_nS dL_law_333 rfl 3 rfl kK) ?_
  refine xe (fun _ _ kK => x_iload_n dL_law_334 rfl 0 rfl kK) ?_
  refine xe (fun _ _ kK => x_iconst dL_law_335 (show _ = nI 3 by decide) kK) ?_
  refine xe (fun _ _ kK => x_iadd dL_law_336 kK) ?_
  refine xe_ti (show _ = nI ((7 * k) + 3) from nI_add (7 * k) 3) ?_
  refine xe (fun _ _ kK => x_sld dL_law_337 rfl hb10 (show (nI ((7 * k) + 3)) = nI ((7 * k) + 3) from rfl) (hb1 3 (by decide)) (show _ = xs ((7 * k) + 3) from hv1 ((7 * k) + 3)) kK) ?_
  refine xe_callV (a := 88) [.int (xs ((7 * k) + 1)), .int (xs ((7 * k) + 2)), .int (xs ((7 * k) + 3))] dL_law_338 ml_L_50 mf_X8_row hK1 (hr) rfl rfl (Nat.le_of_ble_eq_true rfl) (Nat.le_of_ble_eq_true rfl) ?_
  rintro _ T2 ⟨rfl, hL2⟩
  refine xe (fun _ _ kK => x_icmp_eqT (tgt := 834) dL_law_341 (by decide) rfl kK) ?_
  exact hno T2 hL2
set_option maxHeartbeats 4000000 in
theorem w_value {N k : Nat} {xs : Nat → Int32} {T : TH} {P : Option Value → TH → Prop} (hN : N ≤ 3584) (hk : 7 * k + 7 ≤ N) (h : LIn (N, xs) T k) (hno : ∀ T2, LIn (N, xs) T2 (k + 1) → Xe m_law 1000 834 [(3, .int (nI (7 * k))), (2, .ref 88), (1, .ref 0), (0, .float 0)] [] T2 P) : Xe m_law 1000 346 [(3, .int (nI (7 * k))), (2, .ref 88), (1, .ref 0), (0, .float 0)] [] T P := by
  have hz := h.1
  have hK0 : e_K T 0 = 8 := by
    obtain ⟨-, hs, s, en, lo, ps, n, b, tx, fk, fq, A, cp, cu, sp, hC, hR, hRs⟩ := h
    exact hC.1.1.1
  have hv : ∀ j, (e_sc T).2 j = xs j := fun j => by rw [hz]
  have hb : ∀ j, j < 7 → (7 * k) + j < (e_sc T).1 := fun j hj => by rw [hz]; show 7 * k + j < N; omega
  have hb0 : (e_sc T).1 < 2147483648 := by rw [hz]; show N < _; omega
  refine xe (fun _ _ kK => x_aload_n dL_law_346 rfl 2 rfl kK) ?_
  refine xe (fun _ _ kK => x_aload_nS dL_law_347 rfl 3 rfl kK) ?_
  refine xe (fun _ _ kK => x_iload_n dL_law_348 rfl 0 rfl kK) ?_
  refine xe (fun _ _ kK => x_iconst dL_law_349 (show _ = nI 1 by decide) kK) ?_
  refine xe (fun _ _ kK => x_iadd dL_law_350 kK) ?_
  refine xe_ti (show _ = nI ((7 * k) + 1) from nI_add (7 * k) 1) ?_
  refine xe (fun _ _ kK => x_sld dL_law_351 rfl hb0 (show (nI ((7 * k) + 1)) = nI ((7 * k) + 1) from rfl) (hb 1 (by decide)) (show _ = xs ((7 * k) + 1) from hv ((7 * k) + 1)) kK) ?_
  refine xe (fun _ _ kK => x_aload_nS dL_law_352 rfl 3 rfl kK) ?_
  refine xe (fun _ _ kK => x_iload_n dL_law_353 rfl 0 rfl kK) ?_
  refine xe (fun _ _ kK => x_iconst dL_law_354 (show _ = nI 2 by decide) kK) ?_
  refine xe (fun _ _ kK => x_iadd dL_law_355 kK) ?_
  refine xe_ti (show _ = nI ((7 * k) + 2) from nI_add (7 * k) 2) ?_
  refine xe (fun _ _ kK => x_sld dL_law_356 rfl hb0 (show (nI ((7 * k) + 2)) = nI ((7 * k) + 2) from rfl) (hb 2 (by decide)) (show _ = xs ((7 * k) + 2) from hv ((7 * k) + 2)) kK) ?_
  obtain ⟨v, M, hx, hm⟩ := sim_value h (xs ((7 * k) + 1)) (xs ((7 * k) + 2))
  refine xe_callV (a := 0) [.int (xs ((7 * k) + 1)), .int (xs ((7 * k) + 2))] dL_law_357 ml_L_51 mf_X7_value hK0 (hx) rfl rfl (Nat.le_of_ble_eq_true rfl) (Nat.le_of_ble_eq_true rfl) ?_
  rintro _ T1 ⟨rfl, hM⟩
  obtain ⟨hK1, hz1, hr⟩ := hm T1 hM
  have hv1 : ∀ j, (e_sc T1).2 j = xs j := fun j => by rw [hz1]
  have hb1 : ∀ j, j < 7 → (7 * k) + j < (e_sc T1).1 := fun j hj => by rw [hz1]; show 7 * k + j < N; omega
  have hb10 : (e_sc T1).1 < 2147483648 := by rw [hz1]; show N < _; omega
  refine xe (fun _ _ kK => x_aload_n dL_law_360 rfl 1 rfl kK) ?_
  refine xe (fun _ _ kK => x_aload_nS dL_law_361 rfl 3 rfl kK) ?_
  refine xe (fun _ _ kK => x_iload_n dL_law_362 rfl 0 rfl kK) ?_
  refine xe (fun _ _ kK => x_iconst dL_law_363 (show _ = nI 1 by decide) kK) ?_
  refine xe (fun _ _ kK => x_iadd dL_law_364 kK) ?_
  refine xe_ti (show _ = nI ((7 * k) + 1) from nI_add (7 * k) 1) ?_
  refine xe (fun _ _ kK => x_sld dL_law_365 rfl hb10 (show (nI ((7 * k) + 1)) = nI ((7 * k) + 1) from rfl) (hb1 1 (by decide)) (show _ = xs ((7 * k) + 1) from hv1 ((7 * k) + 1)) kK) ?_
  refine xe (fun _ _ kK => x_aload_nS dL_law_366 rfl 3 rfl kK) ?_
  refine xe (fun _ _ kK => x_iload_n dL_law_367 rfl 0 rfl kK) ?_
  refine xe (fun _ _ kK => x_iconst dL_law_368 (show _ = nI 2 by decide) kK) ?_
  refine xe (fun _ _ kK => x_iadd dL_law_369 kK) ?_
  refine xe_ti (show _ = nI ((7 * k) + 2) from nI_add (7 * k) 2) ?_
  refine xe (fun _ _ kK => x_sld dL_law_370 rfl hb10 (show (nI ((7 * k) + 2)) = nI ((7 * k) + 2) from rfl) (hb1 2 (by decide)) (show _ = xs ((7 * k) + 2) from hv1 ((7 * k) + 2)) kK) ?_
  refine xe_callV (a := 88) [.int (xs ((7 * k) + 1)), .int (xs ((7 * k) + 2))] dL_law_371 ml_L_55 mf_X8_value hK1 (hr) rfl rfl (Nat.le_of_ble_eq_true rfl) (Nat.le_of_ble_eq_true rfl) ?_
  rintro _ T2 ⟨rfl, hL2⟩
  refine xe (fun _ _ kK => x_lcmp dL_law_374 kK) ?_
  refine xe (fun _ _ kK => x_if_eqT (tgt := 834) dL_law_375 (by decide) (lc_self v) kK) ?_
  exact hno T2 hL2
set_option maxHeartbeats 4000000 in
theorem w_text {N k : Nat} {xs : Nat → Int32} {T : TH} {P : Option Value → TH → Prop} (hN : N ≤ 3584) (hk : 7 * k + 7 ≤ N) (h : LIn (N, xs) T k) (hno : ∀ T2, LIn (N, xs) T2 (k + 1) → Xe m_law 1000 834 [(3, .int (nI (7 * k))), (2, .ref 88), (1, .ref 0), (0, .float 0)] [] T2 P) : Xe m_law 1000 380 [(3, .int (nI (7 * k))), (2, .ref 88), (1, .ref 0), (0, .float 0)] [] T P := by
  have hz := h.1
  have hK0 : e_K T 0 = 8 := by
    obtain ⟨-, hs, s, en, lo, ps, n, b, tx, fk, fq, A, cp, cu, sp, hC, hR, hRs⟩ := h
    exact hC.1.1.1
  have hv : ∀ j, (e_sc T).2 j = xs j := fun j => by rw [hz]
  have hb : ∀ j, j < 7 → (7 * k) + j < (e_sc T).1 := fun j hj => by rw [hz]; show 7 * k + j < N; omega
  have hb0 : (e_sc T).1 < 2147483648 := by rw [hz]; show N < _; omega
  refine xe (fun _ _ kK => x_aload_n dL_law_380 rfl 2 rfl kK) ?_
  refine xe (fun _ _ kK => x_aload_nS dL_law_381 rfl 3 rfl kK) ?_
  refine xe (fun _ _ kK => x_iload_n dL_law_382 rfl 0 rfl kK) ?_
  refine xe (fun _ _ kK => x_iconst dL_law_383 (show _ = nI 1 by decide) kK) ?_
  refine xe (fun _ _ kK => x_iadd dL_law_384 kK) ?_
  refine xe_ti (show _ = nI ((7 * k) + 1) from nI_add (7 * k) 1) ?_
  refine xe (fun _ _ kK => x_sld dL_law_385 rfl hb0 (show (nI ((7 * k) + 1)) = nI ((7 * k) + 1) from rfl) (hb 1 (by decide)) (show _ = xs ((7 * k) + 1) from hv ((7 * k) + 1)) kK) ?_
  refine xe (fun _ _ kK => x_aload_nS dL_law_386 rfl 3 rfl kK) ?_
  refine xe (fun _ _ kK => x_iload_n dL_law_387 rfl 0 rfl kK) ?_
  refine xe (fun _ _ kK => x_iconst dL_law_388 (show _ = nI 2 by decide) kK) ?_
  refine xe (fun _ _ kK => x_iadd dL_law_389 kK) ?_
  refine xe_ti (show _ = nI ((7 * k) + 2) from nI_add (7 * k) 2) ?_
  refine xe (fun _ _ kK => x_sld dL_law_390 rfl hb0 (show (nI ((7 * k) + 2)) = nI ((7 * k) + 2) from rfl) (hb 2 (by decide)) (show _ = xs ((7 * k) + 2) from hv ((7 * k) + 2)) kK) ?_
  obtain ⟨v, M, hx, hm⟩ := sim_text h (xs ((7 * k) + 1)) (xs ((7 * k) + 2))
  refine xe_callV (a := 0) [.int (xs ((7 * k) + 1)), .int (xs ((7 * k) + 2))] dL_law_391 ml_L_56 mf_X7_text hK0 (hx) rfl rfl (Nat.le_of_ble_eq_true rfl) (Nat.le_of_ble_eq_true rfl) ?_
  rintro _ T1 ⟨rfl, hM⟩
  obtain ⟨hK1, hz1, hr⟩ := hm T1 hM
  have hv1 : ∀ j, (e_sc T1).2 j = xs j := fun j => by rw [hz1]
  have hb1 : ∀ j, j < 7 → (7 * k) + j < (e_sc T1).1 := fun j hj => by rw [hz1]; show 7 * k + j < N; omega
  have hb10 : (e_sc T1).1 < 2147483648 := by rw [hz1]; show N < _; omega
  refine xe (fun _ _ kK => x_aload_n dL_law_394 rfl 1 rfl kK) ?_
  refine xe (fun _ _ kK => x_aload_nS dL_law_395 rfl 3 rfl kK) ?_
  refine xe (fun _ _ kK => x_iload_n dL_law_396 rfl 0 rfl kK) ?_
  refine xe (fun _ _ kK => x_iconst dL_law_397 (show _ = nI 1 by decide) kK) ?_
  refine xe (fun _ _ kK => x_iadd dL_law_398 kK) ?_
  refine xe_ti (show _ = nI ((7 * k) + 1) from nI_add (7 * k) 1) ?_
  refine xe (fun _ _ kK => x_sld dL_law_399 rfl hb10 (show (nI ((7 * k) + 1)) = nI ((7 * k) + 1) from rfl) (hb1 1 (by decide)) (show _ = xs ((7 * k) + 1) from hv1 ((7 * k) + 1)) kK) ?_
  refine xe (fun _ _ kK => x_aload_nS dL_law_400 rfl 3 rfl kK) ?_
  refine xe (fun _ _ kK => x_iload_n dL_law_401 rfl 0 rfl kK) ?_
  refine xe (fun _ _ kK => x_iconst dL_law_402 (show _ = nI 2 by decide) kK) ?_
  refine xe (fun _ _ kK => x_iadd dL_law_403 kK) ?_
  refine xe_ti (show _ = nI ((7 * k) + 2) from nI_add (7 * k) 2) ?_
  refine xe (fun _ _ kK => x_sld dL_law_404 rfl hb10 (show (nI ((7 * k) + 2)) = nI ((7 * k) + 2) from rfl) (hb1 2 (by decide)) (show _ = xs ((7 * k) + 2) from hv1 ((7 * k) + 2)) kK) ?_
  refine xe_callV (a := 88) [.int (xs ((7 * k) + 1)), .int (xs ((7 * k) + 2))] dL_law_405 ml_L_59 mf_X8_text hK1 (hr) rfl rfl (Nat.le_of_ble_eq_true rfl) (Nat.le_of_ble_eq_true rfl) ?_
  rintro _ T2 ⟨rfl, hL2⟩
  refine xe (fun _ _ kK => x_icmp_eqT (tgt := 834) dL_law_408 (by decide) rfl kK) ?_
  exact hno T2 hL2
set_option maxHeartbeats 4000000 in
theorem w_at {N k : Nat} {xs : Nat → Int32} {T : TH} {P : Option Value → TH → Prop} (hN : N ≤ 3584) (hk : 7 * k + 7 ≤ N) (h : LIn (N, xs) T k) (hno : ∀ T2, LIn (N, xs) T2 (k + 1) → Xe m_law 1000 834 [(3, .int (nI (7 * k))), (2, .ref 88), (1, .ref 0), (0, .float 0)] [] T2 P) : Xe m_law 1000 413 [(3, .int (nI (7 * k))), (2, .ref 88), (1, .ref 0), (0, .float 0)] [] T P := by
  have hz := h.1
  have hK0 : e_K T 0 = 8 := by
    obtain ⟨-, hs, s, en, lo, ps, n, b, tx, fk, fq, A, cp, cu, sp, hC, hR, hRs⟩ := h
    exact hC.1.1.1
  have hv : ∀ j, (e_sc T).2 j = xs j := fun j => by rw [hz]
  have hb : ∀ j, j < 7 → (7 * k) + j < (e_sc T).1 := fun j hj => by rw [hz]; show 7 * k + j < N; omega
  have hb0 : (e_sc T).1 < 2147483648 := by rw [hz]; show N < _; omega
  refine xe (fun _ _ kK => x_aload_n dL_law_413 rfl 2 rfl kK) ?_
  refine xe (fun _ _ kK => x_aload_nS dL_law_414 rfl 3 rfl kK) ?_
  refine xe (fun _ _ kK => x_iload_n dL_law_415 rfl 0 rfl kK) ?_
  refine xe (fun _ _ kK => x_iconst dL_law_416 (show _ = nI 1 by decide) kK) ?_
  refine xe (fun _ _ kK => x_iadd dL_law_417 kK) ?_
  refine xe_ti (show _ = nI ((7 * k) + 1) from nI_add (7 * k) 1) ?_
  refine xe (fun _ _ kK => x_sld dL_law_418 rfl hb0 (show (nI ((7 * k) + 1)) = nI ((7 * k) + 1) from rfl) (hb 1 (by decide)) (show _ = xs ((7 * k) + 1) from hv ((7 * k) + 1)) kK) ?_
  obtain ⟨v, M, hx, hm⟩ := sim_at h (xs ((7 * k) + 1))
  refine xe_callV (a := 0) [.int (xs ((7 * k) + 1))] dL_law_419 ml_L_60 mf_X7_at hK0 (hx) rfl rfl (Nat.le_of_ble_eq_true rfl) (Nat.le_of_ble_eq_true rfl) ?_
  rintro _ T1 ⟨rfl, hM⟩
  obtain ⟨hK1, hz1, hr⟩ := hm T1 hM
  have hv1 : ∀ j, (e_sc T1).2 j = xs j := fun j => by rw [hz1]
  have hb1 : ∀ j, j < 7 → (7 * k) + j < (e_sc T1).1 := fun j hj => by rw [hz1]; show 7 * k + j < N; omega
  have hb10 : (e_sc T1).1 < 2147483648 := by rw [hz1]; show N < _; omega
  refine xe (fun _ _ kK => x_aload_n dL_law_422 rfl 1 rfl kK) ?_
  refine xe (fun _ _ kK => x_aload_nS dL_law_423 rfl 3 rfl kK) ?_
  refine xe (fun _ _ kK => x_iload_n dL_law_424 rfl 0 rfl kK) ?_
  refine xe (fun _ _ kK => x_iconst dL_law_425 (show _ = nI 1 by decide) kK) ?_
  refine xe (fun _ _ kK => x_iadd dL_law_426 kK) ?_
  refine xe_ti (show _ = nI ((7 * k) + 1) from nI_add (7 * k) 1) ?_
  refine xe (fun _ _ kK => x_sld dL_law_427 rfl hb10 (show (nI ((7 * k) + 1)) = nI ((7 * k) + 1) from rfl) (hb1 1 (by decide)) (show _ = xs ((7 * k) + 1) from hv1 ((7 * k) + 1)) kK) ?_
  refine xe_callV (a := 88) [.int (xs ((7 * k) + 1))] dL_law_428 ml_L_63 mf_X8_at hK1 (hr) rfl rfl (Nat.le_of_ble_eq_true rfl) (Nat.le_of_ble_eq_true rfl) ?_
  rintro _ T2 ⟨rfl, hL2⟩
  refine xe (fun _ _ kK => x_icmp_eqT (tgt := 834) dL_law_431 (by decide) rfl kK) ?_
  exact hno T2 hL2
set_option maxHeartbeats 4000000 in
theorem w_among {N k : Nat} {xs : Nat → Int32} {T : TH} {P : Option Value → TH → Prop} (hN : N ≤ 3584) (hk : 7 * k + 7 ≤ N) (h : LIn (N, xs) T k) (hno : ∀ T2, LIn (N, xs) T2 (k + 1) → Xe m_law 1000 834 [(3, .int (nI (7 * k))), (2, .ref 88), (1, .ref 0), (0, .float 0)] [] T2 P) : Xe m_law 1000 436 [(3, .int (nI (7 * k))), (2, .ref 88), (1, .ref 0), (0, .float 0)] [] T P := by
  have hz := h.1
  have hK0 : e_K T 0 = 8 := by
    obtain ⟨-, hs, s, en, lo, ps, n, b, tx, fk, fq, A, cp, cu, sp, hC, hR, hRs⟩ := h
    exact hC.1.1.1
  have hv : ∀ j, (e_sc T).2 j = xs j := fun j => by rw [hz]
  have hb : ∀ j, j < 7 → (7 * k) + j < (e_sc T).1 := fun j hj => by rw [hz]; show 7 * k + j < N; omega
  have hb0 : (e_sc T).1 < 2147483648 := by rw [hz]; show N < _; omega
  refine xe (fun _ _ kK => x_aload_n dL_law_436 rfl 2 rfl kK) ?_
  refine xe (fun _ _ kK => x_aload_nS dL_law_437 rfl 3 rfl kK) ?_
  refine xe (fun _ _ kK => x_iload_n dL_law_438 rfl 0 rfl kK) ?_
  refine xe (fun _ _ kK => x_iconst dL_law_439 (show _ = nI 1 by decide) kK) ?_
  refine xe (fun _ _ kK => x_iadd dL_law_440 kK) ?_
  refine xe_ti (show _ = nI ((7 * k) + 1) from nI_add (7 * k) 1) ?_
  refine xe (fun _ _ kK => x_sld dL_law_441 rfl hb0 (show (nI ((7 * k) + 1)) = nI ((7 * k) + 1) from rfl) (hb 1 (by decide)) (show _ = xs ((7 * k) + 1) from hv ((7 * k) + 1)) kK) ?_
  refine xe (fun _ _ kK => x_aload_nS dL_law_442 rfl 3 rfl kK) ?_
  refine xe (fun _ _ kK => x_iload_n dL_law_443 rfl 0 rfl kK) ?_
  refine xe (fun _ _ kK => x_iconst dL_law_444 (show _ = nI 2 by decide) kK) ?_
  refine xe (fun _ _ kK => x_iadd dL_law_445 kK) ?_
  refine xe_ti (show _ = nI ((7 * k) + 2) from nI_add (7 * k) 2) ?_
  refine xe (fun _ _ kK => x_sld dL_law_446 rfl hb0 (show (nI ((7 * k) + 2)) = nI ((7 * k) + 2) from rfl) (hb 2 (by decide)) (show _ = xs ((7 * k) + 2) from hv ((7 * k) + 2)) kK) ?_
  refine xe (fun _ _ kK => x_i2l dL_law_447 kK) ?_
  refine xe (fun _ _ kK => x_bipush dL_law_448 (show _ = nI 32 by decide) kK) ?_
  refine xe (fun _ _ kK => x_lshl dL_law_450 kK) ?_
  refine xe (fun _ _ kK => x_aload_nS dL_law_451 rfl 3 rfl kK) ?_
  refine xe (fun _ _ kK => x_iload_n dL_law_452 rfl 0 rfl kK) ?_
  refine xe (fun _ _ kK => x_iconst dL_law_453 (show _ = nI 3 by decide) kK) ?_
  refine xe (fun _ _ kK => x_iadd dL_law_454 kK) ?_
  refine xe_ti (show _ = nI ((7 * k) + 3) from nI_add (7 * k) 3) ?_
  refine xe (fun _ _ kK => x_sld dL_law_455 rfl hb0 (show (nI ((7 * k) + 3)) = nI ((7 * k) + 3) from rfl) (hb 3 (by decide)) (show _ = xs ((7 * k) + 3) from hv ((7 * k) + 3)) kK) ?_
  refine xe (fun _ _ kK => x_i2l dL_law_456 kK) ?_
  refine xe (fun _ _ kK => x_ldc2 dL_law_457 kl_L_64 kK) ?_
  refine xe_tl (show _ = lN 4294967295 from by decide) ?_
  refine xe (fun _ _ kK => x_land dL_law_460 kK) ?_
  refine xe (fun _ _ kK => x_lor dL_law_461 kK) ?_
  refine xe (fun _ _ kK => x_aload_nS dL_law_462 rfl 3 rfl kK) ?_
  refine xe (fun _ _ kK => x_iload_n dL_law_463 rfl 0 rfl kK) ?_
  refine xe (fun _ _ kK => x_iconst dL_law_464 (show _ = nI 4 by decide) kK) ?_
  refine xe (fun _ _ kK => x_iadd dL_law_465 kK) ?_
  refine xe_ti (show _ = nI ((7 * k) + 4) from nI_add (7 * k) 4) ?_
  refine xe (fun _ _ kK => x_sld dL_law_466 rfl hb0 (show (nI ((7 * k) + 4)) = nI ((7 * k) + 4) from rfl) (hb 4 (by decide)) (show _ = xs ((7 * k) + 4) from hv ((7 * k) + 4)) kK) ?_
  refine xe (fun _ _ kK => x_i2l dL_law_467 kK) ?_
  refine xe (fun _ _ kK => x_bipush dL_law_468 (show _ = nI 32 by decide) kK) ?_
  refine xe (fun _ _ kK => x_lshl dL_law_470 kK) ?_
  refine xe (fun _ _ kK => x_aload_nS dL_law_471 rfl 3 rfl kK) ?_
  refine xe (fun _ _ kK => x_iload_n dL_law_472 rfl 0 rfl kK) ?_
  refine xe (fun _ _ kK => x_iconst dL_law_473 (show _ = nI 5 by decide) kK) ?_
  refine xe (fun _ _ kK => x_iadd dL_law_474 kK) ?_
  refine xe_ti (show _ = nI ((7 * k) + 5) from nI_add (7 * k) 5) ?_
  refine xe (fun _ _ kK => x_sld dL_law_475 rfl hb0 (show (nI ((7 * k) + 5)) = nI ((7 * k) + 5) from rfl) (hb 5 (by decide)) (show _ = xs ((7 * k) + 5) from hv ((7 * k) + 5)) kK) ?_
  refine xe (fun _ _ kK => x_i2l dL_law_476 kK) ?_
  refine xe (fun _ _ kK => x_ldc2 dL_law_477 kl_L_64 kK) ?_
  refine xe_tl (show _ = lN 4294967295 from by decide) ?_
  refine xe (fun _ _ kK => x_land dL_law_480 kK) ?_
  refine xe (fun _ _ kK => x_lor dL_law_481 kK) ?_
  obtain ⟨v, M, hx, hm⟩ := sim_among h (xs ((7 * k) + 1)) ((((xs ((7 * k) + 2)).toInt64) <<< ((nI 32).toInt64 &&& 63)) ||| (((xs ((7 * k) + 3)).toInt64) &&& (lN 4294967295))) ((((xs ((7 * k) + 4)).toInt64) <<< ((nI 32).toInt64 &&& 63)) ||| (((xs ((7 * k) + 5)).toInt64) &&& (lN 4294967295)))
  refine xe_callV (a := 0) [.int (xs ((7 * k) + 1)), .long ((((xs ((7 * k) + 2)).toInt64) <<< ((nI 32).toInt64 &&& 63)) ||| (((xs ((7 * k) + 3)).toInt64) &&& (lN 4294967295))), .long ((((xs ((7 * k) + 4)).toInt64) <<< ((nI 32).toInt64 &&& 63)) ||| (((xs ((7 * k) + 5)).toInt64) &&& (lN 4294967295)))] dL_law_482 ml_L_66 mf_X7_among hK0 (hx) rfl rfl (Nat.le_of_ble_eq_true rfl) (Nat.le_of_ble_eq_true rfl) ?_
  rintro _ T1 ⟨rfl, hM⟩
  obtain ⟨hK1, hz1, hr⟩ := hm T1 hM
  have hv1 : ∀ j, (e_sc T1).2 j = xs j := fun j => by rw [hz1]
  have hb1 : ∀ j, j < 7 → (7 * k) + j < (e_sc T1).1 := fun j hj => by rw [hz1]; show 7 * k + j < N; omega
  have hb10 : (e_sc T1).1 < 2147483648 := by rw [hz1]; show N < _; omega
  refine xe (fun _ _ kK => x_aload_n dL_law_485 rfl 1 rfl kK) ?_
  refine xe (fun _ _ kK => x_aload_nS dL_law_486 rfl 3 rfl kK) ?_
  refine xe (fun _ _ kK => x_iload_n dL_law_487 rfl 0 rfl kK) ?_
  refine xe (fun _ _ kK => x_iconst dL_law_488 (show _ = nI 1 by decide) kK) ?_
  refine xe (fun _ _ kK => x_iadd dL_law_489 kK) ?_
  refine xe_ti (show _ = nI ((7 * k) + 1) from nI_add (7 * k) 1) ?_
  refine xe (fun _ _ kK => x_sld dL_law_490 rfl hb10 (show (nI ((7 * k) + 1)) = nI ((7 * k) + 1) from rfl) (hb1 1 (by decide)) (show _ = xs ((7 * k) + 1) from hv1 ((7 * k) + 1)) kK) ?_
  refine xe (fun _ _ kK => x_aload_nS dL_law_491 rfl 3 rfl kK) ?_
  refine xe (fun _ _ kK => x_iload_n dL_law_492 rfl 0 rfl kK) ?_
  refine xe (fun _ _ kK => x_iconst dL_law_493 (show _ = nI 2 by decide) kK) ?_
  refine xe (fun _ _ kK => x_iadd dL_law_494 kK) ?_
  refine xe_ti (show _ = nI ((7 * k) + 2) from nI_add (7 * k) 2) ?_
  refine xe (fun _ _ kK => x_sld dL_law_495 rfl hb10 (show (nI ((7 * k) + 2)) = nI ((7 * k) + 2) from rfl) (hb1 2 (by decide)) (show _ = xs ((7 * k) + 2) from hv1 ((7 * k) + 2)) kK) ?_
  refine xe (fun _ _ kK => x_i2l dL_law_496 kK) ?_
  refine xe (fun _ _ kK => x_bipush dL_law_497 (show _ = nI 32 by decide) kK) ?_
  refine xe (fun _ _ kK => x_lshl dL_law_499 kK) ?_
  refine xe (fun _ _ kK => x_aload_nS dL_law_500 rfl 3 rfl kK) ?_
  refine xe (fun _ _ kK => x_iload_n dL_law_501 rfl 0 rfl kK) ?_
  refine xe (fun _ _ kK => x_iconst dL_law_502 (show _ = nI 3 by decide) kK) ?_
  refine xe (fun _ _ kK => x_iadd dL_law_503 kK) ?_
  refine xe_ti (show _ = nI ((7 * k) + 3) from nI_add (7 * k) 3) ?_
  refine xe (fun _ _ kK => x_sld dL_law_504 rfl hb10 (show (nI ((7 * k) + 3)) = nI ((7 * k) + 3) from rfl) (hb1 3 (by decide)) (show _ = xs ((7 * k) + 3) from hv1 ((7 * k) + 3)) kK) ?_
  refine xe (fun _ _ kK => x_i2l dL_law_505 kK) ?_
  refine xe (fun _ _ kK => x_ldc2 dL_law_506 kl_L_64 kK) ?_
  refine xe_tl (show _ = lN 4294967295 from by decide) ?_
  refine xe (fun _ _ kK => x_land dL_law_509 kK) ?_
  refine xe (fun _ _ kK => x_lor dL_law_510 kK) ?_
  refine xe (fun _ _ kK => x_aload_nS dL_law_511 rfl 3 rfl kK) ?_
  refine xe (fun _ _ kK => x_iload_n dL_law_512 rfl 0 rfl kK) ?_
  refine xe (fun _ _ kK => x_iconst dL_law_513 (show _ = nI 4 by decide) kK) ?_
  refine xe (fun _ _ kK => x_iadd dL_law_514 kK) ?_
  refine xe_ti (show _ = nI ((7 * k) + 4) from nI_add (7 * k) 4) ?_
  refine xe (fun _ _ kK => x_sld dL_law_515 rfl hb10 (show (nI ((7 * k) + 4)) = nI ((7 * k) + 4) from rfl) (hb1 4 (by decide)) (show _ = xs ((7 * k) + 4) from hv1 ((7 * k) + 4)) kK) ?_
  refine xe (fun _ _ kK => x_i2l dL_law_516 kK) ?_
  refine xe (fun _ _ kK => x_bipush dL_law_517 (show _ = nI 32 by decide) kK) ?_
  refine xe (fun _ _ kK => x_lshl dL_law_519 kK) ?_
  refine xe (fun _ _ kK => x_aload_nS dL_law_520 rfl 3 rfl kK) ?_
  refine xe (fun _ _ kK => x_iload_n dL_law_521 rfl 0 rfl kK) ?_
  refine xe (fun _ _ kK => x_iconst dL_law_522 (show _ = nI 5 by decide) kK) ?_
  refine xe (fun _ _ kK => x_iadd dL_law_523 kK) ?_
  refine xe_ti (show _ = nI ((7 * k) + 5) from nI_add (7 * k) 5) ?_
  refine xe (fun _ _ kK => x_sld dL_law_524 rfl hb10 (show (nI ((7 * k) + 5)) = nI ((7 * k) + 5) from rfl) (hb1 5 (by decide)) (show _ = xs ((7 * k) + 5) from hv1 ((7 * k) + 5)) kK) ?_
  refine xe (fun _ _ kK => x_i2l dL_law_525 kK) ?_
  refine xe (fun _ _ kK => x_ldc2 dL_law_526 kl_L_64 kK) ?_
  refine xe_tl (show _ = lN 4294967295 from by decide) ?_
  refine xe (fun _ _ kK => x_land dL_law_529 kK) ?_
  refine xe (fun _ _ kK => x_lor dL_law_530 kK) ?_
  refine xe_callV (a := 88) [.int (xs ((7 * k) + 1)), .long ((((xs ((7 * k) + 2)).toInt64) <<< ((nI 32).toInt64 &&& 63)) ||| (((xs ((7 * k) + 3)).toInt64) &&& (lN 4294967295))), .long ((((xs ((7 * k) + 4)).toInt64) <<< ((nI 32).toInt64 &&& 63)) ||| (((xs ((7 * k) + 5)).toInt64) &&& (lN 4294967295)))] dL_law_531 ml_L_70 mf_X8_among hK1 (hr) rfl rfl (Nat.le_of_ble_eq_true rfl) (Nat.le_of_ble_eq_true rfl) ?_
  rintro _ T2 ⟨rfl, hL2⟩
  refine xe (fun _ _ kK => x_icmp_eqT (tgt := 834) dL_law_534 (by decide) rfl kK) ?_
  exact hno T2 hL2
set_option maxHeartbeats 4000000 in
theorem w_papers {N k : Nat} {xs : Nat → Int32} {T : TH} {P : Option Value → TH → Prop} (hN : N ≤ 3584) (hk : 7 * k + 7 ≤ N) (h : LIn (N, xs) T k) (hno : ∀ T2, LIn (N, xs) T2 (k + 1) → Xe m_law 1000 834 [(3, .int (nI (7 * k))), (2, .ref 88), (1, .ref 0), (0, .float 0)] [] T2 P) : Xe m_law 1000 539 [(3, .int (nI (7 * k))), (2, .ref 88), (1, .ref 0), (0, .float 0)] [] T P := by
  have hz := h.1
  have hK0 : e_K T 0 = 8 := by
    obtain ⟨-, hs, s, en, lo, ps, n, b, tx, fk, fq, A, cp, cu, sp, hC, hR, hRs⟩ := h
    exact hC.1.1.1
  have hv : ∀ j, (e_sc T).2 j = xs j := fun j => by rw [hz]
  have hb : ∀ j, j < 7 → (7 * k) + j < (e_sc T).1 := fun j hj => by rw [hz]; show 7 * k + j < N; omega
  have hb0 : (e_sc T).1 < 2147483648 := by rw [hz]; show N < _; omega
  refine xe (fun _ _ kK => x_aload_n dL_law_539 rfl 2 rfl kK) ?_
  refine xe (fun _ _ kK => x_aload_nS dL_law_540 rfl 3 rfl kK) ?_
  refine xe (fun _ _ kK => x_iload_n dL_law_541 rfl 0 rfl kK) ?_
  refine xe (fun _ _ kK => x_iconst dL_law_542 (show _ = nI 1 by decide) kK) ?_
  refine xe (fun _ _ kK => x_iadd dL_law_543 kK) ?_
  refine xe_ti (show _ = nI ((7 * k) + 1) from nI_add (7 * k) 1) ?_
  refine xe (fun _ _ kK => x_sld dL_law_544 rfl hb0 (show (nI ((7 * k) + 1)) = nI ((7 * k) + 1) from rfl) (hb 1 (by decide)) (show _ = xs ((7 * k) + 1) from hv ((7 * k) + 1)) kK) ?_
  refine xe (fun _ _ kK => x_aload_nS dL_law_545 rfl 3 rfl kK) ?_
  refine xe (fun _ _ kK => x_iload_n dL_law_546 rfl 0 rfl kK) ?_
  refine xe (fun _ _ kK => x_iconst dL_law_547 (show _ = nI 2 by decide) kK) ?_
  refine xe (fun _ _ kK => x_iadd dL_law_548 kK) ?_
  refine xe_ti (show _ = nI ((7 * k) + 2) from nI_add (7 * k) 2) ?_
  refine xe (fun _ _ kK => x_sld dL_law_549 rfl hb0 (show (nI ((7 * k) + 2)) = nI ((7 * k) + 2) from rfl) (hb 2 (by decide)) (show _ = xs ((7 * k) + 2) from hv ((7 * k) + 2)) kK) ?_
  refine xe (fun _ _ kK => x_i2l dL_law_550 kK) ?_
  refine xe (fun _ _ kK => x_bipush dL_law_551 (show _ = nI 32 by decide) kK) ?_
  refine xe (fun _ _ kK => x_lshl dL_law_553 kK) ?_
  refine xe (fun _ _ kK => x_aload_nS dL_law_554 rfl 3 rfl kK) ?_
  refine xe (fun _ _ kK => x_iload_n dL_law_555 rfl 0 rfl kK) ?_
  refine xe (fun _ _ kK => x_iconst dL_law_556 (show _ = nI 3 by decide) kK) ?_
  refine xe (fun _ _ kK => x_iadd dL_law_557 kK) ?_
  refine xe_ti (show _ = nI ((7 * k) + 3) from nI_add (7 * k) 3) ?_
  refine xe (fun _ _ kK => x_sld dL_law_558 rfl hb0 (show (nI ((7 * k) + 3)) = nI ((7 * k) + 3) from rfl) (hb 3 (by decide)) (show _ = xs ((7 * k) + 3) from hv ((7 * k) + 3)) kK) ?_
  refine xe (fun _ _ kK => x_i2l dL_law_559 kK) ?_
  refine xe (fun _ _ kK => x_ldc2 dL_law_560 kl_L_64 kK) ?_
  refine xe_tl (show _ = lN 4294967295 from by decide) ?_
  refine xe (fun _ _ kK => x_land dL_law_563 kK) ?_
  refine xe (fun _ _ kK => x_lor dL_law_564 kK) ?_
  refine xe (fun _ _ kK => x_aload_nS dL_law_565 rfl 3 rfl kK) ?_
  refine xe (fun _ _ kK => x_iload_n dL_law_566 rfl 0 rfl kK) ?_
  refine xe (fun _ _ kK => x_iconst dL_law_567 (show _ = nI 4 by decide) kK) ?_
  refine xe (fun _ _ kK => x_iadd dL_law_568 kK) ?_
  refine xe_ti (show _ = nI ((7 * k) + 4) from nI_add (7 * k) 4) ?_
  refine xe (fun _ _ kK => x_sld dL_law_569 rfl hb0 (show (nI ((7 * k) + 4)) = nI ((7 * k) + 4) from rfl) (hb 4 (by decide)) (show _ = xs ((7 * k) + 4) from hv ((7 * k) + 4)) kK) ?_
  refine xe (fun _ _ kK => x_i2l dL_law_570 kK) ?_
  refine xe (fun _ _ kK => x_bipush dL_law_571 (show _ = nI 32 by decide) kK) ?_
  refine xe (fun _ _ kK => x_lshl dL_law_573 kK) ?_
  refine xe (fun _ _ kK => x_aload_nS dL_law_574 rfl 3 rfl kK) ?_
  refine xe (fun _ _ kK => x_iload_n dL_law_575 rfl 0 rfl kK) ?_
  refine xe (fun _ _ kK => x_iconst dL_law_576 (show _ = nI 5 by decide) kK) ?_
  refine xe (fun _ _ kK => x_iadd dL_law_577 kK) ?_
  refine xe_ti (show _ = nI ((7 * k) + 5) from nI_add (7 * k) 5) ?_
  refine xe (fun _ _ kK => x_sld dL_law_578 rfl hb0 (show (nI ((7 * k) + 5)) = nI ((7 * k) + 5) from rfl) (hb 5 (by decide)) (show _ = xs ((7 * k) + 5) from hv ((7 * k) + 5)) kK) ?_
  refine xe (fun _ _ kK => x_i2l dL_law_579 kK) ?_
  refine xe (fun _ _ kK => x_ldc2 dL_law_580 kl_L_64 kK) ?_
  refine xe_tl (show _ = lN 4294967295 from by decide) ?_
  refine xe (fun _ _ kK => x_land dL_law_583 kK) ?_
  refine xe (fun _ _ kK => x_lor dL_law_584 kK) ?_
  obtain ⟨v, M, hx, hm⟩ := sim_papers h (xs ((7 * k) + 1)) ((((xs ((7 * k) + 2)).toInt64) <<< ((nI 32).toInt64 &&& 63)) ||| (((xs ((7 * k) + 3)).toInt64) &&& (lN 4294967295))) ((((xs ((7 * k) + 4)).toInt64) <<< ((nI 32).toInt64 &&& 63)) ||| (((xs ((7 * k) + 5)).toInt64) &&& (lN 4294967295)))
  refine xe_callV (a := 0) [.int (xs ((7 * k) + 1)), .long ((((xs ((7 * k) + 2)).toInt64) <<< ((nI 32).toInt64 &&& 63)) ||| (((xs ((7 * k) + 3)).toInt64) &&& (lN 4294967295))), .long ((((xs ((7 * k) + 4)).toInt64) <<< ((nI 32).toInt64 &&& 63)) ||| (((xs ((7 * k) + 5)).toInt64) &&& (lN 4294967295)))] dL_law_585 ml_L_71 mf_X7_papers hK0 (hx) rfl rfl (Nat.le_of_ble_eq_true rfl) (Nat.le_of_ble_eq_true rfl) ?_
  rintro _ T1 ⟨rfl, hM⟩
  obtain ⟨hK1, hz1, hr⟩ := hm T1 hM
  have hv1 : ∀ j, (e_sc T1).2 j = xs j := fun j => by rw [hz1]
  have hb1 : ∀ j, j < 7 → (7 * k) + j < (e_sc T1).1 := fun j hj => by rw [hz1]; show 7 * k + j < N; omega
  have hb10 : (e_sc T1).1 < 2147483648 := by rw [hz1]; show N < _; omega
  refine xe (fun _ _ kK => x_aload_n dL_law_588 rfl 1 rfl kK) ?_
  refine xe (fun _ _ kK => x_aload_nS dL_law_589 rfl 3 rfl kK) ?_
  refine xe (fun _ _ kK => x_iload_n dL_law_590 rfl 0 rfl kK) ?_
  refine xe (fun _ _ kK => x_iconst dL_law_591 (show _ = nI 1 by decide) kK) ?_
  refine xe (fun _ _ kK => x_iadd dL_law_592 kK) ?_
  refine xe_ti (show _ = nI ((7 * k) + 1) from nI_add (7 * k) 1) ?_
  refine xe (fun _ _ kK => x_sld dL_law_593 rfl hb10 (show (nI ((7 * k) + 1)) = nI ((7 * k) + 1) from rfl) (hb1 1 (by decide)) (show _ = xs ((7 * k) + 1) from hv1 ((7 * k) + 1)) kK) ?_
  refine xe (fun _ _ kK => x_aload_nS dL_law_594 rfl 3 rfl kK) ?_
  refine xe (fun _ _ kK => x_iload_n dL_law_595 rfl 0 rfl kK) ?_
  refine xe (fun _ _ kK => x_iconst dL_law_596 (show _ = nI 2 by decide) kK) ?_
  refine xe (fun _ _ kK => x_iadd dL_law_597 kK) ?_
  refine xe_ti (show _ = nI ((7 * k) + 2) from nI_add (7 * k) 2) ?_
  refine xe (fun _ _ kK => x_sld dL_law_598 rfl hb10 (show (nI ((7 * k) + 2)) = nI ((7 * k) + 2) from rfl) (hb1 2 (by decide)) (show _ = xs ((7 * k) + 2) from hv1 ((7 * k) + 2)) kK) ?_
  refine xe (fun _ _ kK => x_i2l dL_law_599 kK) ?_
  refine xe (fun _ _ kK => x_bipush dL_law_600 (show _ = nI 32 by decide) kK) ?_
  refine xe (fun _ _ kK => x_lshl dL_law_602 kK) ?_
  refine xe (fun _ _ kK => x_aload_nS dL_law_603 rfl 3 rfl kK) ?_
  refine xe (fun _ _ kK => x_iload_n dL_law_604 rfl 0 rfl kK) ?_
  refine xe (fun _ _ kK => x_iconst dL_law_605 (show _ = nI 3 by decide) kK) ?_
  refine xe (fun _ _ kK => x_iadd dL_law_606 kK) ?_
  refine xe_ti (show _ = nI ((7 * k) + 3) from nI_add (7 * k) 3) ?_
  refine xe (fun _ _ kK => x_sld dL_law_607 rfl hb10 (show (nI ((7 * k) + 3)) = nI ((7 * k) + 3) from rfl) (hb1 3 (by decide)) (show _ = xs ((7 * k) + 3) from hv1 ((7 * k) + 3)) kK) ?_
  refine xe (fun _ _ kK => x_i2l dL_law_608 kK) ?_
  refine xe (fun _ _ kK => x_ldc2 dL_law_609 kl_L_64 kK) ?_
  refine xe_tl (show _ = lN 4294967295 from by decide) ?_
  refine xe (fun _ _ kK => x_land dL_law_612 kK) ?_
  refine xe (fun _ _ kK => x_lor dL_law_613 kK) ?_
  refine xe (fun _ _ kK => x_aload_nS dL_law_614 rfl 3 rfl kK) ?_
  refine xe (fun _ _ kK => x_iload_n dL_law_615 rfl 0 rfl kK) ?_
  refine xe (fun _ _ kK => x_iconst dL_law_616 (show _ = nI 4 by decide) kK) ?_
  refine xe (fun _ _ kK => x_iadd dL_law_617 kK) ?_
  refine xe_ti (show _ = nI ((7 * k) + 4) from nI_add (7 * k) 4) ?_
  refine xe (fun _ _ kK => x_sld dL_law_618 rfl hb10 (show (nI ((7 * k) + 4)) = nI ((7 * k) + 4) from rfl) (hb1 4 (by decide)) (show _ = xs ((7 * k) + 4) from hv1 ((7 * k) + 4)) kK) ?_
  refine xe (fun _ _ kK => x_i2l dL_law_619 kK) ?_
  refine xe (fun _ _ kK => x_bipush dL_law_620 (show _ = nI 32 by decide) kK) ?_
  refine xe (fun _ _ kK => x_lshl dL_law_622 kK) ?_
  refine xe (fun _ _ kK => x_aload_nS dL_law_623 rfl 3 rfl kK) ?_
  refine xe (fun _ _ kK => x_iload_n dL_law_624 rfl 0 rfl kK) ?_
  refine xe (fun _ _ kK => x_iconst dL_law_625 (show _ = nI 5 by decide) kK) ?_
  refine xe (fun _ _ kK => x_iadd dL_law_626 kK) ?_
  refine xe_ti (show _ = nI ((7 * k) + 5) from nI_add (7 * k) 5) ?_
  refine xe (fun _ _ kK => x_sld dL_law_627 rfl hb10 (show (nI ((7 * k) + 5)) = nI ((7 * k) + 5) from rfl) (hb1 5 (by decide)) (show _ = xs ((7 * k) + 5) from hv1 ((7 * k) + 5)) kK) ?_
  refine xe (fun _ _ kK => x_i2l dL_law_628 kK) ?_
  refine xe (fun _ _ kK => x_ldc2 dL_law_629 kl_L_64 kK) ?_
  refine xe_tl (show _ = lN 4294967295 from by decide) ?_
  refine xe (fun _ _ kK => x_land dL_law_632 kK) ?_
  refine xe (fun _ _ kK => x_lor dL_law_633 kK) ?_
  refine xe_callV (a := 88) [.int (xs ((7 * k) + 1)), .long ((((xs ((7 * k) + 2)).toInt64) <<< ((nI 32).toInt64 &&& 63)) ||| (((xs ((7 * k) + 3)).toInt64) &&& (lN 4294967295))), .long ((((xs ((7 * k) + 4)).toInt64) <<< ((nI 32).toInt64 &&& 63)) ||| (((xs ((7 * k) + 5)).toInt64) &&& (lN 4294967295)))] dL_law_634 ml_L_74 mf_X8_papers hK1 (hr) rfl rfl (Nat.le_of_ble_eq_true rfl) (Nat.le_of_ble_eq_true rfl) ?_
  rintro _ T2 ⟨rfl, hL2⟩
  refine xe (fun _ _ kK => x_icmp_eqT (tgt := 834) dL_law_637 (by decide) rfl kK) ?_
  exact hno T2 hL2
set_option maxHeartbeats 4000000 in
theorem w_sum {N k : Nat} {xs : Nat → Int32} {T : TH} {P : Option Value → TH → Prop} (hN : N ≤ 3584) (hk : 7 * k + 7 ≤ N) (h : LIn (N, xs) T k) (hno : ∀ T2, LIn (N, xs) T2 (k + 1) → Xe m_law 1000 834 [(3, .int (nI (7 * k))), (2, .ref 88), (1, .ref 0), (0, .float 0)] [] T2 P) : Xe m_law 1000 642 [(3, .int (nI (7 * k))), (2, .ref 88), (1, .ref 0), (0, .float 0)] [] T P := by
  have hz := h.1
  have hK0 : e_K T 0 = 8 := by
    obtain ⟨-, hs, s, en, lo, ps, n, b, tx, fk, fq, A, cp, cu, sp, hC, hR, hRs⟩ := h
    exact hC.1.1.1
  have hv : ∀ j, (e_sc T).2 j = xs j := fun j => by rw [hz]
  have hb : ∀ j, j < 7 → (7 * k) + j < (e_sc T).1 := fun j hj => by rw [hz]; show 7 * k + j < N; omega
  have hb0 : (e_sc T).1 < 2147483648 := by rw [hz]; show N < _; omega
  refine xe (fun _ _ kK => x_aload_n dL_law_642 rfl 2 rfl kK) ?_
  refine xe (fun _ _ kK => x_aload_nS dL_law_643 rfl 3 rfl kK) ?_
  refine xe (fun _ _ kK => x_iload_n dL_law_644 rfl 0 rfl kK) ?_
  refine xe (fun _ _ kK => x_iconst dL_law_645 (show _ = nI 1 by decide) kK) ?_
  refine xe (fun _ _ kK => x_iadd dL_law_646 kK) ?_
  refine xe_ti (show _ = nI ((7 * k) + 1) from nI_add (7 * k) 1) ?_
  refine xe (fun _ _ kK => x_sld dL_law_647 rfl hb0 (show (nI ((7 * k) + 1)) = nI ((7 * k) + 1) from rfl) (hb 1 (by decide)) (show _ = xs ((7 * k) + 1) from hv ((7 * k) + 1)) kK) ?_
  refine xe (fun _ _ kK => x_aload_nS dL_law_648 rfl 3 rfl kK) ?_
  refine xe (fun _ _ kK => x_iload_n dL_law_649 rfl 0 rfl kK) ?_
  refine xe (fun _ _ kK => x_iconst dL_law_650 (show _ = nI 2 by decide) kK) ?_
  refine xe (fun _ _ kK => x_iadd dL_law_651 kK) ?_
  refine xe_ti (show _ = nI ((7 * k) + 2) from nI_add (7 * k) 2) ?_
  refine xe (fun _ _ kK => x_sld dL_law_652 rfl hb0 (show (nI ((7 * k) + 2)) = nI ((7 * k) + 2) from rfl) (hb 2 (by decide)) (show _ = xs ((7 * k) + 2) from hv ((7 * k) + 2)) kK) ?_
  obtain ⟨v, M, hx, hm⟩ := sim_sum h (xs ((7 * k) + 1)) (xs ((7 * k) + 2))
  refine xe_callV (a := 0) [.int (xs ((7 * k) + 1)), .int (xs ((7 * k) + 2))] dL_law_653 ml_L_75 mf_X7_sum hK0 (hx) rfl rfl (Nat.le_of_ble_eq_true rfl) (Nat.le_of_ble_eq_true rfl) ?_
  rintro _ T1 ⟨rfl, hM⟩
  obtain ⟨hK1, hz1, hr⟩ := hm T1 hM
  have hv1 : ∀ j, (e_sc T1).2 j = xs j := fun j => by rw [hz1]
  have hb1 : ∀ j, j < 7 → (7 * k) + j < (e_sc T1).1 := fun j hj => by rw [hz1]; show 7 * k + j < N; omega
  have hb10 : (e_sc T1).1 < 2147483648 := by rw [hz1]; show N < _; omega
  refine xe (fun _ _ kK => x_aload_n dL_law_656 rfl 1 rfl kK) ?_
  refine xe (fun _ _ kK => x_aload_nS dL_law_657 rfl 3 rfl kK) ?_
  refine xe (fun _ _ kK => x_iload_n dL_law_658 rfl 0 rfl kK) ?_
  refine xe (fun _ _ kK => x_iconst dL_law_659 (show _ = nI 1 by decide) kK) ?_
  refine xe (fun _ _ kK => x_iadd dL_law_660 kK) ?_
  refine xe_ti (show _ = nI ((7 * k) + 1) from nI_add (7 * k) 1) ?_
  refine xe (fun _ _ kK => x_sld dL_law_661 rfl hb10 (show (nI ((7 * k) + 1)) = nI ((7 * k) + 1) from rfl) (hb1 1 (by decide)) (show _ = xs ((7 * k) + 1) from hv1 ((7 * k) + 1)) kK) ?_
  refine xe (fun _ _ kK => x_aload_nS dL_law_662 rfl 3 rfl kK) ?_
  refine xe (fun _ _ kK => x_iload_n dL_law_663 rfl 0 rfl kK) ?_
  refine xe (fun _ _ kK => x_iconst dL_law_664 (show _ = nI 2 by decide) kK) ?_
  refine xe (fun _ _ kK => x_iadd dL_law_665 kK) ?_
  refine xe_ti (show _ = nI ((7 * k) + 2) from nI_add (7 * k) 2) ?_
  refine xe (fun _ _ kK => x_sld dL_law_666 rfl hb10 (show (nI ((7 * k) + 2)) = nI ((7 * k) + 2) from rfl) (hb1 2 (by decide)) (show _ = xs ((7 * k) + 2) from hv1 ((7 * k) + 2)) kK) ?_
  refine xe_callV (a := 88) [.int (xs ((7 * k) + 1)), .int (xs ((7 * k) + 2))] dL_law_667 ml_L_78 mf_X8_sum hK1 (hr) rfl rfl (Nat.le_of_ble_eq_true rfl) (Nat.le_of_ble_eq_true rfl) ?_
  rintro _ T2 ⟨rfl, hL2⟩
  refine xe (fun _ _ kK => x_lcmp dL_law_670 kK) ?_
  refine xe (fun _ _ kK => x_if_eqT (tgt := 834) dL_law_671 (by decide) (lc_self v) kK) ?_
  exact hno T2 hL2
set_option maxHeartbeats 4000000 in
theorem w_both {N k : Nat} {xs : Nat → Int32} {T : TH} {P : Option Value → TH → Prop} (hN : N ≤ 3584) (hk : 7 * k + 7 ≤ N) (h : LIn (N, xs) T k) (hno : ∀ T2, LIn (N, xs) T2 (k + 1) → Xe m_law 1000 834 [(3, .int (nI (7 * k))), (2, .ref 88), (1, .ref 0), (0, .float 0)] [] T2 P) : Xe m_law 1000 676 [(3, .int (nI (7 * k))), (2, .ref 88), (1, .ref 0), (0, .float 0)] [] T P := by
  have hz := h.1
  have hK0 : e_K T 0 = 8 := by
    obtain ⟨-, hs, s, en, lo, ps, n, b, tx, fk, fq, A, cp, cu, sp, hC, hR, hRs⟩ := h
    exact hC.1.1.1
  have hv : ∀ j, (e_sc T).2 j = xs j := fun j => by rw [hz]
  have hb : ∀ j, j < 7 → (7 * k) + j < (e_sc T).1 := fun j hj => by rw [hz]; show 7 * k + j < N; omega
  have hb0 : (e_sc T).1 < 2147483648 := by rw [hz]; show N < _; omega
  refine xe (fun _ _ kK => x_aload_n dL_law_676 rfl 2 rfl kK) ?_
  refine xe (fun _ _ kK => x_aload_nS dL_law_677 rfl 3 rfl kK) ?_
  refine xe (fun _ _ kK => x_iload_n dL_law_678 rfl 0 rfl kK) ?_
  refine xe (fun _ _ kK => x_iconst dL_law_679 (show _ = nI 1 by decide) kK) ?_
  refine xe (fun _ _ kK => x_iadd dL_law_680 kK) ?_
  refine xe_ti (show _ = nI ((7 * k) + 1) from nI_add (7 * k) 1) ?_
  refine xe (fun _ _ kK => x_sld dL_law_681 rfl hb0 (show (nI ((7 * k) + 1)) = nI ((7 * k) + 1) from rfl) (hb 1 (by decide)) (show _ = xs ((7 * k) + 1) from hv ((7 * k) + 1)) kK) ?_
  refine xe (fun _ _ kK => x_aload_nS dL_law_682 rfl 3 rfl kK) ?_
  refine xe (fun _ _ kK => x_iload_n dL_law_683 rfl 0 rfl kK) ?_
  refine xe (fun _ _ kK => x_iconst dL_law_684 (show _ = nI 2 by decide) kK) ?_
  refine xe (fun _ _ kK => x_iadd dL_law_685 kK) ?_
  refine xe_ti (show _ = nI ((7 * k) + 2) from nI_add (7 * k) 2) ?_
  refine xe (fun _ _ kK => x_sld dL_law_686 rfl hb0 (show (nI ((7 * k) + 2)) = nI ((7 * k) + 2) from rfl) (hb 2 (by decide)) (show _ = xs ((7 * k) + 2) from hv ((7 * k) + 2)) kK) ?_
  refine xe (fun _ _ kK => x_i2l dL_law_687 kK) ?_
  refine xe (fun _ _ kK => x_bipush dL_law_688 (show _ = nI 32 by decide) kK) ?_
  refine xe (fun _ _ kK => x_lshl dL_law_690 kK) ?_
  refine xe (fun _ _ kK => x_aload_nS dL_law_691 rfl 3 rfl kK) ?_
  refine xe (fun _ _ kK => x_iload_n dL_law_692 rfl 0 rfl kK) ?_
  refine xe (fun _ _ kK => x_iconst dL_law_693 (show _ = nI 3 by decide) kK) ?_
  refine xe (fun _ _ kK => x_iadd dL_law_694 kK) ?_
  refine xe_ti (show _ = nI ((7 * k) + 3) from nI_add (7 * k) 3) ?_
  refine xe (fun _ _ kK => x_sld dL_law_695 rfl hb0 (show (nI ((7 * k) + 3)) = nI ((7 * k) + 3) from rfl) (hb 3 (by decide)) (show _ = xs ((7 * k) + 3) from hv ((7 * k) + 3)) kK) ?_
  refine xe (fun _ _ kK => x_i2l dL_law_696 kK) ?_
  refine xe (fun _ _ kK => x_ldc2 dL_law_697 kl_L_64 kK) ?_
  refine xe_tl (show _ = lN 4294967295 from by decide) ?_
  refine xe (fun _ _ kK => x_land dL_law_700 kK) ?_
  refine xe (fun _ _ kK => x_lor dL_law_701 kK) ?_
  refine xe (fun _ _ kK => x_aload_nS dL_law_702 rfl 3 rfl kK) ?_
  refine xe (fun _ _ kK => x_iload_n dL_law_703 rfl 0 rfl kK) ?_
  refine xe (fun _ _ kK => x_iconst dL_law_704 (show _ = nI 4 by decide) kK) ?_
  refine xe (fun _ _ kK => x_iadd dL_law_705 kK) ?_
  refine xe_ti (show _ = nI ((7 * k) + 4) from nI_add (7 * k) 4) ?_
  refine xe (fun _ _ kK => x_sld dL_law_706 rfl hb0 (show (nI ((7 * k) + 4)) = nI ((7 * k) + 4) from rfl) (hb 4 (by decide)) (show _ = xs ((7 * k) + 4) from hv ((7 * k) + 4)) kK) ?_
  refine xe (fun _ _ kK => x_aload_nS dL_law_707 rfl 3 rfl kK) ?_
  refine xe (fun _ _ kK => x_iload_n dL_law_708 rfl 0 rfl kK) ?_
  refine xe (fun _ _ kK => x_iconst dL_law_709 (show _ = nI 5 by decide) kK) ?_
  refine xe (fun _ _ kK => x_iadd dL_law_710 kK) ?_
  refine xe_ti (show _ = nI ((7 * k) + 5) from nI_add (7 * k) 5) ?_
  refine xe (fun _ _ kK => x_sld dL_law_711 rfl hb0 (show (nI ((7 * k) + 5)) = nI ((7 * k) + 5) from rfl) (hb 5 (by decide)) (show _ = xs ((7 * k) + 5) from hv ((7 * k) + 5)) kK) ?_
  refine xe (fun _ _ kK => x_i2l dL_law_712 kK) ?_
  refine xe (fun _ _ kK => x_bipush dL_law_713 (show _ = nI 32 by decide) kK) ?_
  refine xe (fun _ _ kK => x_lshl dL_law_715 kK) ?_
  refine xe (fun _ _ kK => x_aload_nS dL_law_716 rfl 3 rfl kK) ?_
  refine xe (fun _ _ kK => x_iload_n dL_law_717 rfl 0 rfl kK) ?_
  refine xe (fun _ _ kK => x_bipush dL_law_718 (show _ = nI 6 by decide) kK) ?_
  refine xe (fun _ _ kK => x_iadd dL_law_720 kK) ?_
  refine xe_ti (show _ = nI ((7 * k) + 6) from nI_add (7 * k) 6) ?_
  refine xe (fun _ _ kK => x_sld dL_law_721 rfl hb0 (show (nI ((7 * k) + 6)) = nI ((7 * k) + 6) from rfl) (hb 6 (by decide)) (show _ = xs ((7 * k) + 6) from hv ((7 * k) + 6)) kK) ?_
  refine xe (fun _ _ kK => x_i2l dL_law_722 kK) ?_
  refine xe (fun _ _ kK => x_ldc2 dL_law_723 kl_L_64 kK) ?_
  refine xe_tl (show _ = lN 4294967295 from by decide) ?_
  refine xe (fun _ _ kK => x_land dL_law_726 kK) ?_
  refine xe (fun _ _ kK => x_lor dL_law_727 kK) ?_
  obtain ⟨v, M, hx, hm⟩ := sim_both h (xs ((7 * k) + 1)) ((((xs ((7 * k) + 2)).toInt64) <<< ((nI 32).toInt64 &&& 63)) ||| (((xs ((7 * k) + 3)).toInt64) &&& (lN 4294967295))) (xs ((7 * k) + 4)) ((((xs ((7 * k) + 5)).toInt64) <<< ((nI 32).toInt64 &&& 63)) ||| (((xs ((7 * k) + 6)).toInt64) &&& (lN 4294967295)))
  refine xe_callV (a := 0) [.int (xs ((7 * k) + 1)), .long ((((xs ((7 * k) + 2)).toInt64) <<< ((nI 32).toInt64 &&& 63)) ||| (((xs ((7 * k) + 3)).toInt64) &&& (lN 4294967295))), .int (xs ((7 * k) + 4)), .long ((((xs ((7 * k) + 5)).toInt64) <<< ((nI 32).toInt64 &&& 63)) ||| (((xs ((7 * k) + 6)).toInt64) &&& (lN 4294967295)))] dL_law_728 ml_L_79 mf_X7_both hK0 (hx) rfl rfl (Nat.le_of_ble_eq_true rfl) (Nat.le_of_ble_eq_true rfl) ?_
  rintro _ T1 ⟨rfl, hM⟩
  obtain ⟨hK1, hz1, hr⟩ := hm T1 hM
  have hv1 : ∀ j, (e_sc T1).2 j = xs j := fun j => by rw [hz1]
  have hb1 : ∀ j, j < 7 → (7 * k) + j < (e_sc T1).1 := fun j hj => by rw [hz1]; show 7 * k + j < N; omega
  have hb10 : (e_sc T1).1 < 2147483648 := by rw [hz1]; show N < _; omega
  refine xe (fun _ _ kK => x_aload_n dL_law_731 rfl 1 rfl kK) ?_
  refine xe (fun _ _ kK => x_aload_nS dL_law_732 rfl 3 rfl kK) ?_
  refine xe (fun _ _ kK => x_iload_n dL_law_733 rfl 0 rfl kK) ?_
  refine xe (fun _ _ kK => x_iconst dL_law_734 (show _ = nI 1 by decide) kK) ?_
  refine xe (fun _ _ kK => x_iadd dL_law_735 kK) ?_
  refine xe_ti (show _ = nI ((7 * k) + 1) from nI_add (7 * k) 1) ?_
  refine xe (fun _ _ kK => x_sld dL_law_736 rfl hb10 (show (nI ((7 * k) + 1)) = nI ((7 * k) + 1) from rfl) (hb1 1 (by decide)) (show _ = xs ((7 * k) + 1) from hv1 ((7 * k) + 1)) kK) ?_
  refine xe (fun _ _ kK => x_aload_nS dL_law_737 rfl 3 rfl kK) ?_
  refine xe (fun _ _ kK => x_iload_n dL_law_738 rfl 0 rfl kK) ?_
  refine xe (fun _ _ kK => x_iconst dL_law_739 (show _ = nI 2 by decide) kK) ?_
  refine xe (fun _ _ kK => x_iadd dL_law_740 kK) ?_
  refine xe_ti (show _ = nI ((7 * k) + 2) from nI_add (7 * k) 2) ?_
  refine xe (fun _ _ kK => x_sld dL_law_741 rfl hb10 (show (nI ((7 * k) + 2)) = nI ((7 * k) + 2) from rfl) (hb1 2 (by decide)) (show _ = xs ((7 * k) + 2) from hv1 ((7 * k) + 2)) kK) ?_
  refine xe (fun _ _ kK => x_i2l dL_law_742 kK) ?_
  refine xe (fun _ _ kK => x_bipush dL_law_743 (show _ = nI 32 by decide) kK) ?_
  refine xe (fun _ _ kK => x_lshl dL_law_745 kK) ?_
  refine xe (fun _ _ kK => x_aload_nS dL_law_746 rfl 3 rfl kK) ?_
  refine xe (fun _ _ kK => x_iload_n dL_law_747 rfl 0 rfl kK) ?_
  refine xe (fun _ _ kK => x_iconst dL_law_748 (show _ = nI 3 by decide) kK) ?_
  refine xe (fun _ _ kK => x_iadd dL_law_749 kK) ?_
  refine xe_ti (show _ = nI ((7 * k) + 3) from nI_add (7 * k) 3) ?_
  refine xe (fun _ _ kK => x_sld dL_law_750 rfl hb10 (show (nI ((7 * k) + 3)) = nI ((7 * k) + 3) from rfl) (hb1 3 (by decide)) (show _ = xs ((7 * k) + 3) from hv1 ((7 * k) + 3)) kK) ?_
  refine xe (fun _ _ kK => x_i2l dL_law_751 kK) ?_
  refine xe (fun _ _ kK => x_ldc2 dL_law_752 kl_L_64 kK) ?_
  refine xe_tl (show _ = lN 4294967295 from by decide) ?_
  refine xe (fun _ _ kK => x_land dL_law_755 kK) ?_
  refine xe (fun _ _ kK => x_lor dL_law_756 kK) ?_
  refine xe (fun _ _ kK => x_aload_nS dL_law_757 rfl 3 rfl kK) ?_
  refine xe (fun _ _ kK => x_iload_n dL_law_758 rfl 0 rfl kK) ?_
  refine xe (fun _ _ kK => x_iconst dL_law_759 (show _ = nI 4 by decide) kK) ?_
  refine xe (fun _ _ kK => x_iadd dL_law_760 kK) ?_
  refine xe_ti (show _ = nI ((7 * k) + 4) from nI_add (7 * k) 4) ?_
  refine xe (fun _ _ kK => x_sld dL_law_761 rfl hb10 (show (nI ((7 * k) + 4)) = nI ((7 * k) + 4) from rfl) (hb1 4 (by decide)) (show _ = xs ((7 * k) + 4) from hv1 ((7 * k) + 4)) kK) ?_
  refine xe (fun _ _ kK => x_aload_nS dL_law_762 rfl 3 rfl kK) ?_
  refine xe (fun _ _ kK => x_iload_n dL_law_763 rfl 0 rfl kK) ?_
  refine xe (fun _ _ kK => x_iconst dL_law_764 (show _ = nI 5 by decide) kK) ?_
  refine xe (fun _ _ kK => x_iadd dL_law_765 kK) ?_
  refine xe_ti (show _ = nI ((7 * k) + 5) from nI_add (7 * k) 5) ?_
  refine xe (fun _ _ kK => x_sld dL_law_766 rfl hb10 (show (nI ((7 * k) + 5)) = nI ((7 * k) + 5) from rfl) (hb1 5 (by decide)) (show _ = xs ((7 * k) + 5) from hv1 ((7 * k) + 5)) kK) ?_
  refine xe (fun _ _ kK => x_i2l dL_law_767 kK) ?_
  refine xe (fun _ _ kK => x_bipush dL_law_768 (show _ = nI 32 by decide) kK) ?_
  refine xe (fun _ _ kK => x_lshl dL_law_770 kK) ?_
  refine xe (fun _ _ kK => x_aload_nS dL_law_771 rfl 3 rfl kK) ?_
  refine xe (fun _ _ kK => x_iload_n dL_law_772 rfl 0 rfl kK) ?_
  refine xe (fun _ _ kK => x_bipush dL_law_773 (show _ = nI 6 by decide) kK) ?_
  refine xe (fun _ _ kK => x_iadd dL_law_775 kK) ?_
  refine xe_ti (show _ = nI ((7 * k) + 6) from nI_add (7 * k) 6) ?_
  refine xe (fun _ _ kK => x_sld dL_law_776 rfl hb10 (show (nI ((7 * k) + 6)) = nI ((7 * k) + 6) from rfl) (hb1 6 (by decide)) (show _ = xs ((7 * k) + 6) from hv1 ((7 * k) + 6)) kK) ?_
  refine xe (fun _ _ kK => x_i2l dL_law_777 kK) ?_
  refine xe (fun _ _ kK => x_ldc2 dL_law_778 kl_L_64 kK) ?_
  refine xe_tl (show _ = lN 4294967295 from by decide) ?_
  refine xe (fun _ _ kK => x_land dL_law_781 kK) ?_
  refine xe (fun _ _ kK => x_lor dL_law_782 kK) ?_
  refine xe_callV (a := 88) [.int (xs ((7 * k) + 1)), .long ((((xs ((7 * k) + 2)).toInt64) <<< ((nI 32).toInt64 &&& 63)) ||| (((xs ((7 * k) + 3)).toInt64) &&& (lN 4294967295))), .int (xs ((7 * k) + 4)), .long ((((xs ((7 * k) + 5)).toInt64) <<< ((nI 32).toInt64 &&& 63)) ||| (((xs ((7 * k) + 6)).toInt64) &&& (lN 4294967295)))] dL_law_783 ml_L_83 mf_X8_both hK1 (hr) rfl rfl (Nat.le_of_ble_eq_true rfl) (Nat.le_of_ble_eq_true rfl) ?_
  rintro _ T2 ⟨rfl, hL2⟩
  refine xe (fun _ _ kK => x_icmp_eqT (tgt := 834) dL_law_786 (by decide) rfl kK) ?_
  exact hno T2 hL2
set_option maxHeartbeats 4000000 in
theorem w_rows {N k : Nat} {xs : Nat → Int32} {T : TH} {P : Option Value → TH → Prop} (hN : N ≤ 3584) (hk : 7 * k + 7 ≤ N) (h : LIn (N, xs) T k) (hno : ∀ T2, LIn (N, xs) T2 (k + 1) → Xe m_law 1000 834 [(3, .int (nI (7 * k))), (2, .ref 88), (1, .ref 0), (0, .float 0)] [] T2 P) : Xe m_law 1000 791 [(3, .int (nI (7 * k))), (2, .ref 88), (1, .ref 0), (0, .float 0)] [] T P := by
  have hz := h.1
  have hK0 : e_K T 0 = 8 := by
    obtain ⟨-, hs, s, en, lo, ps, n, b, tx, fk, fq, A, cp, cu, sp, hC, hR, hRs⟩ := h
    exact hC.1.1.1
  have hv : ∀ j, (e_sc T).2 j = xs j := fun j => by rw [hz]
  have hb : ∀ j, j < 7 → (7 * k) + j < (e_sc T).1 := fun j hj => by rw [hz]; show 7 * k + j < N; omega
  have hb0 : (e_sc T).1 < 2147483648 := by rw [hz]; show N < _; omega
  refine xe (fun _ _ kK => x_aload_n dL_law_791 rfl 2 rfl kK) ?_
  refine xe (fun _ _ kK => x_aload_nS dL_law_792 rfl 3 rfl kK) ?_
  refine xe (fun _ _ kK => x_iload_n dL_law_793 rfl 0 rfl kK) ?_
  refine xe (fun _ _ kK => x_iconst dL_law_794 (show _ = nI 1 by decide) kK) ?_
  refine xe (fun _ _ kK => x_iadd dL_law_795 kK) ?_
  refine xe_ti (show _ = nI ((7 * k) + 1) from nI_add (7 * k) 1) ?_
  refine xe (fun _ _ kK => x_sld dL_law_796 rfl hb0 (show (nI ((7 * k) + 1)) = nI ((7 * k) + 1) from rfl) (hb 1 (by decide)) (show _ = xs ((7 * k) + 1) from hv ((7 * k) + 1)) kK) ?_
  refine xe (fun _ _ kK => x_aload_nS dL_law_797 rfl 3 rfl kK) ?_
  refine xe (fun _ _ kK => x_iload_n dL_law_798 rfl 0 rfl kK) ?_
  refine xe (fun _ _ kK => x_iconst dL_law_799 (show _ = nI 2 by decide) kK) ?_
  refine xe (fun _ _ kK => x_iadd dL_law_800 kK) ?_
  refine xe_ti (show _ = nI ((7 * k) + 2) from nI_add (7 * k) 2) ?_
  refine xe (fun _ _ kK => x_sld dL_law_801 rfl hb0 (show (nI ((7 * k) + 2)) = nI ((7 * k) + 2) from rfl) (hb 2 (by decide)) (show _ = xs ((7 * k) + 2) from hv ((7 * k) + 2)) kK) ?_
  refine xe (fun _ _ kK => x_aload_nS dL_law_802 rfl 3 rfl kK) ?_
  refine xe (fun _ _ kK => x_iload_n dL_law_803 rfl 0 rfl kK) ?_
  refine xe (fun _ _ kK => x_iconst dL_law_804 (show _ = nI 3 by decide) kK) ?_
  refine xe (fun _ _ kK => x_iadd dL_law_805 kK) ?_
  refine xe_ti (show _ = nI ((7 * k) + 3) from nI_add (7 * k) 3) ?_
  refine xe (fun _ _ kK => x_sld dL_law_806 rfl hb0 (show (nI ((7 * k) + 3)) = nI ((7 * k) + 3) from rfl) (hb 3 (by decide)) (show _ = xs ((7 * k) + 3) from hv ((7 * k) + 3)) kK) ?_
  obtain ⟨v, M, hx, hm⟩ := sim_rows h (xs ((7 * k) + 1)) (xs ((7 * k) + 2)) (xs ((7 * k) + 3))
  refine xe_callV (a := 0) [.int (xs ((7 * k) + 1)), .int (xs ((7 * k) + 2)), .int (xs ((7 * k) + 3))] dL_law_807 ml_L_84 mf_X7_rows hK0 (hx) rfl rfl (Nat.le_of_ble_eq_true rfl) (Nat.le_of_ble_eq_true rfl) ?_
  rintro _ T1 ⟨rfl, hM⟩
  obtain ⟨hK1, hz1, hr⟩ := hm T1 hM
  have hv1 : ∀ j, (e_sc T1).2 j = xs j := fun j => by rw [hz1]
  have hb1 : ∀ j, j < 7 → (7 * k) + j < (e_sc T1).1 := fun j hj => by rw [hz1]; show 7 * k + j < N; omega
  have hb10 : (e_sc T1).1 < 2147483648 := by rw [hz1]; show N < _; omega
  refine xe (fun _ _ kK => x_aload_n dL_law_810 rfl 1 rfl kK) ?_
  refine xe (fun _ _ kK => x_aload_nS dL_law_811 rfl 3 rfl kK) ?_
  refine xe (fun _ _ kK => x_iload_n dL_law_812 rfl 0 rfl kK) ?_
  refine xe (fun _ _ kK => x_iconst dL_law_813 (show _ = nI 1 by decide) kK) ?_
  refine xe (fun _ _ kK => x_iadd dL_law_814 kK) ?_
  refine xe_ti (show _ = nI ((7 * k) + 1) from nI_add (7 * k) 1) ?_
  refine xe (fun _ _ kK => x_sld dL_law_815 rfl hb10 (show (nI ((7 * k) + 1)) = nI ((7 * k) + 1) from rfl) (hb1 1 (by decide)) (show _ = xs ((7 * k) + 1) from hv1 ((7 * k) + 1)) kK) ?_
  refine xe (fun _ _ kK => x_aload_nS dL_law_816 rfl 3 rfl kK) ?_
  refine xe (fun _ _ kK => x_iload_n dL_law_817 rfl 0 rfl kK) ?_
  refine xe (fun _ _ kK => x_iconst dL_law_818 (show _ = nI 2 by decide) kK) ?_
  refine xe (fun _ _ kK => x_iadd dL_law_819 kK) ?_
  refine xe_ti (show _ = nI ((7 * k) + 2) from nI_add (7 * k) 2) ?_
  refine xe (fun _ _ kK => x_sld dL_law_820 rfl hb10 (show (nI ((7 * k) + 2)) = nI ((7 * k) + 2) from rfl) (hb1 2 (by decide)) (show _ = xs ((7 * k) + 2) from hv1 ((7 * k) + 2)) kK) ?_
  refine xe (fun _ _ kK => x_aload_nS dL_law_821 rfl 3 rfl kK) ?_
  refine xe (fun _ _ kK => x_iload_n dL_law_822 rfl 0 rfl kK) ?_
  refine xe (fun _ _ kK => x_iconst dL_law_823 (show _ = nI 3 by decide) kK) ?_
  refine xe (fun _ _ kK => x_iadd dL_law_824 kK) ?_
  refine xe_ti (show _ = nI ((7 * k) + 3) from nI_add (7 * k) 3) ?_
  refine xe (fun _ _ kK => x_sld dL_law_825 rfl hb10 (show (nI ((7 * k) + 3)) = nI ((7 * k) + 3) from rfl) (hb1 3 (by decide)) (show _ = xs ((7 * k) + 3) from hv1 ((7 * k) + 3)) kK) ?_
  refine xe_callV (a := 88) [.int (xs ((7 * k) + 1)), .int (xs ((7 * k) + 2)), .int (xs ((7 * k) + 3))] dL_law_826 ml_L_87 mf_X8_rows hK1 (hr) rfl rfl (Nat.le_of_ble_eq_true rfl) (Nat.le_of_ble_eq_true rfl) ?_
  rintro _ T2 ⟨rfl, hL2⟩
  refine xe (fun _ _ kK => x_icmp_eqT (tgt := 834) dL_law_829 (by decide) rfl kK) ?_
  exact hno T2 hL2
