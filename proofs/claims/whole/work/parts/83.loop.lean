/-! the law's loop -/
theorem and15 (z : Int32) : ∃ j, j < 16 ∧ z &&& nI 15 = nI j := by
  refine ⟨z.toBitVec.toNat % 16, Nat.mod_lt _ (by decide), ?_⟩
  apply Int32.toBitVec_inj.mp
  apply BitVec.eq_of_toNat_eq
  have h15 : (nI 15).toBitVec.toNat = 2 ^ 4 - 1 := by decide
  rw [Int32.toBitVec_and, BitVec.toNat_and, h15, Nat.and_two_pow_sub_one_eq_mod]
  show _ = (Int32.ofNat (z.toBitVec.toNat % 16)).toBitVec.toNat
  rw [Int32.toBitVec_ofNat', BitVec.toNat_ofNat]
  omega
theorem smC_le {cp : Nat → Nat} {n : Nat} (h : ∀ c, c < n → cp c ≤ 4516) : ∀ k, k ≤ n → smC cp k ≤ 4516 * k
  | 0, _ => Nat.le_refl _
  | k + 1, hk => by
    have h1 := smC_le h k (by omega)
    have h2 := h k (by omega)
    show smC cp k + cp k ≤ _
    omega
theorem LIn.fin {Z : Nat × (Nat → Int32)} {T : TH} {k : Nat} (h : LIn Z T k) (hk : k ≤ 512) : e_n T ≤ 600000 ∧ e_s T ≤ 7302250 := by
  obtain ⟨-, hs, s, en, lo, ps, n, b, tx, fk, fq, A, cp, cu, sp, hC, hR, hRs⟩ := h
  have h1 := smC_le (cp := cp) (n := 12) (fun c hc => (hC.2.2.2.1.1 c hc).2.2) 12 (Nat.le_refl _)
  have h2 := hRs.1
  have h3 := hRs.2
  constructor <;> omega
set_option maxHeartbeats 4000000 in
theorem l_law {N : Nat} {xs : Nat → Int32} (hN : N ≤ 3584) : ∀ (m k : Nat) (T : TH), N - 7 * k = m → 7 * k ≤ N → LIn (N, xs) T k → Xe m_law 1000 18 [(3, .int (nI (7 * k))), (2, .ref 88), (1, .ref 0), (0, .float 0)] [] T (fun r T1 => r = some (.int 1) ∧ e_n T1 ≤ 600000 ∧ e_s T1 ≤ 7302250) := by
  intro m
  induction m using Nat.strongRecOn with
  | ind m ih =>
    intro k T hm hc h
    subst hm
    have hz := h.1
    refine xe (fun _ _ kK => x_iload_n dL_law_18 rfl 0 rfl kK) ?_
    refine xe (fun _ _ kK => x_aload_nS dL_law_19 rfl 3 rfl kK) ?_
    refine xe (fun _ _ kK => x_slen dL_law_20 rfl (show _ = nI (e_sc T).1 from rfl) kK) ?_
    refine xe_ti (show _ = nI N from (by rw [hz])) ?_
    refine xe (fun _ _ kK => x_bipush dL_law_21 (show _ = nI 7 by decide) kK) ?_
    refine xe (fun _ _ kK => x_isub dL_law_23 kK) ?_
    by_cases h7 : N < 7
    · have hk0 : k = 0 := by omega
      subst hk0
      have hlt : nI N - nI 7 < nI (7 * 0) := by
        have h : N = 0 ∨ N = 1 ∨ N = 2 ∨ N = 3 ∨ N = 4 ∨ N = 5 ∨ N = 6 := by omega
        rcases h with h | h | h | h | h | h | h <;> (rw [h]; decide)
      refine xe (fun _ _ kK => x_icmp_gtT (tgt := 840) dL_law_24 (by decide) hlt kK) ?_
      refine xe (fun _ _ kK => x_iconst dL_law_840 (show _ = nI 1 by decide) kK) ?_
      exact xe_retz dL_law_841 rfl (by first | exact Or.inl rfl | exact Or.inr rfl) (⟨rfl, h.fin (by omega)⟩)
    · skip
      refine xe_ti (show _ = nI (N - 7) from pk_sub (by omega)) ?_
      refine xe_icmp_gt (tgt := 840) dL_law_24 (by decide) (fun h24 => ?_) (fun h24 => ?_)
      · -- pc 840
        have h24 := cv_lt (by omega) (by omega) h24
        refine xe (fun _ _ kK => x_iconst dL_law_840 (show _ = nI 1 by decide) kK) ?_
        exact xe_retz dL_law_841 rfl (by first | exact Or.inl rfl | exact Or.inr rfl) (⟨rfl, h.fin (by omega)⟩)
      · -- pc 27
        have h24 := cv_nlt (by omega) (by omega) h24
        have hb : 7 * k < (e_sc T).1 := by rw [hz]; show 7 * k < N; omega
        have hb0 : (e_sc T).1 < 2147483648 := by rw [hz]; show N < _; omega
        refine xe (fun _ _ kK => x_aload_nS dL_law_27 rfl 3 rfl kK) ?_
        refine xe (fun _ _ kK => x_iload_n dL_law_28 rfl 0 rfl kK) ?_
        refine xe (fun _ _ kK => x_sld dL_law_29 rfl hb0 (show (nI (7 * k)) = nI (7 * k) from rfl) hb (show _ = xs (7 * k) from (by rw [hz])) kK) ?_
        refine xe (fun _ _ kK => x_bipush dL_law_30 (show _ = nI 15 by decide) kK) ?_
        refine xe (fun _ _ kK => x_iand dL_law_32 kK) ?_
        obtain ⟨j, hj, hx15⟩ := and15 (xs (7 * k))
        refine xe_ti hx15 ?_
        have hno : ∀ T2, LIn (N, xs) T2 (k + 1) → Xe m_law 1000 834 [(3, .int (nI (7 * k))), (2, .ref 88), (1, .ref 0), (0, .float 0)] [] T2 (fun r T1 => r = some (.int 1) ∧ e_n T1 ≤ 600000 ∧ e_s T1 ≤ 7302250) := fun T2 hL2 => by
          refine xe (fun _ _ kK => x_iinc dL_law_834 0 rfl (show (nI (7 * k)) + Int32.ofInt 7 = nI ((7 * k) + 7) from nI_add (7 * k) 7) (by decide) (show _ = [(3, .int (nI ((7 * k) + 7))), (2, .ref 88), (1, .ref 0), (0, .float 0)] from rfl) kK) ?_
          refine xe (fun _ _ kK => x_goto (tgt := 18) dL_law_837 (by decide) kK) ?_
          exact xe_loc (by rw [show 7 * (k + 1) = 7 * k + 7 from rfl]; exact fun q h => h) (ih (N - 7 * (k + 1)) (by omega) (k + 1) T2 rfl (by omega) hL2)
        have hj16 : j = 0 ∨ j = 1 ∨ j = 2 ∨ j = 3 ∨ j = 4 ∨ j = 5 ∨ j = 6 ∨ j = 7 ∨ j = 8 ∨ j = 9 ∨ j = 10 ∨ j = 11 ∨ j = 12 ∨ j = 13 ∨ j = 14 ∨ j = 15 := by omega
        rcases hj16 with rfl | rfl | rfl | rfl | rfl | rfl | rfl | rfl | rfl | rfl | rfl | rfl | rfl | rfl | rfl | rfl
        · exact xe (fun _ _ kK => x_tableIn (tgt := 112) (off := 79) dL_law_33 (by decide) (by decide) (by decide) (by decide) kK) (w_feed hN (by omega) h hno)
        · exact xe (fun _ _ kK => x_tableIn (tgt := 175) (off := 142) dL_law_33 (by decide) (by decide) (by decide) (by decide) kK) (w_end hN (by omega) h hno)
        · exact xe (fun _ _ kK => x_tableIn (tgt := 198) (off := 165) dL_law_33 (by decide) (by decide) (by decide) (by decide) kK) (w_shape hN (by omega) h hno)
        · exact xe (fun _ _ kK => x_tableIn (tgt := 211) (off := 178) dL_law_33 (by decide) (by decide) (by decide) (by decide) kK) (w_paper hN (by omega) h hno)
        · exact xe (fun _ _ kK => x_tableIn (tgt := 224) (off := 191) dL_law_33 (by decide) (by decide) (by decide) (by decide) kK) (w_fault hN (by omega) h hno)
        · exact xe (fun _ _ kK => x_tableIn (tgt := 247) (off := 214) dL_law_33 (by decide) (by decide) (by decide) (by decide) kK) (w_drop hN (by omega) h hno)
        · exact xe (fun _ _ kK => x_tableIn (tgt := 270) (off := 237) dL_law_33 (by decide) (by decide) (by decide) (by decide) kK) (w_leaf hN (by omega) h hno)
        · exact xe (fun _ _ kK => x_tableIn (tgt := 303) (off := 270) dL_law_33 (by decide) (by decide) (by decide) (by decide) kK) (w_row hN (by omega) h hno)
        · exact xe (fun _ _ kK => x_tableIn (tgt := 346) (off := 313) dL_law_33 (by decide) (by decide) (by decide) (by decide) kK) (w_value hN (by omega) h hno)
        · exact xe (fun _ _ kK => x_tableIn (tgt := 380) (off := 347) dL_law_33 (by decide) (by decide) (by decide) (by decide) kK) (w_text hN (by omega) h hno)
        · exact xe (fun _ _ kK => x_tableIn (tgt := 413) (off := 380) dL_law_33 (by decide) (by decide) (by decide) (by decide) kK) (w_at hN (by omega) h hno)
        · exact xe (fun _ _ kK => x_tableIn (tgt := 436) (off := 403) dL_law_33 (by decide) (by decide) (by decide) (by decide) kK) (w_among hN (by omega) h hno)
        · exact xe (fun _ _ kK => x_tableIn (tgt := 539) (off := 506) dL_law_33 (by decide) (by decide) (by decide) (by decide) kK) (w_papers hN (by omega) h hno)
        · exact xe (fun _ _ kK => x_tableIn (tgt := 642) (off := 609) dL_law_33 (by decide) (by decide) (by decide) (by decide) kK) (w_sum hN (by omega) h hno)
        · exact xe (fun _ _ kK => x_tableIn (tgt := 676) (off := 643) dL_law_33 (by decide) (by decide) (by decide) (by decide) kK) (w_both hN (by omega) h hno)
        · exact xe (fun _ _ kK => x_tableIn (tgt := 791) (off := 758) dL_law_33 (by decide) (by decide) (by decide) (by decide) kK) (w_rows hN (by omega) h hno)
