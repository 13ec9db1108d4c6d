/-! FEED: the bytes of an int, the first first -/
def bytW (w : Int32) (j : Nat) : Nat := w.toBitVec.toNat / 2 ^ (8 * (3 - j)) % 256
theorem bytW_lt (w : Int32) (j : Nat) : bytW w j < 256 := Nat.mod_lt _ (by decide)
theorem i32_ti (w : Int32) : w.toInt = if 2 * w.toBitVec.toNat < 2 ^ 32 then (w.toBitVec.toNat : Int) else (w.toBitVec.toNat : Int) - 2 ^ 32 := by
  show w.toBitVec.toInt = _
  rw [BitVec.toInt_eq_toNat_cond]
  rfl
theorem by_s (w s : Int32) (k : Nat) (hs : (s.toBitVec.smod 32).toNat = k) (hk : k = 0 ∨ k = 8 ∨ k = 16 ∨ k = 24) : (w >>> s) &&& nI 255 = nI (w.toBitVec.toNat / 2 ^ k % 256) := by
  rw [pk_and (w >>> s) 8 (by decide)]
  congr 1
  have h := pk_shr w s k hs
  rw [i32_ti, i32_ti, Int.shiftRight_eq_div_pow] at h
  have h1 := w.toBitVec.isLt
  have h2 := (w >>> s).toBitVec.isLt
  generalize (w >>> s).toBitVec.toNat = m at *
  generalize w.toBitVec.toNat = n at *
  rcases hk with rfl | rfl | rfl | rfl <;> simp only [Nat.reducePow] at * <;> split at h <;> split at h <;> omega
theorem by_ref (w : Int32) {j : Nat} (hj : j < 4) : (w >>> (nI (8 * (3 - j)) &&& 31)) &&& nI 255 = nI (bytW w j) := by
  have : j = 0 ∨ j = 1 ∨ j = 2 ∨ j = 3 := by omega
  rcases this with rfl | rfl | rfl | rfl
  · exact by_s w _ 24 (by decide) (by omega)
  · exact by_s w _ 16 (by decide) (by omega)
  · exact by_s w _ 8 (by decide) (by omega)
  · exact by_s w _ 0 (by decide) (by omega)
theorem by_8 (z : Int32) : z.toInt8.toInt32 &&& nI 255 = nI (z.toBitVec.toNat % 256) := by
  rw [pk_and _ 8 (by decide)]
  congr 1
  have h : z.toInt8.toInt32.toBitVec.toNat = ((z.toBitVec.setWidth 8).signExtend 32).toNat := by rw [Int8.toBitVec_toInt32, Int32.toBitVec_toInt8, BitVec.signExtend_eq_setWidth_of_le _ (show 8 ≤ 32 by decide)]
  rw [h, BitVec.toNat_signExtend]
  have h3 : (BitVec.setWidth 32 (z.toBitVec.setWidth 8)).toNat = z.toBitVec.toNat % 256 := by
    rw [BitVec.toNat_setWidth, BitVec.toNat_setWidth]; omega
  rw [h3]
  split <;> omega
theorem by_cls (w s : Int32) (k : Nat) (hs : ((s.toUInt32 &&& Int32.toUInt32 31).toBitVec % 32).toNat = k) : ((w.toUInt32 >>> (s.toUInt32 &&& Int32.toUInt32 31)).toInt32).toInt8.toInt32 &&& nI 255 = nI (w.toBitVec.toNat / 2 ^ k % 256) := by
  rw [by_8, pk_ushr w s k hs]
def selW (a1 a2 a3 a4 a5 : Int32) (k : Nat) : Int32 := if k < 4 then a1 else if k < 8 then a2 else if k < 12 then a3 else if k < 16 then a4 else a5
def fdB (b : Nat → Nat) (n : Nat) (a1 a2 a3 a4 a5 : Int32) (j : Nat) : Nat := if j < n then b j else bytW (selW a1 a2 a3 a4 a5 (j - n)) ((j - n) % 4)
theorem fdB_at (b : Nat → Nat) (n : Nat) (a1 a2 a3 a4 a5 : Int32) (k : Nat) : fdB b n a1 a2 a3 a4 a5 (n + k) = bytW (selW a1 a2 a3 a4 a5 k) (k % 4) := by
  unfold fdB; rw [if_neg (by omega), Nat.add_sub_cancel_left]
theorem fdB_lo {b : Nat → Nat} {n : Nat} {a1 a2 a3 a4 a5 : Int32} {j : Nat} (h : j < n) : fdB b n a1 a2 a3 a4 a5 j = b j := if_pos h

set_option maxHeartbeats 4000000 in
theorem l_X8_feed (d : Nat) {n : Nat} {b : Nat → Nat} {a1 a2 a3 a4 a5 : Int32} (hn : n + 20 ≤ 400) : ∀ (m k : Nat) (T : TH), 20 - k = m → k ≤ 20 → MI T → e_i T 513 88 = nI (n + k) → Bt T (n + k) (fdB b n a1 a2 a3 a4 a5) → Xe m_X8_feed d 18 [(6, .int (nI k)), (0, .ref 88), (1, .int a1), (2, .int a2), (3, .int a3), (4, .int a4), (5, .int a5)] [] T (fun r T1 => r = some (.int (nI (n + 20))) ∧ FrM [513] [89] T T1 ∧ e_i T1 513 88 = nI (n + 20) ∧ Bt T1 (n + 20) (fdB b n a1 a2 a3 a4 a5)) := by
  intro m
  induction m using Nat.strongRecOn with
  | ind m ih =>
    intro k T hm hk hM ht hB
    subst hm
    refine xe (fun _ _ kK => x_iload dX8_feed_18 0 rfl kK) ?_
    refine xe (fun _ _ kK => x_bipush dX8_feed_20 (show _ = nI 20 by decide) kK) ?_
    refine xe_icmp_ge (tgt := 114) dX8_feed_22 (by decide) (fun h22 => ?_) (fun h22 => ?_)
    · -- pc 114
      have h22 := cv_le (by omega) (by omega) h22
      have e20 : k = 20 := by omega
      refine xe (fun _ _ kK => x_aload_n dX8_feed_114 rfl 1 rfl kK) ?_
      refine xe (fun _ _ kK => x_get dX8_feed_115 fl_X8_129 hM.1 (gvl_i fz_8_1.2.2 (show e_i T 513 88 = nI (n + k) from ht)) kK) ?_
      exact xe_reti dX8_feed_118 rfl (⟨by rw [e20], FrM.rf, by rw [e20] at ht; exact ht, by rw [e20] at hB; exact hB⟩)
    · -- pc 25
      have h22 := cv_nle (by omega) (by omega) h22
      refine xe (fun _ _ kK => x_iload dX8_feed_25 0 rfl kK) ?_
      refine xe (fun _ _ kK => x_iconst dX8_feed_27 (show _ = nI 4 by decide) kK) ?_
      refine xe_icmp_ge (tgt := 35) dX8_feed_28 (by decide) (fun h28 => ?_) (fun h28 => ?_)
      · -- pc 35
        have h28 := cv_le (by omega) (by omega) h28
        refine xe (fun _ _ kK => x_iload dX8_feed_35 0 rfl kK) ?_
        refine xe (fun _ _ kK => x_bipush dX8_feed_37 (show _ = nI 8 by decide) kK) ?_
        refine xe_icmp_ge (tgt := 46) dX8_feed_39 (by decide) (fun h39 => ?_) (fun h39 => ?_)
        · -- pc 46
          have h39 := cv_le (by omega) (by omega) h39
          refine xe (fun _ _ kK => x_iload dX8_feed_46 0 rfl kK) ?_
          refine xe (fun _ _ kK => x_bipush dX8_feed_48 (show _ = nI 12 by decide) kK) ?_
          refine xe_icmp_ge (tgt := 57) dX8_feed_50 (by decide) (fun h50 => ?_) (fun h50 => ?_)
          · -- pc 57
            have h50 := cv_le (by omega) (by omega) h50
            refine xe (fun _ _ kK => x_iload dX8_feed_57 0 rfl kK) ?_
            refine xe (fun _ _ kK => x_bipush dX8_feed_59 (show _ = nI 16 by decide) kK) ?_
            refine xe_icmp_ge (tgt := 69) dX8_feed_61 (by decide) (fun h61 => ?_) (fun h61 => ?_)
            · -- pc 69
              have h61 := cv_le (by omega) (by omega) h61
              refine xe (fun _ _ kK => x_iload dX8_feed_69 6 rfl kK) ?_
              refine xe (fun _ _ kK => x_istore dX8_feed_71 (by decide) (show _ = [(7, .int a5), (6, .int (nI k)), (0, .ref 88), (1, .int a1), (2, .int a2), (3, .int a3), (4, .int a4), (5, .int a5)] from rfl) kK) ?_
              refine xe (fun _ _ kK => x_aload_n dX8_feed_73 rfl 2 rfl kK) ?_
              refine xe (fun _ _ kK => x_get dX8_feed_74 fl_X8_7 hM.1 (gvl_r1 fz_8_0.2.2 (show e_r T 512 88 = some 89 from (hM.2.1 0))) kK) ?_
              refine xe (fun _ _ kK => x_aload_n dX8_feed_77 rfl 2 rfl kK) ?_
              refine xe (fun _ _ kK => x_get dX8_feed_78 fl_X8_129 hM.1 (gvl_i fz_8_1.2.2 (show e_i T 513 88 = nI (n + k) from ht)) kK) ?_
              refine xe (fun _ _ kK => x_iload dX8_feed_81 0 rfl kK) ?_
              refine xe (fun _ _ kK => x_bipush dX8_feed_83 (show _ = nI 8 by decide) kK) ?_
              refine xe (fun _ _ kK => x_iconst dX8_feed_85 (show _ = nI 3 by decide) kK) ?_
              refine xe (fun _ _ kK => x_iload dX8_feed_86 1 rfl kK) ?_
              refine xe (fun _ _ kK => x_iconst dX8_feed_88 (show _ = nI 4 by decide) kK) ?_
              refine xe (fun _ _ kK => x_irem dX8_feed_89 (by decide) kK) ?_
              refine xe_ti (show _ = nI (k % 4) from pk_rem (by omega) (by decide) (by decide)) ?_
              refine xe (fun _ _ kK => x_isub dX8_feed_90 kK) ?_
              refine xe_ti (show _ = nI (3 - k % 4) from pk_sub (by omega)) ?_
              refine xe (fun _ _ kK => x_imul dX8_feed_91 kK) ?_
              refine xe_ti (show _ = nI (8 * (3 - k % 4)) from pk_mul 8 (3 - k % 4)) ?_
              refine xe (fun _ _ kK => x_ishr dX8_feed_92 kK) ?_
              refine xe (fun _ _ kK => x_sipush dX8_feed_93 (show _ = nI 255 by decide) kK) ?_
              refine xe (fun _ _ kK => x_iand dX8_feed_96 kK) ?_
              refine xe_ti (show _ = nI (bytW a5 (k % 4)) from by_ref a5 (by omega)) ?_
              refine xe (fun _ _ kK => x_iast dX8_feed_97 (hM.2.2.1 0 (by decide)) (show (nI (n + k)) = nI (n + k) from rfl) (mi_len hM 0 (by decide) (show n + k < 400 by omega)) kK) ?_
              refine xe (fun _ _ kK => x_aload_n dX8_feed_98 rfl 2 rfl kK) ?_
              refine xe (fun _ _ kK => x_dup dX8_feed_99 rfl kK) ?_
              refine xe (fun _ _ kK => x_get dX8_feed_100 fl_X8_129 (wK_ai hM.1) (gvl_i fz_8_1.2.2 (show e_i (s_ai T 89 (n + k) (nI (bytW a5 (k % 4)))) 513 88 = nI (n + k) from (wi_ai ht))) kK) ?_
              refine xe (fun _ _ kK => x_iconst dX8_feed_103 (show _ = nI 1 by decide) kK) ?_
              refine xe (fun _ _ kK => x_iadd dX8_feed_104 kK) ?_
              refine xe_ti (show _ = nI ((n + k) + 1) from nI_add (n + k) 1) ?_
              refine xe (fun _ _ kK => x_puti dX8_feed_105 ⟨fl_X8_129, fz_8_1.1, fz_8_1.2.1⟩ (Or.inl fz_8_1.2.2) rfl rfl (wK_ai hM.1) kK) ?_
              refine xe (fun _ _ kK => x_iinc dX8_feed_108 1 rfl (show (nI k) + Int32.ofInt 1 = nI (k + 1) from nI_add k 1) (by decide) (show _ = [(6, .int (nI (k + 1))), (7, .int a5), (0, .ref 88), (1, .int a1), (2, .int a2), (3, .int a3), (4, .int a4), (5, .int a5)] from rfl) kK) ?_
              refine xe (fun _ _ kK => x_goto (tgt := 18) dX8_feed_111 (by decide) kK) ?_
              have hsel : selW a1 a2 a3 a4 a5 k = a5 := by unfold selW; rw [if_neg (show ¬ k < 4 by omega), if_neg (show ¬ k < 8 by omega), if_neg (show ¬ k < 12 by omega), if_neg (show ¬ k < 16 by omega)]
              have hF : FrM [513] [89] T (s_i (s_ai T 89 (n + k) (nI (bytW a5 (k % 4)))) 513 88 (nI ((n + k) + 1))) := (FrM.si (FrM.sai FrM.rf (by decide) _ _) (by decide) _)
              refine Xe.imp (xe_loc (by simp) (ih (20 - (k + 1)) (by omega) (k + 1) (s_i (s_ai T 89 (n + k) (nI (bytW a5 (k % 4)))) 513 88 (nI ((n + k) + 1))) rfl (by omega) (hF.mi hM) (by rw [← Nat.add_assoc]; rfl) ?_)) ?_
              · intro j hj
                rcases Nat.lt_or_ge j (n + k) with z | z
                · exact ⟨(wai_i (wai_ai (by omega) (hB j z).1)), (hB j z).2⟩
                · have e9 : j = n + k := by omega
                  subst e9
                  rw [fdB_at, hsel]; exact ⟨eai_s _ _ _ _, bytW_lt _ _⟩
              · rintro _ T1 ⟨rfl, hF1, h1, h2⟩
                exact ⟨rfl, FrM.tr hF hF1, h1, h2⟩
            · -- pc 64
              have h61 := cv_nle (by omega) (by omega) h61
              refine xe (fun _ _ kK => x_iload dX8_feed_64 5 rfl kK) ?_
              refine xe (fun _ _ kK => x_goto (tgt := 71) dX8_feed_66 (by decide) kK) ?_
              refine xe (fun _ _ kK => x_istore dX8_feed_71 (by decide) (show _ = [(7, .int a4), (6, .int (nI k)), (0, .ref 88), (1, .int a1), (2, .int a2), (3, .int a3), (4, .int a4), (5, .int a5)] from rfl) kK) ?_
              refine xe (fun _ _ kK => x_aload_n dX8_feed_73 rfl 2 rfl kK) ?_
              refine xe (fun _ _ kK => x_get dX8_feed_74 fl_X8_7 hM.1 (gvl_r1 fz_8_0.2.2 (show e_r T 512 88 = some 89 from (hM.2.1 0))) kK) ?_
              refine xe (fun _ _ kK => x_aload_n dX8_feed_77 rfl 2 rfl kK) ?_
              refine xe (fun _ _ kK => x_get dX8_feed_78 fl_X8_129 hM.1 (gvl_i fz_8_1.2.2 (show e_i T 513 88 = nI (n + k) from ht)) kK) ?_
              refine xe (fun _ _ kK => x_iload dX8_feed_81 0 rfl kK) ?_
              refine xe (fun _ _ kK => x_bipush dX8_feed_83 (show _ = nI 8 by decide) kK) ?_
              refine xe (fun _ _ kK => x_iconst dX8_feed_85 (show _ = nI 3 by decide) kK) ?_
              refine xe (fun _ _ kK => x_iload dX8_feed_86 1 rfl kK) ?_
              refine xe (fun _ _ kK => x_iconst dX8_feed_88 (show _ = nI 4 by decide) kK) ?_
              refine xe (fun _ _ kK => x_irem dX8_feed_89 (by decide) kK) ?_
              refine xe_ti (show _ = nI (k % 4) from pk_rem (by omega) (by decide) (by decide)) ?_
              refine xe (fun _ _ kK => x_isub dX8_feed_90 kK) ?_
              refine xe_ti (show _ = nI (3 - k % 4) from pk_sub (by omega)) ?_
              refine xe (fun _ _ kK => x_imul dX8_feed_91 kK) ?_
              refine xe_ti (show _ = nI (8 * (3 - k % 4)) from pk_mul 8 (3 - k % 4)) ?_
              refine xe (fun _ _ kK => x_ishr dX8_feed_92 kK) ?_
              refine xe (fun _ _ kK => x_sipush dX8_feed_93 (show _ = nI 255 by decide) kK) ?_
              refine xe (fun _ _ kK => x_iand dX8_feed_96 kK) ?_
              refine xe_ti (show _ = nI (bytW a4 (k % 4)) from by_ref a4 (by omega)) ?_
              refine xe (fun _ _ kK => x_iast dX8_feed_97 (hM.2.2.1 0 (by decide)) (show (nI (n + k)) = nI (n + k) from rfl) (mi_len hM 0 (by decide) (show n + k < 400 by omega)) kK) ?_
              refine xe (fun _ _ kK => x_aload_n dX8_feed_98 rfl 2 rfl kK) ?_
              refine xe (fun _ _ kK => x_dup dX8_feed_99 rfl kK) ?_
              refine xe (fun _ _ kK => x_get dX8_feed_100 fl_X8_129 (wK_ai hM.1) (gvl_i fz_8_1.2.2 (show e_i (s_ai T 89 (n + k) (nI (bytW a4 (k % 4)))) 513 88 = nI (n + k) from (wi_ai ht))) kK) ?_
              refine xe (fun _ _ kK => x_iconst dX8_feed_103 (show _ = nI 1 by decide) kK) ?_
              refine xe (fun _ _ kK => x_iadd dX8_feed_104 kK) ?_
              refine xe_ti (show _ = nI ((n + k) + 1) from nI_add (n + k) 1) ?_
              refine xe (fun _ _ kK => x_puti dX8_feed_105 ⟨fl_X8_129, fz_8_1.1, fz_8_1.2.1⟩ (Or.inl fz_8_1.2.2) rfl rfl (wK_ai hM.1) kK) ?_
              refine xe (fun _ _ kK => x_iinc dX8_feed_108 1 rfl (show (nI k) + Int32.ofInt 1 = nI (k + 1) from nI_add k 1) (by decide) (show _ = [(6, .int (nI (k + 1))), (7, .int a4), (0, .ref 88), (1, .int a1), (2, .int a2), (3, .int a3), (4, .int a4), (5, .int a5)] from rfl) kK) ?_
              refine xe (fun _ _ kK => x_goto (tgt := 18) dX8_feed_111 (by decide) kK) ?_
              have hsel : selW a1 a2 a3 a4 a5 k = a4 := by unfold selW; rw [if_neg (show ¬ k < 4 by omega), if_neg (show ¬ k < 8 by omega), if_neg (show ¬ k < 12 by omega), if_pos h61]
              have hF : FrM [513] [89] T (s_i (s_ai T 89 (n + k) (nI (bytW a4 (k % 4)))) 513 88 (nI ((n + k) + 1))) := (FrM.si (FrM.sai FrM.rf (by decide) _ _) (by decide) _)
              refine Xe.imp (xe_loc (by simp) (ih (20 - (k + 1)) (by omega) (k + 1) (s_i (s_ai T 89 (n + k) (nI (bytW a4 (k % 4)))) 513 88 (nI ((n + k) + 1))) rfl (by omega) (hF.mi hM) (by rw [← Nat.add_assoc]; rfl) ?_)) ?_
              · intro j hj
                rcases Nat.lt_or_ge j (n + k) with z | z
                · exact ⟨(wai_i (wai_ai (by omega) (hB j z).1)), (hB j z).2⟩
                · have e9 : j = n + k := by omega
                  subst e9
                  rw [fdB_at, hsel]; exact ⟨eai_s _ _ _ _, bytW_lt _ _⟩
              · rintro _ T1 ⟨rfl, hF1, h1, h2⟩
                exact ⟨rfl, FrM.tr hF hF1, h1, h2⟩
          · -- pc 53
            have h50 := cv_nle (by omega) (by omega) h50
            refine xe (fun _ _ kK => x_iload_n dX8_feed_53 rfl 4 rfl kK) ?_
            refine xe (fun _ _ kK => x_goto (tgt := 71) dX8_feed_54 (by decide) kK) ?_
            refine xe (fun _ _ kK => x_istore dX8_feed_71 (by decide) (show _ = [(7, .int a3), (6, .int (nI k)), (0, .ref 88), (1, .int a1), (2, .int a2), (3, .int a3), (4, .int a4), (5, .int a5)] from rfl) kK) ?_
            refine xe (fun _ _ kK => x_aload_n dX8_feed_73 rfl 2 rfl kK) ?_
            refine xe (fun _ _ kK => x_get dX8_feed_74 fl_X8_7 hM.1 (gvl_r1 fz_8_0.2.2 (show e_r T 512 88 = some 89 from (hM.2.1 0))) kK) ?_
            refine xe (fun _ _ kK => x_aload_n dX8_feed_77 rfl 2 rfl kK) ?_
            refine xe (fun _ _ kK => x_get dX8_feed_78 fl_X8_129 hM.1 (gvl_i fz_8_1.2.2 (show e_i T 513 88 = nI (n + k) from ht)) kK) ?_
            refine xe (fun _ _ kK => x_iload dX8_feed_81 0 rfl kK) ?_
            refine xe (fun _ _ kK => x_bipush dX8_feed_83 (show _ = nI 8 by decide) kK) ?_
            refine xe (fun _ _ kK => x_iconst dX8_feed_85 (show _ = nI 3 by decide) kK) ?_
            refine xe (fun _ _ kK => x_iload dX8_feed_86 1 rfl kK) ?_
            refine xe (fun _ _ kK => x_iconst dX8_feed_88 (show _ = nI 4 by decide) kK) ?_
            refine xe (fun _ _ kK => x_irem dX8_feed_89 (by decide) kK) ?_
            refine xe_ti (show _ = nI (k % 4) from pk_rem (by omega) (by decide) (by decide)) ?_
            refine xe (fun _ _ kK => x_isub dX8_feed_90 kK) ?_
            refine xe_ti (show _ = nI (3 - k % 4) from pk_sub (by omega)) ?_
            refine xe (fun _ _ kK => x_imul dX8_feed_91 kK) ?_
            refine xe_ti (show _ = nI (8 * (3 - k % 4)) from pk_mul 8 (3 - k % 4)) ?_
            refine xe (fun _ _ kK => x_ishr dX8_feed_92 kK) ?_
            refine xe (fun _ _ kK => x_sipush dX8_feed_93 (show _ = nI 255 by decide) kK) ?_
            refine xe (fun _ _ kK => x_iand dX8_feed_96 kK) ?_
            refine xe_ti (show _ = nI (bytW a3 (k % 4)) from by_ref a3 (by omega)) ?_
            refine xe (fun _ _ kK => x_iast dX8_feed_97 (hM.2.2.1 0 (by decide)) (show (nI (n + k)) = nI (n + k) from rfl) (mi_len hM 0 (by decide) (show n + k < 400 by omega)) kK) ?_
            refine xe (fun _ _ kK => x_aload_n dX8_feed_98 rfl 2 rfl kK) ?_
            refine xe (fun _ _ kK => x_dup dX8_feed_99 rfl kK) ?_
            refine xe (fun _ _ kK => x_get dX8_feed_100 fl_X8_129 (wK_ai hM.1) (gvl_i fz_8_1.2.2 (show e_i (s_ai T 89 (n + k) (nI (bytW a3 (k % 4)))) 513 88 = nI (n + k) from (wi_ai ht))) kK) ?_
            refine xe (fun _ _ kK => x_iconst dX8_feed_103 (show _ = nI 1 by decide) kK) ?_
            refine xe (fun _ _ kK => x_iadd dX8_feed_104 kK) ?_
            refine xe_ti (show _ = nI ((n + k) + 1) from nI_add (n + k) 1) ?_
            refine xe (fun _ _ kK => x_puti dX8_feed_105 ⟨fl_X8_129, fz_8_1.1, fz_8_1.2.1⟩ (Or.inl fz_8_1.2.2) rfl rfl (wK_ai hM.1) kK) ?_
            refine xe (fun _ _ kK => x_iinc dX8_feed_108 1 rfl (show (nI k) + Int32.ofInt 1 = nI (k + 1) from nI_add k 1) (by decide) (show _ = [(6, .int (nI (k + 1))), (7, .int a3), (0, .ref 88), (1, .int a1), (2, .int a2), (3, .int a3), (4, .int a4), (5, .int a5)] from rfl) kK) ?_
            refine xe (fun _ _ kK => x_goto (tgt := 18) dX8_feed_111 (by decide) kK) ?_
            have hsel : selW a1 a2 a3 a4 a5 k = a3 := by unfold selW; rw [if_neg (show ¬ k < 4 by omega), if_neg (show ¬ k < 8 by omega), if_pos h50]
            have hF : FrM [513] [89] T (s_i (s_ai T 89 (n + k) (nI (bytW a3 (k % 4)))) 513 88 (nI ((n + k) + 1))) := (FrM.si (FrM.sai FrM.rf (by decide) _ _) (by decide) _)
            refine Xe.imp (xe_loc (by simp) (ih (20 - (k + 1)) (by omega) (k + 1) (s_i (s_ai T 89 (n + k) (nI (bytW a3 (k % 4)))) 513 88 (nI ((n + k) + 1))) rfl (by omega) (hF.mi hM) (by rw [← Nat.add_assoc]; rfl) ?_)) ?_
            · intro j hj
              rcases Nat.lt_or_ge j (n + k) with z | z
              · exact ⟨(wai_i (wai_ai (by omega) (hB j z).1)), (hB j z).2⟩
              · have e9 : j = n + k := by omega
                subst e9
                rw [fdB_at, hsel]; exact ⟨eai_s _ _ _ _, bytW_lt _ _⟩
            · rintro _ T1 ⟨rfl, hF1, h1, h2⟩
              exact ⟨rfl, FrM.tr hF hF1, h1, h2⟩
        · -- pc 42
          have h39 := cv_nle (by omega) (by omega) h39
          refine xe (fun _ _ kK => x_iload_n dX8_feed_42 rfl 3 rfl kK) ?_
          refine xe (fun _ _ kK => x_goto (tgt := 71) dX8_feed_43 (by decide) kK) ?_
          refine xe (fun _ _ kK => x_istore dX8_feed_71 (by decide) (show _ = [(7, .int a2), (6, .int (nI k)), (0, .ref 88), (1, .int a1), (2, .int a2), (3, .int a3), (4, .int a4), (5, .int a5)] from rfl) kK) ?_
          refine xe (fun _ _ kK => x_aload_n dX8_feed_73 rfl 2 rfl kK) ?_
          refine xe (fun _ _ kK => x_get dX8_feed_74 fl_X8_7 hM.1 (gvl_r1 fz_8_0.2.2 (show e_r T 512 88 = some 89 from (hM.2.1 0))) kK) ?_
          refine xe (fun _ _ kK => x_aload_n dX8_feed_77 rfl 2 rfl kK) ?_
          refine xe (fun _ _ kK => x_get dX8_feed_78 fl_X8_129 hM.1 (gvl_i fz_8_1.2.2 (show e_i T 513 88 = nI (n + k) from ht)) kK) ?_
          refine xe (fun _ _ kK => x_iload dX8_feed_81 0 rfl kK) ?_
          refine xe (fun _ _ kK => x_bipush dX8_feed_83 (show _ = nI 8 by decide) kK) ?_
          refine xe (fun _ _ kK => x_iconst dX8_feed_85 (show _ = nI 3 by decide) kK) ?_
          refine xe (fun _ _ kK => x_iload dX8_feed_86 1 rfl kK) ?_
          refine xe (fun _ _ kK => x_iconst dX8_feed_88 (show _ = nI 4 by decide) kK) ?_
          refine xe (fun _ _ kK => x_irem dX8_feed_89 (by decide) kK) ?_
          refine xe_ti (show _ = nI (k % 4) from pk_rem (by omega) (by decide) (by decide)) ?_
          refine xe (fun _ _ kK => x_isub dX8_feed_90 kK) ?_
          refine xe_ti (show _ = nI (3 - k % 4) from pk_sub (by omega)) ?_
          refine xe (fun _ _ kK => x_imul dX8_feed_91 kK) ?_
          refine xe_ti (show _ = nI (8 * (3 - k % 4)) from pk_mul 8 (3 - k % 4)) ?_
          refine xe (fun _ _ kK => x_ishr dX8_feed_92 kK) ?_
          refine xe (fun _ _ kK => x_sipush dX8_feed_93 (show _ = nI 255 by decide) kK) ?_
          refine xe (fun _ _ kK => x_iand dX8_feed_96 kK) ?_
          refine xe_ti (show _ = nI (bytW a2 (k % 4)) from by_ref a2 (by omega)) ?_
          refine xe (fun _ _ kK => x_iast dX8_feed_97 (hM.2.2.1 0 (by decide)) (show (nI (n + k)) = nI (n + k) from rfl) (mi_len hM 0 (by decide) (show n + k < 400 by omega)) kK) ?_
          refine xe (fun _ _ kK => x_aload_n dX8_feed_98 rfl 2 rfl kK) ?_
          refine xe (fun _ _ kK => x_dup dX8_feed_99 rfl kK) ?_
          refine xe (fun _ _ kK => x_get dX8_feed_100 fl_X8_129 (wK_ai hM.1) (gvl_i fz_8_1.2.2 (show e_i (s_ai T 89 (n + k) (nI (bytW a2 (k % 4)))) 513 88 = nI (n + k) from (wi_ai ht))) kK) ?_
          refine xe (fun _ _ kK => x_iconst dX8_feed_103 (show _ = nI 1 by decide) kK) ?_
          refine xe (fun _ _ kK => x_iadd dX8_feed_104 kK) ?_
          refine xe_ti (show _ = nI ((n + k) + 1) from nI_add (n + k) 1) ?_
          refine xe (fun _ _ kK => x_puti dX8_feed_105 ⟨fl_X8_129, fz_8_1.1, fz_8_1.2.1⟩ (Or.inl fz_8_1.2.2) rfl rfl (wK_ai hM.1) kK) ?_
          refine xe (fun _ _ kK => x_iinc dX8_feed_108 1 rfl (show (nI k) + Int32.ofInt 1 = nI (k + 1) from nI_add k 1) (by decide) (show _ = [(6, .int (nI (k + 1))), (7, .int a2), (0, .ref 88), (1, .int a1), (2, .int a2), (3, .int a3), (4, .int a4), (5, .int a5)] from rfl) kK) ?_
          refine xe (fun _ _ kK => x_goto (tgt := 18) dX8_feed_111 (by decide) kK) ?_
          have hsel : selW a1 a2 a3 a4 a5 k = a2 := by unfold selW; rw [if_neg (show ¬ k < 4 by omega), if_pos h39]
          have hF : FrM [513] [89] T (s_i (s_ai T 89 (n + k) (nI (bytW a2 (k % 4)))) 513 88 (nI ((n + k) + 1))) := (FrM.si (FrM.sai FrM.rf (by decide) _ _) (by decide) _)
          refine Xe.imp (xe_loc (by simp) (ih (20 - (k + 1)) (by omega) (k + 1) (s_i (s_ai T 89 (n + k) (nI (bytW a2 (k % 4)))) 513 88 (nI ((n + k) + 1))) rfl (by omega) (hF.mi hM) (by rw [← Nat.add_assoc]; rfl) ?_)) ?_
          · intro j hj
            rcases Nat.lt_or_ge j (n + k) with z | z
            · exact ⟨(wai_i (wai_ai (by omega) (hB j z).1)), (hB j z).2⟩
            · have e9 : j = n + k := by omega
              subst e9
              rw [fdB_at, hsel]; exact ⟨eai_s _ _ _ _, bytW_lt _ _⟩
          · rintro _ T1 ⟨rfl, hF1, h1, h2⟩
            exact ⟨rfl, FrM.tr hF hF1, h1, h2⟩
      · -- pc 31
        have h28 := cv_nle (by omega) (by omega) h28
        refine xe (fun _ _ kK => x_iload_n dX8_feed_31 rfl 2 rfl kK) ?_
        refine xe (fun _ _ kK => x_goto (tgt := 71) dX8_feed_32 (by decide) kK) ?_
        refine xe (fun _ _ kK => x_istore dX8_feed_71 (by decide) (show _ = [(7, .int a1), (6, .int (nI k)), (0, .ref 88), (1, .int a1), (2, .int a2), (3, .int a3), (4, .int a4), (5, .int a5)] from rfl) kK) ?_
        refine xe (fun _ _ kK => x_aload_n dX8_feed_73 rfl 2 rfl kK) ?_
        refine xe (fun _ _ kK => x_get dX8_feed_74 fl_X8_7 hM.1 (gvl_r1 fz_8_0.2.2 (show e_r T 512 88 = some 89 from (hM.2.1 0))) kK) ?_
        refine xe (fun _ _ kK => x_aload_n dX8_feed_77 rfl 2 rfl kK) ?_
        refine xe (fun _ _ kK => x_get dX8_feed_78 fl_X8_129 hM.1 (gvl_i fz_8_1.2.2 (show e_i T 513 88 = nI (n + k) from ht)) kK) ?_
        refine xe (fun _ _ kK => x_iload dX8_feed_81 0 rfl kK) ?_
        refine xe (fun _ _ kK => x_bipush dX8_feed_83 (show _ = nI 8 by decide) kK) ?_
        refine xe (fun _ _ kK => x_iconst dX8_feed_85 (show _ = nI 3 by decide) kK) ?_
        refine xe (fun _ _ kK => x_iload dX8_feed_86 1 rfl kK) ?_
        refine xe (fun _ _ kK => x_iconst dX8_feed_88 (show _ = nI 4 by decide) kK) ?_
        refine xe (fun _ _ kK => x_irem dX8_feed_89 (by decide) kK) ?_
        refine xe_ti (show _ = nI (k % 4) from pk_rem (by omega) (by decide) (by decide)) ?_
        refine xe (fun _ _ kK => x_isub dX8_feed_90 kK) ?_
        refine xe_ti (show _ = nI (3 - k % 4) from pk_sub (by omega)) ?_
        refine xe (fun _ _ kK => x_imul dX8_feed_91 kK) ?_
        refine xe_ti (show _ = nI (8 * (3 - k % 4)) from pk_mul 8 (3 - k % 4)) ?_
        refine xe (fun _ _ kK => x_ishr dX8_feed_92 kK) ?_
        refine xe (fun _ _ kK => x_sipush dX8_feed_93 (show _ = nI 255 by decide) kK) ?_
        refine xe (fun _ _ kK => x_iand dX8_feed_96 kK) ?_
        refine xe_ti (show _ = nI (bytW a1 (k % 4)) from by_ref a1 (by omega)) ?_
        refine xe (fun _ _ kK => x_iast dX8_feed_97 (hM.2.2.1 0 (by decide)) (show (nI (n + k)) = nI (n + k) from rfl) (mi_len hM 0 (by decide) (show n + k < 400 by omega)) kK) ?_
        refine xe (fun _ _ kK => x_aload_n dX8_feed_98 rfl 2 rfl kK) ?_
        refine xe (fun _ _ kK => x_dup dX8_feed_99 rfl kK) ?_
        refine xe (fun _ _ kK => x_get dX8_feed_100 fl_X8_129 (wK_ai hM.1) (gvl_i fz_8_1.2.2 (show e_i (s_ai T 89 (n + k) (nI (bytW a1 (k % 4)))) 513 88 = nI (n + k) from (wi_ai ht))) kK) ?_
        refine xe (fun _ _ kK => x_iconst dX8_feed_103 (show _ = nI 1 by decide) kK) ?_
        refine xe (fun _ _ kK => x_iadd dX8_feed_104 kK) ?_
        refine xe_ti (show _ = nI ((n + k) + 1) from nI_add (n + k) 1) ?_
        refine xe (fun _ _ kK => x_puti dX8_feed_105 ⟨fl_X8_129, fz_8_1.1, fz_8_1.2.1⟩ (Or.inl fz_8_1.2.2) rfl rfl (wK_ai hM.1) kK) ?_
        refine xe (fun _ _ kK => x_iinc dX8_feed_108 1 rfl (show (nI k) + Int32.ofInt 1 = nI (k + 1) from nI_add k 1) (by decide) (show _ = [(6, .int (nI (k + 1))), (7, .int a1), (0, .ref 88), (1, .int a1), (2, .int a2), (3, .int a3), (4, .int a4), (5, .int a5)] from rfl) kK) ?_
        refine xe (fun _ _ kK => x_goto (tgt := 18) dX8_feed_111 (by decide) kK) ?_
        have hsel : selW a1 a2 a3 a4 a5 k = a1 := by unfold selW; rw [if_pos h28]
        have hF : FrM [513] [89] T (s_i (s_ai T 89 (n + k) (nI (bytW a1 (k % 4)))) 513 88 (nI ((n + k) + 1))) := (FrM.si (FrM.sai FrM.rf (by decide) _ _) (by decide) _)
        refine Xe.imp (xe_loc (by simp) (ih (20 - (k + 1)) (by omega) (k + 1) (s_i (s_ai T 89 (n + k) (nI (bytW a1 (k % 4)))) 513 88 (nI ((n + k) + 1))) rfl (by omega) (hF.mi hM) (by rw [← Nat.add_assoc]; rfl) ?_)) ?_
        · intro j hj
          rcases Nat.lt_or_ge j (n + k) with z | z
          · exact ⟨(wai_i (wai_ai (by omega) (hB j z).1)), (hB j z).2⟩
          · have e9 : j = n + k := by omega
            subst e9
            rw [fdB_at, hsel]; exact ⟨eai_s _ _ _ _, bytW_lt _ _⟩
        · rintro _ T1 ⟨rfl, hF1, h1, h2⟩
          exact ⟨rfl, FrM.tr hF hF1, h1, h2⟩

set_option maxHeartbeats 4000000 in
theorem c_X8_feed (d : Nat) {T : TH} {n : Nat} {b : Nat → Nat} (hM : MI T) (ht : e_i T 513 88 = nI n) (hn : n ≤ 400) (hB : Bt T n b) (a1 a2 a3 a4 a5 : Int32) : Xe m_X8_feed d 0 [(0, .ref 88), (1, .int a1), (2, .int a2), (3, .int a3), (4, .int a4), (5, .int a5)] [] T (if n + 20 ≤ 400 then (fun r T1 => r = some (.int (nI (n + 20))) ∧ FrM [513] [89] T T1 ∧ e_i T1 513 88 = nI (n + 20) ∧ Bt T1 (n + 20) (fdB b n a1 a2 a3 a4 a5)) else (fun r T1 => r = some (.int (-1)) ∧ T1 = T)) := by
  refine xe (fun _ _ kK => x_aload_n dX8_feed_0 rfl 0 rfl kK) ?_
  refine xe (fun _ _ kK => x_get dX8_feed_1 fl_X8_129 hM.1 (gvl_i fz_8_1.2.2 (show e_i T 513 88 = nI n from ht)) kK) ?_
  refine xe (fun _ _ kK => x_bipush dX8_feed_4 (show _ = nI 20 by decide) kK) ?_
  refine xe (fun _ _ kK => x_iadd dX8_feed_6 kK) ?_
  refine xe_ti (show _ = nI (n + 20) from nI_add n 20) ?_
  refine xe (fun _ _ kK => x_sipush dX8_feed_7 (show _ = nI 400 by decide) kK) ?_
  refine xe_icmp_le (tgt := 15) dX8_feed_10 (by decide) (fun h10 => ?_) (fun h10 => ?_)
  · -- pc 15
    have h10 := cv_le (by omega) (by omega) h10
    refine xe (fun _ _ kK => x_iconst dX8_feed_15 (show _ = nI 0 by decide) kK) ?_
    refine xe (fun _ _ kK => x_istore dX8_feed_16 (by decide) (show _ = [(6, .int (nI 0)), (0, .ref 88), (1, .int a1), (2, .int a2), (3, .int a3), (4, .int a4), (5, .int a5)] from rfl) kK) ?_
    rw [if_pos h10]
    exact xe_loc (by simp) (l_X8_feed d h10 20 0 T rfl (by omega) hM (by rw [Nat.add_zero]; exact ht) (fun j hj => by rw [fdB_lo (by omega)]; exact hB j hj))
  · -- pc 13
    have h10 := cv_nle (by omega) (by omega) h10
    refine xe (fun _ _ kK => x_iconst dX8_feed_13 (show _ = (-1) by decide) kK) ?_
    rw [if_neg (by omega)]
    exact xe_reti dX8_feed_14 rfl (⟨rfl, rfl⟩)
