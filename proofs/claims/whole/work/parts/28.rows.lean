set_option maxHeartbeats 4000000 in
theorem l_X8_sum (d : Nat) {T : TH} {R : List Row} (hM : MI T) (hR : MRw T R) (hO : RwOk R) {c : Nat} {y : Int32} : ∀ (m k : Nat), R.length - k = m → k ≤ R.length → Xe m_X8_sum d 47 [(5, .int (nI k)), (3, .long (smR R y k)), (0, .ref 88), (1, .int (nI c)), (2, .int y)] [] T (fun r T1 => r = some (.long (smR R y R.length)) ∧ T1 = T) := by
  intro m
  induction m using Nat.strongRecOn with
  | ind m ih =>
    intro k hm hk
    subst hm
    have hl6 := hO.1
    refine xe (fun _ _ kK => x_iload dX8_sum_47 0 rfl kK) ?_
    refine xe (fun _ _ kK => x_aload_n dX8_sum_49 rfl 2 rfl kK) ?_
    refine xe (fun _ _ kK => x_get dX8_sum_50 fl_X8_257 hM.1 (gvl_i fz_8_39.2.2 (show e_i T 551 88 = nI R.length from hR.1)) kK) ?_
    refine xe_icmp_ge (tgt := 98) dX8_sum_53 (by decide) (fun h53 => ?_) (fun h53 => ?_)
    · -- pc 98
      have h53 := cv_le (by omega) (by omega) h53
      refine xe (fun _ _ kK => x_lload_n dX8_sum_98 rfl 1 rfl kK) ?_
      exact xe_retl dX8_sum_99 rfl (⟨by rw [show k = R.length by omega], rfl⟩)
    · -- pc 56
      have h53 := cv_nle (by omega) (by omega) h53
      have hrk := hO.2 k h53
      refine xe (fun _ _ kK => x_aload_n dX8_sum_56 rfl 2 rfl kK) ?_
      refine xe (fun _ _ kK => x_get dX8_sum_57 fl_X8_95 hM.1 (gvl_r1 fz_8_42.2.2 (show e_r T 554 88 = some 109 from (hM.2.1 42))) kK) ?_
      refine xe (fun _ _ kK => x_iload dX8_sum_60 0 rfl kK) ?_
      refine xe (fun _ _ kK => x_zald dX8_sum_62 (hM.2.2.1 20 (by decide)) (show (nI k) = nI k from rfl) (mi_len hM 20 (by decide) (show k < 6300 by omega)) (show e_ai T 109 k = bI (rowAt R k).2.2.1 from (hR.row h53).2.2.1) kK) ?_
      refine xe_if_eq (tgt := 92) dX8_sum_63 (by decide) (fun h63 => ?_) (fun h63 => ?_)
      · -- pc 92
        have h63 := cv_b0 h63
        refine xe (fun _ _ kK => x_iinc dX8_sum_92 0 rfl (show (nI k) + Int32.ofInt 1 = nI (k + 1) from nI_add k 1) (by decide) (show _ = [(5, .int (nI (k + 1))), (3, .long (smR R y k)), (0, .ref 88), (1, .int (nI c)), (2, .int y)] from rfl) kK) ?_
        refine xe (fun _ _ kK => x_goto (tgt := 47) dX8_sum_95 (by decide) kK) ?_
        have hv : smR R y (k + 1) = smR R y k := by rw [smR]; rw [if_neg (fun z9 => by rw [h63] at z9; cases z9.1)]
        have := ih (R.length - (k + 1)) (by omega) (k + 1) rfl (by omega)
        rw [hv] at this
        exact xe_loc (by simp) this
      · -- pc 66
        have h63 := cv_b1 h63
        refine xe (fun _ _ kK => x_iload_n dX8_sum_66 rfl 4 rfl kK) ?_
        refine xe (fun _ _ kK => x_iconst dX8_sum_67 (show _ = (-1) by decide) kK) ?_
        refine xe_icmp_eq (tgt := 82) dX8_sum_68 (by decide) (fun h68 => ?_) (fun h68 => ?_)
        · -- pc 82
          refine xe (fun _ _ kK => x_lload_n dX8_sum_82 rfl 1 rfl kK) ?_
          refine xe (fun _ _ kK => x_aload_n dX8_sum_83 rfl 2 rfl kK) ?_
          refine xe (fun _ _ kK => x_get dX8_sum_84 fl_X8_99 hM.1 (gvl_r1 fz_8_43.2.2 (show e_r T 555 88 = some 110 from (hM.2.1 43))) kK) ?_
          refine xe (fun _ _ kK => x_iload dX8_sum_87 0 rfl kK) ?_
          refine xe (fun _ _ kK => x_lald dX8_sum_89 (hM.2.2.1 21 (by decide)) (show (nI k) = nI k from rfl) (mi_len hM 21 (by decide) (show k < 6300 by omega)) (show e_al T 110 k = (rowAt R k).2.2.2.1 from (hR.row h53).2.2.2.1) kK) ?_
          refine xe (fun _ _ kK => x_ladd dX8_sum_90 kK) ?_
          refine xe (fun _ _ kK => x_lstore_n dX8_sum_91 rfl (by decide) (show _ = [(3, .long ((smR R y k) + ((rowAt R k).2.2.2.1))), (5, .int (nI k)), (0, .ref 88), (1, .int (nI c)), (2, .int y)] from rfl) kK) ?_
          refine xe (fun _ _ kK => x_iinc dX8_sum_92 1 rfl (show (nI k) + Int32.ofInt 1 = nI (k + 1) from nI_add k 1) (by decide) (show _ = [(5, .int (nI (k + 1))), (3, .long ((smR R y k) + ((rowAt R k).2.2.2.1))), (0, .ref 88), (1, .int (nI c)), (2, .int y)] from rfl) kK) ?_
          refine xe (fun _ _ kK => x_goto (tgt := 47) dX8_sum_95 (by decide) kK) ?_
          have hv : smR R y (k + 1) = smR R y k + (rowAt R k).2.2.2.1 := by rw [smR]; rw [if_pos ⟨h63, Or.inl h68⟩]
          have := ih (R.length - (k + 1)) (by omega) (k + 1) rfl (by omega)
          rw [hv] at this
          exact xe_loc (by simp) this
        · -- pc 71
          refine xe (fun _ _ kK => x_aload_n dX8_sum_71 rfl 2 rfl kK) ?_
          refine xe (fun _ _ kK => x_get dX8_sum_72 fl_X8_102 hM.1 (gvl_r1 fz_8_44.2.2 (show e_r T 556 88 = some 111 from (hM.2.1 44))) kK) ?_
          refine xe (fun _ _ kK => x_iload dX8_sum_75 0 rfl kK) ?_
          refine xe (fun _ _ kK => x_iald dX8_sum_77 (hM.2.2.1 22 (by decide)) (show (nI k) = nI k from rfl) (mi_len hM 22 (by decide) (show k < 6300 by omega)) (show e_ai T 111 k = nI (rowAt R k).2.2.2.2 from (hR.row h53).2.2.2.2) kK) ?_
          refine xe (fun _ _ kK => x_iload_n dX8_sum_78 rfl 4 rfl kK) ?_
          refine xe_icmp_ne (tgt := 92) dX8_sum_79 (by decide) (fun h79 => ?_) (fun h79 => ?_)
          · -- pc 92
            refine xe (fun _ _ kK => x_iinc dX8_sum_92 0 rfl (show (nI k) + Int32.ofInt 1 = nI (k + 1) from nI_add k 1) (by decide) (show _ = [(5, .int (nI (k + 1))), (3, .long (smR R y k)), (0, .ref 88), (1, .int (nI c)), (2, .int y)] from rfl) kK) ?_
            refine xe (fun _ _ kK => x_goto (tgt := 47) dX8_sum_95 (by decide) kK) ?_
            have hv : smR R y (k + 1) = smR R y k := by rw [smR]; rw [if_neg (fun z9 => z9.2.elim h68 h79)]
            have := ih (R.length - (k + 1)) (by omega) (k + 1) rfl (by omega)
            rw [hv] at this
            exact xe_loc (by simp) this
          · -- pc 82
            refine xe (fun _ _ kK => x_lload_n dX8_sum_82 rfl 1 rfl kK) ?_
            refine xe (fun _ _ kK => x_aload_n dX8_sum_83 rfl 2 rfl kK) ?_
            refine xe (fun _ _ kK => x_get dX8_sum_84 fl_X8_99 hM.1 (gvl_r1 fz_8_43.2.2 (show e_r T 555 88 = some 110 from (hM.2.1 43))) kK) ?_
            refine xe (fun _ _ kK => x_iload dX8_sum_87 0 rfl kK) ?_
            refine xe (fun _ _ kK => x_lald dX8_sum_89 (hM.2.2.1 21 (by decide)) (show (nI k) = nI k from rfl) (mi_len hM 21 (by decide) (show k < 6300 by omega)) (show e_al T 110 k = (rowAt R k).2.2.2.1 from (hR.row h53).2.2.2.1) kK) ?_
            refine xe (fun _ _ kK => x_ladd dX8_sum_90 kK) ?_
            refine xe (fun _ _ kK => x_lstore_n dX8_sum_91 rfl (by decide) (show _ = [(3, .long ((smR R y k) + ((rowAt R k).2.2.2.1))), (5, .int (nI k)), (0, .ref 88), (1, .int (nI c)), (2, .int y)] from rfl) kK) ?_
            refine xe (fun _ _ kK => x_iinc dX8_sum_92 1 rfl (show (nI k) + Int32.ofInt 1 = nI (k + 1) from nI_add k 1) (by decide) (show _ = [(5, .int (nI (k + 1))), (3, .long ((smR R y k) + ((rowAt R k).2.2.2.1))), (0, .ref 88), (1, .int (nI c)), (2, .int y)] from rfl) kK) ?_
            refine xe (fun _ _ kK => x_goto (tgt := 47) dX8_sum_95 (by decide) kK) ?_
            have hv : smR R y (k + 1) = smR R y k + (rowAt R k).2.2.2.1 := by rw [smR]; rw [if_pos ⟨h63, Or.inr (by simpa using h79)⟩]
            have := ih (R.length - (k + 1)) (by omega) (k + 1) rfl (by omega)
            rw [hv] at this
            exact xe_loc (by simp) this

noncomputable def sumA (s : Sh) (ps : PS) (x y : Int32) : Int64 := match ix x s.2.1 with
  | none => 0
  | some c => if s.2.2.2.2.1 (s.2.2.2.2.2.2 c) = 0 ∧ (y = -1 ∨ (ix y ps.1).isSome = true) then smR (tOf s ps c) y (tOf s ps c).length else 0

set_option maxHeartbeats 4000000 in
theorem c_X8_sum (d : Nat) {T : TH} {s : Sh} {ps : PS} (h : MQh T s ps) (x y : Int32) : Xe m_X8_sum (d + 2) 0 [(0, .ref 88), (1, .int x), (2, .int y)] [] T (fun r9 T1 => r9 = some (.long (sumA s ps x y)) ∧ FrM fsTb asTb T T1) := by
  obtain ⟨hM, hs1, hS, hG, hP, hPG⟩ := id h
  have hc12 := hG.2.1
  refine xe (fun _ _ kK => x_aload_n dX8_sum_0 rfl 0 rfl kK) ?_
  refine xe (fun _ _ kK => x_iload_n dX8_sum_1 rfl 1 rfl kK) ?_
  refine xe_callV (a := 88) [.int x] dX8_sum_2 ml_X8_289 mf_X8_isLeaf hM.1 (c_X8_isLeaf (d + 1) hM hs1 hS.2.1 hc12 x) rfl rfl (Nat.le_of_ble_eq_true rfl) (Nat.le_of_ble_eq_true rfl) ?_
  rintro _ T9 ⟨rfl, h9⟩
  refine xe_T h9 ?_
  cases hix : ix x s.2.1 with
  | none =>
    show Xe m_X8_sum ((d + 1) + 1) 5 [(0, .ref 88), (1, .int x), (2, .int y)] [.int (bI false)] T _
    refine xe (fun _ _ kK => x_if_eqT (tgt := 35) dX8_sum_5 (by decide) rfl kK) ?_
    refine xe (fun _ _ kK => x_lconst dX8_sum_35 (show _ = lN 0 by decide) kK) ?_
    exact xe_retl dX8_sum_36 rfl (⟨by unfold sumA; rw [hix] <;> rfl, FrM.rf⟩)
  | some c =>
    obtain ⟨hc, rfl, hcb⟩ := ix_lt hix
    show Xe m_X8_sum ((d + 1) + 1) 5 [(0, .ref 88), (1, .int (nI c)), (2, .int y)] [.int (bI true)] T _
    refine xe (fun _ _ kK => x_if_eqF (tgt := 35) dX8_sum_5 (by decide) (by decide) kK) ?_
    obtain ⟨j1, j2, j3, j4⟩ := hG.2.2.2 c hc
    have hKb := (hG.1.2.2.2 _ j4).1
    have hs60 := hG.1.1
    refine xe (fun _ _ kK => x_aload_n dX8_sum_8 rfl 0 rfl kK) ?_
    refine xe (fun _ _ kK => x_get dX8_sum_9 fl_X8_44 hM.1 (gvl_r1 fz_8_18.2.2 (show e_r T 530 88 = some 92 from (hM.2.1 18))) kK) ?_
    refine xe (fun _ _ kK => x_aload_n dX8_sum_12 rfl 0 rfl kK) ?_
    refine xe (fun _ _ kK => x_get dX8_sum_13 fl_X8_50 hM.1 (gvl_r1 fz_8_20.2.2 (show e_r T 532 88 = some 94 from (hM.2.1 20))) kK) ?_
    refine xe (fun _ _ kK => x_iload_n dX8_sum_16 rfl 1 rfl kK) ?_
    refine xe (fun _ _ kK => x_iald dX8_sum_17 (hM.2.2.1 5 (by decide)) (show (nI c) = nI c from rfl) (mi_len hM 5 (by decide) (show c < 12 by omega)) (show e_ai T 94 c = nI (s.2.2.2.2.2.2 c) from (hS.2.2.2 c hc)) kK) ?_
    refine xe (fun _ _ kK => x_iald dX8_sum_18 (hM.2.2.1 3 (by decide)) (show (nI (s.2.2.2.2.2.2 c)) = nI (s.2.2.2.2.2.2 c) from rfl) (mi_len hM 3 (by decide) (show s.2.2.2.2.2.2 c < 80 by omega)) (show e_ai T 92 (s.2.2.2.2.2.2 c) = nI (s.2.2.2.2.1 (s.2.2.2.2.2.2 c)) from (hS.2.2.1 _ j4).2.2.1) kK) ?_
    refine xe_if_ne (tgt := 35) dX8_sum_19 (by decide) (fun h19 => ?_) (fun h19 => ?_)
    · -- pc 35
      have h19 := cv_nz (by omega) h19
      refine xe (fun _ _ kK => x_lconst dX8_sum_35 (show _ = lN 0 by decide) kK) ?_
      exact xe_retl dX8_sum_36 rfl (⟨by unfold sumA; rw [hix]; exact congrArg (fun z => some (Value.long z)) (if_neg (fun z => h19 z.1)).symm, FrM.rf⟩)
    · -- pc 22
      have h19 := cv_z (by omega) h19
      refine xe (fun _ _ kK => x_iload_n dX8_sum_22 rfl 2 rfl kK) ?_
      refine xe (fun _ _ kK => x_iconst dX8_sum_23 (show _ = (-1) by decide) kK) ?_
      refine xe_icmp_eq (tgt := 37) dX8_sum_24 (by decide) (fun h24 => ?_) (fun h24 => ?_)
      · -- pc 37
        refine xe (fun _ _ kK => x_aload_n dX8_sum_37 rfl 0 rfl kK) ?_
        refine xe (fun _ _ kK => x_iload_n dX8_sum_38 rfl 1 rfl kK) ?_
        refine xe_callV (a := 88) [.int (nI c)] dX8_sum_39 ml_X8_292 mf_X8_table hM.1 (c_X8_table' d h hc) rfl rfl (Nat.le_of_ble_eq_true rfl) (Nat.le_of_ble_eq_true rfl) ?_
        rintro _ T1 ⟨rfl, hF1, hD1, hR1⟩
        obtain ⟨hM, hs1, hS, -, hP, -⟩ := h.of hF1 (by decide) (by decide)
        obtain ⟨j1, j2, j3, j4⟩ := hG.2.2.2 c hc
        have hB := hG.1
        have hs60 := hB.1
        have hlt : ∀ f ∈ road s c, f < s.1 := fun f hf => j2 f (List.mem_reverse.mp hf)
        have hr5 : (road s c).length ≤ 5 := by rw [road, List.length_reverse]; exact j3
        have hr0 : 0 < (road s c).length := by rw [road, List.length_reverse]; cases hq : rdl s c with | nil => (rw [hq] at j1; cases j1) | cons a b => simp
        have hO := hPG.2 c hc
        have hKb := (hB.2.2.2 _ j4).1
        refine xe (fun _ _ kK => x_lconst dX8_sum_42 (show _ = lN 0 by decide) kK) ?_
        refine xe (fun _ _ kK => x_lstore_n dX8_sum_43 rfl (by decide) (show _ = [(3, .long (lN 0)), (0, .ref 88), (1, .int (nI c)), (2, .int y)] from rfl) kK) ?_
        refine xe (fun _ _ kK => x_iconst dX8_sum_44 (show _ = nI 0 by decide) kK) ?_
        refine xe (fun _ _ kK => x_istore dX8_sum_45 (by decide) (show _ = [(5, .int (nI 0)), (3, .long (lN 0)), (0, .ref 88), (1, .int (nI c)), (2, .int y)] from rfl) kK) ?_
        refine Xe.imp (xe_loc (L' := [(5, .int (nI 0)), (3, .long (smR (tOf s ps c) y 0)), (0, .ref 88), (1, .int (nI c)), (2, .int y)]) (by simp [smR, lN]) (l_X8_sum (d + 2) (c := c) (y := y) hM hR1 hO (tOf s ps c).length 0 rfl (Nat.zero_le _))) ?_
        rintro _ _ ⟨rfl, rfl⟩
        exact ⟨by unfold sumA; rw [hix]; exact congrArg (fun z => some (Value.long z)) (if_pos (⟨h19, Or.inl h24⟩)).symm, hF1⟩
      · -- pc 27
        refine xe (fun _ _ kK => x_aload_n dX8_sum_27 rfl 0 rfl kK) ?_
        refine xe (fun _ _ kK => x_iload_n dX8_sum_28 rfl 2 rfl kK) ?_
        refine xe_callV (a := 88) [.int y] dX8_sum_29 ml_X8_251 mf_X8_isPaper hM.1 (c_X8_isPaper (d + 1) hM hP.1 hPG.1.1 y) rfl rfl (Nat.le_of_ble_eq_true rfl) (Nat.le_of_ble_eq_true rfl) ?_
        rintro _ T9 ⟨rfl, h9⟩
        refine xe_T h9 ?_
        refine xe_if_ne (tgt := 37) dX8_sum_32 (by decide) (fun h32 => ?_) (fun h32 => ?_)
        · -- pc 37
          have h32 := cv_b1 h32
          refine xe (fun _ _ kK => x_aload_n dX8_sum_37 rfl 0 rfl kK) ?_
          refine xe (fun _ _ kK => x_iload_n dX8_sum_38 rfl 1 rfl kK) ?_
          refine xe_callV (a := 88) [.int (nI c)] dX8_sum_39 ml_X8_292 mf_X8_table hM.1 (c_X8_table' d h hc) rfl rfl (Nat.le_of_ble_eq_true rfl) (Nat.le_of_ble_eq_true rfl) ?_
          rintro _ T1 ⟨rfl, hF1, hD1, hR1⟩
          obtain ⟨hM, hs1, hS, -, hP, -⟩ := h.of hF1 (by decide) (by decide)
          obtain ⟨j1, j2, j3, j4⟩ := hG.2.2.2 c hc
          have hB := hG.1
          have hs60 := hB.1
          have hlt : ∀ f ∈ road s c, f < s.1 := fun f hf => j2 f (List.mem_reverse.mp hf)
          have hr5 : (road s c).length ≤ 5 := by rw [road, List.length_reverse]; exact j3
          have hr0 : 0 < (road s c).length := by rw [road, List.length_reverse]; cases hq : rdl s c with | nil => (rw [hq] at j1; cases j1) | cons a b => simp
          have hO := hPG.2 c hc
          have hKb := (hB.2.2.2 _ j4).1
          refine xe (fun _ _ kK => x_lconst dX8_sum_42 (show _ = lN 0 by decide) kK) ?_
          refine xe (fun _ _ kK => x_lstore_n dX8_sum_43 rfl (by decide) (show _ = [(3, .long (lN 0)), (0, .ref 88), (1, .int (nI c)), (2, .int y)] from rfl) kK) ?_
          refine xe (fun _ _ kK => x_iconst dX8_sum_44 (show _ = nI 0 by decide) kK) ?_
          refine xe (fun _ _ kK => x_istore dX8_sum_45 (by decide) (show _ = [(5, .int (nI 0)), (3, .long (lN 0)), (0, .ref 88), (1, .int (nI c)), (2, .int y)] from rfl) kK) ?_
          refine Xe.imp (xe_loc (L' := [(5, .int (nI 0)), (3, .long (smR (tOf s ps c) y 0)), (0, .ref 88), (1, .int (nI c)), (2, .int y)]) (by simp [smR, lN]) (l_X8_sum (d + 2) (c := c) (y := y) hM hR1 hO (tOf s ps c).length 0 rfl (Nat.zero_le _))) ?_
          rintro _ _ ⟨rfl, rfl⟩
          exact ⟨by unfold sumA; rw [hix]; exact congrArg (fun z => some (Value.long z)) (if_pos (⟨h19, Or.inr h32⟩)).symm, hF1⟩
        · -- pc 35
          have h32 := cv_b0 h32
          refine xe (fun _ _ kK => x_lconst dX8_sum_35 (show _ = lN 0 by decide) kK) ?_
          exact xe_retl dX8_sum_36 rfl (⟨by unfold sumA; rw [hix]; exact congrArg (fun z => some (Value.long z)) (if_neg (fun z => z.2.elim h24 (fun z2 => by rw [h32] at z2; cases z2))).symm, FrM.rf⟩)

/-- the TABLE's row that is asked for -/
noncomputable def rwA (s : Sh) (ps : PS) (x y : Int32) : Option Row := match ix x s.2.1 with
  | none => none
  | some c => match ix y (tOf s ps c).length with
    | none => none
    | some k => some (rowAt (tOf s ps c) k)
theorem rwA_i {s : Sh} {ps : PS} {x y : Int32} {c k : Nat} (h1 : ix x s.2.1 = some c) (h2 : ix y (tOf s ps c).length = some k) : rwA s ps x y = some (rowAt (tOf s ps c) k) := by unfold rwA; rw [h1]; show (match ix y (tOf s ps c).length with | none => none | some k => some (rowAt (tOf s ps c) k)) = _; rw [h2]
theorem rwA_n {s : Sh} {ps : PS} {x y : Int32} (h1 : ix x s.2.1 = none) : rwA s ps x y = none := by unfold rwA; rw [h1]
theorem rwA_o {s : Sh} {ps : PS} {x y : Int32} {c : Nat} (h1 : ix x s.2.1 = some c) (h2 : ix y (tOf s ps c).length = none) : rwA s ps x y = none := by unfold rwA; rw [h1]; show (match ix y (tOf s ps c).length with | none => none | some k => some (rowAt (tOf s ps c) k)) = _; rw [h2]

set_option maxHeartbeats 4000000 in
theorem c_X8_isRow (d : Nat) {T : TH} {s : Sh} {ps : PS} (h : MQh T s ps) (x y : Int32) : Xe m_X8_isRow (d + 2) 0 [(0, .ref 88), (1, .int x), (2, .int y)] [] T (fun r9 T1 => FrM fsTb asTb T T1 ∧ ((rwA s ps x y = none ∧ r9 = some (.int (nI 0))) ∨ ∃ k rr, rwA s ps x y = some rr ∧ r9 = some (.int (nI 1)) ∧ y = nI k ∧ k < 6300 ∧ e_ai T1 107 k = nI rr.1 ∧ e_ai T1 108 k = nI rr.2.1 ∧ e_ai T1 109 k = bI rr.2.2.1 ∧ e_al T1 110 k = rr.2.2.2.1 ∧ e_ai T1 111 k = nI rr.2.2.2.2)) := by
  obtain ⟨hM, hs1, hS, hG, hP, hPG⟩ := id h
  have hc12 := hG.2.1
  refine xe (fun _ _ kK => x_aload_n dX8_isRow_0 rfl 0 rfl kK) ?_
  refine xe (fun _ _ kK => x_iload_n dX8_isRow_1 rfl 1 rfl kK) ?_
  refine xe_callV (a := 88) [.int x] dX8_isRow_2 ml_X8_289 mf_X8_isLeaf hM.1 (c_X8_isLeaf (d + 1) hM hs1 hS.2.1 hc12 x) rfl rfl (Nat.le_of_ble_eq_true rfl) (Nat.le_of_ble_eq_true rfl) ?_
  rintro _ T9 ⟨rfl, h9⟩
  refine xe_T h9 ?_
  cases hix : ix x s.2.1 with
  | none =>
    show Xe m_X8_isRow ((d + 1) + 1) 5 [(0, .ref 88), (1, .int x), (2, .int y)] [.int (bI false)] T _
    refine xe (fun _ _ kK => x_if_eqT (tgt := 12) dX8_isRow_5 (by decide) rfl kK) ?_
    refine xe (fun _ _ kK => x_iconst dX8_isRow_12 (show _ = nI 0 by decide) kK) ?_
    exact xe_retz dX8_isRow_13 rfl (by first | exact Or.inl rfl | exact Or.inr rfl) (⟨FrM.rf, Or.inl ⟨rwA_n hix, rfl⟩⟩)
  | some c =>
    obtain ⟨hc, rfl, hcb⟩ := ix_lt hix
    show Xe m_X8_isRow ((d + 1) + 1) 5 [(0, .ref 88), (1, .int (nI c)), (2, .int y)] [.int (bI true)] T _
    refine xe (fun _ _ kK => x_if_eqF (tgt := 12) dX8_isRow_5 (by decide) (by decide) kK) ?_
    refine xe (fun _ _ kK => x_iload_n dX8_isRow_8 rfl 2 rfl kK) ?_
    by_cases hy : y < 0
    · -- pc 9
      refine xe (fun _ _ kK => x_if_geF (tgt := 14) dX8_isRow_9 (by decide) (fun z9 => absurd hy (Int32.not_lt.mpr z9)) kK) ?_
      refine xe (fun _ _ kK => x_iconst dX8_isRow_12 (show _ = nI 0 by decide) kK) ?_
      exact xe_retz dX8_isRow_13 rfl (by first | exact Or.inl rfl | exact Or.inr rfl) (⟨FrM.rf, Or.inl ⟨rwA_o hix (ix_neg hy), rfl⟩⟩)
    · -- pc 9
      obtain ⟨j, hj, rfl⟩ := nI_of hy
      refine xe (fun _ _ kK => x_if_geT (tgt := 14) dX8_isRow_9 (by decide) (Int32.not_lt.mp hy) kK) ?_
      refine xe (fun _ _ kK => x_aload_n dX8_isRow_14 rfl 0 rfl kK) ?_
      refine xe (fun _ _ kK => x_iload_n dX8_isRow_15 rfl 1 rfl kK) ?_
      refine xe_callV (a := 88) [.int (nI c)] dX8_isRow_16 ml_X8_292 mf_X8_table hM.1 (c_X8_table' d h hc) rfl rfl (Nat.le_of_ble_eq_true rfl) (Nat.le_of_ble_eq_true rfl) ?_
      rintro _ T1 ⟨rfl, hF1, hD1, hR1⟩
      obtain ⟨hM, hs1, hS, -, hP, -⟩ := h.of hF1 (by decide) (by decide)
      obtain ⟨j1, j2, j3, j4⟩ := hG.2.2.2 c hc
      have hB := hG.1
      have hs60 := hB.1
      have hlt : ∀ f ∈ road s c, f < s.1 := fun f hf => j2 f (List.mem_reverse.mp hf)
      have hr5 : (road s c).length ≤ 5 := by rw [road, List.length_reverse]; exact j3
      have hr0 : 0 < (road s c).length := by rw [road, List.length_reverse]; cases hq : rdl s c with | nil => (rw [hq] at j1; cases j1) | cons a b => simp
      have hO := hPG.2 c hc
      have hKb := (hB.2.2.2 _ j4).1
      refine xe (fun _ _ kK => x_iload_n dX8_isRow_19 rfl 2 rfl kK) ?_
      refine xe (fun _ _ kK => x_aload_n dX8_isRow_20 rfl 0 rfl kK) ?_
      refine xe (fun _ _ kK => x_get dX8_isRow_21 fl_X8_257 hM.1 (gvl_i fz_8_39.2.2 (show e_i T1 551 88 = nI (tOf s ps c).length from hR1.1)) kK) ?_
      have hl6 := hO.1
      refine xe_icmp_ge (tgt := 31) dX8_isRow_24 (by decide) (fun h24 => ?_) (fun h24 => ?_)
      · -- pc 31
        have h24 := cv_le (by omega) (by omega) h24
        refine xe (fun _ _ kK => x_iconst dX8_isRow_31 (show _ = nI 0 by decide) kK) ?_
        exact xe_retz dX8_isRow_32 rfl (by first | exact Or.inl rfl | exact Or.inr rfl) (⟨hF1, Or.inl ⟨rwA_o hix (ix_out h24 hj), rfl⟩⟩)
      · -- pc 27
        have h24 := cv_nle (by omega) (by omega) h24
        refine xe (fun _ _ kK => x_iconst dX8_isRow_27 (show _ = nI 1 by decide) kK) ?_
        refine xe (fun _ _ kK => x_goto (tgt := 32) dX8_isRow_28 (by decide) kK) ?_
        have hr := hR1.row h24
        exact xe_retz dX8_isRow_32 rfl (by first | exact Or.inl rfl | exact Or.inr rfl) (⟨hF1, Or.inr ⟨j, _, rwA_i hix (ix_in h24 hj), rfl, rfl, by omega, hr⟩⟩)

noncomputable def rowA (s : Sh) (ps : PS) (x y z : Int32) : Int32 := match rwA s ps x y with
  | none => -1
  | some rr => match ix z 4 with
    | some 0 => nI rr.1
    | some 1 => nI rr.2.1
    | some 2 => bI rr.2.2.1
    | some 3 => nI rr.2.2.2.2
    | _ => -1
noncomputable def valA (s : Sh) (ps : PS) (x y : Int32) : Int64 := match rwA s ps x y with
  | none => 0
  | some rr => if rr.2.2.1 = true then rr.2.2.2.1 else 0

set_option maxHeartbeats 4000000 in
theorem c_X8_row (d : Nat) {T : TH} {s : Sh} {ps : PS} (h : MQh T s ps) (x y z : Int32) : Xe m_X8_row (d + 3) 0 [(0, .ref 88), (1, .int x), (2, .int y), (3, .int z)] [] T (fun r9 T1 => r9 = some (.int (rowA s ps x y z)) ∧ FrM fsTb asTb T T1) := by
  obtain ⟨hM, hs1, hS, hG, hP, hPG⟩ := id h
  refine xe (fun _ _ kK => x_aload_n dX8_row_0 rfl 0 rfl kK) ?_
  refine xe (fun _ _ kK => x_iload_n dX8_row_1 rfl 1 rfl kK) ?_
  refine xe (fun _ _ kK => x_iload_n dX8_row_2 rfl 2 rfl kK) ?_
  refine xe_callV (a := 88) [.int x, .int y] dX8_row_3 ml_X8_298 mf_X8_isRow hM.1 (c_X8_isRow d h x y) rfl rfl (Nat.le_of_ble_eq_true rfl) (Nat.le_of_ble_eq_true rfl) ?_
  rintro _ T1 ⟨hF1, ⟨hn, rfl⟩ | ⟨k, rr, hrr, rfl, rfl, hk6, r1, r2, r3, r4, r5⟩⟩
  · -- pc 6
    have hM1 := hF1.mi hM
    refine xe (fun _ _ kK => x_if_neF (tgt := 11) dX8_row_6 (by decide) (by decide) kK) ?_
    refine xe (fun _ _ kK => x_iconst dX8_row_9 (show _ = (-1) by decide) kK) ?_
    exact xe_reti dX8_row_10 rfl (⟨by unfold rowA; rw [hn] <;> rfl, hF1⟩)
  · -- pc 6
    have hM1 := hF1.mi hM
    refine xe (fun _ _ kK => x_if_neT (tgt := 11) dX8_row_6 (by decide) (by decide) kK) ?_
    refine xe (fun _ _ kK => x_iload_n dX8_row_11 rfl 3 rfl kK) ?_
    have hA : rowA s ps x (nI k) z = (match ix z 4 with | some 0 => nI rr.1 | some 1 => nI rr.2.1 | some 2 => bI rr.2.2.1 | some 3 => nI rr.2.2.2.2 | _ => -1) := by unfold rowA; rw [hrr]
    cases hiz : ix z 4 with
    | none =>
      refine xe (fun _ _ kK => x_tableOut (tgt := 80) dX8_row_12 (by have := ix_case (by decide) hiz; omega) (by decide) kK) ?_
      refine xe (fun _ _ kK => x_iconst dX8_row_80 (show _ = (-1) by decide) kK) ?_
      exact xe_reti dX8_row_81 rfl (⟨by rw [hA, hiz] <;> rfl, hF1⟩)
    | some j =>
      obtain ⟨hj8, rfl, -⟩ := ix_lt hiz
      have hj : j = 0 ∨ j = 1 ∨ j = 2 ∨ j = 3 := by omega
      rcases hj with rfl | rfl | rfl | rfl
      · -- pc 44
        refine xe (fun _ _ kK => x_tableIn (tgt := 44) (off := 32) dX8_row_12 (by decide) (by decide) (by decide) (by decide) kK) ?_
        refine xe (fun _ _ kK => x_aload_n dX8_row_44 rfl 0 rfl kK) ?_
        refine xe (fun _ _ kK => x_get dX8_row_45 fl_X8_89 hM1.1 (gvl_r1 fz_8_40.2.2 (show e_r T1 552 88 = some 107 from (hM1.2.1 40))) kK) ?_
        refine xe (fun _ _ kK => x_iload_n dX8_row_48 rfl 2 rfl kK) ?_
        refine xe (fun _ _ kK => x_iald dX8_row_49 (hM1.2.2.1 18 (by decide)) (show (nI k) = nI k from rfl) (mi_len hM1 18 (by decide) (show k < 6300 by omega)) (show e_ai T1 107 k = nI rr.1 from r1) kK) ?_
        exact xe_reti dX8_row_50 rfl (⟨by rw [hA, hiz] <;> rfl, hF1⟩)
      · -- pc 51
        refine xe (fun _ _ kK => x_tableIn (tgt := 51) (off := 39) dX8_row_12 (by decide) (by decide) (by decide) (by decide) kK) ?_
        refine xe (fun _ _ kK => x_aload_n dX8_row_51 rfl 0 rfl kK) ?_
        refine xe (fun _ _ kK => x_get dX8_row_52 fl_X8_92 hM1.1 (gvl_r1 fz_8_41.2.2 (show e_r T1 553 88 = some 108 from (hM1.2.1 41))) kK) ?_
        refine xe (fun _ _ kK => x_iload_n dX8_row_55 rfl 2 rfl kK) ?_
        refine xe (fun _ _ kK => x_iald dX8_row_56 (hM1.2.2.1 19 (by decide)) (show (nI k) = nI k from rfl) (mi_len hM1 19 (by decide) (show k < 6300 by omega)) (show e_ai T1 108 k = nI rr.2.1 from r2) kK) ?_
        exact xe_reti dX8_row_57 rfl (⟨by rw [hA, hiz] <;> rfl, hF1⟩)
      · -- pc 58
        refine xe (fun _ _ kK => x_tableIn (tgt := 58) (off := 46) dX8_row_12 (by decide) (by decide) (by decide) (by decide) kK) ?_
        refine xe (fun _ _ kK => x_aload_n dX8_row_58 rfl 0 rfl kK) ?_
        refine xe (fun _ _ kK => x_get dX8_row_59 fl_X8_95 hM1.1 (gvl_r1 fz_8_42.2.2 (show e_r T1 554 88 = some 109 from (hM1.2.1 42))) kK) ?_
        refine xe (fun _ _ kK => x_iload_n dX8_row_62 rfl 2 rfl kK) ?_
        refine xe (fun _ _ kK => x_zald dX8_row_63 (hM1.2.2.1 20 (by decide)) (show (nI k) = nI k from rfl) (mi_len hM1 20 (by decide) (show k < 6300 by omega)) (show e_ai T1 109 k = bI rr.2.2.1 from r3) kK) ?_
        refine xe_if_eq (tgt := 71) dX8_row_64 (by decide) (fun h64 => ?_) (fun h64 => ?_)
        · -- pc 71
          have h64 := cv_b0 h64
          refine xe (fun _ _ kK => x_iconst dX8_row_71 (show _ = nI 0 by decide) kK) ?_
          exact xe_reti dX8_row_72 rfl (⟨by rw [hA, hiz]; exact congrArg (fun z => some (Value.int (bI z))) h64.symm, hF1⟩)
        · -- pc 67
          have h64 := cv_b1 h64
          refine xe (fun _ _ kK => x_iconst dX8_row_67 (show _ = nI 1 by decide) kK) ?_
          refine xe (fun _ _ kK => x_goto (tgt := 72) dX8_row_68 (by decide) kK) ?_
          exact xe_reti dX8_row_72 rfl (⟨by rw [hA, hiz]; exact congrArg (fun z => some (Value.int (bI z))) h64.symm, hF1⟩)
      · -- pc 73
        refine xe (fun _ _ kK => x_tableIn (tgt := 73) (off := 61) dX8_row_12 (by decide) (by decide) (by decide) (by decide) kK) ?_
        refine xe (fun _ _ kK => x_aload_n dX8_row_73 rfl 0 rfl kK) ?_
        refine xe (fun _ _ kK => x_get dX8_row_74 fl_X8_102 hM1.1 (gvl_r1 fz_8_44.2.2 (show e_r T1 556 88 = some 111 from (hM1.2.1 44))) kK) ?_
        refine xe (fun _ _ kK => x_iload_n dX8_row_77 rfl 2 rfl kK) ?_
        refine xe (fun _ _ kK => x_iald dX8_row_78 (hM1.2.2.1 22 (by decide)) (show (nI k) = nI k from rfl) (mi_len hM1 22 (by decide) (show k < 6300 by omega)) (show e_ai T1 111 k = nI rr.2.2.2.2 from r5) kK) ?_
        exact xe_reti dX8_row_79 rfl (⟨by rw [hA, hiz] <;> rfl, hF1⟩)

set_option maxHeartbeats 4000000 in
theorem c_X8_value (d : Nat) {T : TH} {s : Sh} {ps : PS} (h : MQh T s ps) (x y : Int32) : Xe m_X8_value (d + 3) 0 [(0, .ref 88), (1, .int x), (2, .int y)] [] T (fun r9 T1 => r9 = some (.long (valA s ps x y)) ∧ FrM fsTb asTb T T1) := by
  obtain ⟨hM, hs1, hS, hG, hP, hPG⟩ := id h
  refine xe (fun _ _ kK => x_aload_n dX8_value_0 rfl 0 rfl kK) ?_
  refine xe (fun _ _ kK => x_iload_n dX8_value_1 rfl 1 rfl kK) ?_
  refine xe (fun _ _ kK => x_iload_n dX8_value_2 rfl 2 rfl kK) ?_
  refine xe_callV (a := 88) [.int x, .int y] dX8_value_3 ml_X8_298 mf_X8_isRow hM.1 (c_X8_isRow d h x y) rfl rfl (Nat.le_of_ble_eq_true rfl) (Nat.le_of_ble_eq_true rfl) ?_
  rintro _ T1 ⟨hF1, ⟨hn, rfl⟩ | ⟨k, rr, hrr, rfl, rfl, hk6, r1, r2, r3, r4, r5⟩⟩
  · -- pc 6
    have hM1 := hF1.mi hM
    refine xe (fun _ _ kK => x_if_eqT (tgt := 27) dX8_value_6 (by decide) (by decide) kK) ?_
    refine xe (fun _ _ kK => x_lconst dX8_value_27 (show _ = lN 0 by decide) kK) ?_
    exact xe_retl dX8_value_28 rfl (⟨by unfold valA; rw [hn] <;> rfl, hF1⟩)
  · -- pc 6
    have hM1 := hF1.mi hM
    refine xe (fun _ _ kK => x_if_eqF (tgt := 27) dX8_value_6 (by decide) (by decide) kK) ?_
    refine xe (fun _ _ kK => x_aload_n dX8_value_9 rfl 0 rfl kK) ?_
    refine xe (fun _ _ kK => x_get dX8_value_10 fl_X8_95 hM1.1 (gvl_r1 fz_8_42.2.2 (show e_r T1 554 88 = some 109 from (hM1.2.1 42))) kK) ?_
    refine xe (fun _ _ kK => x_iload_n dX8_value_13 rfl 2 rfl kK) ?_
    refine xe (fun _ _ kK => x_zald dX8_value_14 (hM1.2.2.1 20 (by decide)) (show (nI k) = nI k from rfl) (mi_len hM1 20 (by decide) (show k < 6300 by omega)) (show e_ai T1 109 k = bI rr.2.2.1 from r3) kK) ?_
    refine xe_if_eq (tgt := 27) dX8_value_15 (by decide) (fun h15 => ?_) (fun h15 => ?_)
    · -- pc 27
      have h15 := cv_b0 h15
      refine xe (fun _ _ kK => x_lconst dX8_value_27 (show _ = lN 0 by decide) kK) ?_
      exact xe_retl dX8_value_28 rfl (⟨by unfold valA; rw [hrr]; exact congrArg (fun z => some (Value.long z)) (if_neg (by rw [h15]; decide)).symm, hF1⟩)
    · -- pc 18
      have h15 := cv_b1 h15
      refine xe (fun _ _ kK => x_aload_n dX8_value_18 rfl 0 rfl kK) ?_
      refine xe (fun _ _ kK => x_get dX8_value_19 fl_X8_99 hM1.1 (gvl_r1 fz_8_43.2.2 (show e_r T1 555 88 = some 110 from (hM1.2.1 43))) kK) ?_
      refine xe (fun _ _ kK => x_iload_n dX8_value_22 rfl 2 rfl kK) ?_
      refine xe (fun _ _ kK => x_lald dX8_value_23 (hM1.2.2.1 21 (by decide)) (show (nI k) = nI k from rfl) (mi_len hM1 21 (by decide) (show k < 6300 by omega)) (show e_al T1 110 k = rr.2.2.2.1 from r4) kK) ?_
      refine xe (fun _ _ kK => x_goto (tgt := 28) dX8_value_24 (by decide) kK) ?_
      exact xe_retl dX8_value_28 rfl (⟨by unfold valA; rw [hrr]; exact congrArg (fun z => some (Value.long z)) (if_pos h15).symm, hF1⟩)
