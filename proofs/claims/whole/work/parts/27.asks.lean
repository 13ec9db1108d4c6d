def aP (R : List Row) (lo hi : Int64) (k : Nat) : Bool := (rowAt R k).2.2.1 && decide (lo ≤ (rowAt R k).2.2.2.1) && decide ((rowAt R k).2.2.2.1 ≤ hi)
def wP (R : List Row) (y z : Int32) (k : Nat) : Bool := (decide (y = -1) || decide (nI (rowAt R k).1 = y)) && (decide (z = -1) || decide (nI (rowAt R k).2.1 = z))
def pap (R : List Row) (lo hi : Int64) : Nat → Nat × Option Nat
  | 0 => (0, none)
  | k + 1 => if aP R lo hi k = true ∧ some (rowAt R k).2.2.2.2 ≠ (pap R lo hi k).2 then ((pap R lo hi k).1 + 1, some (rowAt R k).2.2.2.2) else pap R lo hi k
theorem pap_le (R : List Row) (lo hi : Int64) : ∀ k, (pap R lo hi k).1 ≤ k := by
  intro k
  induction k with
  | zero => exact Nat.le_refl _
  | succ k ih =>
    unfold pap
    split
    · show (pap R lo hi k).1 + 1 ≤ k + 1; omega
    · omega
def smR (R : List Row) (y : Int32) : Nat → Int64
  | 0 => 0
  | k + 1 => if (rowAt R k).2.2.1 = true ∧ (y = -1 ∨ nI (rowAt R k).2.2.2.2 = y) then smR R y k + (rowAt R k).2.2.2.1 else smR R y k

set_option maxHeartbeats 4000000 in
theorem l_X8_among (d : Nat) {T : TH} {R : List Row} (hM : MI T) (hR : MRw T R) (hO : RwOk R) {c : Nat} {lo hi : Int64} : ∀ (m k : Nat), R.length - k = m → k ≤ R.length → Xe m_X8_among d 21 [(7, .int (nI k)), (6, .int (nI (cI (aP R lo hi) k))), (0, .ref 88), (1, .int (nI c)), (2, .long lo), (4, .long hi)] [] T (fun r T1 => r = some (.int (nI (cI (aP R lo hi) R.length))) ∧ T1 = T) := by
  intro m
  induction m using Nat.strongRecOn with
  | ind m ih =>
    intro k hm hk
    subst hm
    have hl6 := hO.1
    refine xe (fun _ _ kK => x_iload dX8_among_21 0 rfl kK) ?_
    refine xe (fun _ _ kK => x_aload_n dX8_among_23 rfl 2 rfl kK) ?_
    refine xe (fun _ _ kK => x_get dX8_among_24 fl_X8_257 hM.1 (gvl_i fz_8_39.2.2 (show e_i T 551 88 = nI R.length from hR.1)) kK) ?_
    refine xe_icmp_ge (tgt := 74) dX8_among_27 (by decide) (fun h27 => ?_) (fun h27 => ?_)
    · -- pc 74
      have h27 := cv_le (by omega) (by omega) h27
      refine xe (fun _ _ kK => x_iload dX8_among_74 1 rfl kK) ?_
      exact xe_reti dX8_among_76 rfl (⟨by rw [show k = R.length by omega], rfl⟩)
    · -- pc 30
      have h27 := cv_nle (by omega) (by omega) h27
      have hrk := hO.2 k h27
      have hci := cI_le (aP R lo hi) k
      refine xe (fun _ _ kK => x_aload_n dX8_among_30 rfl 2 rfl kK) ?_
      refine xe (fun _ _ kK => x_get dX8_among_31 fl_X8_95 hM.1 (gvl_r1 fz_8_42.2.2 (show e_r T 554 88 = some 109 from (hM.2.1 42))) kK) ?_
      refine xe (fun _ _ kK => x_iload dX8_among_34 0 rfl kK) ?_
      refine xe (fun _ _ kK => x_zald dX8_among_36 (hM.2.2.1 20 (by decide)) (show (nI k) = nI k from rfl) (mi_len hM 20 (by decide) (show k < 6300 by omega)) (show e_ai T 109 k = bI (rowAt R k).2.2.1 from (hR.row h27).2.2.1) kK) ?_
      refine xe_if_eq (tgt := 68) dX8_among_37 (by decide) (fun h37 => ?_) (fun h37 => ?_)
      · -- pc 68
        have h37 := cv_b0 h37
        refine xe (fun _ _ kK => x_iinc dX8_among_68 0 rfl (show (nI k) + Int32.ofInt 1 = nI (k + 1) from nI_add k 1) (by decide) (show _ = [(7, .int (nI (k + 1))), (6, .int (nI (cI (aP R lo hi) k))), (0, .ref 88), (1, .int (nI c)), (2, .long lo), (4, .long hi)] from rfl) kK) ?_
        refine xe (fun _ _ kK => x_goto (tgt := 21) dX8_among_71 (by decide) kK) ?_
        have hv : cI (aP R lo hi) (k + 1) = cI (aP R lo hi) k  := cI_f (by unfold aP; rw [h37]; rfl)
        have := ih (R.length - (k + 1)) (by omega) (k + 1) rfl (by omega)
        rw [hv] at this
        exact xe_loc (by simp) this
      · -- pc 40
        have h37 := cv_b1 h37
        refine xe (fun _ _ kK => x_aload_n dX8_among_40 rfl 2 rfl kK) ?_
        refine xe (fun _ _ kK => x_get dX8_among_41 fl_X8_99 hM.1 (gvl_r1 fz_8_43.2.2 (show e_r T 555 88 = some 110 from (hM.2.1 43))) kK) ?_
        refine xe (fun _ _ kK => x_iload dX8_among_44 0 rfl kK) ?_
        refine xe (fun _ _ kK => x_lald dX8_among_46 (hM.2.2.1 21 (by decide)) (show (nI k) = nI k from rfl) (mi_len hM 21 (by decide) (show k < 6300 by omega)) (show e_al T 110 k = (rowAt R k).2.2.2.1 from (hR.row h27).2.2.2.1) kK) ?_
        refine xe (fun _ _ kK => x_lload_n dX8_among_47 rfl 4 rfl kK) ?_
        refine xe (fun _ _ kK => x_lcmp dX8_among_48 kK) ?_
        refine xe_if_lt (tgt := 68) dX8_among_49 (by decide) (fun h49 => ?_) (fun h49 => ?_)
        · -- pc 68
          have h49 := lc_lt h49
          refine xe (fun _ _ kK => x_iinc dX8_among_68 0 rfl (show (nI k) + Int32.ofInt 1 = nI (k + 1) from nI_add k 1) (by decide) (show _ = [(7, .int (nI (k + 1))), (6, .int (nI (cI (aP R lo hi) k))), (0, .ref 88), (1, .int (nI c)), (2, .long lo), (4, .long hi)] from rfl) kK) ?_
          refine xe (fun _ _ kK => x_goto (tgt := 21) dX8_among_71 (by decide) kK) ?_
          have hv : cI (aP R lo hi) (k + 1) = cI (aP R lo hi) k  := cI_f (by unfold aP; rw [h37]; simp; intro z; exact absurd z (i64_lt_ne h49))
          have := ih (R.length - (k + 1)) (by omega) (k + 1) rfl (by omega)
          rw [hv] at this
          exact xe_loc (by simp) this
        · -- pc 52
          have h49 := lc_gen h49
          refine xe (fun _ _ kK => x_aload_n dX8_among_52 rfl 2 rfl kK) ?_
          refine xe (fun _ _ kK => x_get dX8_among_53 fl_X8_99 hM.1 (gvl_r1 fz_8_43.2.2 (show e_r T 555 88 = some 110 from (hM.2.1 43))) kK) ?_
          refine xe (fun _ _ kK => x_iload dX8_among_56 0 rfl kK) ?_
          refine xe (fun _ _ kK => x_lald dX8_among_58 (hM.2.2.1 21 (by decide)) (show (nI k) = nI k from rfl) (mi_len hM 21 (by decide) (show k < 6300 by omega)) (show e_al T 110 k = (rowAt R k).2.2.2.1 from (hR.row h27).2.2.2.1) kK) ?_
          refine xe (fun _ _ kK => x_lload dX8_among_59 5 rfl kK) ?_
          refine xe (fun _ _ kK => x_lcmp dX8_among_61 kK) ?_
          refine xe_if_gt (tgt := 68) dX8_among_62 (by decide) (fun h62 => ?_) (fun h62 => ?_)
          · -- pc 68
            have h62 := lc_gt h62
            refine xe (fun _ _ kK => x_iinc dX8_among_68 0 rfl (show (nI k) + Int32.ofInt 1 = nI (k + 1) from nI_add k 1) (by decide) (show _ = [(7, .int (nI (k + 1))), (6, .int (nI (cI (aP R lo hi) k))), (0, .ref 88), (1, .int (nI c)), (2, .long lo), (4, .long hi)] from rfl) kK) ?_
            refine xe (fun _ _ kK => x_goto (tgt := 21) dX8_among_71 (by decide) kK) ?_
            have hv : cI (aP R lo hi) (k + 1) = cI (aP R lo hi) k  := cI_f (by unfold aP; rw [h37]; simp; intro _; exact h62)
            have := ih (R.length - (k + 1)) (by omega) (k + 1) rfl (by omega)
            rw [hv] at this
            exact xe_loc (by simp) this
          · -- pc 65
            have h62 := lc_len h62
            refine xe (fun _ _ kK => x_iinc dX8_among_65 1 rfl (show (nI (cI (aP R lo hi) k)) + Int32.ofInt 1 = nI ((cI (aP R lo hi) k) + 1) from nI_add (cI (aP R lo hi) k) 1) (by decide) (show _ = [(6, .int (nI ((cI (aP R lo hi) k) + 1))), (7, .int (nI k)), (0, .ref 88), (1, .int (nI c)), (2, .long lo), (4, .long hi)] from rfl) kK) ?_
            refine xe (fun _ _ kK => x_iinc dX8_among_68 1 rfl (show (nI k) + Int32.ofInt 1 = nI (k + 1) from nI_add k 1) (by decide) (show _ = [(7, .int (nI (k + 1))), (6, .int (nI ((cI (aP R lo hi) k) + 1))), (0, .ref 88), (1, .int (nI c)), (2, .long lo), (4, .long hi)] from rfl) kK) ?_
            refine xe (fun _ _ kK => x_goto (tgt := 21) dX8_among_71 (by decide) kK) ?_
            have hv : cI (aP R lo hi) (k + 1) = cI (aP R lo hi) k + 1 := cI_t (by unfold aP; rw [h37]; simp; exact ⟨h49, h62⟩)
            have := ih (R.length - (k + 1)) (by omega) (k + 1) rfl (by omega)
            rw [hv] at this
            exact xe_loc (by simp) this

set_option maxHeartbeats 4000000 in
theorem c_X8_among (d : Nat) {T : TH} {s : Sh} {ps : PS} (h : MQh T s ps) (x : Int32) (lo hi : Int64) : Xe m_X8_among (d + 2) 0 [(0, .ref 88), (1, .int x), (2, .long lo), (4, .long hi)] [] T (fun r9 T1 => r9 = some (.int (match ix x s.2.1 with
    | none => -1
    | some c => nI (cI (aP (tOf s ps c) lo hi) (tOf s ps c).length))) ∧ FrM fsTb asTb T T1) := by
  obtain ⟨hM, hs1, hS, hG, hP, hPG⟩ := id h
  have hc12 := hG.2.1
  refine xe (fun _ _ kK => x_aload_n dX8_among_0 rfl 0 rfl kK) ?_
  refine xe (fun _ _ kK => x_iload_n dX8_among_1 rfl 1 rfl kK) ?_
  refine xe_callV (a := 88) [.int x] dX8_among_2 ml_X8_289 mf_X8_isLeaf hM.1 (c_X8_isLeaf (d + 1) hM hs1 hS.2.1 hc12 x) rfl rfl (Nat.le_of_ble_eq_true rfl) (Nat.le_of_ble_eq_true rfl) ?_
  rintro _ T9 ⟨rfl, h9⟩
  refine xe_T h9 ?_
  cases hix : ix x s.2.1 with
  | none =>
    show Xe m_X8_among ((d + 1) + 1) 5 [(0, .ref 88), (1, .int x), (2, .long lo), (4, .long hi)] [.int (bI false)] T _
    refine xe (fun _ _ kK => x_if_neF (tgt := 10) dX8_among_5 (by decide) rfl kK) ?_
    refine xe (fun _ _ kK => x_iconst dX8_among_8 (show _ = (-1) by decide) kK) ?_
    exact xe_reti dX8_among_9 rfl (⟨rfl, FrM.rf⟩)
  | some c =>
    obtain ⟨hc, rfl, hcb⟩ := ix_lt hix
    show Xe m_X8_among ((d + 1) + 1) 5 [(0, .ref 88), (1, .int (nI c)), (2, .long lo), (4, .long hi)] [.int (bI true)] T _
    refine xe (fun _ _ kK => x_if_neT (tgt := 10) dX8_among_5 (by decide) (by decide) kK) ?_
    refine xe (fun _ _ kK => x_aload_n dX8_among_10 rfl 0 rfl kK) ?_
    refine xe (fun _ _ kK => x_iload_n dX8_among_11 rfl 1 rfl kK) ?_
    refine xe_callV (a := 88) [.int (nI c)] dX8_among_12 ml_X8_292 mf_X8_table hM.1 (c_X8_table' d h hc) rfl rfl (Nat.le_of_ble_eq_true rfl) (Nat.le_of_ble_eq_true rfl) ?_
    rintro _ T1 ⟨rfl, hF1, hD1, hR1⟩
    obtain ⟨hM, hs1, hS, -, hP, -⟩ := h.of hF1 (by decide) (by decide)
    obtain ⟨j1, j2, j3, j4⟩ := hG.2.2.2 c hc
    have hB := hG.1
    have hs60 := hB.1
    have hlt : ∀ f ∈ road s c, f < s.1 := fun f hf => j2 f (List.mem_reverse.mp hf)
    have hr5 : (road s c).length ≤ 5 := by rw [road, List.length_reverse]; exact j3
    have hr0 : 0 < (road s c).length := by rw [road, List.length_reverse]; cases hq : rdl s c with | nil => (rw [hq] at j1; cases j1) | cons a b => simp
    have hO := hPG.2 c hc
    have hKb := (hB.2.2.2 _ j4).1
    refine xe (fun _ _ kK => x_iconst dX8_among_15 (show _ = nI 0 by decide) kK) ?_
    refine xe (fun _ _ kK => x_istore dX8_among_16 (by decide) (show _ = [(6, .int (nI 0)), (0, .ref 88), (1, .int (nI c)), (2, .long lo), (4, .long hi)] from rfl) kK) ?_
    refine xe (fun _ _ kK => x_iconst dX8_among_18 (show _ = nI 0 by decide) kK) ?_
    refine xe (fun _ _ kK => x_istore dX8_among_19 (by decide) (show _ = [(7, .int (nI 0)), (6, .int (nI 0)), (0, .ref 88), (1, .int (nI c)), (2, .long lo), (4, .long hi)] from rfl) kK) ?_
    refine Xe.imp (xe_loc (by simp [cI]) (l_X8_among (d + 2) (c := c) (lo := lo) (hi := hi) hM hR1 hO (tOf s ps c).length 0 rfl (Nat.zero_le _))) ?_
    rintro _ _ ⟨rfl, rfl⟩
    exact ⟨rfl, hF1⟩

set_option maxHeartbeats 4000000 in
theorem l_X8_rows (d : Nat) {T : TH} {R : List Row} (hM : MI T) (hR : MRw T R) (hO : RwOk R) {c : Nat} {y z : Int32} : ∀ (m k : Nat), R.length - k = m → k ≤ R.length → Xe m_X8_rows d 21 [(5, .int (nI k)), (4, .int (nI (cI (wP R y z) k))), (0, .ref 88), (1, .int (nI c)), (2, .int y), (3, .int z)] [] T (fun r T1 => r = some (.int (nI (cI (wP R y z) R.length))) ∧ T1 = T) := by
  intro m
  induction m using Nat.strongRecOn with
  | ind m ih =>
    intro k hm hk
    subst hm
    have hl6 := hO.1
    refine xe (fun _ _ kK => x_iload dX8_rows_21 0 rfl kK) ?_
    refine xe (fun _ _ kK => x_aload_n dX8_rows_23 rfl 2 rfl kK) ?_
    refine xe (fun _ _ kK => x_get dX8_rows_24 fl_X8_257 hM.1 (gvl_i fz_8_39.2.2 (show e_i T 551 88 = nI R.length from hR.1)) kK) ?_
    refine xe_icmp_ge (tgt := 71) dX8_rows_27 (by decide) (fun h27 => ?_) (fun h27 => ?_)
    · -- pc 71
      have h27 := cv_le (by omega) (by omega) h27
      refine xe (fun _ _ kK => x_iload dX8_rows_71 1 rfl kK) ?_
      exact xe_reti dX8_rows_73 rfl (⟨by rw [show k = R.length by omega], rfl⟩)
    · -- pc 30
      have h27 := cv_nle (by omega) (by omega) h27
      have hrk := hO.2 k h27
      have hci := cI_le (wP R y z) k
      refine xe (fun _ _ kK => x_iload_n dX8_rows_30 rfl 4 rfl kK) ?_
      refine xe (fun _ _ kK => x_iconst dX8_rows_31 (show _ = (-1) by decide) kK) ?_
      refine xe_icmp_eq (tgt := 46) dX8_rows_32 (by decide) (fun h32 => ?_) (fun h32 => ?_)
      · -- pc 46
        refine xe (fun _ _ kK => x_iload_n dX8_rows_46 rfl 5 rfl kK) ?_
        refine xe (fun _ _ kK => x_iconst dX8_rows_47 (show _ = (-1) by decide) kK) ?_
        refine xe_icmp_eq (tgt := 62) dX8_rows_48 (by decide) (fun h48 => ?_) (fun h48 => ?_)
        · -- pc 62
          refine xe (fun _ _ kK => x_iinc dX8_rows_62 1 rfl (show (nI (cI (wP R y z) k)) + Int32.ofInt 1 = nI ((cI (wP R y z) k) + 1) from nI_add (cI (wP R y z) k) 1) (by decide) (show _ = [(4, .int (nI ((cI (wP R y z) k) + 1))), (5, .int (nI k)), (0, .ref 88), (1, .int (nI c)), (2, .int y), (3, .int z)] from rfl) kK) ?_
          refine xe (fun _ _ kK => x_iinc dX8_rows_65 1 rfl (show (nI k) + Int32.ofInt 1 = nI (k + 1) from nI_add k 1) (by decide) (show _ = [(5, .int (nI (k + 1))), (4, .int (nI ((cI (wP R y z) k) + 1))), (0, .ref 88), (1, .int (nI c)), (2, .int y), (3, .int z)] from rfl) kK) ?_
          refine xe (fun _ _ kK => x_goto (tgt := 21) dX8_rows_68 (by decide) kK) ?_
          have hv : cI (wP R y z) (k + 1) = cI (wP R y z) k + 1 := cI_t (by simp [wP, *])
          have := ih (R.length - (k + 1)) (by omega) (k + 1) rfl (by omega)
          rw [hv] at this
          exact xe_loc (by simp) this
        · -- pc 51
          refine xe (fun _ _ kK => x_aload_n dX8_rows_51 rfl 2 rfl kK) ?_
          refine xe (fun _ _ kK => x_get dX8_rows_52 fl_X8_92 hM.1 (gvl_r1 fz_8_41.2.2 (show e_r T 553 88 = some 108 from (hM.2.1 41))) kK) ?_
          refine xe (fun _ _ kK => x_iload dX8_rows_55 0 rfl kK) ?_
          refine xe (fun _ _ kK => x_iald dX8_rows_57 (hM.2.2.1 19 (by decide)) (show (nI k) = nI k from rfl) (mi_len hM 19 (by decide) (show k < 6300 by omega)) (show e_ai T 108 k = nI (rowAt R k).2.1 from (hR.row h27).2.1) kK) ?_
          refine xe (fun _ _ kK => x_iload_n dX8_rows_58 rfl 5 rfl kK) ?_
          refine xe_icmp_ne (tgt := 65) dX8_rows_59 (by decide) (fun h59 => ?_) (fun h59 => ?_)
          · -- pc 65
            refine xe (fun _ _ kK => x_iinc dX8_rows_65 0 rfl (show (nI k) + Int32.ofInt 1 = nI (k + 1) from nI_add k 1) (by decide) (show _ = [(5, .int (nI (k + 1))), (4, .int (nI (cI (wP R y z) k))), (0, .ref 88), (1, .int (nI c)), (2, .int y), (3, .int z)] from rfl) kK) ?_
            refine xe (fun _ _ kK => x_goto (tgt := 21) dX8_rows_68 (by decide) kK) ?_
            have hv : cI (wP R y z) (k + 1) = cI (wP R y z) k  := cI_f (by simp only [wP]; simp [h48, h59])
            have := ih (R.length - (k + 1)) (by omega) (k + 1) rfl (by omega)
            rw [hv] at this
            exact xe_loc (by simp) this
          · -- pc 62
            refine xe (fun _ _ kK => x_iinc dX8_rows_62 1 rfl (show (nI (cI (wP R y z) k)) + Int32.ofInt 1 = nI ((cI (wP R y z) k) + 1) from nI_add (cI (wP R y z) k) 1) (by decide) (show _ = [(4, .int (nI ((cI (wP R y z) k) + 1))), (5, .int (nI k)), (0, .ref 88), (1, .int (nI c)), (2, .int y), (3, .int z)] from rfl) kK) ?_
            refine xe (fun _ _ kK => x_iinc dX8_rows_65 1 rfl (show (nI k) + Int32.ofInt 1 = nI (k + 1) from nI_add k 1) (by decide) (show _ = [(5, .int (nI (k + 1))), (4, .int (nI ((cI (wP R y z) k) + 1))), (0, .ref 88), (1, .int (nI c)), (2, .int y), (3, .int z)] from rfl) kK) ?_
            refine xe (fun _ _ kK => x_goto (tgt := 21) dX8_rows_68 (by decide) kK) ?_
            have hv : cI (wP R y z) (k + 1) = cI (wP R y z) k + 1 := cI_t (by simp [wP, *])
            have := ih (R.length - (k + 1)) (by omega) (k + 1) rfl (by omega)
            rw [hv] at this
            exact xe_loc (by simp) this
      · -- pc 35
        refine xe (fun _ _ kK => x_aload_n dX8_rows_35 rfl 2 rfl kK) ?_
        refine xe (fun _ _ kK => x_get dX8_rows_36 fl_X8_89 hM.1 (gvl_r1 fz_8_40.2.2 (show e_r T 552 88 = some 107 from (hM.2.1 40))) kK) ?_
        refine xe (fun _ _ kK => x_iload dX8_rows_39 0 rfl kK) ?_
        refine xe (fun _ _ kK => x_iald dX8_rows_41 (hM.2.2.1 18 (by decide)) (show (nI k) = nI k from rfl) (mi_len hM 18 (by decide) (show k < 6300 by omega)) (show e_ai T 107 k = nI (rowAt R k).1 from (hR.row h27).1) kK) ?_
        refine xe (fun _ _ kK => x_iload_n dX8_rows_42 rfl 4 rfl kK) ?_
        refine xe_icmp_ne (tgt := 65) dX8_rows_43 (by decide) (fun h43 => ?_) (fun h43 => ?_)
        · -- pc 65
          refine xe (fun _ _ kK => x_iinc dX8_rows_65 0 rfl (show (nI k) + Int32.ofInt 1 = nI (k + 1) from nI_add k 1) (by decide) (show _ = [(5, .int (nI (k + 1))), (4, .int (nI (cI (wP R y z) k))), (0, .ref 88), (1, .int (nI c)), (2, .int y), (3, .int z)] from rfl) kK) ?_
          refine xe (fun _ _ kK => x_goto (tgt := 21) dX8_rows_68 (by decide) kK) ?_
          have hv : cI (wP R y z) (k + 1) = cI (wP R y z) k  := cI_f (by simp [wP, h32, h43])
          have := ih (R.length - (k + 1)) (by omega) (k + 1) rfl (by omega)
          rw [hv] at this
          exact xe_loc (by simp) this
        · -- pc 46
          refine xe (fun _ _ kK => x_iload_n dX8_rows_46 rfl 5 rfl kK) ?_
          refine xe (fun _ _ kK => x_iconst dX8_rows_47 (show _ = (-1) by decide) kK) ?_
          refine xe_icmp_eq (tgt := 62) dX8_rows_48 (by decide) (fun h48 => ?_) (fun h48 => ?_)
          · -- pc 62
            refine xe (fun _ _ kK => x_iinc dX8_rows_62 1 rfl (show (nI (cI (wP R y z) k)) + Int32.ofInt 1 = nI ((cI (wP R y z) k) + 1) from nI_add (cI (wP R y z) k) 1) (by decide) (show _ = [(4, .int (nI ((cI (wP R y z) k) + 1))), (5, .int (nI k)), (0, .ref 88), (1, .int (nI c)), (2, .int y), (3, .int z)] from rfl) kK) ?_
            refine xe (fun _ _ kK => x_iinc dX8_rows_65 1 rfl (show (nI k) + Int32.ofInt 1 = nI (k + 1) from nI_add k 1) (by decide) (show _ = [(5, .int (nI (k + 1))), (4, .int (nI ((cI (wP R y z) k) + 1))), (0, .ref 88), (1, .int (nI c)), (2, .int y), (3, .int z)] from rfl) kK) ?_
            refine xe (fun _ _ kK => x_goto (tgt := 21) dX8_rows_68 (by decide) kK) ?_
            have hv : cI (wP R y z) (k + 1) = cI (wP R y z) k + 1 := cI_t (by simp [wP, *])
            have := ih (R.length - (k + 1)) (by omega) (k + 1) rfl (by omega)
            rw [hv] at this
            exact xe_loc (by simp) this
          · -- pc 51
            refine xe (fun _ _ kK => x_aload_n dX8_rows_51 rfl 2 rfl kK) ?_
            refine xe (fun _ _ kK => x_get dX8_rows_52 fl_X8_92 hM.1 (gvl_r1 fz_8_41.2.2 (show e_r T 553 88 = some 108 from (hM.2.1 41))) kK) ?_
            refine xe (fun _ _ kK => x_iload dX8_rows_55 0 rfl kK) ?_
            refine xe (fun _ _ kK => x_iald dX8_rows_57 (hM.2.2.1 19 (by decide)) (show (nI k) = nI k from rfl) (mi_len hM 19 (by decide) (show k < 6300 by omega)) (show e_ai T 108 k = nI (rowAt R k).2.1 from (hR.row h27).2.1) kK) ?_
            refine xe (fun _ _ kK => x_iload_n dX8_rows_58 rfl 5 rfl kK) ?_
            refine xe_icmp_ne (tgt := 65) dX8_rows_59 (by decide) (fun h59 => ?_) (fun h59 => ?_)
            · -- pc 65
              refine xe (fun _ _ kK => x_iinc dX8_rows_65 0 rfl (show (nI k) + Int32.ofInt 1 = nI (k + 1) from nI_add k 1) (by decide) (show _ = [(5, .int (nI (k + 1))), (4, .int (nI (cI (wP R y z) k))), (0, .ref 88), (1, .int (nI c)), (2, .int y), (3, .int z)] from rfl) kK) ?_
              refine xe (fun _ _ kK => x_goto (tgt := 21) dX8_rows_68 (by decide) kK) ?_
              have hv : cI (wP R y z) (k + 1) = cI (wP R y z) k  := cI_f (by simp only [wP]; simp [h48, h59])
              have := ih (R.length - (k + 1)) (by omega) (k + 1) rfl (by omega)
              rw [hv] at this
              exact xe_loc (by simp) this
            · -- pc 62
              refine xe (fun _ _ kK => x_iinc dX8_rows_62 1 rfl (show (nI (cI (wP R y z) k)) + Int32.ofInt 1 = nI ((cI (wP R y z) k) + 1) from nI_add (cI (wP R y z) k) 1) (by decide) (show _ = [(4, .int (nI ((cI (wP R y z) k) + 1))), (5, .int (nI k)), (0, .ref 88), (1, .int (nI c)), (2, .int y), (3, .int z)] from rfl) kK) ?_
              refine xe (fun _ _ kK => x_iinc dX8_rows_65 1 rfl (show (nI k) + Int32.ofInt 1 = nI (k + 1) from nI_add k 1) (by decide) (show _ = [(5, .int (nI (k + 1))), (4, .int (nI ((cI (wP R y z) k) + 1))), (0, .ref 88), (1, .int (nI c)), (2, .int y), (3, .int z)] from rfl) kK) ?_
              refine xe (fun _ _ kK => x_goto (tgt := 21) dX8_rows_68 (by decide) kK) ?_
              have hv : cI (wP R y z) (k + 1) = cI (wP R y z) k + 1 := cI_t (by simp [wP, *])
              have := ih (R.length - (k + 1)) (by omega) (k + 1) rfl (by omega)
              rw [hv] at this
              exact xe_loc (by simp) this

set_option maxHeartbeats 4000000 in
theorem c_X8_rows (d : Nat) {T : TH} {s : Sh} {ps : PS} (h : MQh T s ps) (x y z : Int32) : Xe m_X8_rows (d + 2) 0 [(0, .ref 88), (1, .int x), (2, .int y), (3, .int z)] [] T (fun r9 T1 => r9 = some (.int (match ix x s.2.1 with
    | none => -1
    | some c => nI (cI (wP (tOf s ps c) y z) (tOf s ps c).length))) ∧ FrM fsTb asTb T T1) := by
  obtain ⟨hM, hs1, hS, hG, hP, hPG⟩ := id h
  have hc12 := hG.2.1
  refine xe (fun _ _ kK => x_aload_n dX8_rows_0 rfl 0 rfl kK) ?_
  refine xe (fun _ _ kK => x_iload_n dX8_rows_1 rfl 1 rfl kK) ?_
  refine xe_callV (a := 88) [.int x] dX8_rows_2 ml_X8_289 mf_X8_isLeaf hM.1 (c_X8_isLeaf (d + 1) hM hs1 hS.2.1 hc12 x) rfl rfl (Nat.le_of_ble_eq_true rfl) (Nat.le_of_ble_eq_true rfl) ?_
  rintro _ T9 ⟨rfl, h9⟩
  refine xe_T h9 ?_
  cases hix : ix x s.2.1 with
  | none =>
    show Xe m_X8_rows ((d + 1) + 1) 5 [(0, .ref 88), (1, .int x), (2, .int y), (3, .int z)] [.int (bI false)] T _
    refine xe (fun _ _ kK => x_if_neF (tgt := 10) dX8_rows_5 (by decide) rfl kK) ?_
    refine xe (fun _ _ kK => x_iconst dX8_rows_8 (show _ = (-1) by decide) kK) ?_
    exact xe_reti dX8_rows_9 rfl (⟨rfl, FrM.rf⟩)
  | some c =>
    obtain ⟨hc, rfl, hcb⟩ := ix_lt hix
    show Xe m_X8_rows ((d + 1) + 1) 5 [(0, .ref 88), (1, .int (nI c)), (2, .int y), (3, .int z)] [.int (bI true)] T _
    refine xe (fun _ _ kK => x_if_neT (tgt := 10) dX8_rows_5 (by decide) (by decide) kK) ?_
    refine xe (fun _ _ kK => x_aload_n dX8_rows_10 rfl 0 rfl kK) ?_
    refine xe (fun _ _ kK => x_iload_n dX8_rows_11 rfl 1 rfl kK) ?_
    refine xe_callV (a := 88) [.int (nI c)] dX8_rows_12 ml_X8_292 mf_X8_table hM.1 (c_X8_table' d h hc) rfl rfl (Nat.le_of_ble_eq_true rfl) (Nat.le_of_ble_eq_true rfl) ?_
    rintro _ T1 ⟨rfl, hF1, hD1, hR1⟩
    obtain ⟨hM, hs1, hS, -, hP, -⟩ := h.of hF1 (by decide) (by decide)
    obtain ⟨j1, j2, j3, j4⟩ := hG.2.2.2 c hc
    have hB := hG.1
    have hs60 := hB.1
    have hlt : ∀ f ∈ road s c, f < s.1 := fun f hf => j2 f (List.mem_reverse.mp hf)
    have hr5 : (road s c).length ≤ 5 := by rw [road, List.length_reverse]; exact j3
    have hr0 : 0 < (road s c).length := by rw [road, List.length_reverse]; cases hq : rdl s c with | nil => (rw [hq] at j1; cases j1) | cons a b => simp
    have hO := hPG.2 c hc
    have hKb := (hB.2.2.2 _ j4).1
    refine xe (fun _ _ kK => x_iconst dX8_rows_15 (show _ = nI 0 by decide) kK) ?_
    refine xe (fun _ _ kK => x_istore dX8_rows_16 (by decide) (show _ = [(4, .int (nI 0)), (0, .ref 88), (1, .int (nI c)), (2, .int y), (3, .int z)] from rfl) kK) ?_
    refine xe (fun _ _ kK => x_iconst dX8_rows_18 (show _ = nI 0 by decide) kK) ?_
    refine xe (fun _ _ kK => x_istore dX8_rows_19 (by decide) (show _ = [(5, .int (nI 0)), (4, .int (nI 0)), (0, .ref 88), (1, .int (nI c)), (2, .int y), (3, .int z)] from rfl) kK) ?_
    refine Xe.imp (xe_loc (by simp [cI]) (l_X8_rows (d + 2) (c := c) (y := y) (z := z) hM hR1 hO (tOf s ps c).length 0 rfl (Nat.zero_le _))) ?_
    rintro _ _ ⟨rfl, rfl⟩
    exact ⟨rfl, hF1⟩

theorem pap_ok {R : List Row} {lo hi : Int64} (hO : RwOk R) : ∀ k, k ≤ R.length → oB (pap R lo hi k).2 := by
  intro k
  induction k with
  | zero => intro _; exact oB_none
  | succ k ih =>
    intro hk
    unfold pap
    split
    · exact oB_some (hO.2 k (by omega)).2.2
    · exact ih (by omega)

set_option maxHeartbeats 4000000 in
theorem l_X8_papers (d : Nat) {T : TH} {R : List Row} (hM : MI T) (hR : MRw T R) (hO : RwOk R) {c : Nat} {lo hi : Int64} : ∀ (m k : Nat), R.length - k = m → k ≤ R.length → Xe m_X8_papers d 24 [(8, .int (nI k)), (7, .int (oI (pap R lo hi k).2)), (6, .int (nI (pap R lo hi k).1)), (0, .ref 88), (1, .int (nI c)), (2, .long lo), (4, .long hi)] [] T (fun r T1 => r = some (.int (nI (pap R lo hi R.length).1)) ∧ T1 = T) := by
  intro m
  induction m using Nat.strongRecOn with
  | ind m ih =>
    intro k hm hk
    subst hm
    have hl6 := hO.1
    refine xe (fun _ _ kK => x_iload dX8_papers_24 0 rfl kK) ?_
    refine xe (fun _ _ kK => x_aload_n dX8_papers_26 rfl 3 rfl kK) ?_
    refine xe (fun _ _ kK => x_get dX8_papers_27 fl_X8_257 hM.1 (gvl_i fz_8_39.2.2 (show e_i T 551 88 = nI R.length from hR.1)) kK) ?_
    refine xe_icmp_ge (tgt := 101) dX8_papers_30 (by decide) (fun h30 => ?_) (fun h30 => ?_)
    · -- pc 101
      have h30 := cv_le (by omega) (by omega) h30
      refine xe (fun _ _ kK => x_iload dX8_papers_101 2 rfl kK) ?_
      exact xe_reti dX8_papers_103 rfl (⟨by rw [show k = R.length by omega], rfl⟩)
    · -- pc 33
      have h30 := cv_nle (by omega) (by omega) h30
      have hrk := hO.2 k h30
      have hpl := pap_le R lo hi k
      refine xe (fun _ _ kK => x_aload_n dX8_papers_33 rfl 3 rfl kK) ?_
      refine xe (fun _ _ kK => x_get dX8_papers_34 fl_X8_95 hM.1 (gvl_r1 fz_8_42.2.2 (show e_r T 554 88 = some 109 from (hM.2.1 42))) kK) ?_
      refine xe (fun _ _ kK => x_iload dX8_papers_37 0 rfl kK) ?_
      refine xe (fun _ _ kK => x_zald dX8_papers_39 (hM.2.2.1 20 (by decide)) (show (nI k) = nI k from rfl) (mi_len hM 20 (by decide) (show k < 6300 by omega)) (show e_ai T 109 k = bI (rowAt R k).2.2.1 from (hR.row h30).2.2.1) kK) ?_
      refine xe_if_eq (tgt := 95) dX8_papers_40 (by decide) (fun h40 => ?_) (fun h40 => ?_)
      · -- pc 95
        have h40 := cv_b0 h40
        refine xe (fun _ _ kK => x_iinc dX8_papers_95 0 rfl (show (nI k) + Int32.ofInt 1 = nI (k + 1) from nI_add k 1) (by decide) (show _ = [(8, .int (nI (k + 1))), (7, .int (oI (pap R lo hi k).2)), (6, .int (nI (pap R lo hi k).1)), (0, .ref 88), (1, .int (nI c)), (2, .long lo), (4, .long hi)] from rfl) kK) ?_
        refine xe (fun _ _ kK => x_goto (tgt := 24) dX8_papers_98 (by decide) kK) ?_
        have hv : pap R lo hi (k + 1) = pap R lo hi k := by rw [pap]; rw [if_neg (fun z9 => by have u := z9.1; unfold aP at u; rw [h40] at u; cases u)]
        have := ih (R.length - (k + 1)) (by omega) (k + 1) rfl (by omega)
        rw [hv] at this
        exact xe_loc (by simp [oI]) this
      · -- pc 43
        have h40 := cv_b1 h40
        refine xe (fun _ _ kK => x_aload_n dX8_papers_43 rfl 3 rfl kK) ?_
        refine xe (fun _ _ kK => x_get dX8_papers_44 fl_X8_99 hM.1 (gvl_r1 fz_8_43.2.2 (show e_r T 555 88 = some 110 from (hM.2.1 43))) kK) ?_
        refine xe (fun _ _ kK => x_iload dX8_papers_47 0 rfl kK) ?_
        refine xe (fun _ _ kK => x_lald dX8_papers_49 (hM.2.2.1 21 (by decide)) (show (nI k) = nI k from rfl) (mi_len hM 21 (by decide) (show k < 6300 by omega)) (show e_al T 110 k = (rowAt R k).2.2.2.1 from (hR.row h30).2.2.2.1) kK) ?_
        refine xe (fun _ _ kK => x_lload_n dX8_papers_50 rfl 5 rfl kK) ?_
        refine xe (fun _ _ kK => x_lcmp dX8_papers_51 kK) ?_
        refine xe_if_lt (tgt := 95) dX8_papers_52 (by decide) (fun h52 => ?_) (fun h52 => ?_)
        · -- pc 95
          have h52 := lc_lt h52
          refine xe (fun _ _ kK => x_iinc dX8_papers_95 0 rfl (show (nI k) + Int32.ofInt 1 = nI (k + 1) from nI_add k 1) (by decide) (show _ = [(8, .int (nI (k + 1))), (7, .int (oI (pap R lo hi k).2)), (6, .int (nI (pap R lo hi k).1)), (0, .ref 88), (1, .int (nI c)), (2, .long lo), (4, .long hi)] from rfl) kK) ?_
          refine xe (fun _ _ kK => x_goto (tgt := 24) dX8_papers_98 (by decide) kK) ?_
          have hv : pap R lo hi (k + 1) = pap R lo hi k := by rw [pap]; rw [if_neg (fun z9 => by have u := z9.1; unfold aP at u; simp at u; exact i64_lt_ne h52 u.1.2)]
          have := ih (R.length - (k + 1)) (by omega) (k + 1) rfl (by omega)
          rw [hv] at this
          exact xe_loc (by simp [oI]) this
        · -- pc 55
          have h52 := lc_gen h52
          refine xe (fun _ _ kK => x_aload_n dX8_papers_55 rfl 3 rfl kK) ?_
          refine xe (fun _ _ kK => x_get dX8_papers_56 fl_X8_99 hM.1 (gvl_r1 fz_8_43.2.2 (show e_r T 555 88 = some 110 from (hM.2.1 43))) kK) ?_
          refine xe (fun _ _ kK => x_iload dX8_papers_59 0 rfl kK) ?_
          refine xe (fun _ _ kK => x_lald dX8_papers_61 (hM.2.2.1 21 (by decide)) (show (nI k) = nI k from rfl) (mi_len hM 21 (by decide) (show k < 6300 by omega)) (show e_al T 110 k = (rowAt R k).2.2.2.1 from (hR.row h30).2.2.2.1) kK) ?_
          refine xe (fun _ _ kK => x_lload dX8_papers_62 6 rfl kK) ?_
          refine xe (fun _ _ kK => x_lcmp dX8_papers_64 kK) ?_
          refine xe_if_gt (tgt := 95) dX8_papers_65 (by decide) (fun h65 => ?_) (fun h65 => ?_)
          · -- pc 95
            have h65 := lc_gt h65
            refine xe (fun _ _ kK => x_iinc dX8_papers_95 0 rfl (show (nI k) + Int32.ofInt 1 = nI (k + 1) from nI_add k 1) (by decide) (show _ = [(8, .int (nI (k + 1))), (7, .int (oI (pap R lo hi k).2)), (6, .int (nI (pap R lo hi k).1)), (0, .ref 88), (1, .int (nI c)), (2, .long lo), (4, .long hi)] from rfl) kK) ?_
            refine xe (fun _ _ kK => x_goto (tgt := 24) dX8_papers_98 (by decide) kK) ?_
            have hv : pap R lo hi (k + 1) = pap R lo hi k := by rw [pap]; rw [if_neg (fun z9 => by have u := z9.1; unfold aP at u; simp at u; exact i64_lt_ne h65 u.2)]
            have := ih (R.length - (k + 1)) (by omega) (k + 1) rfl (by omega)
            rw [hv] at this
            exact xe_loc (by simp [oI]) this
          · -- pc 68
            have h65 := lc_len h65
            refine xe (fun _ _ kK => x_aload_n dX8_papers_68 rfl 3 rfl kK) ?_
            refine xe (fun _ _ kK => x_get dX8_papers_69 fl_X8_102 hM.1 (gvl_r1 fz_8_44.2.2 (show e_r T 556 88 = some 111 from (hM.2.1 44))) kK) ?_
            refine xe (fun _ _ kK => x_iload dX8_papers_72 0 rfl kK) ?_
            refine xe (fun _ _ kK => x_iald dX8_papers_74 (hM.2.2.1 22 (by decide)) (show (nI k) = nI k from rfl) (mi_len hM 22 (by decide) (show k < 6300 by omega)) (show e_ai T 111 k = nI (rowAt R k).2.2.2.2 from (hR.row h30).2.2.2.2) kK) ?_
            refine xe (fun _ _ kK => x_iload dX8_papers_75 1 rfl kK) ?_
            by_cases h77 : some (rowAt R k).2.2.2.2 = (pap R lo hi k).2
            · -- pc 77
              refine xe (fun _ _ kK => x_icmp_neF (tgt := 83) dX8_papers_77 (by decide) (show nI (rowAt R k).2.2.2.2 = oI (pap R lo hi k).2 by rw [← h77]; rfl) kK) ?_
              refine xe (fun _ _ kK => x_goto (tgt := 95) dX8_papers_80 (by decide) kK) ?_
              refine xe (fun _ _ kK => x_iinc dX8_papers_95 0 rfl (show (nI k) + Int32.ofInt 1 = nI (k + 1) from nI_add k 1) (by decide) (show _ = [(8, .int (nI (k + 1))), (7, .int (oI (pap R lo hi k).2)), (6, .int (nI (pap R lo hi k).1)), (0, .ref 88), (1, .int (nI c)), (2, .long lo), (4, .long hi)] from rfl) kK) ?_
              refine xe (fun _ _ kK => x_goto (tgt := 24) dX8_papers_98 (by decide) kK) ?_
              have hv : pap R lo hi (k + 1) = pap R lo hi k := by rw [pap]; rw [if_neg (fun z => z.2 h77)]
              have := ih (R.length - (k + 1)) (by omega) (k + 1) rfl (by omega)
              rw [hv] at this
              exact xe_loc (by simp [oI]) this
            · -- pc 77
              refine xe (fun _ _ kK => x_icmp_neT (tgt := 83) dX8_papers_77 (by decide) (show ¬ nI (rowAt R k).2.2.2.2 = oI (pap R lo hi k).2 from fun z9 => h77 (oI_some (pap_ok hO k (by omega)) hrk.2.2 z9.symm).symm) kK) ?_
              refine xe (fun _ _ kK => x_aload_n dX8_papers_83 rfl 3 rfl kK) ?_
              refine xe (fun _ _ kK => x_get dX8_papers_84 fl_X8_102 hM.1 (gvl_r1 fz_8_44.2.2 (show e_r T 556 88 = some 111 from (hM.2.1 44))) kK) ?_
              refine xe (fun _ _ kK => x_iload dX8_papers_87 0 rfl kK) ?_
              refine xe (fun _ _ kK => x_iald dX8_papers_89 (hM.2.2.1 22 (by decide)) (show (nI k) = nI k from rfl) (mi_len hM 22 (by decide) (show k < 6300 by omega)) (show e_ai T 111 k = nI (rowAt R k).2.2.2.2 from (hR.row h30).2.2.2.2) kK) ?_
              refine xe (fun _ _ kK => x_istore dX8_papers_90 (by decide) (show _ = [(7, .int (nI (rowAt R k).2.2.2.2)), (8, .int (nI k)), (6, .int (nI (pap R lo hi k).1)), (0, .ref 88), (1, .int (nI c)), (2, .long lo), (4, .long hi)] from rfl) kK) ?_
              refine xe (fun _ _ kK => x_iinc dX8_papers_92 2 rfl (show (nI (pap R lo hi k).1) + Int32.ofInt 1 = nI ((pap R lo hi k).1 + 1) from nI_add ((pap R lo hi k).1) 1) (by decide) (show _ = [(6, .int (nI ((pap R lo hi k).1 + 1))), (7, .int (nI (rowAt R k).2.2.2.2)), (8, .int (nI k)), (0, .ref 88), (1, .int (nI c)), (2, .long lo), (4, .long hi)] from rfl) kK) ?_
              refine xe (fun _ _ kK => x_iinc dX8_papers_95 2 rfl (show (nI k) + Int32.ofInt 1 = nI (k + 1) from nI_add k 1) (by decide) (show _ = [(8, .int (nI (k + 1))), (6, .int (nI ((pap R lo hi k).1 + 1))), (7, .int (nI (rowAt R k).2.2.2.2)), (0, .ref 88), (1, .int (nI c)), (2, .long lo), (4, .long hi)] from rfl) kK) ?_
              refine xe (fun _ _ kK => x_goto (tgt := 24) dX8_papers_98 (by decide) kK) ?_
              have hv : pap R lo hi (k + 1) = ((pap R lo hi k).1 + 1, some (rowAt R k).2.2.2.2) := by rw [pap]; rw [if_pos ⟨by unfold aP; rw [h40]; simp; exact ⟨h52, h65⟩, h77⟩]
              have := ih (R.length - (k + 1)) (by omega) (k + 1) rfl (by omega)
              rw [hv] at this
              exact xe_loc (by simp [oI]) this

set_option maxHeartbeats 4000000 in
theorem c_X8_papers (d : Nat) {T : TH} {s : Sh} {ps : PS} (h : MQh T s ps) (x : Int32) (lo hi : Int64) : Xe m_X8_papers (d + 2) 0 [(0, .ref 88), (1, .int x), (2, .long lo), (4, .long hi)] [] T (fun r9 T1 => r9 = some (.int (match ix x s.2.1 with
    | none => -1
    | some c => nI (pap (tOf s ps c) lo hi (tOf s ps c).length).1)) ∧ FrM fsTb asTb T T1) := by
  obtain ⟨hM, hs1, hS, hG, hP, hPG⟩ := id h
  have hc12 := hG.2.1
  refine xe (fun _ _ kK => x_aload_n dX8_papers_0 rfl 0 rfl kK) ?_
  refine xe (fun _ _ kK => x_iload_n dX8_papers_1 rfl 1 rfl kK) ?_
  refine xe_callV (a := 88) [.int x] dX8_papers_2 ml_X8_289 mf_X8_isLeaf hM.1 (c_X8_isLeaf (d + 1) hM hs1 hS.2.1 hc12 x) rfl rfl (Nat.le_of_ble_eq_true rfl) (Nat.le_of_ble_eq_true rfl) ?_
  rintro _ T9 ⟨rfl, h9⟩
  refine xe_T h9 ?_
  cases hix : ix x s.2.1 with
  | none =>
    show Xe m_X8_papers ((d + 1) + 1) 5 [(0, .ref 88), (1, .int x), (2, .long lo), (4, .long hi)] [.int (bI false)] T _
    refine xe (fun _ _ kK => x_if_neF (tgt := 10) dX8_papers_5 (by decide) rfl kK) ?_
    refine xe (fun _ _ kK => x_iconst dX8_papers_8 (show _ = (-1) by decide) kK) ?_
    exact xe_reti dX8_papers_9 rfl (⟨rfl, FrM.rf⟩)
  | some c =>
    obtain ⟨hc, rfl, hcb⟩ := ix_lt hix
    show Xe m_X8_papers ((d + 1) + 1) 5 [(0, .ref 88), (1, .int (nI c)), (2, .long lo), (4, .long hi)] [.int (bI true)] T _
    refine xe (fun _ _ kK => x_if_neT (tgt := 10) dX8_papers_5 (by decide) (by decide) kK) ?_
    refine xe (fun _ _ kK => x_aload_n dX8_papers_10 rfl 0 rfl kK) ?_
    refine xe (fun _ _ kK => x_iload_n dX8_papers_11 rfl 1 rfl kK) ?_
    refine xe_callV (a := 88) [.int (nI c)] dX8_papers_12 ml_X8_292 mf_X8_table hM.1 (c_X8_table' d h hc) rfl rfl (Nat.le_of_ble_eq_true rfl) (Nat.le_of_ble_eq_true rfl) ?_
    rintro _ T1 ⟨rfl, hF1, hD1, hR1⟩
    obtain ⟨hM, hs1, hS, -, hP, -⟩ := h.of hF1 (by decide) (by decide)
    obtain ⟨j1, j2, j3, j4⟩ := hG.2.2.2 c hc
    have hB := hG.1
    have hs60 := hB.1
    have hlt : ∀ f ∈ road s c, f < s.1 := fun f hf => j2 f (List.mem_reverse.mp hf)
    have hr5 : (road s c).length ≤ 5 := by rw [road, List.length_reverse]; exact j3
    have hr0 : 0 < (road s c).length := by rw [road, List.length_reverse]; cases hq : rdl s c with | nil => (rw [hq] at j1; cases j1) | cons a b => simp
    have hO := hPG.2 c hc
    have hKb := (hB.2.2.2 _ j4).1
    refine xe (fun _ _ kK => x_iconst dX8_papers_15 (show _ = nI 0 by decide) kK) ?_
    refine xe (fun _ _ kK => x_istore dX8_papers_16 (by decide) (show _ = [(6, .int (nI 0)), (0, .ref 88), (1, .int (nI c)), (2, .long lo), (4, .long hi)] from rfl) kK) ?_
    refine xe (fun _ _ kK => x_iconst dX8_papers_18 (show _ = (-1) by decide) kK) ?_
    refine xe (fun _ _ kK => x_istore dX8_papers_19 (by decide) (show _ = [(7, .int (-1)), (6, .int (nI 0)), (0, .ref 88), (1, .int (nI c)), (2, .long lo), (4, .long hi)] from rfl) kK) ?_
    refine xe (fun _ _ kK => x_iconst dX8_papers_21 (show _ = nI 0 by decide) kK) ?_
    refine xe (fun _ _ kK => x_istore dX8_papers_22 (by decide) (show _ = [(8, .int (nI 0)), (7, .int (-1)), (6, .int (nI 0)), (0, .ref 88), (1, .int (nI c)), (2, .long lo), (4, .long hi)] from rfl) kK) ?_
    refine Xe.imp (xe_loc (by simp [pap, oI]) (l_X8_papers (d + 2) (c := c) (lo := lo) (hi := hi) hM hR1 hO (tOf s ps c).length 0 rfl (Nat.zero_le _))) ?_
    rintro _ _ ⟨rfl, rfl⟩
    exact ⟨rfl, hF1⟩
