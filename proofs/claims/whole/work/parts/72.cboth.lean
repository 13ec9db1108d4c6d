/-! BOTH, by stretches -/
noncomputable def bcC (Ra Rb : List Row) (lv : Nat) (v w : Int64) : Nat → Nat → Nat → Nat
  | 0, _, _ => 0
  | m + 1, k, o => if (rowAt Ra k).1 ≤ lv then (if pB (hold Ra lv v k ∧ hold Rb lv w o) = true then 1 else 0) + bcC Ra Rb lv v w m (k + 1) (stE Rb lv o) else bcC Ra Rb lv v w m (k + 1) o
theorem bcC_le (Ra Rb : List Row) (lv : Nat) (v w : Int64) : ∀ (m k o : Nat), bcC Ra Rb lv v w m k o ≤ m := by
  intro m
  induction m with
  | zero => intro k o; exact Nat.le_refl _
  | succ m ih =>
    intro k o
    rw [bcC]
    have h1 := ih (k + 1) (stE Rb lv o)
    have h2 := ih (k + 1) o
    split
    · split <;> omega
    · omega

set_option maxHeartbeats 4000000 in
theorem l_X7_both (d : Nat) {T : TH} {a b lvv : Nat} {v w : Int64} {laa oaa qaa vaa capa dga aga gra : Nat} {nma : Bool} {Ra : List Row} (hTa : Tb T (4 + 5 * a) laa oaa qaa vaa capa Ra dga aga gra nma) (hOa : RwOk Ra) (hdga : dga < 2 ^ 31) (hHa : HsOk Ra dga) {lab oab qab vab capb dgb agb grb : Nat} {nmb : Bool} {Rb : List Row} (hTb : Tb T (4 + 5 * b) lab oab qab vab capb Rb dgb agb grb nmb) (hOb : RwOk Rb) (hdgb : dgb < 2 ^ 31) (hHb : HsOk Rb dgb) (hlv : lvv ≤ 10) : ∀ (m k ot fo : Nat), Ra.length - k = m → k ≤ Ra.length → ot ≤ Rb.length → fo ≤ k → Xe m_X7_both (d + 4) 48 [(12, .int (nI k)), (11, .int (nI ot)), (10, .int (nI fo)), (9, .int (nI lvv)), (7, .ref (4 + 5 * a)), (8, .ref (4 + 5 * b)), (0, .ref 0), (1, .int (nI a)), (2, .long v), (4, .int (nI b)), (5, .long w)] [] T (fun r T1 => r = some (.int (nI (fo + bcC Ra Rb lvv v w (Ra.length - k) k ot))) ∧ T1 = T) := by
  intro m
  induction m using Nat.strongRecOn with
  | ind m ih =>
    intro k ot fo hm hk hot hfo
    subst hm
    have h6a := hOa.1
    have h6b := hOb.1
    refine xe (fun _ _ kK => x_iload dX7_both_48 0 rfl kK) ?_
    refine xe (fun _ _ kK => x_aload dX7_both_50 4 rfl kK) ?_
    refine xe (fun _ _ kK => x_get dX7_both_52 fl_X7_102 hTa.1 (gvl_i fz_3_4.2.2 (show e_i T 196 (4 + 5 * a) = nI Ra.length from hTa.2.2.2.2.1.1)) kK) ?_
    refine xe_icmp_ge (tgt := 118) dX7_both_55 (by decide) (fun h55 => ?_) (fun h55 => ?_)
    · -- pc 118
      have h55 := cv_le (by omega) (by omega) h55
      refine xe (fun _ _ kK => x_iload dX7_both_118 2 rfl kK) ?_
      have e0 : Ra.length - k = 0 := by omega
      exact xe_reti dX7_both_120 rfl (⟨by rw [e0]; rfl, rfl⟩)
    · -- pc 58
      have h55 := cv_nle (by omega) (by omega) h55
      have hrk := hOa.2 k h55
      have hms : Ra.length - k = (Ra.length - (k + 1)) + 1 := by omega
      rw [hms, bcC]
      refine xe (fun _ _ kK => x_aload dX7_both_58 4 rfl kK) ?_
      refine xe (fun _ _ kK => x_get dX7_both_60 fl_X7_118 hTa.1 (gvl_r1 fz_3_0.2.2 (show e_r T 192 (4 + 5 * a) = some laa from hTa.2.1.1)) kK) ?_
      refine xe (fun _ _ kK => x_iload dX7_both_63 0 rfl kK) ?_
      refine xe (fun _ _ kK => x_iald dX7_both_65 hTa.2.2.1.1 (show (nI k) = nI k from rfl) (hTa.len (show k < Ra.length by omega)).1 (show e_ai T laa k = nI (rowAt Ra k).1 from (hTa.2.2.2.2.2 k h55).1) kK) ?_
      refine xe (fun _ _ kK => x_iload dX7_both_66 3 rfl kK) ?_
      refine xe_icmp_gt (tgt := 112) dX7_both_68 (by decide) (fun h68 => ?_) (fun h68 => ?_)
      · -- pc 112
        have h68 := cv_lt (by omega) (by omega) h68
        rw [if_neg (by omega)]
        refine xe (fun _ _ kK => x_iinc dX7_both_112 0 rfl (show (nI k) + Int32.ofInt 1 = nI (k + 1) from nI_add k 1) (by decide) (show _ = [(12, .int (nI (k + 1))), (11, .int (nI ot)), (10, .int (nI fo)), (9, .int (nI lvv)), (7, .ref (4 + 5 * a)), (8, .ref (4 + 5 * b)), (0, .ref 0), (1, .int (nI a)), (2, .long v), (4, .int (nI b)), (5, .long w)] from rfl) kK) ?_
        refine xe (fun _ _ kK => x_goto (tgt := 48) dX7_both_115 (by decide) kK) ?_
        exact xe_loc (by simp) (ih (Ra.length - (k + 1)) (by omega) (k + 1) ot fo rfl (by omega) hot (by omega))
      · -- pc 71
        have h68 := cv_nlt (by omega) (by omega) h68
        rw [if_pos (by omega)]
        refine xe (fun _ _ kK => x_aload dX7_both_71 4 rfl kK) ?_
        refine xe (fun _ _ kK => x_iload dX7_both_73 0 rfl kK) ?_
        refine xe (fun _ _ kK => x_iload dX7_both_75 3 rfl kK) ?_
        refine xe (fun _ _ kK => x_lload_n dX7_both_77 rfl 8 rfl kK) ?_
        refine xe_callV (a := (4 + 5 * a)) [.int (nI k), .int (nI lvv), .long v] dX7_both_78 ml_X7_156 mf_X3_holdsInStretch hTa.1 (c_X3_holdsInStretch d hTa hOa hdga hHa (lv := lvv) (k := k) (v := v) (by omega) (by omega)) rfl rfl (Nat.le_of_ble_eq_true rfl) (Nat.le_of_ble_eq_true rfl) ?_
        rintro _ T9 ⟨rfl, hTq9⟩
        refine xe_T hTq9 ?_
        refine xe_if_eq (tgt := 101) dX7_both_81 (by decide) (fun h81 => ?_) (fun h81 => ?_)
        · -- pc 101
          have h81 := cv_b0 h81
          refine xe (fun _ _ kK => x_aload dX7_both_101 5 rfl kK) ?_
          refine xe (fun _ _ kK => x_iload dX7_both_103 1 rfl kK) ?_
          refine xe (fun _ _ kK => x_iload dX7_both_105 3 rfl kK) ?_
          refine xe_callV (a := (4 + 5 * b)) [.int (nI ot), .int (nI lvv)] dX7_both_107 ml_X7_160 mf_X3_stretchEnd hTb.1 (c_X3_stretchEnd (d + 3) hTb hOb (lv := lvv) (k := ot) (by omega) hot) rfl rfl (Nat.le_of_ble_eq_true rfl) (Nat.le_of_ble_eq_true rfl) ?_
          rintro _ T9 ⟨rfl, hTq9⟩
          refine xe_T hTq9 ?_
          refine xe (fun _ _ kK => x_istore dX7_both_110 (by decide) (show _ = [(11, .int (nI (stE Rb lvv ot))), (12, .int (nI k)), (10, .int (nI fo)), (9, .int (nI lvv)), (7, .ref (4 + 5 * a)), (8, .ref (4 + 5 * b)), (0, .ref 0), (1, .int (nI a)), (2, .long v), (4, .int (nI b)), (5, .long w)] from rfl) kK) ?_
          refine xe (fun _ _ kK => x_iinc dX7_both_112 1 rfl (show (nI k) + Int32.ofInt 1 = nI (k + 1) from nI_add k 1) (by decide) (show _ = [(12, .int (nI (k + 1))), (11, .int (nI (stE Rb lvv ot))), (10, .int (nI fo)), (9, .int (nI lvv)), (7, .ref (4 + 5 * a)), (8, .ref (4 + 5 * b)), (0, .ref 0), (1, .int (nI a)), (2, .long v), (4, .int (nI b)), (5, .long w)] from rfl) kK) ?_
          refine xe (fun _ _ kK => x_goto (tgt := 48) dX7_both_115 (by decide) kK) ?_
          have hse := stE_le Rb lvv ot
          rw [if_neg (by rw [pB_f (fun z => pB_no h81 z.1)]; decide)]
          refine Xe.imp (xe_loc (by simp) (ih (Ra.length - (k + 1)) (by omega) (k + 1) (stE Rb lvv ot) (fo) rfl (by omega) hse (by omega))) ?_
          rintro _ T9 ⟨rfl, rfl⟩
          exact ⟨by congr 3; omega, rfl⟩
        · -- pc 84
          have h81 := cv_b1 h81
          refine xe (fun _ _ kK => x_aload dX7_both_84 5 rfl kK) ?_
          refine xe (fun _ _ kK => x_iload dX7_both_86 1 rfl kK) ?_
          refine xe (fun _ _ kK => x_iload dX7_both_88 3 rfl kK) ?_
          refine xe (fun _ _ kK => x_lload dX7_both_90 10 rfl kK) ?_
          refine xe_callV (a := (4 + 5 * b)) [.int (nI ot), .int (nI lvv), .long w] dX7_both_92 ml_X7_156 mf_X3_holdsInStretch hTb.1 (c_X3_holdsInStretch d hTb hOb hdgb hHb (lv := lvv) (k := ot) (v := w) (by omega) hot) rfl rfl (Nat.le_of_ble_eq_true rfl) (Nat.le_of_ble_eq_true rfl) ?_
          rintro _ T9 ⟨rfl, hTq9⟩
          refine xe_T hTq9 ?_
          refine xe_if_eq (tgt := 101) dX7_both_95 (by decide) (fun h95 => ?_) (fun h95 => ?_)
          · -- pc 101
            have h95 := cv_b0 h95
            refine xe (fun _ _ kK => x_aload dX7_both_101 5 rfl kK) ?_
            refine xe (fun _ _ kK => x_iload dX7_both_103 1 rfl kK) ?_
            refine xe (fun _ _ kK => x_iload dX7_both_105 3 rfl kK) ?_
            refine xe_callV (a := (4 + 5 * b)) [.int (nI ot), .int (nI lvv)] dX7_both_107 ml_X7_160 mf_X3_stretchEnd hTb.1 (c_X3_stretchEnd (d + 3) hTb hOb (lv := lvv) (k := ot) (by omega) hot) rfl rfl (Nat.le_of_ble_eq_true rfl) (Nat.le_of_ble_eq_true rfl) ?_
            rintro _ T9 ⟨rfl, hTq9⟩
            refine xe_T hTq9 ?_
            refine xe (fun _ _ kK => x_istore dX7_both_110 (by decide) (show _ = [(11, .int (nI (stE Rb lvv ot))), (12, .int (nI k)), (10, .int (nI fo)), (9, .int (nI lvv)), (7, .ref (4 + 5 * a)), (8, .ref (4 + 5 * b)), (0, .ref 0), (1, .int (nI a)), (2, .long v), (4, .int (nI b)), (5, .long w)] from rfl) kK) ?_
            refine xe (fun _ _ kK => x_iinc dX7_both_112 1 rfl (show (nI k) + Int32.ofInt 1 = nI (k + 1) from nI_add k 1) (by decide) (show _ = [(12, .int (nI (k + 1))), (11, .int (nI (stE Rb lvv ot))), (10, .int (nI fo)), (9, .int (nI lvv)), (7, .ref (4 + 5 * a)), (8, .ref (4 + 5 * b)), (0, .ref 0), (1, .int (nI a)), (2, .long v), (4, .int (nI b)), (5, .long w)] from rfl) kK) ?_
            refine xe (fun _ _ kK => x_goto (tgt := 48) dX7_both_115 (by decide) kK) ?_
            have hse := stE_le Rb lvv ot
            rw [if_neg (by rw [pB_f (fun z => pB_no h95 z.2)]; decide)]
            refine Xe.imp (xe_loc (by simp) (ih (Ra.length - (k + 1)) (by omega) (k + 1) (stE Rb lvv ot) (fo) rfl (by omega) hse (by omega))) ?_
            rintro _ T9 ⟨rfl, rfl⟩
            exact ⟨by congr 3; omega, rfl⟩
          · -- pc 98
            have h95 := cv_b1 h95
            refine xe (fun _ _ kK => x_iinc dX7_both_98 2 rfl (show (nI fo) + Int32.ofInt 1 = nI (fo + 1) from nI_add fo 1) (by decide) (show _ = [(10, .int (nI (fo + 1))), (12, .int (nI k)), (11, .int (nI ot)), (9, .int (nI lvv)), (7, .ref (4 + 5 * a)), (8, .ref (4 + 5 * b)), (0, .ref 0), (1, .int (nI a)), (2, .long v), (4, .int (nI b)), (5, .long w)] from rfl) kK) ?_
            refine xe (fun _ _ kK => x_aload dX7_both_101 5 rfl kK) ?_
            refine xe (fun _ _ kK => x_iload dX7_both_103 2 rfl kK) ?_
            refine xe (fun _ _ kK => x_iload dX7_both_105 3 rfl kK) ?_
            refine xe_callV (a := (4 + 5 * b)) [.int (nI ot), .int (nI lvv)] dX7_both_107 ml_X7_160 mf_X3_stretchEnd hTb.1 (c_X3_stretchEnd (d + 3) hTb hOb (lv := lvv) (k := ot) (by omega) hot) rfl rfl (Nat.le_of_ble_eq_true rfl) (Nat.le_of_ble_eq_true rfl) ?_
            rintro _ T9 ⟨rfl, hTq9⟩
            refine xe_T hTq9 ?_
            refine xe (fun _ _ kK => x_istore dX7_both_110 (by decide) (show _ = [(11, .int (nI (stE Rb lvv ot))), (10, .int (nI (fo + 1))), (12, .int (nI k)), (9, .int (nI lvv)), (7, .ref (4 + 5 * a)), (8, .ref (4 + 5 * b)), (0, .ref 0), (1, .int (nI a)), (2, .long v), (4, .int (nI b)), (5, .long w)] from rfl) kK) ?_
            refine xe (fun _ _ kK => x_iinc dX7_both_112 2 rfl (show (nI k) + Int32.ofInt 1 = nI (k + 1) from nI_add k 1) (by decide) (show _ = [(12, .int (nI (k + 1))), (11, .int (nI (stE Rb lvv ot))), (10, .int (nI (fo + 1))), (9, .int (nI lvv)), (7, .ref (4 + 5 * a)), (8, .ref (4 + 5 * b)), (0, .ref 0), (1, .int (nI a)), (2, .long v), (4, .int (nI b)), (5, .long w)] from rfl) kK) ?_
            refine xe (fun _ _ kK => x_goto (tgt := 48) dX7_both_115 (by decide) kK) ?_
            have hse := stE_le Rb lvv ot
            rw [if_pos (pB_t ⟨pB_of h81, pB_of h95⟩)]
            refine Xe.imp (xe_loc (by simp) (ih (Ra.length - (k + 1)) (by omega) (k + 1) (stE Rb lvv ot) (fo + 1) rfl (by omega) hse (by omega))) ?_
            rintro _ T9 ⟨rfl, rfl⟩
            exact ⟨by congr 3; omega, rfl⟩

set_option maxHeartbeats 4000000 in
theorem c_X7_both (d : Nat) {T : TH} {cu a b : Nat} {s : Sh} {en : Nat → Nat} {lo : Nat → Option Nat} {Af : Nat → Nat} {v w : Int64} {laa oaa qaa vaa capa dga aga gra : Nat} {nma : Bool} {Ra : List Row} (hTa : Tb T (4 + 5 * a) laa oaa qaa vaa capa Ra dga aga gra nma) (hOa : RwOk Ra) (hdga : dga < 2 ^ 31) (hHa : HsOk Ra dga) {lab oab qab vab capb dgb agb grb : Nat} {nmb : Bool} {Rb : List Row} (hTb : Tb T (4 + 5 * b) lab oab qab vab capb Rb dgb agb grb nmb) (hOb : RwOk Rb) (hdgb : dgb < 2 ^ 31) (hHb : HsOk Rb dgb) (hU : CU T cu s.2.1) (hS : CSp T cu s en lo) (hs60 : s.1 ≤ 60) (ha : a < s.2.1) (hb : b < s.2.1) (hAf : ∀ f, f < s.1 → e_ai T (cu + 7) f = nI (Af f) ∧ Af f ≤ 10) (hen : ∀ f, f < s.1 → en f < 2 ^ 31) (hfa : s.2.2.2.2.2.2 a < s.1) (hfb : s.2.2.2.2.2.2 b < s.1) : Xe m_X7_both (d + 4) 0 [(0, .ref 0), (1, .int (nI a)), (2, .long v), (4, .int (nI b)), (5, .long w)] [] T (fun r T1 => r = some (.int (nI (bcC Ra Rb (shM en Af (s.2.2.2.2.2.2 a) (s.2.2.2.2.2.2 b) s.1) v w Ra.length 0 0))) ∧ T1 = T) := by
  have h12 := hU.2.2.2.2
  have hm10 : shM en Af (s.2.2.2.2.2.2 a) (s.2.2.2.2.2.2 b) s.1 ≤ 10 := shM_le (n := s.1) (fun k hk => (hAf k hk).2) s.1 (Nat.le_refl _)
  refine xe (fun _ _ kK => x_aload_n dX7_both_0 rfl 0 rfl kK) ?_
  refine xe (fun _ _ kK => x_iload_n dX7_both_1 rfl 1 rfl kK) ?_
  refine xe_callV (a := 0) [.int (nI a)] dX7_both_2 ml_X7_85 mf_X7_tableOf hU.1.1 (by have := c_X7_tableOf (d + 3) hU (nI a); rw [ix_in ha (by omega)] at this; exact this) rfl rfl (Nat.le_of_ble_eq_true rfl) (Nat.le_of_ble_eq_true rfl) ?_
  rintro _ T9 ⟨rfl, hTq9⟩
  refine xe_T hTq9 ?_
  refine xe (fun _ _ kK => x_astore dX7_both_5 (by decide) (show _ = [(7, .ref (4 + 5 * a)), (0, .ref 0), (1, .int (nI a)), (2, .long v), (4, .int (nI b)), (5, .long w)] from rfl) kK) ?_
  refine xe (fun _ _ kK => x_aload_n dX7_both_7 rfl 1 rfl kK) ?_
  refine xe (fun _ _ kK => x_iload dX7_both_8 4 rfl kK) ?_
  refine xe_callV (a := 0) [.int (nI b)] dX7_both_10 ml_X7_85 mf_X7_tableOf hU.1.1 (by have := c_X7_tableOf (d + 3) hU (nI b); rw [ix_in hb (by omega)] at this; exact this) rfl rfl (Nat.le_of_ble_eq_true rfl) (Nat.le_of_ble_eq_true rfl) ?_
  rintro _ T9 ⟨rfl, hTq9⟩
  refine xe_T hTq9 ?_
  refine xe (fun _ _ kK => x_astore dX7_both_13 (by decide) (show _ = [(8, .ref (4 + 5 * b)), (7, .ref (4 + 5 * a)), (0, .ref 0), (1, .int (nI a)), (2, .long v), (4, .int (nI b)), (5, .long w)] from rfl) kK) ?_
  refine xe (fun _ _ kK => x_aload dX7_both_15 1 rfl kK) ?_
  refine xe (fun _ _ kK => x_ifnull dX7_both_17 kK) ?_
  refine xe (fun _ _ kK => x_aload dX7_both_20 0 rfl kK) ?_
  refine xe (fun _ _ kK => x_ifnonnull (tgt := 27) dX7_both_22 (by decide) kK) ?_
  refine xe (fun _ _ kK => x_aload_n dX7_both_27 rfl 2 rfl kK) ?_
  refine xe (fun _ _ kK => x_get dX7_both_28 fl_X7_33 hU.1.1 (gvl_r1 fz_7_3.2.2 (show e_r T 451 0 = some cu from hU.2.1)) kK) ?_
  refine xe (fun _ _ kK => x_iload_n dX7_both_31 rfl 3 rfl kK) ?_
  refine xe (fun _ _ kK => x_iload dX7_both_32 5 rfl kK) ?_
  refine xe_callV (a := cu) [.int (nI a), .int (nI b)] dX7_both_34 ml_X7_152 mf_X1_sharedMany (hU.1.sh hU.2.2.1).1 (c_X1_sharedMany (d + 1) (ca := a) (cb := b) hS hs60 hAf hen hfa hfb h12 ha hb) rfl rfl (Nat.le_of_ble_eq_true rfl) (Nat.le_of_ble_eq_true rfl) ?_
  rintro _ T9 ⟨rfl, hTq9⟩
  refine xe_T hTq9 ?_
  refine xe (fun _ _ kK => x_istore dX7_both_37 (by decide) (show _ = [(9, .int (nI (shM en Af (s.2.2.2.2.2.2 a) (s.2.2.2.2.2.2 b) s.1))), (8, .ref (4 + 5 * b)), (7, .ref (4 + 5 * a)), (0, .ref 0), (1, .int (nI a)), (2, .long v), (4, .int (nI b)), (5, .long w)] from rfl) kK) ?_
  refine xe (fun _ _ kK => x_iconst dX7_both_39 (show _ = nI 0 by decide) kK) ?_
  refine xe (fun _ _ kK => x_istore dX7_both_40 (by decide) (show _ = [(10, .int (nI 0)), (9, .int (nI (shM en Af (s.2.2.2.2.2.2 a) (s.2.2.2.2.2.2 b) s.1))), (8, .ref (4 + 5 * b)), (7, .ref (4 + 5 * a)), (0, .ref 0), (1, .int (nI a)), (2, .long v), (4, .int (nI b)), (5, .long w)] from rfl) kK) ?_
  refine xe (fun _ _ kK => x_iconst dX7_both_42 (show _ = nI 0 by decide) kK) ?_
  refine xe (fun _ _ kK => x_istore dX7_both_43 (by decide) (show _ = [(11, .int (nI 0)), (10, .int (nI 0)), (9, .int (nI (shM en Af (s.2.2.2.2.2.2 a) (s.2.2.2.2.2.2 b) s.1))), (8, .ref (4 + 5 * b)), (7, .ref (4 + 5 * a)), (0, .ref 0), (1, .int (nI a)), (2, .long v), (4, .int (nI b)), (5, .long w)] from rfl) kK) ?_
  refine xe (fun _ _ kK => x_iconst dX7_both_45 (show _ = nI 0 by decide) kK) ?_
  refine xe (fun _ _ kK => x_istore dX7_both_46 (by decide) (show _ = [(12, .int (nI 0)), (11, .int (nI 0)), (10, .int (nI 0)), (9, .int (nI (shM en Af (s.2.2.2.2.2.2 a) (s.2.2.2.2.2.2 b) s.1))), (8, .ref (4 + 5 * b)), (7, .ref (4 + 5 * a)), (0, .ref 0), (1, .int (nI a)), (2, .long v), (4, .int (nI b)), (5, .long w)] from rfl) kK) ?_
  refine Xe.imp (xe_loc (by simp) (l_X7_both d (v := v) (w := w) hTa hOa hdga hHa hTb hOb hdgb hHb hm10 Ra.length 0 0 0 rfl (Nat.zero_le _) (Nat.zero_le _) (Nat.le_refl _))) ?_
  rintro _ T9 ⟨rfl, rfl⟩
  exact ⟨by rw [Nat.zero_add, Nat.sub_zero], rfl⟩

set_option maxHeartbeats 4000000 in
theorem c_X7_both0 (d : Nat) {T : TH} {cu : Nat} {s : Sh} {x y : Int32} {v w : Int64} (hU : CU T cu s.2.1) (hno : ix x s.2.1 = none ∨ ix y s.2.1 = none) : Xe m_X7_both (d + 1) 0 [(0, .ref 0), (1, .int x), (2, .long v), (4, .int y), (5, .long w)] [] T (fun r T1 => r = some (.int (-1)) ∧ T1 = T) := by
  have h12 := hU.2.2.2.2
  refine xe (fun _ _ kK => x_aload_n dX7_both_0 rfl 0 rfl kK) ?_
  refine xe (fun _ _ kK => x_iload_n dX7_both_1 rfl 1 rfl kK) ?_
  refine xe_callV (a := 0) [.int x] dX7_both_2 ml_X7_85 mf_X7_tableOf hU.1.1 (c_X7_tableOf d hU x) rfl rfl (Nat.le_of_ble_eq_true rfl) (Nat.le_of_ble_eq_true rfl) ?_
  rintro _ T9 ⟨rfl, hTq9⟩
  refine xe_T hTq9 ?_
  cases hix : ix x s.2.1 with
  | none =>
    show Xe m_X7_both (d + 1) 5 [(0, .ref 0), (1, .int x), (2, .long v), (4, .int y), (5, .long w)] [.null] T _
    refine xe (fun _ _ kK => x_astoreN dX7_both_5 (by decide) (show _ = [(7, .null), (0, .ref 0), (1, .int x), (2, .long v), (4, .int y), (5, .long w)] from rfl) kK) ?_
    refine xe (fun _ _ kK => x_aload_n dX7_both_7 rfl 1 rfl kK) ?_
    refine xe (fun _ _ kK => x_iload dX7_both_8 4 rfl kK) ?_
    refine xe_callV (a := 0) [.int y] dX7_both_10 ml_X7_85 mf_X7_tableOf hU.1.1 (c_X7_tableOf d hU y) rfl rfl (Nat.le_of_ble_eq_true rfl) (Nat.le_of_ble_eq_true rfl) ?_
    rintro _ T8 ⟨rfl, hTq8⟩
    refine xe_T hTq8 ?_
    cases hiy : ix y s.2.1 with
    | none =>
      show Xe m_X7_both (d + 1) 13 [(7, .null), (0, .ref 0), (1, .int x), (2, .long v), (4, .int y), (5, .long w)] [.null] T _
      refine xe (fun _ _ kK => x_astoreN dX7_both_13 (by decide) (show _ = [(8, .null), (7, .null), (0, .ref 0), (1, .int x), (2, .long v), (4, .int y), (5, .long w)] from rfl) kK) ?_
      refine xe (fun _ _ kK => x_aloadN dX7_both_15 1 rfl kK) ?_
      refine xe (fun _ _ kK => x_ifnullN (tgt := 25) dX7_both_17 (by decide) kK) ?_
      refine xe (fun _ _ kK => x_iconst dX7_both_25 (show _ = (-1) by decide) kK) ?_
      exact xe_reti dX7_both_26 rfl (⟨rfl, rfl⟩)
    | some c2 =>
      show Xe m_X7_both (d + 1) 13 [(7, .null), (0, .ref 0), (1, .int x), (2, .long v), (4, .int y), (5, .long w)] [.ref (4 + 5 * c2)] T _
      refine xe (fun _ _ kK => x_astore dX7_both_13 (by decide) (show _ = [(8, .ref (4 + 5 * c2)), (7, .null), (0, .ref 0), (1, .int x), (2, .long v), (4, .int y), (5, .long w)] from rfl) kK) ?_
      refine xe (fun _ _ kK => x_aloadN dX7_both_15 1 rfl kK) ?_
      refine xe (fun _ _ kK => x_ifnullN (tgt := 25) dX7_both_17 (by decide) kK) ?_
      refine xe (fun _ _ kK => x_iconst dX7_both_25 (show _ = (-1) by decide) kK) ?_
      exact xe_reti dX7_both_26 rfl (⟨rfl, rfl⟩)
  | some c1 =>
    show Xe m_X7_both (d + 1) 5 [(0, .ref 0), (1, .int x), (2, .long v), (4, .int y), (5, .long w)] [.ref (4 + 5 * c1)] T _
    refine xe (fun _ _ kK => x_astore dX7_both_5 (by decide) (show _ = [(7, .ref (4 + 5 * c1)), (0, .ref 0), (1, .int x), (2, .long v), (4, .int y), (5, .long w)] from rfl) kK) ?_
    refine xe (fun _ _ kK => x_aload_n dX7_both_7 rfl 1 rfl kK) ?_
    refine xe (fun _ _ kK => x_iload dX7_both_8 4 rfl kK) ?_
    refine xe_callV (a := 0) [.int y] dX7_both_10 ml_X7_85 mf_X7_tableOf hU.1.1 (c_X7_tableOf d hU y) rfl rfl (Nat.le_of_ble_eq_true rfl) (Nat.le_of_ble_eq_true rfl) ?_
    rintro _ T8 ⟨rfl, hTq8⟩
    refine xe_T hTq8 ?_
    cases hiy : ix y s.2.1 with
    | none =>
      show Xe m_X7_both (d + 1) 13 [(7, .ref (4 + 5 * c1)), (0, .ref 0), (1, .int x), (2, .long v), (4, .int y), (5, .long w)] [.null] T _
      refine xe (fun _ _ kK => x_astoreN dX7_both_13 (by decide) (show _ = [(8, .null), (7, .ref (4 + 5 * c1)), (0, .ref 0), (1, .int x), (2, .long v), (4, .int y), (5, .long w)] from rfl) kK) ?_
      refine xe (fun _ _ kK => x_aload dX7_both_15 1 rfl kK) ?_
      refine xe (fun _ _ kK => x_ifnull dX7_both_17 kK) ?_
      refine xe (fun _ _ kK => x_aloadN dX7_both_20 0 rfl kK) ?_
      refine xe (fun _ _ kK => x_ifnonnullN dX7_both_22 kK) ?_
      refine xe (fun _ _ kK => x_iconst dX7_both_25 (show _ = (-1) by decide) kK) ?_
      exact xe_reti dX7_both_26 rfl (⟨rfl, rfl⟩)
    | some c2 =>
      exact absurd hno (by rw [hix, hiy]; simp)
