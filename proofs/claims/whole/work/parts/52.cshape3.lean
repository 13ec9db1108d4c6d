/-! roads -/
theorem upF_eq {W : Nat → Option Nat} : ∀ {l : List Nat} {o : Option Nat} {k : Nat}, Chn W o l → l.length < k → upF W k o = l
  | [], o, k, h, hk => by
    cases k with
    | zero => exact absurd hk (Nat.not_lt_zero _)
    | succ k => rw [show o = none from h]; rfl
  | x :: l, o, k, h, hk => by
    cases k with
    | zero => exact absurd hk (Nat.not_lt_zero _)
    | succ k =>
      rw [h.1]
      show x :: upF W k (W x) = x :: l
      rw [upF_eq h.2 (by simp at hk; omega)]
theorem dc_rev (M : Nat → Nat) (l : List Nat) : dc M l.reverse = dc M l := by unfold dc; rw [List.filter_reverse, List.length_reverse]
theorem mc_rev (M : Nat → Nat) (l : List Nat) : mc M l.reverse = mc M l := by unfold mc; rw [List.filter_reverse, List.length_reverse]
theorem ShV.rd {s : Sh} {gs : List Nat} {en : Nat → Nat} {lo : Nat → Option Nat} (h : ShV s gs en lo) {c : Nat} (hc : c < s.2.1) : Chn s.2.2.1 (some (s.2.2.2.2.2.2 c)) (rdl s c) ∧ (rdl s c).length ≤ 5 := by
  obtain ⟨l, l1, l2, -⟩ := h.2.2.2.1 (s.2.2.2.2.2.2 c) (h.2.2.2.2.2.2.1 c hc).1
  have e : rdl s c = l := upF_eq l1 (by omega)
  rw [e]; exact ⟨l1, l2⟩
/-- what a TABLE says of its leaf -/
def TbL (T : TH) (s : Sh) (c : Nat) : Prop := TbM T c (dc s.2.2.2.2.2.1 (road s c)) (mc s.2.2.2.2.2.1 (road s c)) ((road s c).length - 1) (decide (s.2.2.2.2.1 (s.2.2.2.2.2.2 c) = 0))

set_option maxHeartbeats 4000000 in
theorem c_X3_begin (d : Nat) {T : TH} {a dg ag gr : Nat} {nm : Bool} (hK : e_K T a = 4) : Xe m_X3_begin d 0 [(0, .ref a), (1, .int (nI dg)), (2, .int (nI ag)), (3, .int (bI nm)), (4, .int (nI gr))] [] T (fun r T1 => r = none ∧ T1 = s_i (s_i (s_i (s_i (s_i T 196 a (nI 0)) 197 a (nI dg)) 198 a (nI ag)) 199 a (bI nm)) 200 a (nI gr)) := by
  refine xe (fun _ _ kK => x_aload_n dX3_begin_0 rfl 0 rfl kK) ?_
  refine xe (fun _ _ kK => x_iconst dX3_begin_1 (show _ = nI 0 by decide) kK) ?_
  refine xe (fun _ _ kK => x_puti dX3_begin_2 ⟨fl_X3_25, fz_3_4.1, fz_3_4.2.1⟩ (Or.inl fz_3_4.2.2) rfl rfl hK kK) ?_
  refine xe (fun _ _ kK => x_aload_n dX3_begin_5 rfl 0 rfl kK) ?_
  refine xe (fun _ _ kK => x_iload_n dX3_begin_6 rfl 1 rfl kK) ?_
  refine xe (fun _ _ kK => x_puti dX3_begin_7 ⟨fl_X3_29, fz_3_5.1, fz_3_5.2.1⟩ (Or.inl fz_3_5.2.2) rfl rfl (wK_i hK) kK) ?_
  refine xe (fun _ _ kK => x_aload_n dX3_begin_10 rfl 0 rfl kK) ?_
  refine xe (fun _ _ kK => x_iload_n dX3_begin_11 rfl 2 rfl kK) ?_
  refine xe (fun _ _ kK => x_puti dX3_begin_12 ⟨fl_X3_32, fz_3_6.1, fz_3_6.2.1⟩ (Or.inl fz_3_6.2.2) rfl rfl (wK_i (wK_i hK)) kK) ?_
  refine xe (fun _ _ kK => x_aload_n dX3_begin_15 rfl 0 rfl kK) ?_
  refine xe (fun _ _ kK => x_iload_n dX3_begin_16 rfl 3 rfl kK) ?_
  refine xe (fun _ _ kK => x_puti dX3_begin_17 ⟨fl_X3_35, fz_3_7.1, fz_3_7.2.1⟩ (Or.inr fz_3_7.2.2) (by cases nm <;> rfl) (by cases nm <;> rfl) (wK_i (wK_i (wK_i hK))) kK) ?_
  refine xe (fun _ _ kK => x_aload_n dX3_begin_20 rfl 0 rfl kK) ?_
  refine xe (fun _ _ kK => x_iload dX3_begin_21 4 rfl kK) ?_
  refine xe (fun _ _ kK => x_puti dX3_begin_23 ⟨fl_X3_39, fz_3_8.1, fz_3_8.2.1⟩ (Or.inl fz_3_8.2.2) rfl rfl (wK_i (wK_i (wK_i (wK_i hK)))) kK) ?_
  exact xe_retv dX3_begin_26 rfl (⟨rfl, rfl⟩)

set_option maxHeartbeats 4000000 in
theorem c_X7_beginTable (d : Nat) {T : TH} {A : Nat → Nat → Nat} {cp : Nat → Nat} {cu : Nat} {s : Sh} {en : Nat → Nat} {lo : Nat → Option Nat} (hU : CU T cu s.2.1) (hA : TbA T A cp) (hS : CSp T cu s en lo) (hK : MsK T cu s s.1) (hV : ShV s [] en lo) (hs60 : s.1 ≤ 60) {c : Nat} (hc : c < s.2.1) : Xe m_X7_beginTable (d + 1) 0 [(0, .ref 0), (1, .int (nI c))] [] T (fun r T1 => r = none ∧ T1 = (s_i (s_i (s_i (s_i (s_i T 196 (4 + 5 * c) (nI 0)) 197 (4 + 5 * c) (nI (dc s.2.2.2.2.2.1 (road s c)))) 198 (4 + 5 * c) (nI (mc s.2.2.2.2.2.1 (road s c)))) 199 (4 + 5 * c) (bI (decide (s.2.2.2.2.1 (s.2.2.2.2.2.2 c) = 0)))) 200 (4 + 5 * c) (nI ((road s c).length - 1)))) := by
  have hS60 := hs60
  have h12 := hU.2.2.2.2
  have hfc := (hV.2.2.2.2.2.2.1 c hc)
  obtain ⟨hr1, hr5⟩ := hV.rd hc
  obtain ⟨m1, m2, m3⟩ := hK (s.2.2.2.2.2.2 c) hfc.1 _ hr1
  have hkd := (hV.2.2.1 (s.2.2.2.2.2.2 c) hfc.1).1
  refine xe (fun _ _ kK => x_aload_n dX7_beginTable_0 rfl 0 rfl kK) ?_
  refine xe (fun _ _ kK => x_iload_n dX7_beginTable_1 rfl 1 rfl kK) ?_
  refine xe_callV (a := 0) [.int (nI c)] dX7_beginTable_2 ml_X7_85 mf_X7_tableOf hU.1.1 (by have := c_X7_tableOf (d + 0) hU (nI c); rw [ix_in hc (by omega)] at this; exact this) rfl rfl (Nat.le_of_ble_eq_true rfl) (Nat.le_of_ble_eq_true rfl) ?_
  rintro _ T9 ⟨rfl, hTq9⟩
  refine xe_T hTq9 ?_
  refine xe (fun _ _ kK => x_astore_n dX7_beginTable_5 rfl (by decide) (show _ = [(2, .ref (4 + 5 * c)), (0, .ref 0), (1, .int (nI c))] from rfl) kK) ?_
  refine xe (fun _ _ kK => x_aload_n dX7_beginTable_6 rfl 1 rfl kK) ?_
  refine xe (fun _ _ kK => x_get dX7_beginTable_7 fl_X7_33 hU.1.1 (gvl_r1 fz_7_3.2.2 (show e_r T 451 0 = some cu from hU.2.1)) kK) ?_
  refine xe (fun _ _ kK => x_iload_n dX7_beginTable_10 rfl 2 rfl kK) ?_
  refine xe_callV (a := cu) [.int (nI c)] dX7_beginTable_11 ml_X7_163 mf_X1_fieldOfLeaf hS.1.1 (by have := c_X1_fieldOfLeaf d hS hs60 h12 (nI c); rw [ix_in hc (by omega)] at this; exact this) rfl rfl (Nat.le_of_ble_eq_true rfl) (Nat.le_of_ble_eq_true rfl) ?_
  rintro _ T9 ⟨rfl, hTq9⟩
  refine xe_T hTq9 ?_
  refine xe (fun _ _ kK => x_istore_n dX7_beginTable_14 rfl (by decide) (show _ = [(3, .int (nI (s.2.2.2.2.2.2 c))), (2, .ref (4 + 5 * c)), (0, .ref 0), (1, .int (nI c))] from rfl) kK) ?_
  refine xe (fun _ _ kK => x_aload_n dX7_beginTable_15 rfl 1 rfl kK) ?_
  refine xe (fun _ _ kK => x_ifnull dX7_beginTable_16 kK) ?_
  refine xe (fun _ _ kK => x_aload_n dX7_beginTable_19 rfl 2 rfl kK) ?_
  refine xe (fun _ _ kK => x_get dX7_beginTable_20 fl_X7_33 hU.1.1 (gvl_r1 fz_7_3.2.2 (show e_r T 451 0 = some cu from hU.2.1)) kK) ?_
  refine xe (fun _ _ kK => x_iload_n dX7_beginTable_23 rfl 0 rfl kK) ?_
  refine xe_callV (a := cu) [.int (nI (s.2.2.2.2.2.2 c))] dX7_beginTable_24 ml_X7_166 mf_X1_isField hS.1.1 (by have := c_X1_isField d hS.1 hS.2.1 (by omega) (nI (s.2.2.2.2.2.2 c)); rw [ix_in hfc.1 (by omega)] at this; exact this) rfl rfl (Nat.le_of_ble_eq_true rfl) (Nat.le_of_ble_eq_true rfl) ?_
  rintro _ T9 ⟨rfl, hTq9⟩
  refine xe_T hTq9 ?_
  refine xe (fun _ _ kK => x_if_eqF (tgt := 79) dX7_beginTable_27 (by decide) (show ¬ bI true = 0 by decide) kK) ?_
  have e1 : dc s.2.2.2.2.2.1 (road s c) = dc s.2.2.2.2.2.1 (rdl s c) := dc_rev _ _
  have e2 : mc s.2.2.2.2.2.1 (road s c) = mc s.2.2.2.2.2.1 (rdl s c) := mc_rev _ _
  have e3 : (road s c).length = (rdl s c).length := List.length_reverse
  refine xe (fun _ _ kK => x_aload_n dX7_beginTable_30 rfl 1 rfl kK) ?_
  refine xe (fun _ _ kK => x_aload_n dX7_beginTable_31 rfl 2 rfl kK) ?_
  refine xe (fun _ _ kK => x_get dX7_beginTable_32 fl_X7_33 hU.1.1 (gvl_r1 fz_7_3.2.2 (show e_r T 451 0 = some cu from hU.2.1)) kK) ?_
  refine xe (fun _ _ kK => x_get dX7_beginTable_35 fl_X7_169 hS.1.1 (gvl_r1 fz_1_5.2.2 (show e_r T 69 cu = some (cu + 6) from (hS.1.2.1 5 (by decide)))) kK) ?_
  refine xe (fun _ _ kK => x_iload_n dX7_beginTable_38 rfl 0 rfl kK) ?_
  refine xe (fun _ _ kK => x_iald dX7_beginTable_39 (show e_K _ (cu + 6) = 20 from (hS.1.2.2.1 5 (by decide))) (show (nI (s.2.2.2.2.2.2 c)) = nI (s.2.2.2.2.2.2 c) from rfl) (shi_len hS.1 5 (by decide) (show s.2.2.2.2.2.2 c < 66 by omega)) (show e_ai T (cu + 6) (s.2.2.2.2.2.2 c) = nI (dc s.2.2.2.2.2.1 (rdl s c)) from m1) kK) ?_
  refine xe (fun _ _ kK => x_aload_n dX7_beginTable_40 rfl 2 rfl kK) ?_
  refine xe (fun _ _ kK => x_get dX7_beginTable_41 fl_X7_33 hU.1.1 (gvl_r1 fz_7_3.2.2 (show e_r T 451 0 = some cu from hU.2.1)) kK) ?_
  refine xe (fun _ _ kK => x_get dX7_beginTable_44 fl_X7_171 hS.1.1 (gvl_r1 fz_1_6.2.2 (show e_r T 70 cu = some (cu + 7) from (hS.1.2.1 6 (by decide)))) kK) ?_
  refine xe (fun _ _ kK => x_iload_n dX7_beginTable_47 rfl 0 rfl kK) ?_
  refine xe (fun _ _ kK => x_iald dX7_beginTable_48 (show e_K _ (cu + 7) = 20 from (hS.1.2.2.1 6 (by decide))) (show (nI (s.2.2.2.2.2.2 c)) = nI (s.2.2.2.2.2.2 c) from rfl) (shi_len hS.1 6 (by decide) (show s.2.2.2.2.2.2 c < 66 by omega)) (show e_ai T (cu + 7) (s.2.2.2.2.2.2 c) = nI (mc s.2.2.2.2.2.1 (rdl s c)) from m2) kK) ?_
  refine xe (fun _ _ kK => x_aload_n dX7_beginTable_49 rfl 2 rfl kK) ?_
  refine xe (fun _ _ kK => x_get dX7_beginTable_50 fl_X7_33 hU.1.1 (gvl_r1 fz_7_3.2.2 (show e_r T 451 0 = some cu from hU.2.1)) kK) ?_
  refine xe (fun _ _ kK => x_get dX7_beginTable_53 fl_X7_173 hS.1.1 (gvl_r1 fz_1_1.2.2 (show e_r T 65 cu = some (cu + 2) from (hS.1.2.1 1 (by decide)))) kK) ?_
  refine xe (fun _ _ kK => x_iload_n dX7_beginTable_56 rfl 0 rfl kK) ?_
  refine xe (fun _ _ kK => x_iald dX7_beginTable_57 (show e_K _ (cu + 2) = 20 from (hS.1.2.2.1 1 (by decide))) (show (nI (s.2.2.2.2.2.2 c)) = nI (s.2.2.2.2.2.2 c) from rfl) (shi_len hS.1 1 (by decide) (show s.2.2.2.2.2.2 c < 66 by omega)) (show e_ai T (cu + 2) (s.2.2.2.2.2.2 c) = nI (s.2.2.2.2.1 (s.2.2.2.2.2.2 c) + 1) from (hS.2.2.2.1 (s.2.2.2.2.2.2 c) hfc.1).2.1) kK) ?_
  refine xe (fun _ _ kK => x_iconst dX7_beginTable_58 (show _ = nI 1 by decide) kK) ?_
  refine xe_icmp_ne (tgt := 66) dX7_beginTable_59 (by decide) (fun h59 => ?_) (fun h59 => ?_)
  · -- pc 66
    have h59 := cv_ne (by omega) (by omega) h59
    refine xe (fun _ _ kK => x_iconst dX7_beginTable_66 (show _ = nI 0 by decide) kK) ?_
    refine xe (fun _ _ kK => x_aload_n dX7_beginTable_67 rfl 2 rfl kK) ?_
    refine xe (fun _ _ kK => x_get dX7_beginTable_68 fl_X7_33 hU.1.1 (gvl_r1 fz_7_3.2.2 (show e_r T 451 0 = some cu from hU.2.1)) kK) ?_
    refine xe (fun _ _ kK => x_get dX7_beginTable_71 fl_X7_176 hS.1.1 (gvl_r1 fz_1_7.2.2 (show e_r T 71 cu = some (cu + 8) from (hS.1.2.1 7 (by decide)))) kK) ?_
    refine xe (fun _ _ kK => x_iload_n dX7_beginTable_74 rfl 0 rfl kK) ?_
    refine xe (fun _ _ kK => x_iald dX7_beginTable_75 (show e_K _ (cu + 8) = 20 from (hS.1.2.2.1 7 (by decide))) (show (nI (s.2.2.2.2.2.2 c)) = nI (s.2.2.2.2.2.2 c) from rfl) (shi_len hS.1 7 (by decide) (show s.2.2.2.2.2.2 c < 66 by omega)) (show e_ai T (cu + 8) (s.2.2.2.2.2.2 c) = nI ((rdl s c).length - 1) from m3) kK) ?_
    have ek : decide (s.2.2.2.2.1 (s.2.2.2.2.2.2 c) = 0) = false := by simp; omega
    refine xe_callV (a := (4 + 5 * c)) [.int (nI (dc s.2.2.2.2.2.1 (rdl s c))), .int (nI (mc s.2.2.2.2.2.1 (rdl s c))), .int (nI 0), .int (nI ((rdl s c).length - 1))] dX7_beginTable_76 ml_X7_179 mf_X3_begin (hA.1 c (by omega)).1 (by have := c_X3_begin d (T := T) (a := 4 + 5 * c) (dg := dc s.2.2.2.2.2.1 (rdl s c)) (ag := mc s.2.2.2.2.2.1 (rdl s c)) (gr := (rdl s c).length - 1) (nm := decide (s.2.2.2.2.1 (s.2.2.2.2.2.2 c) = 0)) (hA.1 c (by omega)).1; rw [ek] at this; exact this) rfl rfl (Nat.le_of_ble_eq_true rfl) (Nat.le_of_ble_eq_true rfl) ?_
    rintro _ _ ⟨rfl, rfl⟩
    exact xe_retv dX7_beginTable_79 rfl (by rw [e1, e2, e3, ek]; exact ⟨rfl, rfl⟩)
  · -- pc 62
    have h59 := cv_eq (by omega) (by omega) h59
    refine xe (fun _ _ kK => x_iconst dX7_beginTable_62 (show _ = nI 1 by decide) kK) ?_
    refine xe (fun _ _ kK => x_goto (tgt := 67) dX7_beginTable_63 (by decide) kK) ?_
    refine xe (fun _ _ kK => x_aload_n dX7_beginTable_67 rfl 2 rfl kK) ?_
    refine xe (fun _ _ kK => x_get dX7_beginTable_68 fl_X7_33 hU.1.1 (gvl_r1 fz_7_3.2.2 (show e_r T 451 0 = some cu from hU.2.1)) kK) ?_
    refine xe (fun _ _ kK => x_get dX7_beginTable_71 fl_X7_176 hS.1.1 (gvl_r1 fz_1_7.2.2 (show e_r T 71 cu = some (cu + 8) from (hS.1.2.1 7 (by decide)))) kK) ?_
    refine xe (fun _ _ kK => x_iload_n dX7_beginTable_74 rfl 0 rfl kK) ?_
    refine xe (fun _ _ kK => x_iald dX7_beginTable_75 (show e_K _ (cu + 8) = 20 from (hS.1.2.2.1 7 (by decide))) (show (nI (s.2.2.2.2.2.2 c)) = nI (s.2.2.2.2.2.2 c) from rfl) (shi_len hS.1 7 (by decide) (show s.2.2.2.2.2.2 c < 66 by omega)) (show e_ai T (cu + 8) (s.2.2.2.2.2.2 c) = nI ((rdl s c).length - 1) from m3) kK) ?_
    have ek : decide (s.2.2.2.2.1 (s.2.2.2.2.2.2 c) = 0) = true := by simp; omega
    refine xe_callV (a := (4 + 5 * c)) [.int (nI (dc s.2.2.2.2.2.1 (rdl s c))), .int (nI (mc s.2.2.2.2.2.1 (rdl s c))), .int (nI 1), .int (nI ((rdl s c).length - 1))] dX7_beginTable_76 ml_X7_179 mf_X3_begin (hA.1 c (by omega)).1 (by have := c_X3_begin d (T := T) (a := 4 + 5 * c) (dg := dc s.2.2.2.2.2.1 (rdl s c)) (ag := mc s.2.2.2.2.2.1 (rdl s c)) (gr := (rdl s c).length - 1) (nm := decide (s.2.2.2.2.1 (s.2.2.2.2.2.2 c) = 0)) (hA.1 c (by omega)).1; rw [ek] at this; exact this) rfl rfl (Nat.le_of_ble_eq_true rfl) (Nat.le_of_ble_eq_true rfl) ?_
    rintro _ _ ⟨rfl, rfl⟩
    exact xe_retv dX7_beginTable_79 rfl (by rw [e1, e2, e3, ek]; exact ⟨rfl, rfl⟩)

/-- the first k TABLES are begun -/
def Bg (T T1 : TH) (A : Nat → Nat → Nat) (cp : Nat → Nat) (s : Sh) (k : Nat) : Prop := FrA (fun x => ∃ c, c < 12 ∧ x = 4 + 5 * c) T T1 ∧ e_n T1 = e_n T ∧ e_s T1 = e_s T ∧ TbA T1 A cp ∧ ∀ c, c < k → TbR T1 A cp c [] ∧ TbL T1 s c
theorem Bg.step {T T1 : TH} {A : Nat → Nat → Nat} {cp : Nat → Nat} {s : Sh} {c : Nat} (h : Bg T T1 A cp s c) (hc : c < 12) : Bg T (s_i (s_i (s_i (s_i (s_i T1 196 (4 + 5 * c) (nI 0)) 197 (4 + 5 * c) (nI (dc s.2.2.2.2.2.1 (road s c)))) 198 (4 + 5 * c) (nI (mc s.2.2.2.2.2.1 (road s c)))) 199 (4 + 5 * c) (bI (decide (s.2.2.2.2.1 (s.2.2.2.2.2.2 c) = 0)))) 200 (4 + 5 * c) (nI ((road s c).length - 1))) A cp s (c + 1) := by
  obtain ⟨h1, h2, h3, h4, h5⟩ := h
  have hF : FrG [(196, 4 + 5 * c), (197, 4 + 5 * c), (198, 4 + 5 * c), (199, 4 + 5 * c), (200, 4 + 5 * c)] [] T1 (s_i (s_i (s_i (s_i (s_i T1 196 (4 + 5 * c) (nI 0)) 197 (4 + 5 * c) (nI (dc s.2.2.2.2.2.1 (road s c)))) 198 (4 + 5 * c) (nI (mc s.2.2.2.2.2.1 (road s c)))) 199 (4 + 5 * c) (bI (decide (s.2.2.2.2.1 (s.2.2.2.2.2.2 c) = 0)))) 200 (4 + 5 * c) (nI ((road s c).length - 1))) := (FrG.si (FrG.si (FrG.si (FrG.si (FrG.si FrG.rf (by simp) _) (by simp) _) (by simp) _) (by simp) _) (by simp) _)
  refine ⟨h1.tr (hF.A (fun q hq => ?_) (fun a ha => absurd ha List.not_mem_nil)), h2, h3, h4.ofG hF, fun c' hc' => ?_⟩
  · simp at hq; rcases hq with rfl | rfl | rfl | rfl | rfl <;> exact ⟨c, hc, rfl⟩
  · by_cases e : c' = c
    · subst e
      refine ⟨⟨by simp [q_i_i, q_i_l, q_i_ai, q_i_al, q_ai_ai, q_ai_i, q_ai_l, q_ai_al, q_al_al, q_al_i, q_al_ai, q_al_l, q_l_i, q_l_l, q_l_ai, q_l_al, q_r_r, q_r_i, q_r_l, q_r_ai, q_r_al, q_i_r, q_l_r, q_ai_r, q_al_r, q_K_i, q_K_r, q_K_l, q_K_ai, q_K_al, q_len_i, q_len_r, q_len_l, q_len_ai, q_len_al, q_n_i, q_n_r, q_n_l, q_n_ai, q_n_al, q_s_i, q_s_r, q_s_l, q_s_ai, q_s_al], by simp, fun k hk => absurd hk (Nat.not_lt_zero _)⟩, ?_⟩
      unfold TbL TbM
      refine ⟨?_, ?_, ?_, ?_⟩ <;> simp [q_i_i, q_i_l, q_i_ai, q_i_al, q_ai_ai, q_ai_i, q_ai_l, q_ai_al, q_al_al, q_al_i, q_al_ai, q_al_l, q_l_i, q_l_l, q_l_ai, q_l_al, q_r_r, q_r_i, q_r_l, q_r_ai, q_r_al, q_i_r, q_l_r, q_ai_r, q_al_r, q_K_i, q_K_r, q_K_l, q_K_ai, q_K_al, q_len_i, q_len_r, q_len_l, q_len_ai, q_len_al, q_n_i, q_n_r, q_n_l, q_n_ai, q_n_al, q_s_i, q_s_r, q_s_l, q_s_ai, q_s_al]
    · obtain ⟨k1, k2, k3, k4, k5⟩ := h5 c' (by omega)
      refine ⟨k1.ofG hF (by simp; omega) (fun k _ => List.not_mem_nil), ?_⟩
      exact ⟨(hF.i (by simp; omega)).trans k2, (hF.i (by simp; omega)).trans k3, (hF.i (by simp; omega)).trans k4, (hF.i (by simp; omega)).trans k5⟩

set_option maxHeartbeats 4000000 in
theorem l_X7_shape (d : Nat) {T : TH} {A : Nat → Nat → Nat} {cp : Nat → Nat} {cu : Nat} {s : Sh} {en : Nat → Nat} {lo : Nat → Option Nat} (hU : CU T cu s.2.1) (hA : TbA T A cp) (hS : CSp T cu s en lo) (hK : MsK T cu s s.1) (hV : ShV s [] en lo) (hs60 : s.1 ≤ 60) : ∀ (m k : Nat) (T1 : TH), s.2.1 - k = m → k ≤ s.2.1 → Bg T T1 A cp s k → Xe m_X7_shape (d + 2) 58 [(3, .int (nI k)), (0, .ref 0)] [] T1 (fun r T2 => r = some (.int (nI s.2.1)) ∧ Bg T T2 A cp s s.2.1) := by
  intro m
  induction m using Nat.strongRecOn with
  | ind m ih =>
    intro k T1 hm hk hG
    subst hm
    have hFu : FrA (fun x => ∃ c, c < 12 ∧ x = 4 + 5 * c) T T1 := hG.1
    have hno : ∀ a, a < 88 → (a < 4 ∨ 64 ≤ a) → ¬ (∃ c, c < 12 ∧ a = 4 + 5 * c) := fun a h1 h2 ⟨c, h3, h4⟩ => by omega
    have hcu := hU.2.2.1
    have hU1 := hU.ofA hFu hno
    have hS1 := hS.ofA hFu (fun a h1 h2 => hno a (by omega) (by omega))
    have hK1 := hK.ofA hFu (fun a h1 h2 => hno a (by omega) (by omega))
    have h12 := hU.2.2.2.2
    refine xe (fun _ _ kK => x_iload_n dX7_shape_58 rfl 0 rfl kK) ?_
    refine xe (fun _ _ kK => x_aload_n dX7_shape_59 rfl 1 rfl kK) ?_
    refine xe (fun _ _ kK => x_get dX7_shape_60 fl_X7_33 hU1.1.1 (gvl_r1 fz_7_3.2.2 (show e_r T1 451 0 = some cu from hU1.2.1)) kK) ?_
    refine xe (fun _ _ kK => x_get dX7_shape_63 fl_X7_60 (hU1.1.sh hU1.2.2.1).1 (gvl_i fz_1_11.2.2 (show e_i T1 75 cu = nI s.2.1 from hU1.2.2.2.1)) kK) ?_
    refine xe_icmp_ge (tgt := 80) dX7_shape_66 (by decide) (fun h66 => ?_) (fun h66 => ?_)
    · -- pc 80
      have h66 := cv_le (by omega) (by omega) h66
      have ek : k = s.2.1 := by omega
      subst ek
      refine xe (fun _ _ kK => x_aload_n dX7_shape_80 rfl 1 rfl kK) ?_
      refine xe (fun _ _ kK => x_get dX7_shape_81 fl_X7_33 hU1.1.1 (gvl_r1 fz_7_3.2.2 (show e_r T1 451 0 = some cu from hU1.2.1)) kK) ?_
      refine xe (fun _ _ kK => x_get dX7_shape_84 fl_X7_60 (hU1.1.sh hU1.2.2.1).1 (gvl_i fz_1_11.2.2 (show e_i T1 75 cu = nI s.2.1 from hU1.2.2.2.1)) kK) ?_
      exact xe_reti dX7_shape_87 rfl (⟨rfl, hG⟩)
    · -- pc 69
      have h66 := cv_nle (by omega) (by omega) h66
      refine xe (fun _ _ kK => x_aload_n dX7_shape_69 rfl 1 rfl kK) ?_
      refine xe (fun _ _ kK => x_iload_n dX7_shape_70 rfl 0 rfl kK) ?_
      refine xe_callV (a := 0) [.int (nI k)] dX7_shape_71 ml_X7_63 mf_X7_beginTable hU1.1.1 (c_X7_beginTable d hU1 hG.2.2.2.1 hS1 hK1 hV hs60 h66) rfl rfl (Nat.le_of_ble_eq_true rfl) (Nat.le_of_ble_eq_true rfl) ?_
      rintro _ _ ⟨rfl, rfl⟩
      refine xe (fun _ _ kK => x_iinc dX7_shape_74 0 rfl (show (nI k) + Int32.ofInt 1 = nI (k + 1) from nI_add k 1) (by decide) (show _ = [(3, .int (nI (k + 1))), (0, .ref 0)] from rfl) kK) ?_
      refine xe (fun _ _ kK => x_goto (tgt := 58) dX7_shape_77 (by decide) kK) ?_
      exact xe_loc (by simp) (ih (s.2.1 - (k + 1)) (by omega) (k + 1) _ rfl (by omega) (hG.step (by omega)))

set_option maxHeartbeats 4000000 in
theorem c_X7_shape (d : Nat) {T : TH} {A : Nat → Nat → Nat} {cp : Nat → Nat} {cu sp n : Nat} {b : Nat → Nat} (hC : CI T) (h451 : e_r T 451 0 = some cu) (h452 : e_r T 452 0 = some sp) (hcs : (cu = 66 ∧ sp = 77) ∨ (cu = 77 ∧ sp = 66)) (hB : CBt T n b) (hn : e_i T 257 1 = nI n) (hn4 : n ≤ 400) (hA : TbA T A cp) : Xe m_X7_shape (d + 8) 0 [(0, .ref 0)] [] T (fun r T1 => match pShape b n with
      | .inl (k, q) => r = some (.int (-1)) ∧ e_n T1 = e_n T + 1 ∧ e_s T1 = e_s T + 4 ∧ CI T1 ∧ e_i T1 257 1 = nI 0 ∧ FrA (fun x => x = 1 ∨ (sp ≤ x ∧ x ≤ sp + 10) ∨ e_n T ≤ x) T T1 ∧ FailC T1 k q
      | .inr s => r = some (.int (nI s.2.1)) ∧ e_n T1 = e_n T + 1 ∧ e_s T1 = e_s T + 4 ∧ CU T1 sp s.2.1 ∧ e_i T1 257 1 = nI 0 ∧ FrA (fun x => x = 0 ∨ x = 1 ∨ (∃ c, c < 12 ∧ x = 4 + 5 * c) ∨ (sp ≤ x ∧ x ≤ sp + 10) ∨ e_n T ≤ x) T T1 ∧ e_i T1 259 1 = nI 0 ∧ e_i T1 260 1 = -1 ∧ e_r T1 452 0 = some cu ∧ e_i T1 453 0 = nI 0 ∧ ∃ en lo, CSp T1 sp s en lo ∧ MsK T1 sp s s.1 ∧ ShV s [] en lo ∧ (∃ p', PI n p' s []) ∧ s.1 ≠ 0 ∧ TbA T1 A cp ∧ ∀ c, c < s.2.1 → TbR T1 A cp c [] ∧ TbL T1 s c) := by
  refine xe (fun _ _ kK => x_new dX7_shape_0 kc_X7_51 kK) ?_
  have hA0 : FrA (fun x => x = e_n T) T (s_new T (2 + 1) (nfd 2)) := FrA.rf.new rfl
  have hK0 : e_K (s_new T (2 + 1) (nfd 2)) (e_n T) = 3 := sn_K
  have hn0 : e_n (s_new T (2 + 1) (nfd 2)) = e_n T + 1 := rfl
  have hs0 : e_s (s_new T (2 + 1) (nfd 2)) = e_s T + 4 := rfl
  have h120 := hA.2.2.2
  have hC0 := hC.ofA hA0 (fun a h1 h2 => by omega)
  have hTA0 := hA.ofA hA0 (fun c hc => by omega) (fun c k hc hk => by have := (hA.2.1 c k hc hk).2.2.2.1; omega)
  have hB0 := hB.ofA hA0 (by omega)
  have h451a := (hA0.r (g := 451) (show ¬ 0 = e_n T by omega)).trans h451
  have h452a := (hA0.r (g := 452) (show ¬ 0 = e_n T by omega)).trans h452
  have hna := (hA0.i (g := 257) (show ¬ 1 = e_n T by omega)).trans hn
  generalize hT0 : s_new T (2 + 1) (nfd 2) = T0 at hA0 hK0 hn0 hs0 hC0 hTA0 hB0 h451a h452a hna ⊢
  generalize hrd : e_n T = rd at hA0 hK0 hn0 h120 ⊢
  refine xe (fun _ _ kK => x_dup dX7_shape_3 rfl kK) ?_
  refine xe (fun _ _ kK => x_aload_n dX7_shape_4 rfl 0 rfl kK) ?_
  refine xe (fun _ _ kK => x_get dX7_shape_5 fl_X7_12 hC0.1 (gvl_r1 fz_7_0.2.2 (show e_r T0 448 0 = some 1 from hC0.2.1)) kK) ?_
  refine xe (fun _ _ kK => x_aload_n dX7_shape_8 rfl 0 rfl kK) ?_
  refine xe (fun _ _ kK => x_get dX7_shape_9 fl_X7_37 hC0.1 (gvl_r1 fz_7_4.2.2 (show e_r T0 452 0 = some sp from h452a)) kK) ?_
  refine xe_callI (a := rd) [.ref 1, .ref sp] dX7_shape_12 ml_X7_53 mf_X2_init (c_X2_init (d + 6) hK0) rfl rfl (Nat.le_of_ble_eq_true rfl) (Nat.le_of_ble_eq_true rfl) ?_
  rintro _ _ ⟨rfl, rfl⟩
  have hA1 : FrA (fun x => x = rd) T0 (s_i (s_i (s_r (s_r T0 128 rd (some 1)) 129 rd (some sp)) 130 rd (-1)) 131 rd (nI 0)) := ((((FrA.rf (S := fun x => x = rd)).sr rfl _ _).sr rfl _ _).si rfl _ _).si rfl _ _
  have hR1 : RC (s_i (s_i (s_r (s_r T0 128 rd (some 1)) 129 rd (some sp)) 130 rd (-1)) 131 rd (nI 0)) rd sp [] := ⟨hK0, by simp [q_i_i, q_i_l, q_i_ai, q_i_al, q_ai_ai, q_ai_i, q_ai_l, q_ai_al, q_al_al, q_al_i, q_al_ai, q_al_l, q_l_i, q_l_l, q_l_ai, q_l_al, q_r_r, q_r_i, q_r_l, q_r_ai, q_r_al, q_i_r, q_l_r, q_ai_r, q_al_r, q_K_i, q_K_r, q_K_l, q_K_ai, q_K_al, q_len_i, q_len_r, q_len_l, q_len_ai, q_len_al, q_n_i, q_n_r, q_n_l, q_n_ai, q_n_al, q_s_i, q_s_r, q_s_l, q_s_ai, q_s_al], by simp [q_i_i, q_i_l, q_i_ai, q_i_al, q_ai_ai, q_ai_i, q_ai_l, q_ai_al, q_al_al, q_al_i, q_al_ai, q_al_l, q_l_i, q_l_l, q_l_ai, q_l_al, q_r_r, q_r_i, q_r_l, q_r_ai, q_r_al, q_i_r, q_l_r, q_ai_r, q_al_r, q_K_i, q_K_r, q_K_l, q_K_ai, q_K_al, q_len_i, q_len_r, q_len_l, q_len_ai, q_len_al, q_n_i, q_n_r, q_n_l, q_n_ai, q_n_al, q_s_i, q_s_r, q_s_l, q_s_ai, q_s_al], by simp [q_i_i, q_i_l, q_i_ai, q_i_al, q_ai_ai, q_ai_i, q_ai_l, q_ai_al, q_al_al, q_al_i, q_al_ai, q_al_l, q_l_i, q_l_l, q_l_ai, q_l_al, q_r_r, q_r_i, q_r_l, q_r_ai, q_r_al, q_i_r, q_l_r, q_ai_r, q_al_r, q_K_i, q_K_r, q_K_l, q_K_ai, q_K_al, q_len_i, q_len_r, q_len_l, q_len_ai, q_len_al, q_n_i, q_n_r, q_n_l, q_n_ai, q_n_al, q_s_i, q_s_r, q_s_l, q_s_ai, q_s_al]; rfl, by simp [q_i_i, q_i_l, q_i_ai, q_i_al, q_ai_ai, q_ai_i, q_ai_l, q_ai_al, q_al_al, q_al_i, q_al_ai, q_al_l, q_l_i, q_l_l, q_l_ai, q_l_al, q_r_r, q_r_i, q_r_l, q_r_ai, q_r_al, q_i_r, q_l_r, q_ai_r, q_al_r, q_K_i, q_K_r, q_K_l, q_K_ai, q_K_al, q_len_i, q_len_r, q_len_l, q_len_ai, q_len_al, q_n_i, q_n_r, q_n_l, q_n_ai, q_n_al, q_s_i, q_s_r, q_s_l, q_s_ai, q_s_al]⟩
  have hn1 : e_n (s_i (s_i (s_r (s_r T0 128 rd (some 1)) 129 rd (some sp)) 130 rd (-1)) 131 rd (nI 0)) = e_n T0 := rfl
  have hs1 : e_s (s_i (s_i (s_r (s_r T0 128 rd (some 1)) 129 rd (some sp)) 130 rd (-1)) 131 rd (nI 0)) = e_s T0 := rfl
  have hsp : sp = 66 ∨ sp = 77 := by omega
  generalize hT1 : (s_i (s_i (s_r (s_r T0 128 rd (some 1)) 129 rd (some sp)) 130 rd (-1)) 131 rd (nI 0)) = T1 at hA1 hR1 hn1 hs1 ⊢
  have hC1 := hC0.ofA hA1 (fun a h1 h2 => by omega)
  have hB1 := hB0.ofA hA1 (by omega)
  have hTA1 := hTA0.ofA hA1 (fun c hc => by omega) (fun c k hc hk => by have := (hA.2.1 c k hc hk).2.2.2.1; omega)
  have h451b := (hA1.r (g := 451) (show ¬ 0 = rd by omega)).trans h451a
  have h452b := (hA1.r (g := 452) (show ¬ 0 = rd by omega)).trans h452a
  have hnb := (hA1.i (g := 257) (show ¬ 1 = rd by omega)).trans hna
  refine xe_callV (a := rd) [] dX7_shape_15 ml_X7_56 mf_X2_readAll hR1.1 (c_X2_readAll (d + 0) hC1 hB1 hnb hn4 hR1 (by omega) hsp) rfl rfl (Nat.le_of_ble_eq_true rfl) (Nat.le_of_ble_eq_true rfl) ?_
  intro r2 T2 h2
  obtain ⟨hF2, hP2⟩ := h2
  have hC2 := hF2.ci hC1
  have hTA2 := hTA1.ofG hF2
  have h451c : e_r T2 451 0 = some cu := by rw [hF2.2.1]; exact h451b
  have h452c : e_r T2 452 0 = some sp := by rw [hF2.2.1]; exact h452b
  have hS2 : FrA (fun x => x = 1 ∨ (sp ≤ x ∧ x ≤ sp + 10) ∨ rd ≤ x) T T2 := (hA0.mono (fun x hx => by omega)).tr ((hA1.mono (fun x hx => by omega)).tr (hF2.A (fun q hq => by simp at hq; rcases hq with rfl | rfl | rfl | rfl | rfl | rfl | rfl | rfl | rfl | rfl <;> simp) (fun a ha => by simp at ha; omega)))
  have hn2 : e_n T2 = rd + 1 := by rw [hF2.2.2.2.2.1, hn1, hn0]
  have hs2 : e_s T2 = e_s T + 4 := by rw [hF2.2.2.2.2.2.1, hs1, hs0]
  cases hps : pShape b n with
  | inl z =>
    obtain ⟨k9, q9⟩ := z
    rw [hps] at hP2
    obtain ⟨rfl, hE2⟩ := hP2
    refine xe (fun _ _ kK => x_istore_n dX7_shape_18 rfl (by decide) (show _ = [(1, .int (nI 0)), (0, .ref 0)] from rfl) kK) ?_
    refine xe (fun _ _ kK => x_aload_n dX7_shape_19 rfl 1 rfl kK) ?_
    refine xe (fun _ _ kK => x_get dX7_shape_20 fl_X7_12 hC2.1 (gvl_r1 fz_7_0.2.2 (show e_r T2 448 0 = some 1 from hC2.2.1)) kK) ?_
    refine xe (fun _ _ kK => x_iconst dX7_shape_23 (show _ = nI 0 by decide) kK) ?_
    refine xe (fun _ _ kK => x_puti dX7_shape_24 ⟨fl_X7_44, fz_4_1.1, fz_4_1.2.1⟩ (Or.inl fz_4_1.2.2) rfl rfl hC2.2.2.2.2.1 kK) ?_
    refine xe (fun _ _ kK => x_iload_n dX7_shape_27 rfl 0 rfl kK) ?_
    refine xe (fun _ _ kK => x_if_neF (tgt := 33) dX7_shape_28 (by decide) nI_0 kK) ?_
    refine xe (fun _ _ kK => x_iconst dX7_shape_31 (show _ = (-1) by decide) kK) ?_
    have hF3 : FrG [(257, 1)] [] T2 (s_i T2 257 1 (nI 0)) := (FrG.si FrG.rf (by simp) _)
    exact xe_reti dX7_shape_32 rfl (⟨rfl, hn2, hs2, hF3.ci hC2, by simp [q_i_i, q_i_l, q_i_ai, q_i_al, q_ai_ai, q_ai_i, q_ai_l, q_ai_al, q_al_al, q_al_i, q_al_ai, q_al_l, q_l_i, q_l_l, q_l_ai, q_l_al, q_r_r, q_r_i, q_r_l, q_r_ai, q_r_al, q_i_r, q_l_r, q_ai_r, q_al_r, q_K_i, q_K_r, q_K_l, q_K_ai, q_K_al, q_len_i, q_len_r, q_len_l, q_len_ai, q_len_al, q_n_i, q_n_r, q_n_l, q_n_ai, q_n_al, q_s_i, q_s_r, q_s_l, q_s_ai, q_s_al], hS2.tr (hF3.A (fun q hq => by simp at hq; rw [hq]; simp) (fun a ha => absurd ha List.not_mem_nil)), ⟨(hF3.i (by decide)).trans hE2.1, (hF3.i (by decide)).trans hE2.2⟩⟩)
  | inr s =>
    rw [hps] at hP2
    obtain ⟨rfl, hE1, hE2, en, lo, hSp, hV, hK9, p9, hPI9, hs9⟩ := hP2
    have hMe := MeOk.of hPI9 hV
    have hc12 : s.2.1 ≤ 12 := hPI9.2.2.2.2.1
    refine xe (fun _ _ kK => x_istore_n dX7_shape_18 rfl (by decide) (show _ = [(1, .int (nI 1)), (0, .ref 0)] from rfl) kK) ?_
    refine xe (fun _ _ kK => x_aload_n dX7_shape_19 rfl 1 rfl kK) ?_
    refine xe (fun _ _ kK => x_get dX7_shape_20 fl_X7_12 hC2.1 (gvl_r1 fz_7_0.2.2 (show e_r T2 448 0 = some 1 from hC2.2.1)) kK) ?_
    refine xe (fun _ _ kK => x_iconst dX7_shape_23 (show _ = nI 0 by decide) kK) ?_
    refine xe (fun _ _ kK => x_puti dX7_shape_24 ⟨fl_X7_44, fz_4_1.1, fz_4_1.2.1⟩ (Or.inl fz_4_1.2.2) rfl rfl hC2.2.2.2.2.1 kK) ?_
    refine xe (fun _ _ kK => x_iload_n dX7_shape_27 rfl 0 rfl kK) ?_
    refine xe (fun _ _ kK => x_if_neT (tgt := 33) dX7_shape_28 (by decide) (show ¬ nI 1 = 0 by decide) kK) ?_
    refine xe (fun _ _ kK => x_aload_n dX7_shape_33 rfl 1 rfl kK) ?_
    refine xe (fun _ _ kK => x_get dX7_shape_34 fl_X7_33 (wK_i hC2.1) (gvl_r1 fz_7_3.2.2 (show e_r (s_i T2 257 1 (nI 0)) 451 0 = some cu from (wr_i h451c))) kK) ?_
    refine xe (fun _ _ kK => x_astore_n dX7_shape_37 rfl (by decide) (show _ = [(2, .ref cu), (1, .int (nI 1)), (0, .ref 0)] from rfl) kK) ?_
    refine xe (fun _ _ kK => x_aload_n dX7_shape_38 rfl 2 rfl kK) ?_
    refine xe (fun _ _ kK => x_aload_n dX7_shape_39 rfl 2 rfl kK) ?_
    refine xe (fun _ _ kK => x_get dX7_shape_40 fl_X7_37 (wK_i hC2.1) (gvl_r1 fz_7_4.2.2 (show e_r (s_i T2 257 1 (nI 0)) 452 0 = some sp from (wr_i h452c))) kK) ?_
    refine xe (fun _ _ kK => x_putr dX7_shape_43 ⟨fl_X7_33, fz_7_3.1, fz_7_3.2.1⟩ fz_7_3.2.2 (fun _ => rfl) (fun _ => rfl) (wK_i hC2.1) kK) ?_
    refine xe (fun _ _ kK => x_aload_n dX7_shape_46 rfl 2 rfl kK) ?_
    refine xe (fun _ _ kK => x_aload_n dX7_shape_47 rfl 0 rfl kK) ?_
    refine xe (fun _ _ kK => x_putr dX7_shape_48 ⟨fl_X7_37, fz_7_4.1, fz_7_4.2.1⟩ fz_7_4.2.2 (fun _ => rfl) (fun _ => rfl) (wK_r (wK_i hC2.1)) kK) ?_
    refine xe (fun _ _ kK => x_aload_n dX7_shape_51 rfl 2 rfl kK) ?_
    refine xe (fun _ _ kK => x_iconst dX7_shape_52 (show _ = nI 0 by decide) kK) ?_
    refine xe (fun _ _ kK => x_puti dX7_shape_53 ⟨fl_X7_40, fz_7_5.1, fz_7_5.2.1⟩ (Or.inl fz_7_5.2.2) rfl rfl (wK_r (wK_r (wK_i hC2.1))) kK) ?_
    refine xe (fun _ _ kK => x_iconst dX7_shape_56 (show _ = nI 0 by decide) kK) ?_
    refine xe (fun _ _ kK => x_istore_n dX7_shape_57 rfl (by decide) (show _ = [(3, .int (nI 0)), (2, .ref cu), (1, .int (nI 1)), (0, .ref 0)] from rfl) kK) ?_
    have hA3 : FrA (fun x => x = 0 ∨ x = 1) T2 (s_i (s_r (s_r (s_i T2 257 1 (nI 0)) 451 0 (some sp)) 452 0 (some cu)) 453 0 (nI 0)) := ((((FrA.rf (S := fun x => x = 0 ∨ x = 1)).si (Or.inr rfl) _ _).sr (Or.inl rfl) _ _).sr (Or.inl rfl) _ _).si (Or.inl rfl) _ _
    obtain ⟨c1, c2, c3, c4, c5, c6, c7, c8, c9, c10, c11, c12, c13, c14, c15, c16, c17⟩ := hC2
    have hC3 : CI (s_i (s_r (s_r (s_i T2 257 1 (nI 0)) 451 0 (some sp)) 452 0 (some cu)) 453 0 (nI 0)) := ⟨c1, by simp [q_i_i, q_i_l, q_i_ai, q_i_al, q_ai_ai, q_ai_i, q_ai_l, q_ai_al, q_al_al, q_al_i, q_al_ai, q_al_l, q_l_i, q_l_l, q_l_ai, q_l_al, q_r_r, q_r_i, q_r_l, q_r_ai, q_r_al, q_i_r, q_l_r, q_ai_r, q_al_r, q_K_i, q_K_r, q_K_l, q_K_ai, q_K_al, q_len_i, q_len_r, q_len_l, q_len_ai, q_len_al, q_n_i, q_n_r, q_n_l, q_n_ai, q_n_al, q_s_i, q_s_r, q_s_l, q_s_ai, q_s_al]; exact c2, by simp [q_i_i, q_i_l, q_i_ai, q_i_al, q_ai_ai, q_ai_i, q_ai_l, q_ai_al, q_al_al, q_al_i, q_al_ai, q_al_l, q_l_i, q_l_l, q_l_ai, q_l_al, q_r_r, q_r_i, q_r_l, q_r_ai, q_r_al, q_i_r, q_l_r, q_ai_r, q_al_r, q_K_i, q_K_r, q_K_l, q_K_ai, q_K_al, q_len_i, q_len_r, q_len_l, q_len_ai, q_len_al, q_n_i, q_n_r, q_n_l, q_n_ai, q_n_al, q_s_i, q_s_r, q_s_l, q_s_ai, q_s_al]; exact c3, by simp [q_i_i, q_i_l, q_i_ai, q_i_al, q_ai_ai, q_ai_i, q_ai_l, q_ai_al, q_al_al, q_al_i, q_al_ai, q_al_l, q_l_i, q_l_l, q_l_ai, q_l_al, q_r_r, q_r_i, q_r_l, q_r_ai, q_r_al, q_i_r, q_l_r, q_ai_r, q_al_r, q_K_i, q_K_r, q_K_l, q_K_ai, q_K_al, q_len_i, q_len_r, q_len_l, q_len_ai, q_len_al, q_n_i, q_n_r, q_n_l, q_n_ai, q_n_al, q_s_i, q_s_r, q_s_l, q_s_ai, q_s_al]; exact c4, c5, by simp [q_i_i, q_i_l, q_i_ai, q_i_al, q_ai_ai, q_ai_i, q_ai_l, q_ai_al, q_al_al, q_al_i, q_al_ai, q_al_l, q_l_i, q_l_l, q_l_ai, q_l_al, q_r_r, q_r_i, q_r_l, q_r_ai, q_r_al, q_i_r, q_l_r, q_ai_r, q_al_r, q_K_i, q_K_r, q_K_l, q_K_ai, q_K_al, q_len_i, q_len_r, q_len_l, q_len_ai, q_len_al, q_n_i, q_n_r, q_n_l, q_n_ai, q_n_al, q_s_i, q_s_r, q_s_l, q_s_ai, q_s_al]; exact c6, c7, c8, c9, c10, c11, c12, by simp [q_i_i, q_i_l, q_i_ai, q_i_al, q_ai_ai, q_ai_i, q_ai_l, q_ai_al, q_al_al, q_al_i, q_al_ai, q_al_l, q_l_i, q_l_l, q_l_ai, q_l_al, q_r_r, q_r_i, q_r_l, q_r_ai, q_r_al, q_i_r, q_l_r, q_ai_r, q_al_r, q_K_i, q_K_r, q_K_l, q_K_ai, q_K_al, q_len_i, q_len_r, q_len_l, q_len_ai, q_len_al, q_n_i, q_n_r, q_n_l, q_n_ai, q_n_al, q_s_i, q_s_r, q_s_l, q_s_ai, q_s_al]; exact c13, c14, c15, c16.ofA hA3 (fun a h1 h2 => by omega), c17.ofA hA3 (fun a h1 h2 => by omega)⟩
    have hU3 : CU (s_i (s_r (s_r (s_i T2 257 1 (nI 0)) 451 0 (some sp)) 452 0 (some cu)) 453 0 (nI 0)) sp s.2.1 := ⟨hC3, by simp [q_i_i, q_i_l, q_i_ai, q_i_al, q_ai_ai, q_ai_i, q_ai_l, q_ai_al, q_al_al, q_al_i, q_al_ai, q_al_l, q_l_i, q_l_l, q_l_ai, q_l_al, q_r_r, q_r_i, q_r_l, q_r_ai, q_r_al, q_i_r, q_l_r, q_ai_r, q_al_r, q_K_i, q_K_r, q_K_l, q_K_ai, q_K_al, q_len_i, q_len_r, q_len_l, q_len_ai, q_len_al, q_n_i, q_n_r, q_n_l, q_n_ai, q_n_al, q_s_i, q_s_r, q_s_l, q_s_ai, q_s_al], hsp, (hA3.i (by omega)).trans hSp.2.2.1, hc12⟩
    have hTA3 : TbA (s_i (s_r (s_r (s_i T2 257 1 (nI 0)) 451 0 (some sp)) 452 0 (some cu)) 453 0 (nI 0)) A cp := hTA2.ofA hA3 (fun c hc => by omega) (fun c k hc hk => by have := (hA.2.1 c k hc hk).2.2.2.2; omega)
    have hSp3 : CSp (s_i (s_r (s_r (s_i T2 257 1 (nI 0)) 451 0 (some sp)) 452 0 (some cu)) 453 0 (nI 0)) sp s en lo := hSp.ofA hA3 (fun a h1 h2 => by omega)
    have hK3 : MsK (s_i (s_r (s_r (s_i T2 257 1 (nI 0)) 451 0 (some sp)) 452 0 (some cu)) 453 0 (nI 0)) sp s s.1 := hK9.ofA hA3 (fun a h1 h2 => by omega)
    have z257 : e_i (s_i (s_r (s_r (s_i T2 257 1 (nI 0)) 451 0 (some sp)) 452 0 (some cu)) 453 0 (nI 0)) 257 1 = nI 0 := by simp [q_i_i, q_i_l, q_i_ai, q_i_al, q_ai_ai, q_ai_i, q_ai_l, q_ai_al, q_al_al, q_al_i, q_al_ai, q_al_l, q_l_i, q_l_l, q_l_ai, q_l_al, q_r_r, q_r_i, q_r_l, q_r_ai, q_r_al, q_i_r, q_l_r, q_ai_r, q_al_r, q_K_i, q_K_r, q_K_l, q_K_ai, q_K_al, q_len_i, q_len_r, q_len_l, q_len_ai, q_len_al, q_n_i, q_n_r, q_n_l, q_n_ai, q_n_al, q_s_i, q_s_r, q_s_l, q_s_ai, q_s_al]
    have z259 : e_i (s_i (s_r (s_r (s_i T2 257 1 (nI 0)) 451 0 (some sp)) 452 0 (some cu)) 453 0 (nI 0)) 259 1 = nI 0 := by simp [q_i_i, q_i_l, q_i_ai, q_i_al, q_ai_ai, q_ai_i, q_ai_l, q_ai_al, q_al_al, q_al_i, q_al_ai, q_al_l, q_l_i, q_l_l, q_l_ai, q_l_al, q_r_r, q_r_i, q_r_l, q_r_ai, q_r_al, q_i_r, q_l_r, q_ai_r, q_al_r, q_K_i, q_K_r, q_K_l, q_K_ai, q_K_al, q_len_i, q_len_r, q_len_l, q_len_ai, q_len_al, q_n_i, q_n_r, q_n_l, q_n_ai, q_n_al, q_s_i, q_s_r, q_s_l, q_s_ai, q_s_al]; exact hE1
    have z260 : e_i (s_i (s_r (s_r (s_i T2 257 1 (nI 0)) 451 0 (some sp)) 452 0 (some cu)) 453 0 (nI 0)) 260 1 = -1 := by simp [q_i_i, q_i_l, q_i_ai, q_i_al, q_ai_ai, q_ai_i, q_ai_l, q_ai_al, q_al_al, q_al_i, q_al_ai, q_al_l, q_l_i, q_l_l, q_l_ai, q_l_al, q_r_r, q_r_i, q_r_l, q_r_ai, q_r_al, q_i_r, q_l_r, q_ai_r, q_al_r, q_K_i, q_K_r, q_K_l, q_K_ai, q_K_al, q_len_i, q_len_r, q_len_l, q_len_ai, q_len_al, q_n_i, q_n_r, q_n_l, q_n_ai, q_n_al, q_s_i, q_s_r, q_s_l, q_s_ai, q_s_al]; exact hE2
    have z452 : e_r (s_i (s_r (s_r (s_i T2 257 1 (nI 0)) 451 0 (some sp)) 452 0 (some cu)) 453 0 (nI 0)) 452 0 = some cu := by simp [q_i_i, q_i_l, q_i_ai, q_i_al, q_ai_ai, q_ai_i, q_ai_l, q_ai_al, q_al_al, q_al_i, q_al_ai, q_al_l, q_l_i, q_l_l, q_l_ai, q_l_al, q_r_r, q_r_i, q_r_l, q_r_ai, q_r_al, q_i_r, q_l_r, q_ai_r, q_al_r, q_K_i, q_K_r, q_K_l, q_K_ai, q_K_al, q_len_i, q_len_r, q_len_l, q_len_ai, q_len_al, q_n_i, q_n_r, q_n_l, q_n_ai, q_n_al, q_s_i, q_s_r, q_s_l, q_s_ai, q_s_al]
    have z453 : e_i (s_i (s_r (s_r (s_i T2 257 1 (nI 0)) 451 0 (some sp)) 452 0 (some cu)) 453 0 (nI 0)) 453 0 = nI 0 := by simp [q_i_i, q_i_l, q_i_ai, q_i_al, q_ai_ai, q_ai_i, q_ai_l, q_ai_al, q_al_al, q_al_i, q_al_ai, q_al_l, q_l_i, q_l_l, q_l_ai, q_l_al, q_r_r, q_r_i, q_r_l, q_r_ai, q_r_al, q_i_r, q_l_r, q_ai_r, q_al_r, q_K_i, q_K_r, q_K_l, q_K_ai, q_K_al, q_len_i, q_len_r, q_len_l, q_len_ai, q_len_al, q_n_i, q_n_r, q_n_l, q_n_ai, q_n_al, q_s_i, q_s_r, q_s_l, q_s_ai, q_s_al]
    have zn : e_n (s_i (s_r (s_r (s_i T2 257 1 (nI 0)) 451 0 (some sp)) 452 0 (some cu)) 453 0 (nI 0)) = e_n T2 := rfl
    have zs : e_s (s_i (s_r (s_r (s_i T2 257 1 (nI 0)) 451 0 (some sp)) 452 0 (some cu)) 453 0 (nI 0)) = e_s T2 := rfl
    generalize hT3 : (s_i (s_r (s_r (s_i T2 257 1 (nI 0)) 451 0 (some sp)) 452 0 (some cu)) 453 0 (nI 0)) = T3 at hA3 hC3 hU3 hTA3 hSp3 hK3 z257 z259 z260 z452 z453 zn zs ⊢
    refine Xe.imp (xe_loc (by simp) (l_X7_shape (d + 6) hU3 hTA3 hSp3 hK3 hV hMe.1 s.2.1 0 T3 rfl (Nat.zero_le _) ⟨FrA.rf, rfl, rfl, hTA3, fun c hc => absurd hc (Nat.not_lt_zero _)⟩)) ?_
    rintro _ T4 ⟨rfl, hB4⟩
    have hno : ∀ a, a < 88 → (a < 4 ∨ 64 ≤ a) → ¬ (∃ c, c < 12 ∧ a = 4 + 5 * c) := fun a h1 h2 ⟨c, h3, h4⟩ => by omega
    have h0 := hno 0 (by omega) (by omega)
    have h1 := hno 1 (by omega) (by omega)
    have hU4 := hU3.ofA hB4.1 hno
    refine ⟨rfl, ?_, ?_, hU4, (hB4.1.i h1).trans z257, ?_, (hB4.1.i h1).trans z259, (hB4.1.i h1).trans z260, (hB4.1.r h0).trans z452, (hB4.1.i h0).trans z453, en, lo, hSp3.ofA hB4.1 (fun a h1 h2 => hno a (by omega) (by omega)), hK3.ofA hB4.1 (fun a h1 h2 => hno a (by omega) (by omega)), hV, ⟨p9, hPI9⟩, hs9, hB4.2.2.2⟩
    · rw [hB4.2.1, zn, hn2]
    · rw [hB4.2.2.1, zs, hs2]
    · exact (hS2.mono (fun x hx => by omega)).tr ((hA3.mono (fun x hx => by omega)).tr (hB4.1.mono (fun x hx => Or.inr (Or.inr (Or.inl hx)))))
