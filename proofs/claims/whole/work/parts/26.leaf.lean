/-! the reference's answers about leaves -/
def upF (W : Nat → Option Nat) : Nat → Option Nat → List Nat
  | 0, _ => []
  | _ + 1, none => []
  | k + 1, some f => f :: upF W k (W f)
def rdl (s : Sh) (c : Nat) : List Nat := upF s.2.2.1 6 (some (s.2.2.2.2.2.2 c))
def road (s : Sh) (c : Nat) : List Nat := (rdl s c).reverse
/-- a SHAPE as the answers need it -/
def SG (s : Sh) : Prop := ShB s ∧ s.2.1 ≤ 12 ∧ (∃ dp, ShD s dp) ∧ ∀ c, c < s.2.1 → Chn s.2.2.1 (some (s.2.2.2.2.2.2 c)) (rdl s c) ∧ (∀ f ∈ rdl s c, f < s.1) ∧ (rdl s c).length ≤ 5 ∧ s.2.2.2.2.2.2 c < s.1
def tOf (s : Sh) (ps : PS) (c : Nat) : List Row := tbl s.2.2.2.2.2.1 (road s c) ps.2 ps.1
def PG (s : Sh) (ps : PS) : Prop := PpOk s ps ∧ ∀ c, c < s.2.1 → RwOk (tOf s ps c)
/-- the reference with a SHAPE and PAPERS -/
def MQh (T : TH) (s : Sh) (ps : PS) : Prop := MI T ∧ e_i T 525 88 = nI 1 ∧ MSh T s ∧ SG s ∧ MP T ps ∧ PG s ps
theorem MQh.of {fs as : List Nat} {T T1 : TH} {s : Sh} {ps : PS} (h : MQh T s ps) (hF : FrM fs as T T1) (h1 : ∀ f ∈ fs, f ∉ [525, 526, 527, 543]) (h2 : ∀ a ∈ as, a ∉ [90, 91, 92, 93, 94, 102, 103, 104, 105]) : MQh T1 s ps := by
  obtain ⟨k1, k2, k3, k4, k5, k6⟩ := h
  have q1 : ∀ f ∈ [525, 526, 527, 543], f ∉ fs := fun f hf z => h1 f z hf
  have q2 : ∀ a ∈ [90, 91, 92, 93, 94, 102, 103, 104, 105], a ∉ as := fun a ha z => h2 a z ha
  refine ⟨hF.mi k1, (hF.i (fun z => q1 525 (by decide) z.2)).trans k2, k3.of hF (q1 526 (by decide)) (q1 527 (by decide)) (fun a ha z => h2 a ha (by revert z; simp; omega)), k4, k5.ofF hF (q1 543 (by decide)) (q2 102 (by decide)) (q2 103 (by decide)) (q2 104 (by decide)) (q2 105 (by decide)), k6⟩
theorem c_X8_table' (d : Nat) {T : TH} {s : Sh} {ps : PS} {c : Nat} (h : MQh T s ps) (hc : c < s.2.1) : Xe m_X8_table (d + 1) 0 [(0, .ref 88), (1, .int (nI c))] [] T (fun r9 T1 => r9 = none ∧ FrM fsTb asTb T T1 ∧ RD T1 (road s c) ∧ MRw T1 (tOf s ps c)) := by
  obtain ⟨k1, k2, k3, k4, k5, k6⟩ := h
  obtain ⟨j1, j2, j3, -⟩ := k4.2.2.2 c hc
  exact c_X8_table d k1 k3 k4.1 k5 k6.1 hc k4.2.1 j1 j2 j3 (k6.2 c hc).1
def lgF (n : Nat) : Nat → Nat → Nat
  | 0, b => b
  | f + 1, b => if 2 ^ b < n then lgF n f (b + 1) else b
/-- the least b with n not above 2 to the b -/
def lgc (n : Nat) : Nat := lgF n 20 0
theorem lgF_out {n b : Nat} (h : n ≤ 2 ^ b) : ∀ f, lgF n f b = b := by
  intro f
  cases f with
  | zero => rfl
  | succ f => show (if 2 ^ b < n then _ else b) = b; rw [if_neg (by omega)]
noncomputable def sizeR (R : List Row) (again deep : Nat) : Nat := 8 * cI (vP R true) R.length + (lgc (cI (vP R true) R.length) * cI (vP R false) R.length + 7) / 8 + (if again = 0 then 0 else 2 * cI (rP (fun k => (rowAt R k).1)) R.length) + (if deep = 0 then 0 else 2 * cI (rP (fun k => (rowAt R k).2.1)) R.length)
theorem pow13 {b : Nat} (h : b ≤ 13) : 2 ^ b ≤ 8192 := Nat.le_trans (Nat.pow_le_pow_right (by omega) h) (by decide)
theorem shl1 {b : Nat} (h : b ≤ 13) : nI 1 <<< (nI b &&& 31) = nI (2 ^ b) := by
  have H : ∀ k, k < 14 → nI 1 <<< (nI k &&& 31) = nI (2 ^ k) := by decide
  exact H b (by omega)

set_option maxHeartbeats 4000000 in
theorem l_X8_size (d : Nat) {T : TH} {u : Nat} {P : Option Value → TH → Prop} (hM : MI T) (hu : u ≤ 6300) : ∀ (m b : Nat), 14 ≤ m + b → b ≤ 13 → Xe m_X8_sizeOf d 21 [(2, .int (nI (lgF u m b))), (1, .int (nI u)), (0, .ref 88)] [] T P → Xe m_X8_sizeOf d 8 [(2, .int (nI b)), (1, .int (nI u)), (0, .ref 88)] [] T P := by
  intro m
  induction m with
  | zero => intro b hm hb; exact absurd hm (by omega)
  | succ m ih =>
    intro b hm hb hno
    have hp := pow13 hb
    refine xe (fun _ _ kK => x_iconst dX8_sizeOf_8 (show _ = nI 1 by decide) kK) ?_
    refine xe (fun _ _ kK => x_iload_n dX8_sizeOf_9 rfl 0 rfl kK) ?_
    refine xe (fun _ _ kK => x_ishl dX8_sizeOf_10 kK) ?_
    refine xe_ti (show _ = nI (2 ^ b) from shl1 hb) ?_
    refine xe (fun _ _ kK => x_iload_n dX8_sizeOf_11 rfl 1 rfl kK) ?_
    refine xe_icmp_ge (tgt := 21) dX8_sizeOf_12 (by decide) (fun h12 => ?_) (fun h12 => ?_)
    · -- pc 21
      have h12 := cv_le (by omega) (by omega) h12
      rw [lgF_out h12] at hno
      exact hno
    · -- pc 15
      have h12 := cv_nle (by omega) (by omega) h12
      have hb12 : b ≤ 12 := by
        rcases Nat.lt_or_ge 12 b with z | z
        · exfalso; have e9 : b = 13 := by omega
          subst e9; have : 2 ^ 13 = 8192 := by decide
          omega
        · exact z
      refine xe (fun _ _ kK => x_iinc dX8_sizeOf_15 0 rfl (show (nI b) + Int32.ofInt 1 = nI (b + 1) from nI_add b 1) (by decide) (show _ = [(2, .int (nI (b + 1))), (1, .int (nI u)), (0, .ref 88)] from rfl) kK) ?_
      refine xe (fun _ _ kK => x_goto (tgt := 8) dX8_sizeOf_18 (by decide) kK) ?_
      have hst : lgF u (m + 1) b = lgF u m (b + 1) := by show (if 2 ^ b < u then _ else b) = _; rw [if_pos h12]
      rw [hst] at hno
      exact xe_loc (by simp) (ih (b + 1) (by omega) (by omega) hno)

theorem lgF_le {n : Nat} (h : n ≤ 6300) : ∀ (f b : Nat), b ≤ 13 → lgF n f b ≤ 13 := by
  intro f
  induction f with
  | zero => intro b hb; exact hb
  | succ f ih =>
    intro b hb
    show (if 2 ^ b < n then lgF n f (b + 1) else b) ≤ 13
    split
    · rename_i z
      rcases Nat.lt_or_ge 12 b with q | q
      · exfalso; have e9 : b = 13 := by omega
        subst e9; have : 2 ^ 13 = 8192 := by decide
        omega
      · exact ih (b + 1) (by omega)
    · exact hb

set_option maxHeartbeats 4000000 in
theorem c_X8_sizeOf (d : Nat) {T : TH} {s : Sh} {r : List Nat} {R : List Row} (hM : MI T) (hS : MSh T s) (hB : ShB s) (hD : RD T r) (hlt : ∀ f ∈ r, f < s.1) (hr5 : r.length ≤ 5) (hr0 : 0 < r.length) (hR : MRw T R) (hO : RwOk R) : Xe m_X8_sizeOf (d + 2) 0 [(0, .ref 88)] [] T (fun r9 T1 => r9 = some (.int (nI (sizeR R (mc s.2.2.2.2.2.1 r) (dc s.2.2.2.2.2.1 r)))) ∧ T1 = T) := by
  have hu := cI_le (vP R true) R.length
  have hv := cI_le (vP R false) R.length
  have hl6 := hO.1
  have hg := lgF_le (n := (cI (vP R true) R.length)) (by omega) 20 0 (by omega)
  refine xe (fun _ _ kK => x_aload_n dX8_sizeOf_0 rfl 0 rfl kK) ?_
  refine xe (fun _ _ kK => x_iconst dX8_sizeOf_1 (show _ = nI 1 by decide) kK) ?_
  refine xe_callV (a := 88) [.int (nI 1)] dX8_sizeOf_2 ml_X8_278 mf_X8_values hM.1 (c_X8_values1 d hM hR hO) rfl rfl (Nat.le_of_ble_eq_true rfl) (Nat.le_of_ble_eq_true rfl) ?_
  rintro _ T9 ⟨rfl, h9⟩
  refine xe_T h9 ?_
  refine xe (fun _ _ kK => x_istore_n dX8_sizeOf_5 rfl (by decide) (show _ = [(1, .int (nI (cI (vP R true) R.length))), (0, .ref 88)] from rfl) kK) ?_
  refine xe (fun _ _ kK => x_iconst dX8_sizeOf_6 (show _ = nI 0 by decide) kK) ?_
  refine xe (fun _ _ kK => x_istore_n dX8_sizeOf_7 rfl (by decide) (show _ = [(2, .int (nI 0)), (1, .int (nI (cI (vP R true) R.length))), (0, .ref 88)] from rfl) kK) ?_
  refine l_X8_size (d + 2) hM (by omega) 20 0 (by omega) (by omega) ?_
  generalize hG : lgF (cI (vP R true) R.length) 20 0 = G at hg ⊢
  have hGv : G * (cI (vP R false) R.length) ≤ 13 * 6300 := Nat.mul_le_mul hg (by omega)
  refine xe (fun _ _ kK => x_bipush dX8_sizeOf_21 (show _ = nI 8 by decide) kK) ?_
  refine xe (fun _ _ kK => x_iload_n dX8_sizeOf_23 rfl 1 rfl kK) ?_
  refine xe (fun _ _ kK => x_imul dX8_sizeOf_24 kK) ?_
  refine xe_ti (show _ = nI (8 * (cI (vP R true) R.length)) from pk_mul 8 (cI (vP R true) R.length)) ?_
  refine xe (fun _ _ kK => x_iload_n dX8_sizeOf_25 rfl 0 rfl kK) ?_
  refine xe (fun _ _ kK => x_aload_n dX8_sizeOf_26 rfl 2 rfl kK) ?_
  refine xe (fun _ _ kK => x_iconst dX8_sizeOf_27 (show _ = nI 0 by decide) kK) ?_
  refine xe_callV (a := 88) [.int (nI 0)] dX8_sizeOf_28 ml_X8_278 mf_X8_values hM.1 (c_X8_values0 d hM hR hO) rfl rfl (Nat.le_of_ble_eq_true rfl) (Nat.le_of_ble_eq_true rfl) ?_
  rintro _ T9 ⟨rfl, h9⟩
  refine xe_T h9 ?_
  refine xe (fun _ _ kK => x_imul dX8_sizeOf_31 kK) ?_
  refine xe_ti (show _ = nI (G * (cI (vP R false) R.length)) from pk_mul G (cI (vP R false) R.length)) ?_
  refine xe (fun _ _ kK => x_bipush dX8_sizeOf_32 (show _ = nI 7 by decide) kK) ?_
  refine xe (fun _ _ kK => x_iadd dX8_sizeOf_34 kK) ?_
  refine xe_ti (show _ = nI ((G * (cI (vP R false) R.length)) + 7) from nI_add (G * (cI (vP R false) R.length)) 7) ?_
  refine xe (fun _ _ kK => x_bipush dX8_sizeOf_35 (show _ = nI 8 by decide) kK) ?_
  refine xe (fun _ _ kK => x_idiv dX8_sizeOf_37 (by decide) kK) ?_
  refine xe_ti (show _ = nI ((G * (cI (vP R false) R.length) + 7) / 8) from pk_div (by omega) (by decide) (by decide)) ?_
  refine xe (fun _ _ kK => x_iadd dX8_sizeOf_38 kK) ?_
  refine xe_ti (show _ = nI ((8 * (cI (vP R true) R.length)) + ((G * (cI (vP R false) R.length) + 7) / 8)) from nI_add (8 * (cI (vP R true) R.length)) ((G * (cI (vP R false) R.length) + 7) / 8)) ?_
  refine xe (fun _ _ kK => x_istore_n dX8_sizeOf_39 rfl (by decide) (show _ = [(3, .int (nI ((8 * (cI (vP R true) R.length)) + ((G * (cI (vP R false) R.length) + 7) / 8)))), (2, .int (nI G)), (1, .int (nI (cI (vP R true) R.length))), (0, .ref 88)] from rfl) kK) ?_
  refine xe (fun _ _ kK => x_aload_n dX8_sizeOf_40 rfl 3 rfl kK) ?_
  refine xe (fun _ _ kK => x_aload_n dX8_sizeOf_41 rfl 3 rfl kK) ?_
  refine xe (fun _ _ kK => x_get dX8_sizeOf_42 fl_X8_254 hM.1 (gvl_i fz_8_37.2.2 (show e_i T 549 88 = nI r.length from hD.1)) kK) ?_
  refine xe (fun _ _ kK => x_iconst dX8_sizeOf_45 (show _ = nI 1 by decide) kK) ?_
  refine xe (fun _ _ kK => x_isub dX8_sizeOf_46 kK) ?_
  refine xe_ti (show _ = nI (r.length - 1) from pk_sub (by omega)) ?_
  have hrl1 : r.length - 1 < r.length := by omega
  refine xe_callV (a := 88) [.int (nI (r.length - 1))] dX8_sizeOf_47 ml_X8_271 mf_X8_manyUpTo hM.1 (by have := c_X8_manyUpTo (d + 1) (dd := r.length - 1) hM hS hB hD hlt hrl1 hr5; rw [show r.length - 1 + 1 = r.length by omega, List.take_length] at this; exact this) rfl rfl (Nat.le_of_ble_eq_true rfl) (Nat.le_of_ble_eq_true rfl) ?_
  rintro _ T9 ⟨rfl, h9⟩
  refine xe_T h9 ?_
  have hmc := mc_le s.2.2.2.2.2.1 r
  have hdc := dc_le s.2.2.2.2.2.1 r
  have hrl := cI_le (rP (fun k => (rowAt R k).1)) R.length
  have hrt := cI_le (rP (fun k => (rowAt R k).2.1)) R.length
  refine xe_if_eq (tgt := 66) dX8_sizeOf_50 (by decide) (fun h50 => ?_) (fun h50 => ?_)
  · -- pc 66
    have h50 := cv_z (by omega) h50
    refine xe (fun _ _ kK => x_aload_n dX8_sizeOf_66 rfl 3 rfl kK) ?_
    refine xe_callV (a := 88) [] dX8_sizeOf_67 ml_X8_286 mf_X8_deepOf hM.1 (c_X8_deepOf (d + 1) hM hS hB hD hlt hr5) rfl rfl (Nat.le_of_ble_eq_true rfl) (Nat.le_of_ble_eq_true rfl) ?_
    rintro _ T9 ⟨rfl, h9⟩
    refine xe_T h9 ?_
    refine xe_if_eq (tgt := 86) dX8_sizeOf_70 (by decide) (fun h70 => ?_) (fun h70 => ?_)
    · -- pc 86
      have h70 := cv_z (by omega) h70
      refine xe (fun _ _ kK => x_iload_n dX8_sizeOf_86 rfl 0 rfl kK) ?_
      exact xe_reti dX8_sizeOf_87 rfl (⟨by rw [sizeR, if_pos h50, if_pos h70, show lgc (cI (vP R true) R.length) = G from hG] <;> rfl, rfl⟩)
    · -- pc 73
      have h70 := cv_nz (by omega) h70
      refine xe (fun _ _ kK => x_iload_n dX8_sizeOf_73 rfl 0 rfl kK) ?_
      refine xe (fun _ _ kK => x_iconst dX8_sizeOf_74 (show _ = nI 2 by decide) kK) ?_
      refine xe (fun _ _ kK => x_aload_n dX8_sizeOf_75 rfl 3 rfl kK) ?_
      refine xe (fun _ _ kK => x_aload_n dX8_sizeOf_76 rfl 3 rfl kK) ?_
      refine xe (fun _ _ kK => x_get dX8_sizeOf_77 fl_X8_92 hM.1 (gvl_r1 fz_8_41.2.2 (show e_r T 553 88 = some 108 from (hM.2.1 41))) kK) ?_
      refine xe_callV (a := 88) [.ref 108] dX8_sizeOf_80 ml_X8_282 mf_X8_runs hM.1 (c_X8_runsT (d + 1) hM hR hO) rfl rfl (Nat.le_of_ble_eq_true rfl) (Nat.le_of_ble_eq_true rfl) ?_
      rintro _ T9 ⟨rfl, h9⟩
      refine xe_T h9 ?_
      refine xe (fun _ _ kK => x_imul dX8_sizeOf_83 kK) ?_
      refine xe_ti (show _ = nI (2 * (cI (rP (fun k => (rowAt R k).2.1)) R.length)) from pk_mul 2 (cI (rP (fun k => (rowAt R k).2.1)) R.length)) ?_
      refine xe (fun _ _ kK => x_iadd dX8_sizeOf_84 kK) ?_
      refine xe_ti (show _ = nI (((8 * (cI (vP R true) R.length)) + ((G * (cI (vP R false) R.length) + 7) / 8)) + (2 * (cI (rP (fun k => (rowAt R k).2.1)) R.length))) from nI_add ((8 * (cI (vP R true) R.length)) + ((G * (cI (vP R false) R.length) + 7) / 8)) (2 * (cI (rP (fun k => (rowAt R k).2.1)) R.length))) ?_
      refine xe (fun _ _ kK => x_istore_n dX8_sizeOf_85 rfl (by decide) (show _ = [(3, .int (nI (((8 * (cI (vP R true) R.length)) + ((G * (cI (vP R false) R.length) + 7) / 8)) + (2 * (cI (rP (fun k => (rowAt R k).2.1)) R.length))))), (2, .int (nI G)), (1, .int (nI (cI (vP R true) R.length))), (0, .ref 88)] from rfl) kK) ?_
      refine xe (fun _ _ kK => x_iload_n dX8_sizeOf_86 rfl 0 rfl kK) ?_
      exact xe_reti dX8_sizeOf_87 rfl (⟨by rw [sizeR, if_pos h50, if_neg h70, show lgc (cI (vP R true) R.length) = G from hG] <;> rfl, rfl⟩)
  · -- pc 53
    have h50 := cv_nz (by omega) h50
    refine xe (fun _ _ kK => x_iload_n dX8_sizeOf_53 rfl 0 rfl kK) ?_
    refine xe (fun _ _ kK => x_iconst dX8_sizeOf_54 (show _ = nI 2 by decide) kK) ?_
    refine xe (fun _ _ kK => x_aload_n dX8_sizeOf_55 rfl 3 rfl kK) ?_
    refine xe (fun _ _ kK => x_aload_n dX8_sizeOf_56 rfl 3 rfl kK) ?_
    refine xe (fun _ _ kK => x_get dX8_sizeOf_57 fl_X8_89 hM.1 (gvl_r1 fz_8_40.2.2 (show e_r T 552 88 = some 107 from (hM.2.1 40))) kK) ?_
    refine xe_callV (a := 88) [.ref 107] dX8_sizeOf_60 ml_X8_282 mf_X8_runs hM.1 (c_X8_runsL (d + 1) hM hR hO) rfl rfl (Nat.le_of_ble_eq_true rfl) (Nat.le_of_ble_eq_true rfl) ?_
    rintro _ T9 ⟨rfl, h9⟩
    refine xe_T h9 ?_
    refine xe (fun _ _ kK => x_imul dX8_sizeOf_63 kK) ?_
    refine xe_ti (show _ = nI (2 * (cI (rP (fun k => (rowAt R k).1)) R.length)) from pk_mul 2 (cI (rP (fun k => (rowAt R k).1)) R.length)) ?_
    refine xe (fun _ _ kK => x_iadd dX8_sizeOf_64 kK) ?_
    refine xe_ti (show _ = nI (((8 * (cI (vP R true) R.length)) + ((G * (cI (vP R false) R.length) + 7) / 8)) + (2 * (cI (rP (fun k => (rowAt R k).1)) R.length))) from nI_add ((8 * (cI (vP R true) R.length)) + ((G * (cI (vP R false) R.length) + 7) / 8)) (2 * (cI (rP (fun k => (rowAt R k).1)) R.length))) ?_
    refine xe (fun _ _ kK => x_istore_n dX8_sizeOf_65 rfl (by decide) (show _ = [(3, .int (nI (((8 * (cI (vP R true) R.length)) + ((G * (cI (vP R false) R.length) + 7) / 8)) + (2 * (cI (rP (fun k => (rowAt R k).1)) R.length))))), (2, .int (nI G)), (1, .int (nI (cI (vP R true) R.length))), (0, .ref 88)] from rfl) kK) ?_
    refine xe (fun _ _ kK => x_aload_n dX8_sizeOf_66 rfl 3 rfl kK) ?_
    refine xe_callV (a := 88) [] dX8_sizeOf_67 ml_X8_286 mf_X8_deepOf hM.1 (c_X8_deepOf (d + 1) hM hS hB hD hlt hr5) rfl rfl (Nat.le_of_ble_eq_true rfl) (Nat.le_of_ble_eq_true rfl) ?_
    rintro _ T9 ⟨rfl, h9⟩
    refine xe_T h9 ?_
    refine xe_if_eq (tgt := 86) dX8_sizeOf_70 (by decide) (fun h70 => ?_) (fun h70 => ?_)
    · -- pc 86
      have h70 := cv_z (by omega) h70
      refine xe (fun _ _ kK => x_iload_n dX8_sizeOf_86 rfl 0 rfl kK) ?_
      exact xe_reti dX8_sizeOf_87 rfl (⟨by rw [sizeR, if_neg h50, if_pos h70, show lgc (cI (vP R true) R.length) = G from hG] <;> rfl, rfl⟩)
    · -- pc 73
      have h70 := cv_nz (by omega) h70
      refine xe (fun _ _ kK => x_iload_n dX8_sizeOf_73 rfl 0 rfl kK) ?_
      refine xe (fun _ _ kK => x_iconst dX8_sizeOf_74 (show _ = nI 2 by decide) kK) ?_
      refine xe (fun _ _ kK => x_aload_n dX8_sizeOf_75 rfl 3 rfl kK) ?_
      refine xe (fun _ _ kK => x_aload_n dX8_sizeOf_76 rfl 3 rfl kK) ?_
      refine xe (fun _ _ kK => x_get dX8_sizeOf_77 fl_X8_92 hM.1 (gvl_r1 fz_8_41.2.2 (show e_r T 553 88 = some 108 from (hM.2.1 41))) kK) ?_
      refine xe_callV (a := 88) [.ref 108] dX8_sizeOf_80 ml_X8_282 mf_X8_runs hM.1 (c_X8_runsT (d + 1) hM hR hO) rfl rfl (Nat.le_of_ble_eq_true rfl) (Nat.le_of_ble_eq_true rfl) ?_
      rintro _ T9 ⟨rfl, h9⟩
      refine xe_T h9 ?_
      refine xe (fun _ _ kK => x_imul dX8_sizeOf_83 kK) ?_
      refine xe_ti (show _ = nI (2 * (cI (rP (fun k => (rowAt R k).2.1)) R.length)) from pk_mul 2 (cI (rP (fun k => (rowAt R k).2.1)) R.length)) ?_
      refine xe (fun _ _ kK => x_iadd dX8_sizeOf_84 kK) ?_
      refine xe_ti (show _ = nI ((((8 * (cI (vP R true) R.length)) + ((G * (cI (vP R false) R.length) + 7) / 8)) + (2 * (cI (rP (fun k => (rowAt R k).1)) R.length))) + (2 * (cI (rP (fun k => (rowAt R k).2.1)) R.length))) from nI_add (((8 * (cI (vP R true) R.length)) + ((G * (cI (vP R false) R.length) + 7) / 8)) + (2 * (cI (rP (fun k => (rowAt R k).1)) R.length))) (2 * (cI (rP (fun k => (rowAt R k).2.1)) R.length))) ?_
      refine xe (fun _ _ kK => x_istore_n dX8_sizeOf_85 rfl (by decide) (show _ = [(3, .int (nI ((((8 * (cI (vP R true) R.length)) + ((G * (cI (vP R false) R.length) + 7) / 8)) + (2 * (cI (rP (fun k => (rowAt R k).1)) R.length))) + (2 * (cI (rP (fun k => (rowAt R k).2.1)) R.length))))), (2, .int (nI G)), (1, .int (nI (cI (vP R true) R.length))), (0, .ref 88)] from rfl) kK) ?_
      refine xe (fun _ _ kK => x_iload_n dX8_sizeOf_86 rfl 0 rfl kK) ?_
      exact xe_reti dX8_sizeOf_87 rfl (⟨by rw [sizeR, if_neg h50, if_neg h70, show lgc (cI (vP R true) R.length) = G from hG] <;> rfl, rfl⟩)

noncomputable def leafA (s : Sh) (ps : PS) (c : Nat) (y : Int32) : Int32 := match ix y 8 with
  | some 0 => nI (dc s.2.2.2.2.2.1 (road s c))
  | some 1 => nI (mc s.2.2.2.2.2.1 (road s c))
  | some 2 => if s.2.2.2.2.1 (s.2.2.2.2.2.2 c) = 0 then nI 1 else nI 0
  | some 3 => nI ((road s c).length - 1)
  | some 4 => nI (tOf s ps c).length
  | some 5 => nI (cI (vP (tOf s ps c) false) (tOf s ps c).length)
  | some 6 => nI (cI (vP (tOf s ps c) true) (tOf s ps c).length)
  | some 7 => nI (sizeR (tOf s ps c) (mc s.2.2.2.2.2.1 (road s c)) (dc s.2.2.2.2.2.1 (road s c)))
  | _ => -1
theorem ix_case {y : Int32} {n : Nat} (hn : n < 2 ^ 31) (h : ix y n = none) : y.toInt < 0 ∨ (n : Int) - 1 < y.toInt := by
  by_cases hx : y < 0
  · exact Or.inl (Int32.lt_iff_toInt_lt.mp hx)
  · obtain ⟨k, hk, rfl⟩ := nI_of hx
    rw [ix_nI hk] at h
    split at h
    · cases h
    · rw [nI_toInt hk]; omega

set_option maxHeartbeats 4000000 in
theorem c_X8_leaf (d : Nat) {T : TH} {s : Sh} {ps : PS} (h : MQh T s ps) (x y : Int32) : Xe m_X8_leaf (d + 4) 0 [(0, .ref 88), (1, .int x), (2, .int y)] [] T (fun r9 T1 => r9 = some (.int (match ix x s.2.1 with
    | none => -1
    | some c => leafA s ps c y)) ∧ FrM fsTb asTb T T1) := by
  obtain ⟨hM, hs1, hS, hG, hP, hPG⟩ := id h
  have hc12 := hG.2.1
  refine xe (fun _ _ kK => x_aload_n dX8_leaf_0 rfl 0 rfl kK) ?_
  refine xe (fun _ _ kK => x_iload_n dX8_leaf_1 rfl 1 rfl kK) ?_
  refine xe_callV (a := 88) [.int x] dX8_leaf_2 ml_X8_289 mf_X8_isLeaf hM.1 (c_X8_isLeaf (d + 3) hM hs1 hS.2.1 hc12 x) rfl rfl (Nat.le_of_ble_eq_true rfl) (Nat.le_of_ble_eq_true rfl) ?_
  rintro _ T9 ⟨rfl, h9⟩
  refine xe_T h9 ?_
  cases hix : ix x s.2.1 with
  | none =>
    show Xe m_X8_leaf ((d + 3) + 1) 5 [(0, .ref 88), (1, .int x), (2, .int y)] [.int (bI false)] T _
    refine xe (fun _ _ kK => x_if_neF (tgt := 10) dX8_leaf_5 (by decide) rfl kK) ?_
    refine xe (fun _ _ kK => x_iconst dX8_leaf_8 (show _ = (-1) by decide) kK) ?_
    exact xe_reti dX8_leaf_9 rfl (⟨rfl, FrM.rf⟩)
  | some c =>
    obtain ⟨hc, rfl, hcb⟩ := ix_lt hix
    show Xe m_X8_leaf ((d + 3) + 1) 5 [(0, .ref 88), (1, .int (nI c)), (2, .int y)] [.int (bI true)] T _
    refine xe (fun _ _ kK => x_if_neT (tgt := 10) dX8_leaf_5 (by decide) (by decide) kK) ?_
    refine xe (fun _ _ kK => x_aload_n dX8_leaf_10 rfl 0 rfl kK) ?_
    refine xe (fun _ _ kK => x_iload_n dX8_leaf_11 rfl 1 rfl kK) ?_
    refine xe_callV (a := 88) [.int (nI c)] dX8_leaf_12 ml_X8_292 mf_X8_table hM.1 (c_X8_table' (d + 2) h hc) rfl rfl (Nat.le_of_ble_eq_true rfl) (Nat.le_of_ble_eq_true rfl) ?_
    rintro _ T1 ⟨rfl, hF1, hD1, hR1⟩
    obtain ⟨hM, hs1, hS, -, hP, -⟩ := h.of hF1 (by decide) (by decide)
    obtain ⟨j1, j2, j3, j4⟩ := hG.2.2.2 c hc
    have hB := hG.1
    have hs60 := hB.1
    have hlt : ∀ f ∈ road s c, f < s.1 := fun f hf => j2 f (List.mem_reverse.mp hf)
    have hr5 : (road s c).length ≤ 5 := by rw [road, List.length_reverse]; exact j3
    have hr0 : 0 < (road s c).length := by rw [road, List.length_reverse]; cases hq : rdl s c with | nil => (rw [hq] at j1; cases j1) | cons a b => simp
    have hO := hPG.2 c hc
    have hKb := (hB.2.2.2 _ j4).1
    refine xe (fun _ _ kK => x_iload_n dX8_leaf_15 rfl 2 rfl kK) ?_
    cases hiy : ix y 8 with
    | none =>
      refine xe (fun _ _ kK => x_tableOut (tgt := 129) dX8_leaf_16 (by have := ix_case (by decide) hiy; omega) (by decide) kK) ?_
      refine xe (fun _ _ kK => x_iconst dX8_leaf_129 (show _ = (-1) by decide) kK) ?_
      exact xe_reti dX8_leaf_130 rfl (⟨by show some _ = some (Value.int (leafA s ps c _)); unfold leafA; rw [hiy] <;> rfl, hF1⟩)
    | some j =>
      obtain ⟨hj8, rfl, -⟩ := ix_lt hiy
      have hj : j = 0 ∨ j = 1 ∨ j = 2 ∨ j = 3 ∨ j = 4 ∨ j = 5 ∨ j = 6 ∨ j = 7 := by omega
      rcases hj with rfl | rfl | rfl | rfl | rfl | rfl | rfl | rfl
      · -- pc 64
        refine xe (fun _ _ kK => x_tableIn (tgt := 64) (off := 48) dX8_leaf_16 (by decide) (by decide) (by decide) (by decide) kK) ?_
        refine xe (fun _ _ kK => x_aload_n dX8_leaf_64 rfl 0 rfl kK) ?_
        refine xe_callV (a := 88) [] dX8_leaf_65 ml_X8_286 mf_X8_deepOf hM.1 (c_X8_deepOf (d + 3) hM hS hB hD1 hlt hr5) rfl rfl (Nat.le_of_ble_eq_true rfl) (Nat.le_of_ble_eq_true rfl) ?_
        rintro _ T9 ⟨rfl, h9⟩
        refine xe_T h9 ?_
        exact xe_reti dX8_leaf_68 rfl (⟨by show some _ = some (Value.int (leafA s ps c _)); unfold leafA; rw [hiy] <;> rfl, hF1⟩)
      · -- pc 69
        refine xe (fun _ _ kK => x_tableIn (tgt := 69) (off := 53) dX8_leaf_16 (by decide) (by decide) (by decide) (by decide) kK) ?_
        refine xe (fun _ _ kK => x_aload_n dX8_leaf_69 rfl 0 rfl kK) ?_
        refine xe (fun _ _ kK => x_aload_n dX8_leaf_70 rfl 0 rfl kK) ?_
        refine xe (fun _ _ kK => x_get dX8_leaf_71 fl_X8_254 hM.1 (gvl_i fz_8_37.2.2 (show e_i T1 549 88 = nI (road s c).length from hD1.1)) kK) ?_
        refine xe (fun _ _ kK => x_iconst dX8_leaf_74 (show _ = nI 1 by decide) kK) ?_
        refine xe (fun _ _ kK => x_isub dX8_leaf_75 kK) ?_
        refine xe_ti (show _ = nI ((road s c).length - 1) from pk_sub (by omega)) ?_
        refine xe_callV (a := 88) [.int (nI ((road s c).length - 1))] dX8_leaf_76 ml_X8_271 mf_X8_manyUpTo hM.1 (by have := c_X8_manyUpTo (d + 3) (dd := (road s c).length - 1) hM hS hB hD1 hlt (by omega) hr5; rw [show (road s c).length - 1 + 1 = (road s c).length by omega, List.take_length] at this; exact this) rfl rfl (Nat.le_of_ble_eq_true rfl) (Nat.le_of_ble_eq_true rfl) ?_
        rintro _ T9 ⟨rfl, h9⟩
        refine xe_T h9 ?_
        exact xe_reti dX8_leaf_79 rfl (⟨by show some _ = some (Value.int (leafA s ps c _)); unfold leafA; rw [hiy] <;> rfl, hF1⟩)
      · -- pc 80
        refine xe (fun _ _ kK => x_tableIn (tgt := 80) (off := 64) dX8_leaf_16 (by decide) (by decide) (by decide) (by decide) kK) ?_
        refine xe (fun _ _ kK => x_aload_n dX8_leaf_80 rfl 0 rfl kK) ?_
        refine xe (fun _ _ kK => x_get dX8_leaf_81 fl_X8_44 hM.1 (gvl_r1 fz_8_18.2.2 (show e_r T1 530 88 = some 92 from (hM.2.1 18))) kK) ?_
        refine xe (fun _ _ kK => x_aload_n dX8_leaf_84 rfl 0 rfl kK) ?_
        refine xe (fun _ _ kK => x_get dX8_leaf_85 fl_X8_50 hM.1 (gvl_r1 fz_8_20.2.2 (show e_r T1 532 88 = some 94 from (hM.2.1 20))) kK) ?_
        refine xe (fun _ _ kK => x_iload_n dX8_leaf_88 rfl 1 rfl kK) ?_
        refine xe (fun _ _ kK => x_iald dX8_leaf_89 (hM.2.2.1 5 (by decide)) (show (nI c) = nI c from rfl) (mi_len hM 5 (by decide) (show c < 12 by omega)) (show e_ai T1 94 c = nI (s.2.2.2.2.2.2 c) from (hS.2.2.2 c hc)) kK) ?_
        refine xe (fun _ _ kK => x_iald dX8_leaf_90 (hM.2.2.1 3 (by decide)) (show (nI (s.2.2.2.2.2.2 c)) = nI (s.2.2.2.2.2.2 c) from rfl) (mi_len hM 3 (by decide) (show s.2.2.2.2.2.2 c < 80 by omega)) (show e_ai T1 92 (s.2.2.2.2.2.2 c) = nI (s.2.2.2.2.1 (s.2.2.2.2.2.2 c)) from (hS.2.2.1 _ j4).2.2.1) kK) ?_
        refine xe_if_ne (tgt := 98) dX8_leaf_91 (by decide) (fun h91 => ?_) (fun h91 => ?_)
        · -- pc 98
          have h91 := cv_nz (by omega) h91
          refine xe (fun _ _ kK => x_iconst dX8_leaf_98 (show _ = nI 0 by decide) kK) ?_
          exact xe_reti dX8_leaf_99 rfl (⟨by show some _ = some (Value.int (leafA s ps c _)); unfold leafA; rw [hiy]; exact congrArg (fun z => some (Value.int z)) (if_neg h91).symm, hF1⟩)
        · -- pc 94
          have h91 := cv_z (by omega) h91
          refine xe (fun _ _ kK => x_iconst dX8_leaf_94 (show _ = nI 1 by decide) kK) ?_
          refine xe (fun _ _ kK => x_goto (tgt := 99) dX8_leaf_95 (by decide) kK) ?_
          exact xe_reti dX8_leaf_99 rfl (⟨by show some _ = some (Value.int (leafA s ps c _)); unfold leafA; rw [hiy]; exact congrArg (fun z => some (Value.int z)) (if_pos h91).symm, hF1⟩)
      · -- pc 100
        refine xe (fun _ _ kK => x_tableIn (tgt := 100) (off := 84) dX8_leaf_16 (by decide) (by decide) (by decide) (by decide) kK) ?_
        refine xe (fun _ _ kK => x_aload_n dX8_leaf_100 rfl 0 rfl kK) ?_
        refine xe (fun _ _ kK => x_get dX8_leaf_101 fl_X8_254 hM.1 (gvl_i fz_8_37.2.2 (show e_i T1 549 88 = nI (road s c).length from hD1.1)) kK) ?_
        refine xe (fun _ _ kK => x_iconst dX8_leaf_104 (show _ = nI 1 by decide) kK) ?_
        refine xe (fun _ _ kK => x_isub dX8_leaf_105 kK) ?_
        refine xe_ti (show _ = nI ((road s c).length - 1) from pk_sub (by omega)) ?_
        exact xe_reti dX8_leaf_106 rfl (⟨by show some _ = some (Value.int (leafA s ps c _)); unfold leafA; rw [hiy] <;> rfl, hF1⟩)
      · -- pc 107
        refine xe (fun _ _ kK => x_tableIn (tgt := 107) (off := 91) dX8_leaf_16 (by decide) (by decide) (by decide) (by decide) kK) ?_
        refine xe (fun _ _ kK => x_aload_n dX8_leaf_107 rfl 0 rfl kK) ?_
        refine xe (fun _ _ kK => x_get dX8_leaf_108 fl_X8_257 hM.1 (gvl_i fz_8_39.2.2 (show e_i T1 551 88 = nI (tOf s ps c).length from hR1.1)) kK) ?_
        exact xe_reti dX8_leaf_111 rfl (⟨by show some _ = some (Value.int (leafA s ps c _)); unfold leafA; rw [hiy] <;> rfl, hF1⟩)
      · -- pc 112
        refine xe (fun _ _ kK => x_tableIn (tgt := 112) (off := 96) dX8_leaf_16 (by decide) (by decide) (by decide) (by decide) kK) ?_
        refine xe (fun _ _ kK => x_aload_n dX8_leaf_112 rfl 0 rfl kK) ?_
        refine xe (fun _ _ kK => x_iconst dX8_leaf_113 (show _ = nI 0 by decide) kK) ?_
        refine xe_callV (a := 88) [.int (nI 0)] dX8_leaf_114 ml_X8_278 mf_X8_values hM.1 (c_X8_values0 (d + 2) hM hR1 hO) rfl rfl (Nat.le_of_ble_eq_true rfl) (Nat.le_of_ble_eq_true rfl) ?_
        rintro _ T9 ⟨rfl, h9⟩
        refine xe_T h9 ?_
        exact xe_reti dX8_leaf_117 rfl (⟨by show some _ = some (Value.int (leafA s ps c _)); unfold leafA; rw [hiy] <;> rfl, hF1⟩)
      · -- pc 118
        refine xe (fun _ _ kK => x_tableIn (tgt := 118) (off := 102) dX8_leaf_16 (by decide) (by decide) (by decide) (by decide) kK) ?_
        refine xe (fun _ _ kK => x_aload_n dX8_leaf_118 rfl 0 rfl kK) ?_
        refine xe (fun _ _ kK => x_iconst dX8_leaf_119 (show _ = nI 1 by decide) kK) ?_
        refine xe_callV (a := 88) [.int (nI 1)] dX8_leaf_120 ml_X8_278 mf_X8_values hM.1 (c_X8_values1 (d + 2) hM hR1 hO) rfl rfl (Nat.le_of_ble_eq_true rfl) (Nat.le_of_ble_eq_true rfl) ?_
        rintro _ T9 ⟨rfl, h9⟩
        refine xe_T h9 ?_
        exact xe_reti dX8_leaf_123 rfl (⟨by show some _ = some (Value.int (leafA s ps c _)); unfold leafA; rw [hiy] <;> rfl, hF1⟩)
      · -- pc 124
        refine xe (fun _ _ kK => x_tableIn (tgt := 124) (off := 108) dX8_leaf_16 (by decide) (by decide) (by decide) (by decide) kK) ?_
        refine xe (fun _ _ kK => x_aload_n dX8_leaf_124 rfl 0 rfl kK) ?_
        refine xe_callV (a := 88) [] dX8_leaf_125 ml_X8_295 mf_X8_sizeOf hM.1 (c_X8_sizeOf (d + 1) hM hS hB hD1 hlt hr5 hr0 hR1 hO) rfl rfl (Nat.le_of_ble_eq_true rfl) (Nat.le_of_ble_eq_true rfl) ?_
        rintro _ T9 ⟨rfl, h9⟩
        refine xe_T h9 ?_
        exact xe_reti dX8_leaf_128 rfl (⟨by show some _ = some (Value.int (leafA s ps c _)); unfold leafA; rw [hiy] <;> rfl, hF1⟩)
