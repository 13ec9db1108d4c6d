/-! stretches of a TABLE -/
def stF (R : List Row) (lv : Nat) : Nat → Nat → Nat
  | 0, _ => R.length
  | f + 1, e => if (rowAt R e).1 ≤ lv then e else stF R lv f (e + 1)
def stE (R : List Row) (lv k : Nat) : Nat := stF R lv (R.length - (k + 1)) (k + 1)
theorem stF_le (R : List Row) (lv : Nat) : ∀ (f e : Nat), e + f ≤ R.length → stF R lv f e ≤ R.length := by
  intro f
  induction f with
  | zero => intro e _; exact Nat.le_refl _
  | succ f ih =>
    intro e h
    show (if (rowAt R e).1 ≤ lv then e else stF R lv f (e + 1)) ≤ _
    split
    · omega
    · exact ih (e + 1) (by omega)
theorem stE_le (R : List Row) (lv k : Nat) : stE R lv k ≤ R.length := by
  unfold stE
  rcases Nat.lt_or_ge k R.length with z | z
  · exact stF_le R lv _ _ (by omega)
  · rw [show R.length - (k + 1) = 0 by omega]; exact Nat.le_refl _
def hold (R : List Row) (lv : Nat) (v : Int64) (k : Nat) : Prop := ∃ r, k ≤ r ∧ r < stE R lv k ∧ aP R v v r = true

set_option maxHeartbeats 4000000 in
theorem l_X3_stretchEnd (d : Nat) {T : TH} {a la oa qa va cap : Nat} {R : List Row} {dg ag gr : Nat} {nm : Bool} (hT : Tb T a la oa qa va cap R dg ag gr nm) (hO : RwOk R) {lv k : Nat} (hlv : lv < 2 ^ 31) : ∀ (m e : Nat), R.length - e = m → e ≤ R.length + 1 → Xe m_X3_stretchEnd d 4 [(3, .int (nI e)), (0, .ref a), (1, .int (nI k)), (2, .int (nI lv))] [] T (fun r T1 => r = some (.int (nI (stF R lv (R.length - e) e))) ∧ T1 = T) := by
  intro m
  induction m using Nat.strongRecOn with
  | ind m ih =>
    intro e hm hk
    subst hm
    have h6 := hO.1
    refine xe (fun _ _ kK => x_iload_n dX3_stretchEnd_4 rfl 0 rfl kK) ?_
    refine xe (fun _ _ kK => x_aload_n dX3_stretchEnd_5 rfl 1 rfl kK) ?_
    refine xe (fun _ _ kK => x_get dX3_stretchEnd_6 fl_X3_25 hT.1 (gvl_i fz_3_4.2.2 (show e_i T 196 a = nI R.length from hT.2.2.2.2.1.1)) kK) ?_
    refine xe_icmp_ge (tgt := 30) dX3_stretchEnd_9 (by decide) (fun h9 => ?_) (fun h9 => ?_)
    · -- pc 30
      have h9 := cv_le (by omega) (by omega) h9
      refine xe (fun _ _ kK => x_aload_n dX3_stretchEnd_30 rfl 1 rfl kK) ?_
      refine xe (fun _ _ kK => x_get dX3_stretchEnd_31 fl_X3_25 hT.1 (gvl_i fz_3_4.2.2 (show e_i T 196 a = nI R.length from hT.2.2.2.2.1.1)) kK) ?_
      have e0 : R.length - e = 0 := by omega
      exact xe_reti dX3_stretchEnd_34 rfl (⟨by rw [e0]; rfl, rfl⟩)
    · -- pc 12
      have h9 := cv_nle (by omega) (by omega) h9
      have hre := hO.2 e h9
      refine xe (fun _ _ kK => x_aload_n dX3_stretchEnd_12 rfl 1 rfl kK) ?_
      refine xe (fun _ _ kK => x_get dX3_stretchEnd_13 fl_X3_9 hT.1 (gvl_r1 fz_3_0.2.2 (show e_r T 192 a = some la from hT.2.1.1)) kK) ?_
      refine xe (fun _ _ kK => x_iload_n dX3_stretchEnd_16 rfl 0 rfl kK) ?_
      refine xe (fun _ _ kK => x_iald dX3_stretchEnd_17 hT.2.2.1.1 (show (nI e) = nI e from rfl) (hT.len (show e < R.length by omega)).1 (show e_ai T la e = nI (rowAt R e).1 from (hT.2.2.2.2.2 e h9).1) kK) ?_
      refine xe (fun _ _ kK => x_iload_n dX3_stretchEnd_18 rfl 3 rfl kK) ?_
      refine xe_icmp_gt (tgt := 24) dX3_stretchEnd_19 (by decide) (fun h19 => ?_) (fun h19 => ?_)
      · -- pc 24
        have h19 := cv_lt (by omega) (by omega) h19
        refine xe (fun _ _ kK => x_iinc dX3_stretchEnd_24 0 rfl (show (nI e) + Int32.ofInt 1 = nI (e + 1) from nI_add e 1) (by decide) (show _ = [(3, .int (nI (e + 1))), (0, .ref a), (1, .int (nI k)), (2, .int (nI lv))] from rfl) kK) ?_
        refine xe (fun _ _ kK => x_goto (tgt := 4) dX3_stretchEnd_27 (by decide) kK) ?_
        have es : stF R lv (R.length - e) e = stF R lv (R.length - (e + 1)) (e + 1) := by rw [show R.length - e = (R.length - (e + 1)) + 1 by omega]; show (if (rowAt R e).1 ≤ lv then e else _) = _; rw [if_neg (by omega)]
        rw [es]
        exact xe_loc (by simp) (ih (R.length - (e + 1)) (by omega) (e + 1) rfl (by omega))
      · -- pc 22
        have h19 := cv_nlt (by omega) (by omega) h19
        refine xe (fun _ _ kK => x_iload_n dX3_stretchEnd_22 rfl 0 rfl kK) ?_
        have es : stF R lv (R.length - e) e = e := by rw [show R.length - e = (R.length - (e + 1)) + 1 by omega]; show (if (rowAt R e).1 ≤ lv then e else _) = _; rw [if_pos (by omega)]
        exact xe_reti dX3_stretchEnd_23 rfl (⟨by rw [es], rfl⟩)

set_option maxHeartbeats 4000000 in
theorem c_X3_stretchEnd (d : Nat) {T : TH} {a la oa qa va cap : Nat} {R : List Row} {dg ag gr : Nat} {nm : Bool} (hT : Tb T a la oa qa va cap R dg ag gr nm) (hO : RwOk R) {lv k : Nat} (hlv : lv < 2 ^ 31) (hk : k ≤ R.length) : Xe m_X3_stretchEnd d 0 [(0, .ref a), (1, .int (nI k)), (2, .int (nI lv))] [] T (fun r T1 => r = some (.int (nI (stE R lv k))) ∧ T1 = T) := by
  refine xe (fun _ _ kK => x_iload_n dX3_stretchEnd_0 rfl 1 rfl kK) ?_
  refine xe (fun _ _ kK => x_iconst dX3_stretchEnd_1 (show _ = nI 1 by decide) kK) ?_
  refine xe (fun _ _ kK => x_iadd dX3_stretchEnd_2 kK) ?_
  refine xe_ti (show _ = nI (k + 1) from nI_add k 1) ?_
  refine xe (fun _ _ kK => x_istore_n dX3_stretchEnd_3 rfl (by decide) (show _ = [(3, .int (nI (k + 1))), (0, .ref a), (1, .int (nI k)), (2, .int (nI lv))] from rfl) kK) ?_
  exact xe_loc (by simp) (l_X3_stretchEnd d (k := k) hT hO hlv (R.length - (k + 1)) (k + 1) rfl (by omega))

set_option maxHeartbeats 4000000 in
theorem l_X3_holds (d : Nat) {T : TH} {a la oa qa va cap : Nat} {R : List Row} {dg ag gr : Nat} {nm : Bool} (hT : Tb T a la oa qa va cap R dg ag gr nm) (hO : RwOk R) (hdg : dg < 2 ^ 31) (hH : HsOk R dg) {lv k : Nat} {v : Int64} : ∀ (m r : Nat), stE R lv k - r = m → k ≤ r → r ≤ R.length → (∀ j, k ≤ j → j < r → ¬ aP R v v j = true) → Xe m_X3_holdsInStretch (d + 3) 11 [(6, .int (nI r)), (5, .int (nI (stE R lv k))), (0, .ref a), (1, .int (nI k)), (2, .int (nI lv)), (3, .long v)] [] T (fun r9 T1 => r9 = some (.int (bI (pB (hold R lv v k)))) ∧ T1 = T) := by
  intro m
  induction m using Nat.strongRecOn with
  | ind m ih =>
    intro r hm hkr hrl hno
    subst hm
    have h6 := hO.1
    have hse := stE_le R lv k
    refine xe (fun _ _ kK => x_iload dX3_holdsInStretch_11 0 rfl kK) ?_
    refine xe (fun _ _ kK => x_iload dX3_holdsInStretch_13 1 rfl kK) ?_
    refine xe_icmp_ge (tgt := 37) dX3_holdsInStretch_15 (by decide) (fun h15 => ?_) (fun h15 => ?_)
    · -- pc 37
      have h15 := cv_le (by omega) (by omega) h15
      refine xe (fun _ _ kK => x_iconst dX3_holdsInStretch_37 (show _ = nI 0 by decide) kK) ?_
      exact xe_retz dX3_holdsInStretch_38 rfl (by first | exact Or.inl rfl | exact Or.inr rfl) (⟨r_0 (pB_f (fun ⟨j, j1, j2, j3⟩ => hno j j1 (by omega) j3)), rfl⟩)
    · -- pc 18
      have h15 := cv_nle (by omega) (by omega) h15
      refine xe (fun _ _ kK => x_aload_n dX3_holdsInStretch_18 rfl 2 rfl kK) ?_
      refine xe (fun _ _ kK => x_iload dX3_holdsInStretch_19 0 rfl kK) ?_
      refine xe (fun _ _ kK => x_lload_n dX3_holdsInStretch_21 rfl 5 rfl kK) ?_
      refine xe (fun _ _ kK => x_lload_n dX3_holdsInStretch_22 rfl 5 rfl kK) ?_
      refine xe_callV (a := a) [.int (nI r), .long v, .long v] dX3_holdsInStretch_23 ml_X3_76 mf_X3_hasValueWithin hT.1 (c_X3_hasValueWithin d hT hO hdg hH (show r < R.length by omega)) rfl rfl (Nat.le_of_ble_eq_true rfl) (Nat.le_of_ble_eq_true rfl) ?_
      rintro _ T9 ⟨rfl, hTq9⟩
      refine xe_T hTq9 ?_
      refine xe_if_eq (tgt := 31) dX3_holdsInStretch_26 (by decide) (fun h26 => ?_) (fun h26 => ?_)
      · -- pc 31
        have h26 := cv_b0 h26
        refine xe (fun _ _ kK => x_iinc dX3_holdsInStretch_31 0 rfl (show (nI r) + Int32.ofInt 1 = nI (r + 1) from nI_add r 1) (by decide) (show _ = [(6, .int (nI (r + 1))), (5, .int (nI (stE R lv k))), (0, .ref a), (1, .int (nI k)), (2, .int (nI lv)), (3, .long v)] from rfl) kK) ?_
        refine xe (fun _ _ kK => x_goto (tgt := 11) dX3_holdsInStretch_34 (by decide) kK) ?_
        refine xe_loc (by simp) (ih (stE R lv k - (r + 1)) (by omega) (r + 1) rfl (by omega) (by omega) ?_)
        intro j h1 h2 h3
        rcases Nat.lt_or_ge j r with h9 | h9
        · exact hno j h1 h9 h3
        · have e9 : j = r := by omega
          subst e9; rw [h26] at h3; cases h3
      · -- pc 29
        have h26 := cv_b1 h26
        refine xe (fun _ _ kK => x_iconst dX3_holdsInStretch_29 (show _ = nI 1 by decide) kK) ?_
        exact xe_retz dX3_holdsInStretch_30 rfl (by first | exact Or.inl rfl | exact Or.inr rfl) (⟨r_1 (pB_t ⟨r, hkr, h15, h26⟩), rfl⟩)

set_option maxHeartbeats 4000000 in
theorem c_X3_holdsInStretch (d : Nat) {T : TH} {a la oa qa va cap : Nat} {R : List Row} {dg ag gr : Nat} {nm : Bool} (hT : Tb T a la oa qa va cap R dg ag gr nm) (hO : RwOk R) (hdg : dg < 2 ^ 31) (hH : HsOk R dg) {lv k : Nat} {v : Int64} (hlv : lv < 2 ^ 31) (hk : k ≤ R.length) : Xe m_X3_holdsInStretch (d + 3) 0 [(0, .ref a), (1, .int (nI k)), (2, .int (nI lv)), (3, .long v)] [] T (fun r9 T1 => r9 = some (.int (bI (pB (hold R lv v k)))) ∧ T1 = T) := by
  refine xe (fun _ _ kK => x_aload_n dX3_holdsInStretch_0 rfl 0 rfl kK) ?_
  refine xe (fun _ _ kK => x_iload_n dX3_holdsInStretch_1 rfl 1 rfl kK) ?_
  refine xe (fun _ _ kK => x_iload_n dX3_holdsInStretch_2 rfl 2 rfl kK) ?_
  refine xe_callV (a := a) [.int (nI k), .int (nI lv)] dX3_holdsInStretch_3 ml_X3_72 mf_X3_stretchEnd hT.1 (c_X3_stretchEnd (d + 2) hT hO hlv hk) rfl rfl (Nat.le_of_ble_eq_true rfl) (Nat.le_of_ble_eq_true rfl) ?_
  rintro _ T9 ⟨rfl, hTq9⟩
  refine xe_T hTq9 ?_
  refine xe (fun _ _ kK => x_istore dX3_holdsInStretch_6 (by decide) (show _ = [(5, .int (nI (stE R lv k))), (0, .ref a), (1, .int (nI k)), (2, .int (nI lv)), (3, .long v)] from rfl) kK) ?_
  refine xe (fun _ _ kK => x_iload_n dX3_holdsInStretch_8 rfl 2 rfl kK) ?_
  refine xe (fun _ _ kK => x_istore dX3_holdsInStretch_9 (by decide) (show _ = [(6, .int (nI k)), (5, .int (nI (stE R lv k))), (0, .ref a), (1, .int (nI k)), (2, .int (nI lv)), (3, .long v)] from rfl) kK) ?_
  exact xe_loc (by simp) (l_X3_holds d hT hO hdg hH (stE R lv k - k) k rfl (Nat.le_refl _) hk (fun j h1 h2 => absurd h2 (by omega)))

set_option maxHeartbeats 4000000 in
theorem l_X3_firstRowOf (d : Nat) {T : TH} {a la oa qa va cap : Nat} {R : List Row} {dg ag gr : Nat} {nm : Bool} (hT : Tb T a la oa qa va cap R dg ag gr nm) (hO : RwOk R) {i : Nat} (hi : i < 2 ^ 31) : ∀ (m k : Nat), R.length - k = m → k ≤ R.length → Xe m_X3_firstRowOf d 2 [(2, .int (nI k)), (0, .ref a), (1, .int (nI i))] [] T (fun r T1 => r = some (.int (oI (fnd (fun k => decide ((rowAt R k).2.2.2.2 = i)) (R.length - k) k))) ∧ T1 = T) := by
  intro m
  induction m using Nat.strongRecOn with
  | ind m ih =>
    intro k hm hk
    subst hm
    have h6 := hO.1
    refine xe (fun _ _ kK => x_iload_n dX3_firstRowOf_2 rfl 0 rfl kK) ?_
    refine xe (fun _ _ kK => x_aload_n dX3_firstRowOf_3 rfl 1 rfl kK) ?_
    refine xe (fun _ _ kK => x_get dX3_firstRowOf_4 fl_X3_25 hT.1 (gvl_i fz_3_4.2.2 (show e_i T 196 a = nI R.length from hT.2.2.2.2.1.1)) kK) ?_
    refine xe_icmp_ge (tgt := 28) dX3_firstRowOf_7 (by decide) (fun h7 => ?_) (fun h7 => ?_)
    · -- pc 28
      have h7 := cv_le (by omega) (by omega) h7
      refine xe (fun _ _ kK => x_iconst dX3_firstRowOf_28 (show _ = (-1) by decide) kK) ?_
      have e0 : R.length - k = 0 := by omega
      exact xe_reti dX3_firstRowOf_29 rfl (⟨by rw [e0]; rfl, rfl⟩)
    · -- pc 10
      have h7 := cv_nle (by omega) (by omega) h7
      have hrk := hO.2 k h7
      refine xe (fun _ _ kK => x_aload_n dX3_firstRowOf_10 rfl 1 rfl kK) ?_
      refine xe (fun _ _ kK => x_get dX3_firstRowOf_11 fl_X3_18 hT.1 (gvl_r1 fz_3_2.2.2 (show e_r T 194 a = some qa from hT.2.1.2.2.1)) kK) ?_
      refine xe (fun _ _ kK => x_iload_n dX3_firstRowOf_14 rfl 0 rfl kK) ?_
      refine xe (fun _ _ kK => x_iald dX3_firstRowOf_15 hT.2.2.1.2.2.1 (show (nI k) = nI k from rfl) (hT.len (show k < R.length by omega)).2.2.1 (show e_ai T qa k = nI (rowAt R k).2.2.2.2 from (hT.2.2.2.2.2 k h7).2.2.1) kK) ?_
      refine xe (fun _ _ kK => x_iload_n dX3_firstRowOf_16 rfl 2 rfl kK) ?_
      refine xe_icmp_ne (tgt := 22) dX3_firstRowOf_17 (by decide) (fun h17 => ?_) (fun h17 => ?_)
      · -- pc 22
        have h17 := cv_ne (by omega) (by omega) h17
        refine xe (fun _ _ kK => x_iinc dX3_firstRowOf_22 0 rfl (show (nI k) + Int32.ofInt 1 = nI (k + 1) from nI_add k 1) (by decide) (show _ = [(2, .int (nI (k + 1))), (0, .ref a), (1, .int (nI i))] from rfl) kK) ?_
        refine xe (fun _ _ kK => x_goto (tgt := 2) dX3_firstRowOf_25 (by decide) kK) ?_
        have hs : fnd (fun k => decide ((rowAt R k).2.2.2.2 = i)) (R.length - k) k = fnd (fun k => decide ((rowAt R k).2.2.2.2 = i)) (R.length - (k + 1)) (k + 1) := by rw [show R.length - k = (R.length - (k + 1)) + 1 by omega, fnd, if_neg (by simp; exact h17)]
        rw [hs]
        exact xe_loc (by simp) (ih (R.length - (k + 1)) (by omega) (k + 1) rfl (by omega))
      · -- pc 20
        have h17 := cv_eq (by omega) (by omega) h17
        refine xe (fun _ _ kK => x_iload_n dX3_firstRowOf_20 rfl 0 rfl kK) ?_
        have hs : fnd (fun k => decide ((rowAt R k).2.2.2.2 = i)) (R.length - k) k = some k := by rw [show R.length - k = (R.length - (k + 1)) + 1 by omega, fnd, if_pos (by simp; exact h17)]
        exact xe_reti dX3_firstRowOf_21 rfl (⟨by rw [hs]; rfl, rfl⟩)

set_option maxHeartbeats 4000000 in
theorem c_X3_firstRowOf (d : Nat) {T : TH} {a la oa qa va cap : Nat} {R : List Row} {dg ag gr : Nat} {nm : Bool} (hT : Tb T a la oa qa va cap R dg ag gr nm) (hO : RwOk R) {i : Nat} (hi : i < 2 ^ 31) : Xe m_X3_firstRowOf d 0 [(0, .ref a), (1, .int (nI i))] [] T (fun r T1 => r = some (.int (oI (fnd (fun k => decide ((rowAt R k).2.2.2.2 = i)) R.length 0))) ∧ T1 = T) := by
  refine xe (fun _ _ kK => x_iconst dX3_firstRowOf_0 (show _ = nI 0 by decide) kK) ?_
  refine xe (fun _ _ kK => x_istore_n dX3_firstRowOf_1 rfl (by decide) (show _ = [(2, .int (nI 0)), (0, .ref a), (1, .int (nI i))] from rfl) kK) ?_
  exact xe_loc (by simp) (l_X3_firstRowOf d hT hO hi R.length 0 rfl (Nat.zero_le _))

/-! the class's cells -/
def ShI (T : TH) (p : Nat) : Prop := e_K T p = 2 ∧ (∀ k, k < 10 → e_r T (64 + k) p = some (p + 1 + k)) ∧ (∀ k, k < 10 → e_K T (p + 1 + k) = if k = 0 then 23 else 20) ∧ ∀ k, k < 10 → e_len T (p + 1 + k) = if k = 9 then 12 else 66
def CI (T : TH) : Prop := e_K T 0 = 8 ∧ e_r T 448 0 = some 1 ∧ e_r T 449 0 = some 3 ∧ e_r T 450 0 = some 64 ∧ e_K T 1 = 5 ∧ e_r T 256 1 = some 2 ∧ e_K T 2 = 21 ∧ e_len T 2 = 400 ∧ e_K T 3 = 24 ∧ e_len T 3 = 12 ∧ (∀ c, c < 12 → e_ar T 3 c = some (4 + 5 * c)) ∧ e_K T 64 = 6 ∧ e_r T 320 64 = some 65 ∧ e_K T 65 = 21 ∧ e_len T 65 = 400 ∧ ShI T 66 ∧ ShI T 77
theorem CI.sh {T : TH} (h : CI T) {cu : Nat} (hu : cu = 66 ∨ cu = 77) : ShI T cu := by
  rcases hu with rfl | rfl
  · exact h.2.2.2.2.2.2.2.2.2.2.2.2.2.2.2.1
  · exact h.2.2.2.2.2.2.2.2.2.2.2.2.2.2.2.2
/-- the SHAPE in use -/
def CU (T : TH) (cu n : Nat) : Prop := CI T ∧ e_r T 451 0 = some cu ∧ (cu = 66 ∨ cu = 77) ∧ e_i T 75 cu = nI n ∧ n ≤ 12

set_option maxHeartbeats 4000000 in
theorem c_X7_tableOf (d : Nat) {T : TH} {cu n : Nat} (hU : CU T cu n) (x : Int32) : Xe m_X7_tableOf d 0 [(0, .ref 0), (1, .int x)] [] T (fun r T1 => r = some (match ix x n with
    | none => Value.null
    | some c => Value.ref (4 + 5 * c)) ∧ T1 = T) := by
  have h12 := hU.2.2.2.2
  by_cases hx : x < 0
  · -- pc 0
    refine xe (fun _ _ kK => x_iload_n dX7_tableOf_0 rfl 1 rfl kK) ?_
    refine xe (fun _ _ kK => x_if_ltT (tgt := 30) dX7_tableOf_1 (by decide) hx kK) ?_
    refine xe (fun _ _ kK => x_null dX7_tableOf_30 kK) ?_
    exact xe_retn dX7_tableOf_31 rfl (⟨by rw [ix_neg hx], rfl⟩)
  · -- pc 0
    obtain ⟨j, hj, rfl⟩ := nI_of hx
    refine xe (fun _ _ kK => x_iload_n dX7_tableOf_0 rfl 1 rfl kK) ?_
    refine xe (fun _ _ kK => x_if_ltF (tgt := 30) dX7_tableOf_1 (by decide) hx kK) ?_
    refine xe (fun _ _ kK => x_iload_n dX7_tableOf_4 rfl 1 rfl kK) ?_
    refine xe (fun _ _ kK => x_aload_n dX7_tableOf_5 rfl 0 rfl kK) ?_
    refine xe (fun _ _ kK => x_get dX7_tableOf_6 fl_X7_33 hU.1.1 (gvl_r1 fz_7_3.2.2 (show e_r T 451 0 = some cu from hU.2.1)) kK) ?_
    refine xe (fun _ _ kK => x_get dX7_tableOf_9 fl_X7_60 (hU.1.sh hU.2.2.1).1 (gvl_i fz_1_11.2.2 (show e_i T 75 cu = nI n from hU.2.2.2.1)) kK) ?_
    refine xe_icmp_ge (tgt := 30) dX7_tableOf_12 (by decide) (fun h12x => ?_) (fun h12x => ?_)
    · -- pc 30
      have h12x := cv_le (by omega) (by omega) h12x
      refine xe (fun _ _ kK => x_null dX7_tableOf_30 kK) ?_
      exact xe_retn dX7_tableOf_31 rfl (⟨by rw [ix_out h12x hj], rfl⟩)
    · -- pc 15
      have h12x := cv_nle (by omega) (by omega) h12x
      refine xe (fun _ _ kK => x_iload_n dX7_tableOf_15 rfl 1 rfl kK) ?_
      refine xe (fun _ _ kK => x_bipush dX7_tableOf_16 (show _ = nI 12 by decide) kK) ?_
      refine xe (fun _ _ kK => x_icmp_geF (tgt := 30) dX7_tableOf_18 (by decide) (fun z9 => by have := cv_le (by omega) (by omega) z9; omega) kK) ?_
      refine xe (fun _ _ kK => x_aload_n dX7_tableOf_21 rfl 0 rfl kK) ?_
      refine xe (fun _ _ kK => x_get dX7_tableOf_22 fl_X7_18 hU.1.1 (gvl_r1 fz_7_1.2.2 (show e_r T 449 0 = some 3 from hU.1.2.2.1)) kK) ?_
      refine xe (fun _ _ kK => x_iload_n dX7_tableOf_25 rfl 1 rfl kK) ?_
      refine xe (fun _ _ kK => x_aald dX7_tableOf_26 hU.1.2.2.2.2.2.2.2.2.1 (show (nI j) = nI j from rfl) (by rw [hU.1.2.2.2.2.2.2.2.2.2.1]; omega) (show va_rf (e_ar T 3 j) = .ref (4 + 5 * j) from congrArg va_rf (hU.1.2.2.2.2.2.2.2.2.2.2.1 j (by omega))) kK) ?_
      refine xe (fun _ _ kK => x_goto (tgt := 31) dX7_tableOf_27 (by decide) kK) ?_
      exact xe_reta dX7_tableOf_31 rfl (⟨by rw [ix_in h12x hj], rfl⟩)

/-- TABLE c of the class holds the reference's rows -/
def TQ (T : TH) (s : Sh) (ps : PS) (c : Nat) : Prop := ∃ la oa qa va cap, Tb T (4 + 5 * c) la oa qa va cap (tOf s ps c) (dc s.2.2.2.2.2.1 (road s c)) (mc s.2.2.2.2.2.1 (road s c)) ((road s c).length - 1) (decide (s.2.2.2.2.1 (s.2.2.2.2.2.2 c) = 0)) ∧ cap < 2 ^ 31
/-- what the pure rows must be -/
def RQ (s : Sh) (ps : PS) : Prop := ∀ c, c < s.2.1 → RwOk (tOf s ps c) ∧ HsOk (tOf s ps c) (dc s.2.2.2.2.2.1 (road s c)) ∧ (road s c).length ≤ 5 ∧ ∀ k, k < (tOf s ps c).length → (rowAt (tOf s ps c) k).2.2.2.2 < ps.1
def CQ (T : TH) (cu : Nat) (s : Sh) (ps : PS) : Prop := CU T cu s.2.1 ∧ (∀ c, c < s.2.1 → TQ T s ps c) ∧ RQ s ps

set_option maxHeartbeats 4000000 in
theorem c_X7_leaf (d : Nat) {T : TH} {cu : Nat} {s : Sh} {ps : PS} (hQ : CQ T cu s ps) (x y : Int32) : Xe m_X7_leaf (d + 5) 0 [(0, .ref 0), (1, .int x), (2, .int y)] [] T (fun r9 T1 => r9 = some (.int (match ix x s.2.1 with
    | none => -1
    | some c => leafA s ps c y)) ∧ T1 = T) := by
  obtain ⟨hU, hTQ, hRQ⟩ := hQ
  refine xe (fun _ _ kK => x_aload_n dX7_leaf_0 rfl 0 rfl kK) ?_
  refine xe (fun _ _ kK => x_iload_n dX7_leaf_1 rfl 1 rfl kK) ?_
  refine xe_callV (a := 0) [.int x] dX7_leaf_2 ml_X7_85 mf_X7_tableOf hU.1.1 (c_X7_tableOf (d + 4) hU x) rfl rfl (Nat.le_of_ble_eq_true rfl) (Nat.le_of_ble_eq_true rfl) ?_
  rintro _ T9 ⟨rfl, hTq9⟩
  refine xe_T hTq9 ?_
  cases hix : ix x s.2.1 with
  | none =>
    show Xe m_X7_leaf ((d + 4) + 1) 5 [(0, .ref 0), (1, .int x), (2, .int y)] [.null] T _
    refine xe (fun _ _ kK => x_astore_nN dX7_leaf_5 rfl (by decide) (show _ = [(3, .null), (0, .ref 0), (1, .int x), (2, .int y)] from rfl) kK) ?_
    refine xe (fun _ _ kK => x_aload_nN dX7_leaf_6 rfl 0 rfl kK) ?_
    refine xe (fun _ _ kK => x_ifnonnullN dX7_leaf_7 kK) ?_
    refine xe (fun _ _ kK => x_iconst dX7_leaf_10 (show _ = (-1) by decide) kK) ?_
    exact xe_reti dX7_leaf_11 rfl (⟨rfl, rfl⟩)
  | some c =>
    obtain ⟨hc, rfl, hcb⟩ := ix_lt hix
    show Xe m_X7_leaf ((d + 4) + 1) 5 [(0, .ref 0), (1, .int (nI c)), (2, .int y)] [.ref (4 + 5 * c)] T _
    obtain ⟨la, oa, qa, va, cap, hT, hcap⟩ := hTQ c hc
    obtain ⟨hO, hH, hr5, hpp⟩ := hRQ c hc
    have hdc := dc_le s.2.2.2.2.2.1 (road s c)
    have hmc := mc_le s.2.2.2.2.2.1 (road s c)
    have hdg : dc s.2.2.2.2.2.1 (road s c) < 2 ^ 31 := by omega
    refine xe (fun _ _ kK => x_astore_n dX7_leaf_5 rfl (by decide) (show _ = [(3, .ref (4 + 5 * c)), (0, .ref 0), (1, .int (nI c)), (2, .int y)] from rfl) kK) ?_
    refine xe (fun _ _ kK => x_aload_n dX7_leaf_6 rfl 0 rfl kK) ?_
    refine xe (fun _ _ kK => x_ifnonnull (tgt := 12) dX7_leaf_7 (by decide) kK) ?_
    refine xe (fun _ _ kK => x_iload_n dX7_leaf_12 rfl 3 rfl kK) ?_
    cases hiy : ix y 8 with
    | none =>
      refine xe (fun _ _ kK => x_tableOut (tgt := 108) dX7_leaf_13 (by have := ix_case (by decide) hiy; omega) (by decide) kK) ?_
      refine xe (fun _ _ kK => x_iconst dX7_leaf_108 (show _ = (-1) by decide) kK) ?_
      exact xe_reti dX7_leaf_109 rfl (⟨by show some _ = some (Value.int (leafA s ps c _)); unfold leafA; rw [hiy] <;> rfl, rfl⟩)
    | some j =>
      obtain ⟨hj8, rfl, -⟩ := ix_lt hiy
      have hj : j = 0 ∨ j = 1 ∨ j = 2 ∨ j = 3 ∨ j = 4 ∨ j = 5 ∨ j = 6 ∨ j = 7 := by omega
      rcases hj with rfl | rfl | rfl | rfl | rfl | rfl | rfl | rfl
      · -- pc 60
        refine xe (fun _ _ kK => x_tableIn (tgt := 60) (off := 47) dX7_leaf_13 (by decide) (by decide) (by decide) (by decide) kK) ?_
        refine xe (fun _ _ kK => x_aload_n dX7_leaf_60 rfl 0 rfl kK) ?_
        refine xe (fun _ _ kK => x_get dX7_leaf_61 fl_X7_89 hT.1 (gvl_i fz_3_5.2.2 (show e_i T 197 (4 + 5 * c) = nI (dc s.2.2.2.2.2.1 (road s c)) from hT.2.2.2.2.1.2.1)) kK) ?_
        exact xe_reti dX7_leaf_64 rfl (⟨by show some _ = some (Value.int (leafA s ps c _)); unfold leafA; rw [hiy] <;> rfl, rfl⟩)
      · -- pc 65
        refine xe (fun _ _ kK => x_tableIn (tgt := 65) (off := 52) dX7_leaf_13 (by decide) (by decide) (by decide) (by decide) kK) ?_
        refine xe (fun _ _ kK => x_aload_n dX7_leaf_65 rfl 0 rfl kK) ?_
        refine xe (fun _ _ kK => x_get dX7_leaf_66 fl_X7_92 hT.1 (gvl_i fz_3_6.2.2 (show e_i T 198 (4 + 5 * c) = nI (mc s.2.2.2.2.2.1 (road s c)) from hT.2.2.2.2.1.2.2.1)) kK) ?_
        exact xe_reti dX7_leaf_69 rfl (⟨by show some _ = some (Value.int (leafA s ps c _)); unfold leafA; rw [hiy] <;> rfl, rfl⟩)
      · -- pc 70
        refine xe (fun _ _ kK => x_tableIn (tgt := 70) (off := 57) dX7_leaf_13 (by decide) (by decide) (by decide) (by decide) kK) ?_
        refine xe (fun _ _ kK => x_aload_n dX7_leaf_70 rfl 0 rfl kK) ?_
        refine xe (fun _ _ kK => x_get dX7_leaf_71 fl_X7_95 hT.1 (gvl_z fz_3_7.2.2 (show e_i T 199 (4 + 5 * c) = bI (decide (s.2.2.2.2.1 (s.2.2.2.2.2.2 c) = 0)) from hT.2.2.2.2.1.2.2.2.1)) kK) ?_
        refine xe_if_eq (tgt := 81) dX7_leaf_74 (by decide) (fun h74 => ?_) (fun h74 => ?_)
        · -- pc 81
          have h74 := cv_b0 h74
          refine xe (fun _ _ kK => x_iconst dX7_leaf_81 (show _ = nI 0 by decide) kK) ?_
          exact xe_reti dX7_leaf_82 rfl (⟨by show some _ = some (Value.int (leafA s ps c _)); unfold leafA; rw [hiy]; exact congrArg (fun z => some (Value.int z)) (if_neg (of_decide_eq_false h74)).symm, rfl⟩)
        · -- pc 77
          have h74 := cv_b1 h74
          refine xe (fun _ _ kK => x_iconst dX7_leaf_77 (show _ = nI 1 by decide) kK) ?_
          refine xe (fun _ _ kK => x_goto (tgt := 82) dX7_leaf_78 (by decide) kK) ?_
          exact xe_reti dX7_leaf_82 rfl (⟨by show some _ = some (Value.int (leafA s ps c _)); unfold leafA; rw [hiy]; exact congrArg (fun z => some (Value.int z)) (if_pos (of_decide_eq_true h74)).symm, rfl⟩)
      · -- pc 83
        refine xe (fun _ _ kK => x_tableIn (tgt := 83) (off := 70) dX7_leaf_13 (by decide) (by decide) (by decide) (by decide) kK) ?_
        refine xe (fun _ _ kK => x_aload_n dX7_leaf_83 rfl 0 rfl kK) ?_
        refine xe (fun _ _ kK => x_get dX7_leaf_84 fl_X7_99 hT.1 (gvl_i fz_3_8.2.2 (show e_i T 200 (4 + 5 * c) = nI ((road s c).length - 1) from hT.2.2.2.2.1.2.2.2.2)) kK) ?_
        exact xe_reti dX7_leaf_87 rfl (⟨by show some _ = some (Value.int (leafA s ps c _)); unfold leafA; rw [hiy] <;> rfl, rfl⟩)
      · -- pc 88
        refine xe (fun _ _ kK => x_tableIn (tgt := 88) (off := 75) dX7_leaf_13 (by decide) (by decide) (by decide) (by decide) kK) ?_
        refine xe (fun _ _ kK => x_aload_n dX7_leaf_88 rfl 0 rfl kK) ?_
        refine xe (fun _ _ kK => x_get dX7_leaf_89 fl_X7_102 hT.1 (gvl_i fz_3_4.2.2 (show e_i T 196 (4 + 5 * c) = nI (tOf s ps c).length from hT.2.2.2.2.1.1)) kK) ?_
        exact xe_reti dX7_leaf_92 rfl (⟨by show some _ = some (Value.int (leafA s ps c _)); unfold leafA; rw [hiy] <;> rfl, rfl⟩)
      · -- pc 93
        refine xe (fun _ _ kK => x_tableIn (tgt := 93) (off := 80) dX7_leaf_13 (by decide) (by decide) (by decide) (by decide) kK) ?_
        refine xe (fun _ _ kK => x_aload_n dX7_leaf_93 rfl 0 rfl kK) ?_
        refine xe_callV (a := (4 + 5 * c)) [] dX7_leaf_94 ml_X7_105 mf_X3_countValues hT.1 (c_X3_countValues (d + 2) hT hO hdg hH) rfl rfl (Nat.le_of_ble_eq_true rfl) (Nat.le_of_ble_eq_true rfl) ?_
        rintro _ T9 ⟨rfl, hTq9⟩
        refine xe_T hTq9 ?_
        exact xe_reti dX7_leaf_97 rfl (⟨by show some _ = some (Value.int (leafA s ps c _)); unfold leafA; rw [hiy] <;> rfl, rfl⟩)
      · -- pc 98
        refine xe (fun _ _ kK => x_tableIn (tgt := 98) (off := 85) dX7_leaf_13 (by decide) (by decide) (by decide) (by decide) kK) ?_
        refine xe (fun _ _ kK => x_aload_n dX7_leaf_98 rfl 0 rfl kK) ?_
        refine xe_callV (a := (4 + 5 * c)) [] dX7_leaf_99 ml_X7_109 mf_X3_countUnlike hT.1 (c_X3_countUnlike (d + 1) hT hO hdg hH) rfl rfl (Nat.le_of_ble_eq_true rfl) (Nat.le_of_ble_eq_true rfl) ?_
        rintro _ T9 ⟨rfl, hTq9⟩
        refine xe_T hTq9 ?_
        exact xe_reti dX7_leaf_102 rfl (⟨by show some _ = some (Value.int (leafA s ps c _)); unfold leafA; rw [hiy] <;> rfl, rfl⟩)
      · -- pc 103
        refine xe (fun _ _ kK => x_tableIn (tgt := 103) (off := 90) dX7_leaf_13 (by decide) (by decide) (by decide) (by decide) kK) ?_
        refine xe (fun _ _ kK => x_aload_n dX7_leaf_103 rfl 0 rfl kK) ?_
        refine xe_callV (a := (4 + 5 * c)) [] dX7_leaf_104 ml_X7_112 mf_X3_measureSize hT.1 (c_X3_measureSize d hT hO hdg hH (by omega) hcap) rfl rfl (Nat.le_of_ble_eq_true rfl) (Nat.le_of_ble_eq_true rfl) ?_
        rintro _ T9 ⟨rfl, hTq9⟩
        refine xe_T hTq9 ?_
        exact xe_reti dX7_leaf_107 rfl (⟨by show some _ = some (Value.int (leafA s ps c _)); unfold leafA; rw [hiy] <;> rfl, rfl⟩)

set_option maxHeartbeats 4000000 in
theorem c_X7_row (d : Nat) {T : TH} {cu : Nat} {s : Sh} {ps : PS} (hQ : CQ T cu s ps) (x y z : Int32) : Xe m_X7_row (d + 2) 0 [(0, .ref 0), (1, .int x), (2, .int y), (3, .int z)] [] T (fun r9 T1 => r9 = some (.int (rowA s ps x y z)) ∧ T1 = T) := by
  obtain ⟨hU, hTQ, hRQ⟩ := hQ
  refine xe (fun _ _ kK => x_aload_n dX7_row_0 rfl 0 rfl kK) ?_
  refine xe (fun _ _ kK => x_iload_n dX7_row_1 rfl 1 rfl kK) ?_
  refine xe_callV (a := 0) [.int x] dX7_row_2 ml_X7_85 mf_X7_tableOf hU.1.1 (c_X7_tableOf (d + 1) hU x) rfl rfl (Nat.le_of_ble_eq_true rfl) (Nat.le_of_ble_eq_true rfl) ?_
  rintro _ T9 ⟨rfl, hTq9⟩
  refine xe_T hTq9 ?_
  cases hix : ix x s.2.1 with
  | none =>
    show Xe m_X7_row ((d + 1) + 1) 5 [(0, .ref 0), (1, .int x), (2, .int y), (3, .int z)] [.null] T _
    refine xe (fun _ _ kK => x_astoreN dX7_row_5 (by decide) (show _ = [(4, .null), (0, .ref 0), (1, .int x), (2, .int y), (3, .int z)] from rfl) kK) ?_
    refine xe (fun _ _ kK => x_aloadN dX7_row_7 0 rfl kK) ?_
    refine xe (fun _ _ kK => x_ifnullN (tgt := 21) dX7_row_9 (by decide) kK) ?_
    refine xe (fun _ _ kK => x_iconst dX7_row_21 (show _ = (-1) by decide) kK) ?_
    exact xe_reti dX7_row_22 rfl (⟨by unfold rowA; rw [rwA_n hix] <;> rfl, rfl⟩)
  | some c =>
    obtain ⟨hc, rfl, hcb⟩ := ix_lt hix
    show Xe m_X7_row ((d + 1) + 1) 5 [(0, .ref 0), (1, .int (nI c)), (2, .int y), (3, .int z)] [.ref (4 + 5 * c)] T _
    obtain ⟨la, oa, qa, va, cap, hT, hcap⟩ := hTQ c hc
    obtain ⟨hO, hH, hr5, hpp⟩ := hRQ c hc
    have hdc := dc_le s.2.2.2.2.2.1 (road s c)
    have hmc := mc_le s.2.2.2.2.2.1 (road s c)
    have hdg : dc s.2.2.2.2.2.1 (road s c) < 2 ^ 31 := by omega
    refine xe (fun _ _ kK => x_astore dX7_row_5 (by decide) (show _ = [(4, .ref (4 + 5 * c)), (0, .ref 0), (1, .int (nI c)), (2, .int y), (3, .int z)] from rfl) kK) ?_
    refine xe (fun _ _ kK => x_aload dX7_row_7 0 rfl kK) ?_
    refine xe (fun _ _ kK => x_ifnull dX7_row_9 kK) ?_
    refine xe (fun _ _ kK => x_aload dX7_row_12 0 rfl kK) ?_
    refine xe (fun _ _ kK => x_iload_n dX7_row_14 rfl 3 rfl kK) ?_
    refine xe_callV (a := (4 + 5 * c)) [.int y] dX7_row_15 ml_X7_115 mf_X3_isRow hT.1 (c_X3_isRow (d + 1) hT hO y) rfl rfl (Nat.le_of_ble_eq_true rfl) (Nat.le_of_ble_eq_true rfl) ?_
    rintro _ T9 ⟨rfl, hTq9⟩
    refine xe_T hTq9 ?_
    cases hiy : ix y (tOf s ps c).length with
    | none =>
      show Xe m_X7_row (d + 2) 18 [(4, .ref (4 + 5 * c)), (0, .ref 0), (1, .int (nI c)), (2, .int y), (3, .int z)] [.int (bI false)] T _
      refine xe (fun _ _ kK => x_if_neF (tgt := 23) dX7_row_18 (by decide) rfl kK) ?_
      refine xe (fun _ _ kK => x_iconst dX7_row_21 (show _ = (-1) by decide) kK) ?_
      exact xe_reti dX7_row_22 rfl (⟨by unfold rowA; rw [rwA_o hix hiy] <;> rfl, rfl⟩)
    | some k =>
      obtain ⟨hk, rfl, hkb⟩ := ix_lt hiy
      show Xe m_X7_row (d + 2) 18 [(4, .ref (4 + 5 * c)), (0, .ref 0), (1, .int (nI c)), (2, .int (nI k)), (3, .int z)] [.int (bI true)] T _
      refine xe (fun _ _ kK => x_if_neT (tgt := 23) dX7_row_18 (by decide) (by decide) kK) ?_
      have hl6 := hO.1
      refine xe (fun _ _ kK => x_iload_n dX7_row_23 rfl 4 rfl kK) ?_
      have hA : rowA s ps (nI c) (nI k) z = (match ix z 4 with | some 0 => nI (rowAt (tOf s ps c) k).1 | some 1 => nI (rowAt (tOf s ps c) k).2.1 | some 2 => bI (rowAt (tOf s ps c) k).2.2.1 | some 3 => nI (rowAt (tOf s ps c) k).2.2.2.2 | _ => -1) := by unfold rowA; rw [rwA_i hix hiy] <;> rfl
      cases hiz : ix z 4 with
      | none =>
        refine xe (fun _ _ kK => x_tableOut (tgt := 95) dX7_row_24 (by have := ix_case (by decide) hiz; omega) (by decide) kK) ?_
        refine xe (fun _ _ kK => x_iconst dX7_row_95 (show _ = (-1) by decide) kK) ?_
        exact xe_reti dX7_row_96 rfl (⟨by rw [hA, hiz] <;> rfl, rfl⟩)
      | some j =>
        obtain ⟨hj8, rfl, -⟩ := ix_lt hiz
        have hj : j = 0 ∨ j = 1 ∨ j = 2 ∨ j = 3 := by omega
        rcases hj with rfl | rfl | rfl | rfl
        · -- pc 56
          refine xe (fun _ _ kK => x_tableIn (tgt := 56) (off := 32) dX7_row_24 (by decide) (by decide) (by decide) (by decide) kK) ?_
          refine xe (fun _ _ kK => x_aload dX7_row_56 0 rfl kK) ?_
          refine xe (fun _ _ kK => x_get dX7_row_58 fl_X7_118 hT.1 (gvl_r1 fz_3_0.2.2 (show e_r T 192 (4 + 5 * c) = some la from hT.2.1.1)) kK) ?_
          refine xe (fun _ _ kK => x_iload_n dX7_row_61 rfl 3 rfl kK) ?_
          refine xe (fun _ _ kK => x_iald dX7_row_62 hT.2.2.1.1 (show (nI k) = nI k from rfl) (hT.len hk).1 (show e_ai T la k = nI (rowAt (tOf s ps c) k).1 from (hT.2.2.2.2.2 k hk).1) kK) ?_
          exact xe_reti dX7_row_63 rfl (⟨by rw [hA, hiz] <;> rfl, rfl⟩)
        · -- pc 64
          refine xe (fun _ _ kK => x_tableIn (tgt := 64) (off := 40) dX7_row_24 (by decide) (by decide) (by decide) (by decide) kK) ?_
          refine xe (fun _ _ kK => x_aload dX7_row_64 0 rfl kK) ?_
          refine xe (fun _ _ kK => x_get dX7_row_66 fl_X7_122 hT.1 (gvl_r1 fz_3_1.2.2 (show e_r T 193 (4 + 5 * c) = some oa from hT.2.1.2.1)) kK) ?_
          refine xe (fun _ _ kK => x_iload_n dX7_row_69 rfl 3 rfl kK) ?_
          refine xe (fun _ _ kK => x_iald dX7_row_70 hT.2.2.1.2.1 (show (nI k) = nI k from rfl) (hT.len hk).2.1 (show e_ai T oa k = nI (rowAt (tOf s ps c) k).2.1 from (hT.2.2.2.2.2 k hk).2.1) kK) ?_
          exact xe_reti dX7_row_71 rfl (⟨by rw [hA, hiz] <;> rfl, rfl⟩)
        · -- pc 72
          refine xe (fun _ _ kK => x_tableIn (tgt := 72) (off := 48) dX7_row_24 (by decide) (by decide) (by decide) (by decide) kK) ?_
          refine xe (fun _ _ kK => x_aload dX7_row_72 0 rfl kK) ?_
          refine xe (fun _ _ kK => x_iload_n dX7_row_74 rfl 3 rfl kK) ?_
          refine xe_callV (a := (4 + 5 * c)) [.int (nI k)] dX7_row_75 ml_X7_125 mf_X3_hasValue hT.1 (by have := c_X3_hasValue d hT hO hdg hH (nI k); rw [hvX_in hk hl6] at this; exact this) rfl rfl (Nat.le_of_ble_eq_true rfl) (Nat.le_of_ble_eq_true rfl) ?_
          rintro _ T9 ⟨rfl, hTq9⟩
          refine xe_T hTq9 ?_
          refine xe_if_eq (tgt := 85) dX7_row_78 (by decide) (fun h78 => ?_) (fun h78 => ?_)
          · -- pc 85
            have h78 := cv_b0 h78
            refine xe (fun _ _ kK => x_iconst dX7_row_85 (show _ = nI 0 by decide) kK) ?_
            exact xe_reti dX7_row_86 rfl (⟨by rw [hA, hiz]; exact congrArg (fun z => some (Value.int (bI z))) h78.symm, rfl⟩)
          · -- pc 81
            have h78 := cv_b1 h78
            refine xe (fun _ _ kK => x_iconst dX7_row_81 (show _ = nI 1 by decide) kK) ?_
            refine xe (fun _ _ kK => x_goto (tgt := 86) dX7_row_82 (by decide) kK) ?_
            exact xe_reti dX7_row_86 rfl (⟨by rw [hA, hiz]; exact congrArg (fun z => some (Value.int (bI z))) h78.symm, rfl⟩)
        · -- pc 87
          refine xe (fun _ _ kK => x_tableIn (tgt := 87) (off := 63) dX7_row_24 (by decide) (by decide) (by decide) (by decide) kK) ?_
          refine xe (fun _ _ kK => x_aload dX7_row_87 0 rfl kK) ?_
          refine xe (fun _ _ kK => x_get dX7_row_89 fl_X7_128 hT.1 (gvl_r1 fz_3_2.2.2 (show e_r T 194 (4 + 5 * c) = some qa from hT.2.1.2.2.1)) kK) ?_
          refine xe (fun _ _ kK => x_iload_n dX7_row_92 rfl 3 rfl kK) ?_
          refine xe (fun _ _ kK => x_iald dX7_row_93 hT.2.2.1.2.2.1 (show (nI k) = nI k from rfl) (hT.len hk).2.2.1 (show e_ai T qa k = nI (rowAt (tOf s ps c) k).2.2.2.2 from (hT.2.2.2.2.2 k hk).2.2.1) kK) ?_
          exact xe_reti dX7_row_94 rfl (⟨by rw [hA, hiz] <;> rfl, rfl⟩)

set_option maxHeartbeats 4000000 in
theorem c_X7_value (d : Nat) {T : TH} {cu : Nat} {s : Sh} {ps : PS} (hQ : CQ T cu s ps) (x y : Int32) : Xe m_X7_value (d + 2) 0 [(0, .ref 0), (1, .int x), (2, .int y)] [] T (fun r9 T1 => r9 = some (.long (valA s ps x y)) ∧ T1 = T) := by
  obtain ⟨hU, hTQ, hRQ⟩ := hQ
  refine xe (fun _ _ kK => x_aload_n dX7_value_0 rfl 0 rfl kK) ?_
  refine xe (fun _ _ kK => x_iload_n dX7_value_1 rfl 1 rfl kK) ?_
  refine xe_callV (a := 0) [.int x] dX7_value_2 ml_X7_85 mf_X7_tableOf hU.1.1 (c_X7_tableOf (d + 1) hU x) rfl rfl (Nat.le_of_ble_eq_true rfl) (Nat.le_of_ble_eq_true rfl) ?_
  rintro _ T9 ⟨rfl, hTq9⟩
  refine xe_T hTq9 ?_
  cases hix : ix x s.2.1 with
  | none =>
    show Xe m_X7_value ((d + 1) + 1) 5 [(0, .ref 0), (1, .int x), (2, .int y)] [.null] T _
    refine xe (fun _ _ kK => x_astore_nN dX7_value_5 rfl (by decide) (show _ = [(3, .null), (0, .ref 0), (1, .int x), (2, .int y)] from rfl) kK) ?_
    refine xe (fun _ _ kK => x_aload_nN dX7_value_6 rfl 0 rfl kK) ?_
    refine xe (fun _ _ kK => x_ifnullN (tgt := 18) dX7_value_7 (by decide) kK) ?_
    refine xe (fun _ _ kK => x_lconst dX7_value_18 (show _ = lN 0 by decide) kK) ?_
    exact xe_retl dX7_value_19 rfl (⟨by unfold valA; rw [rwA_n hix] <;> rfl, rfl⟩)
  | some c =>
    obtain ⟨hc, rfl, hcb⟩ := ix_lt hix
    show Xe m_X7_value ((d + 1) + 1) 5 [(0, .ref 0), (1, .int (nI c)), (2, .int y)] [.ref (4 + 5 * c)] T _
    obtain ⟨la, oa, qa, va, cap, hT, hcap⟩ := hTQ c hc
    obtain ⟨hO, hH, hr5, hpp⟩ := hRQ c hc
    have hdc := dc_le s.2.2.2.2.2.1 (road s c)
    have hmc := mc_le s.2.2.2.2.2.1 (road s c)
    have hdg : dc s.2.2.2.2.2.1 (road s c) < 2 ^ 31 := by omega
    refine xe (fun _ _ kK => x_astore_n dX7_value_5 rfl (by decide) (show _ = [(3, .ref (4 + 5 * c)), (0, .ref 0), (1, .int (nI c)), (2, .int y)] from rfl) kK) ?_
    refine xe (fun _ _ kK => x_aload_n dX7_value_6 rfl 0 rfl kK) ?_
    refine xe (fun _ _ kK => x_ifnull dX7_value_7 kK) ?_
    refine xe (fun _ _ kK => x_aload_n dX7_value_10 rfl 0 rfl kK) ?_
    refine xe (fun _ _ kK => x_iload_n dX7_value_11 rfl 3 rfl kK) ?_
    refine xe_callV (a := (4 + 5 * c)) [.int y] dX7_value_12 ml_X7_125 mf_X3_hasValue hT.1 (c_X3_hasValue d hT hO hdg hH y) rfl rfl (Nat.le_of_ble_eq_true rfl) (Nat.le_of_ble_eq_true rfl) ?_
    rintro _ T9 ⟨rfl, hTq9⟩
    refine xe_T hTq9 ?_
    have hl6 := hO.1
    cases hiy : ix y (tOf s ps c).length with
    | none =>
      have e9 : hvX (tOf s ps c) y = false := by unfold hvX; rw [hiy]
      rw [e9]
      refine xe (fun _ _ kK => x_if_neF (tgt := 20) dX7_value_15 (by decide) rfl kK) ?_
      refine xe (fun _ _ kK => x_lconst dX7_value_18 (show _ = lN 0 by decide) kK) ?_
      exact xe_retl dX7_value_19 rfl (⟨by unfold valA; rw [rwA_o hix hiy] <;> rfl, rfl⟩)
    | some k =>
      obtain ⟨hk, rfl, hkb⟩ := ix_lt hiy
      rw [hvX_in hk hl6]
      refine xe_if_ne (tgt := 20) dX7_value_15 (by decide) (fun h15 => ?_) (fun h15 => ?_)
      · -- pc 20
        have h15 := cv_b1 h15
        refine xe (fun _ _ kK => x_aload_n dX7_value_20 rfl 0 rfl kK) ?_
        refine xe (fun _ _ kK => x_get dX7_value_21 fl_X7_131 hT.1 (gvl_r1 fz_3_3.2.2 (show e_r T 195 (4 + 5 * c) = some va from hT.2.1.2.2.2)) kK) ?_
        refine xe (fun _ _ kK => x_iload_n dX7_value_24 rfl 3 rfl kK) ?_
        refine xe (fun _ _ kK => x_lald dX7_value_25 hT.2.2.1.2.2.2 (show (nI k) = nI k from rfl) (hT.len hk).2.2.2 (show e_al T va k = (rowAt (tOf s ps c) k).2.2.2.1 from (hT.2.2.2.2.2 k hk).2.2.2) kK) ?_
        exact xe_retl dX7_value_26 rfl (⟨by unfold valA; rw [rwA_i hix hiy]; exact congrArg (fun z => some (Value.long z)) (if_pos h15).symm, rfl⟩)
      · -- pc 18
        have h15 := cv_b0 h15
        refine xe (fun _ _ kK => x_lconst dX7_value_18 (show _ = lN 0 by decide) kK) ?_
        exact xe_retl dX7_value_19 rfl (⟨by unfold valA; rw [rwA_i hix hiy]; exact congrArg (fun z => some (Value.long z)) (if_neg (by rw [h15]; decide)).symm, rfl⟩)

set_option maxHeartbeats 4000000 in
theorem l_X7_among (d : Nat) {T : TH} {a la oa qa va cap : Nat} {R : List Row} {dg ag gr : Nat} {nm : Bool} (hT : Tb T a la oa qa va cap R dg ag gr nm) (hO : RwOk R) (hdg : dg < 2 ^ 31) (hH : HsOk R dg) {x : Int32} {lo hi : Int64} : ∀ (m k : Nat), R.length - k = m → k ≤ R.length → Xe m_X7_among (d + 3) 20 [(8, .int (nI k)), (7, .int (nI (cI (aP R lo hi) k))), (6, .ref a), (0, .ref 0), (1, .int x), (2, .long lo), (4, .long hi)] [] T (fun r T1 => r = some (.int (nI (cI (aP R lo hi) R.length))) ∧ T1 = T) := by
  intro m
  induction m using Nat.strongRecOn with
  | ind m ih =>
    intro k hm hk
    subst hm
    have h6 := hO.1
    refine xe (fun _ _ kK => x_iload dX7_among_20 0 rfl kK) ?_
    refine xe (fun _ _ kK => x_aload dX7_among_22 2 rfl kK) ?_
    refine xe (fun _ _ kK => x_get dX7_among_24 fl_X7_102 hT.1 (gvl_i fz_3_4.2.2 (show e_i T 196 a = nI R.length from hT.2.2.2.2.1.1)) kK) ?_
    refine xe_icmp_ge (tgt := 52) dX7_among_27 (by decide) (fun h27 => ?_) (fun h27 => ?_)
    · -- pc 52
      have h27 := cv_le (by omega) (by omega) h27
      refine xe (fun _ _ kK => x_iload dX7_among_52 1 rfl kK) ?_
      exact xe_reti dX7_among_54 rfl (⟨by rw [show k = R.length by omega], rfl⟩)
    · -- pc 30
      have h27 := cv_nle (by omega) (by omega) h27
      have hrk := hO.2 k h27
      have hci := cI_le (aP R lo hi) k
      refine xe (fun _ _ kK => x_aload dX7_among_30 2 rfl kK) ?_
      refine xe (fun _ _ kK => x_iload dX7_among_32 0 rfl kK) ?_
      refine xe (fun _ _ kK => x_lload_n dX7_among_34 rfl 5 rfl kK) ?_
      refine xe (fun _ _ kK => x_lload dX7_among_35 6 rfl kK) ?_
      refine xe_callV (a := a) [.int (nI k), .long lo, .long hi] dX7_among_37 ml_X7_148 mf_X3_hasValueWithin hT.1 (c_X3_hasValueWithin d hT hO hdg hH h27) rfl rfl (Nat.le_of_ble_eq_true rfl) (Nat.le_of_ble_eq_true rfl) ?_
      rintro _ T9 ⟨rfl, hTq9⟩
      refine xe_T hTq9 ?_
      refine xe_if_eq (tgt := 46) dX7_among_40 (by decide) (fun h40 => ?_) (fun h40 => ?_)
      · -- pc 46
        have h40 := cv_b0 h40
        refine xe (fun _ _ kK => x_iinc dX7_among_46 0 rfl (show (nI k) + Int32.ofInt 1 = nI (k + 1) from nI_add k 1) (by decide) (show _ = [(8, .int (nI (k + 1))), (7, .int (nI (cI (aP R lo hi) k))), (6, .ref a), (0, .ref 0), (1, .int x), (2, .long lo), (4, .long hi)] from rfl) kK) ?_
        refine xe (fun _ _ kK => x_goto (tgt := 20) dX7_among_49 (by decide) kK) ?_
        have hv : cI (aP R lo hi) (k + 1) = cI (aP R lo hi) k  := cI_f (by exact h40)
        have := ih (R.length - (k + 1)) (by omega) (k + 1) rfl (by omega)
        rw [hv] at this
        exact xe_loc (by simp) this
      · -- pc 43
        have h40 := cv_b1 h40
        refine xe (fun _ _ kK => x_iinc dX7_among_43 1 rfl (show (nI (cI (aP R lo hi) k)) + Int32.ofInt 1 = nI ((cI (aP R lo hi) k) + 1) from nI_add (cI (aP R lo hi) k) 1) (by decide) (show _ = [(7, .int (nI ((cI (aP R lo hi) k) + 1))), (8, .int (nI k)), (6, .ref a), (0, .ref 0), (1, .int x), (2, .long lo), (4, .long hi)] from rfl) kK) ?_
        refine xe (fun _ _ kK => x_iinc dX7_among_46 1 rfl (show (nI k) + Int32.ofInt 1 = nI (k + 1) from nI_add k 1) (by decide) (show _ = [(8, .int (nI (k + 1))), (7, .int (nI ((cI (aP R lo hi) k) + 1))), (6, .ref a), (0, .ref 0), (1, .int x), (2, .long lo), (4, .long hi)] from rfl) kK) ?_
        refine xe (fun _ _ kK => x_goto (tgt := 20) dX7_among_49 (by decide) kK) ?_
        have hv : cI (aP R lo hi) (k + 1) = cI (aP R lo hi) k + 1 := cI_t (by exact h40)
        have := ih (R.length - (k + 1)) (by omega) (k + 1) rfl (by omega)
        rw [hv] at this
        exact xe_loc (by simp) this

set_option maxHeartbeats 4000000 in
theorem c_X7_among (d : Nat) {T : TH} {cu : Nat} {s : Sh} {ps : PS} (hQ : CQ T cu s ps) (x : Int32) (lo hi : Int64) : Xe m_X7_among (d + 3) 0 [(0, .ref 0), (1, .int x), (2, .long lo), (4, .long hi)] [] T (fun r9 T1 => r9 = some (.int (match ix x s.2.1 with
    | none => -1
    | some c => nI (cI (aP (tOf s ps c) lo hi) (tOf s ps c).length))) ∧ T1 = T) := by
  obtain ⟨hU, hTQ, hRQ⟩ := hQ
  refine xe (fun _ _ kK => x_aload_n dX7_among_0 rfl 0 rfl kK) ?_
  refine xe (fun _ _ kK => x_iload_n dX7_among_1 rfl 1 rfl kK) ?_
  refine xe_callV (a := 0) [.int x] dX7_among_2 ml_X7_85 mf_X7_tableOf hU.1.1 (c_X7_tableOf (d + 2) hU x) rfl rfl (Nat.le_of_ble_eq_true rfl) (Nat.le_of_ble_eq_true rfl) ?_
  rintro _ T9 ⟨rfl, hTq9⟩
  refine xe_T hTq9 ?_
  cases hix : ix x s.2.1 with
  | none =>
    show Xe m_X7_among ((d + 2) + 1) 5 [(0, .ref 0), (1, .int x), (2, .long lo), (4, .long hi)] [.null] T _
    refine xe (fun _ _ kK => x_astoreN dX7_among_5 (by decide) (show _ = [(6, .null), (0, .ref 0), (1, .int x), (2, .long lo), (4, .long hi)] from rfl) kK) ?_
    refine xe (fun _ _ kK => x_aloadN dX7_among_7 0 rfl kK) ?_
    refine xe (fun _ _ kK => x_ifnonnullN dX7_among_9 kK) ?_
    refine xe (fun _ _ kK => x_iconst dX7_among_12 (show _ = (-1) by decide) kK) ?_
    exact xe_reti dX7_among_13 rfl (⟨rfl, rfl⟩)
  | some c =>
    obtain ⟨hc, rfl, hcb⟩ := ix_lt hix
    show Xe m_X7_among ((d + 2) + 1) 5 [(0, .ref 0), (1, .int (nI c)), (2, .long lo), (4, .long hi)] [.ref (4 + 5 * c)] T _
    obtain ⟨la, oa, qa, va, cap, hT, hcap⟩ := hTQ c hc
    obtain ⟨hO, hH, hr5, hpp⟩ := hRQ c hc
    have hdc := dc_le s.2.2.2.2.2.1 (road s c)
    have hmc := mc_le s.2.2.2.2.2.1 (road s c)
    have hdg : dc s.2.2.2.2.2.1 (road s c) < 2 ^ 31 := by omega
    refine xe (fun _ _ kK => x_astore dX7_among_5 (by decide) (show _ = [(6, .ref (4 + 5 * c)), (0, .ref 0), (1, .int (nI c)), (2, .long lo), (4, .long hi)] from rfl) kK) ?_
    refine xe (fun _ _ kK => x_aload dX7_among_7 0 rfl kK) ?_
    refine xe (fun _ _ kK => x_ifnonnull (tgt := 14) dX7_among_9 (by decide) kK) ?_
    refine xe (fun _ _ kK => x_iconst dX7_among_14 (show _ = nI 0 by decide) kK) ?_
    refine xe (fun _ _ kK => x_istore dX7_among_15 (by decide) (show _ = [(7, .int (nI 0)), (6, .ref (4 + 5 * c)), (0, .ref 0), (1, .int (nI c)), (2, .long lo), (4, .long hi)] from rfl) kK) ?_
    refine xe (fun _ _ kK => x_iconst dX7_among_17 (show _ = nI 0 by decide) kK) ?_
    refine xe (fun _ _ kK => x_istore dX7_among_18 (by decide) (show _ = [(8, .int (nI 0)), (7, .int (nI 0)), (6, .ref (4 + 5 * c)), (0, .ref 0), (1, .int (nI c)), (2, .long lo), (4, .long hi)] from rfl) kK) ?_
    exact xe_loc (by simp [cI]) (l_X7_among d (x := nI c) (lo := lo) (hi := hi) hT hO hdg hH (tOf s ps c).length 0 rfl (Nat.zero_le _))

set_option maxHeartbeats 4000000 in
theorem l_X7_rows (d : Nat) {T : TH} {a la oa qa va cap : Nat} {R : List Row} {dg ag gr : Nat} {nm : Bool} (hT : Tb T a la oa qa va cap R dg ag gr nm) (hO : RwOk R) {x y z : Int32} : ∀ (m k : Nat), R.length - k = m → k ≤ R.length → Xe m_X7_rows d 20 [(6, .int (nI k)), (5, .int (nI (cI (wP R y z) k))), (4, .ref a), (0, .ref 0), (1, .int x), (2, .int y), (3, .int z)] [] T (fun r T1 => r = some (.int (nI (cI (wP R y z) R.length))) ∧ T1 = T) := by
  intro m
  induction m using Nat.strongRecOn with
  | ind m ih =>
    intro k hm hk
    subst hm
    have h6 := hO.1
    refine xe (fun _ _ kK => x_iload dX7_rows_20 0 rfl kK) ?_
    refine xe (fun _ _ kK => x_aload dX7_rows_22 2 rfl kK) ?_
    refine xe (fun _ _ kK => x_get dX7_rows_24 fl_X7_102 hT.1 (gvl_i fz_3_4.2.2 (show e_i T 196 a = nI R.length from hT.2.2.2.2.1.1)) kK) ?_
    refine xe_icmp_ge (tgt := 97) dX7_rows_27 (by decide) (fun h27 => ?_) (fun h27 => ?_)
    · -- pc 97
      have h27 := cv_le (by omega) (by omega) h27
      refine xe (fun _ _ kK => x_iload dX7_rows_97 1 rfl kK) ?_
      exact xe_reti dX7_rows_99 rfl (⟨by rw [show k = R.length by omega], rfl⟩)
    · -- pc 30
      have h27 := cv_nle (by omega) (by omega) h27
      have hrk := hO.2 k h27
      have hci := cI_le (wP R y z) k
      refine xe (fun _ _ kK => x_iload_n dX7_rows_30 rfl 5 rfl kK) ?_
      refine xe (fun _ _ kK => x_iconst dX7_rows_31 (show _ = (-1) by decide) kK) ?_
      refine xe_icmp_eq (tgt := 47) dX7_rows_32 (by decide) (fun h32 => ?_) (fun h32 => ?_)
      · -- pc 47
        refine xe (fun _ _ kK => x_iconst dX7_rows_47 (show _ = nI 1 by decide) kK) ?_
        refine xe (fun _ _ kK => x_goto (tgt := 52) dX7_rows_48 (by decide) kK) ?_
        refine xe (fun _ _ kK => x_istore dX7_rows_52 (by decide) (show _ = [(7, .int (nI 1)), (6, .int (nI k)), (5, .int (nI (cI (wP R y z) k))), (4, .ref a), (0, .ref 0), (1, .int x), (2, .int y), (3, .int z)] from rfl) kK) ?_
        refine xe (fun _ _ kK => x_iload_n dX7_rows_54 rfl 7 rfl kK) ?_
        refine xe (fun _ _ kK => x_iconst dX7_rows_55 (show _ = (-1) by decide) kK) ?_
        refine xe_icmp_eq (tgt := 71) dX7_rows_56 (by decide) (fun h56 => ?_) (fun h56 => ?_)
        · -- pc 71
          refine xe (fun _ _ kK => x_iconst dX7_rows_71 (show _ = nI 1 by decide) kK) ?_
          refine xe (fun _ _ kK => x_goto (tgt := 76) dX7_rows_72 (by decide) kK) ?_
          refine xe (fun _ _ kK => x_istore dX7_rows_76 (by decide) (show _ = [(8, .int (nI 1)), (7, .int (nI 1)), (6, .int (nI k)), (5, .int (nI (cI (wP R y z) k))), (4, .ref a), (0, .ref 0), (1, .int x), (2, .int y), (3, .int z)] from rfl) kK) ?_
          refine xe (fun _ _ kK => x_iload dX7_rows_78 1 rfl kK) ?_
          refine xe (fun _ _ kK => x_if_eqF (tgt := 91) dX7_rows_80 (by decide) (by decide) kK) ?_
          refine xe (fun _ _ kK => x_iload dX7_rows_83 0 rfl kK) ?_
          refine xe (fun _ _ kK => x_if_eqF (tgt := 91) dX7_rows_85 (by decide) (by decide) kK) ?_
          refine xe (fun _ _ kK => x_iinc dX7_rows_88 3 rfl (show (nI (cI (wP R y z) k)) + Int32.ofInt 1 = nI ((cI (wP R y z) k) + 1) from nI_add (cI (wP R y z) k) 1) (by decide) (show _ = [(5, .int (nI ((cI (wP R y z) k) + 1))), (8, .int (nI 1)), (7, .int (nI 1)), (6, .int (nI k)), (4, .ref a), (0, .ref 0), (1, .int x), (2, .int y), (3, .int z)] from rfl) kK) ?_
          refine xe (fun _ _ kK => x_iinc dX7_rows_91 3 rfl (show (nI k) + Int32.ofInt 1 = nI (k + 1) from nI_add k 1) (by decide) (show _ = [(6, .int (nI (k + 1))), (5, .int (nI ((cI (wP R y z) k) + 1))), (8, .int (nI 1)), (7, .int (nI 1)), (4, .ref a), (0, .ref 0), (1, .int x), (2, .int y), (3, .int z)] from rfl) kK) ?_
          refine xe (fun _ _ kK => x_goto (tgt := 20) dX7_rows_94 (by decide) kK) ?_
          have hv : cI (wP R y z) (k + 1) = cI (wP R y z) k + 1 := cI_t (by simp only [wP]; simp [*])
          have := ih (R.length - (k + 1)) (by omega) (k + 1) rfl (by omega)
          rw [hv] at this
          exact xe_loc (by simp) this
        · -- pc 59
          refine xe (fun _ _ kK => x_aload dX7_rows_59 3 rfl kK) ?_
          refine xe (fun _ _ kK => x_get dX7_rows_61 fl_X7_122 hT.1 (gvl_r1 fz_3_1.2.2 (show e_r T 193 a = some oa from hT.2.1.2.1)) kK) ?_
          refine xe (fun _ _ kK => x_iload dX7_rows_64 1 rfl kK) ?_
          refine xe (fun _ _ kK => x_iald dX7_rows_66 hT.2.2.1.2.1 (show (nI k) = nI k from rfl) (hT.len (show k < R.length by omega)).2.1 (show e_ai T oa k = nI (rowAt R k).2.1 from (hT.2.2.2.2.2 k h27).2.1) kK) ?_
          refine xe (fun _ _ kK => x_iload_n dX7_rows_67 rfl 7 rfl kK) ?_
          refine xe_icmp_ne (tgt := 75) dX7_rows_68 (by decide) (fun h68 => ?_) (fun h68 => ?_)
          · -- pc 75
            refine xe (fun _ _ kK => x_iconst dX7_rows_75 (show _ = nI 0 by decide) kK) ?_
            refine xe (fun _ _ kK => x_istore dX7_rows_76 (by decide) (show _ = [(8, .int (nI 0)), (7, .int (nI 1)), (6, .int (nI k)), (5, .int (nI (cI (wP R y z) k))), (4, .ref a), (0, .ref 0), (1, .int x), (2, .int y), (3, .int z)] from rfl) kK) ?_
            refine xe (fun _ _ kK => x_iload dX7_rows_78 1 rfl kK) ?_
            refine xe (fun _ _ kK => x_if_eqF (tgt := 91) dX7_rows_80 (by decide) (by decide) kK) ?_
            refine xe (fun _ _ kK => x_iload dX7_rows_83 0 rfl kK) ?_
            refine xe (fun _ _ kK => x_if_eqT (tgt := 91) dX7_rows_85 (by decide) (by decide) kK) ?_
            refine xe (fun _ _ kK => x_iinc dX7_rows_91 2 rfl (show (nI k) + Int32.ofInt 1 = nI (k + 1) from nI_add k 1) (by decide) (show _ = [(6, .int (nI (k + 1))), (8, .int (nI 0)), (7, .int (nI 1)), (5, .int (nI (cI (wP R y z) k))), (4, .ref a), (0, .ref 0), (1, .int x), (2, .int y), (3, .int z)] from rfl) kK) ?_
            refine xe (fun _ _ kK => x_goto (tgt := 20) dX7_rows_94 (by decide) kK) ?_
            have hv : cI (wP R y z) (k + 1) = cI (wP R y z) k := cI_f (by simp only [wP]; simp [*])
            have := ih (R.length - (k + 1)) (by omega) (k + 1) rfl (by omega)
            rw [hv] at this
            exact xe_loc (by simp) this
          · -- pc 71
            refine xe (fun _ _ kK => x_iconst dX7_rows_71 (show _ = nI 1 by decide) kK) ?_
            refine xe (fun _ _ kK => x_goto (tgt := 76) dX7_rows_72 (by decide) kK) ?_
            refine xe (fun _ _ kK => x_istore dX7_rows_76 (by decide) (show _ = [(8, .int (nI 1)), (7, .int (nI 1)), (6, .int (nI k)), (5, .int (nI (cI (wP R y z) k))), (4, .ref a), (0, .ref 0), (1, .int x), (2, .int y), (3, .int z)] from rfl) kK) ?_
            refine xe (fun _ _ kK => x_iload dX7_rows_78 1 rfl kK) ?_
            refine xe (fun _ _ kK => x_if_eqF (tgt := 91) dX7_rows_80 (by decide) (by decide) kK) ?_
            refine xe (fun _ _ kK => x_iload dX7_rows_83 0 rfl kK) ?_
            refine xe (fun _ _ kK => x_if_eqF (tgt := 91) dX7_rows_85 (by decide) (by decide) kK) ?_
            refine xe (fun _ _ kK => x_iinc dX7_rows_88 3 rfl (show (nI (cI (wP R y z) k)) + Int32.ofInt 1 = nI ((cI (wP R y z) k) + 1) from nI_add (cI (wP R y z) k) 1) (by decide) (show _ = [(5, .int (nI ((cI (wP R y z) k) + 1))), (8, .int (nI 1)), (7, .int (nI 1)), (6, .int (nI k)), (4, .ref a), (0, .ref 0), (1, .int x), (2, .int y), (3, .int z)] from rfl) kK) ?_
            refine xe (fun _ _ kK => x_iinc dX7_rows_91 3 rfl (show (nI k) + Int32.ofInt 1 = nI (k + 1) from nI_add k 1) (by decide) (show _ = [(6, .int (nI (k + 1))), (5, .int (nI ((cI (wP R y z) k) + 1))), (8, .int (nI 1)), (7, .int (nI 1)), (4, .ref a), (0, .ref 0), (1, .int x), (2, .int y), (3, .int z)] from rfl) kK) ?_
            refine xe (fun _ _ kK => x_goto (tgt := 20) dX7_rows_94 (by decide) kK) ?_
            have hv : cI (wP R y z) (k + 1) = cI (wP R y z) k + 1 := cI_t (by simp only [wP]; simp [*])
            have := ih (R.length - (k + 1)) (by omega) (k + 1) rfl (by omega)
            rw [hv] at this
            exact xe_loc (by simp) this
      · -- pc 35
        refine xe (fun _ _ kK => x_aload dX7_rows_35 2 rfl kK) ?_
        refine xe (fun _ _ kK => x_get dX7_rows_37 fl_X7_118 hT.1 (gvl_r1 fz_3_0.2.2 (show e_r T 192 a = some la from hT.2.1.1)) kK) ?_
        refine xe (fun _ _ kK => x_iload dX7_rows_40 0 rfl kK) ?_
        refine xe (fun _ _ kK => x_iald dX7_rows_42 hT.2.2.1.1 (show (nI k) = nI k from rfl) (hT.len (show k < R.length by omega)).1 (show e_ai T la k = nI (rowAt R k).1 from (hT.2.2.2.2.2 k h27).1) kK) ?_
        refine xe (fun _ _ kK => x_iload_n dX7_rows_43 rfl 5 rfl kK) ?_
        refine xe_icmp_ne (tgt := 51) dX7_rows_44 (by decide) (fun h44 => ?_) (fun h44 => ?_)
        · -- pc 51
          refine xe (fun _ _ kK => x_iconst dX7_rows_51 (show _ = nI 0 by decide) kK) ?_
          refine xe (fun _ _ kK => x_istore dX7_rows_52 (by decide) (show _ = [(7, .int (nI 0)), (6, .int (nI k)), (5, .int (nI (cI (wP R y z) k))), (4, .ref a), (0, .ref 0), (1, .int x), (2, .int y), (3, .int z)] from rfl) kK) ?_
          refine xe (fun _ _ kK => x_iload_n dX7_rows_54 rfl 7 rfl kK) ?_
          refine xe (fun _ _ kK => x_iconst dX7_rows_55 (show _ = (-1) by decide) kK) ?_
          refine xe_icmp_eq (tgt := 71) dX7_rows_56 (by decide) (fun h56 => ?_) (fun h56 => ?_)
          · -- pc 71
            refine xe (fun _ _ kK => x_iconst dX7_rows_71 (show _ = nI 1 by decide) kK) ?_
            refine xe (fun _ _ kK => x_goto (tgt := 76) dX7_rows_72 (by decide) kK) ?_
            refine xe (fun _ _ kK => x_istore dX7_rows_76 (by decide) (show _ = [(8, .int (nI 1)), (7, .int (nI 0)), (6, .int (nI k)), (5, .int (nI (cI (wP R y z) k))), (4, .ref a), (0, .ref 0), (1, .int x), (2, .int y), (3, .int z)] from rfl) kK) ?_
            refine xe (fun _ _ kK => x_iload dX7_rows_78 1 rfl kK) ?_
            refine xe (fun _ _ kK => x_if_eqT (tgt := 91) dX7_rows_80 (by decide) (by decide) kK) ?_
            refine xe (fun _ _ kK => x_iinc dX7_rows_91 2 rfl (show (nI k) + Int32.ofInt 1 = nI (k + 1) from nI_add k 1) (by decide) (show _ = [(6, .int (nI (k + 1))), (8, .int (nI 1)), (7, .int (nI 0)), (5, .int (nI (cI (wP R y z) k))), (4, .ref a), (0, .ref 0), (1, .int x), (2, .int y), (3, .int z)] from rfl) kK) ?_
            refine xe (fun _ _ kK => x_goto (tgt := 20) dX7_rows_94 (by decide) kK) ?_
            have hv : cI (wP R y z) (k + 1) = cI (wP R y z) k := cI_f (by simp only [wP]; simp [*])
            have := ih (R.length - (k + 1)) (by omega) (k + 1) rfl (by omega)
            rw [hv] at this
            exact xe_loc (by simp) this
          · -- pc 59
            refine xe (fun _ _ kK => x_aload dX7_rows_59 3 rfl kK) ?_
            refine xe (fun _ _ kK => x_get dX7_rows_61 fl_X7_122 hT.1 (gvl_r1 fz_3_1.2.2 (show e_r T 193 a = some oa from hT.2.1.2.1)) kK) ?_
            refine xe (fun _ _ kK => x_iload dX7_rows_64 1 rfl kK) ?_
            refine xe (fun _ _ kK => x_iald dX7_rows_66 hT.2.2.1.2.1 (show (nI k) = nI k from rfl) (hT.len (show k < R.length by omega)).2.1 (show e_ai T oa k = nI (rowAt R k).2.1 from (hT.2.2.2.2.2 k h27).2.1) kK) ?_
            refine xe (fun _ _ kK => x_iload_n dX7_rows_67 rfl 7 rfl kK) ?_
            refine xe_icmp_ne (tgt := 75) dX7_rows_68 (by decide) (fun h68 => ?_) (fun h68 => ?_)
            · -- pc 75
              refine xe (fun _ _ kK => x_iconst dX7_rows_75 (show _ = nI 0 by decide) kK) ?_
              refine xe (fun _ _ kK => x_istore dX7_rows_76 (by decide) (show _ = [(8, .int (nI 0)), (7, .int (nI 0)), (6, .int (nI k)), (5, .int (nI (cI (wP R y z) k))), (4, .ref a), (0, .ref 0), (1, .int x), (2, .int y), (3, .int z)] from rfl) kK) ?_
              refine xe (fun _ _ kK => x_iload dX7_rows_78 1 rfl kK) ?_
              refine xe (fun _ _ kK => x_if_eqT (tgt := 91) dX7_rows_80 (by decide) (by decide) kK) ?_
              refine xe (fun _ _ kK => x_iinc dX7_rows_91 2 rfl (show (nI k) + Int32.ofInt 1 = nI (k + 1) from nI_add k 1) (by decide) (show _ = [(6, .int (nI (k + 1))), (8, .int (nI 0)), (7, .int (nI 0)), (5, .int (nI (cI (wP R y z) k))), (4, .ref a), (0, .ref 0), (1, .int x), (2, .int y), (3, .int z)] from rfl) kK) ?_
              refine xe (fun _ _ kK => x_goto (tgt := 20) dX7_rows_94 (by decide) kK) ?_
              have hv : cI (wP R y z) (k + 1) = cI (wP R y z) k := cI_f (by simp only [wP]; simp [*])
              have := ih (R.length - (k + 1)) (by omega) (k + 1) rfl (by omega)
              rw [hv] at this
              exact xe_loc (by simp) this
            · -- pc 71
              refine xe (fun _ _ kK => x_iconst dX7_rows_71 (show _ = nI 1 by decide) kK) ?_
              refine xe (fun _ _ kK => x_goto (tgt := 76) dX7_rows_72 (by decide) kK) ?_
              refine xe (fun _ _ kK => x_istore dX7_rows_76 (by decide) (show _ = [(8, .int (nI 1)), (7, .int (nI 0)), (6, .int (nI k)), (5, .int (nI (cI (wP R y z) k))), (4, .ref a), (0, .ref 0), (1, .int x), (2, .int y), (3, .int z)] from rfl) kK) ?_
              refine xe (fun _ _ kK => x_iload dX7_rows_78 1 rfl kK) ?_
              refine xe (fun _ _ kK => x_if_eqT (tgt := 91) dX7_rows_80 (by decide) (by decide) kK) ?_
              refine xe (fun _ _ kK => x_iinc dX7_rows_91 2 rfl (show (nI k) + Int32.ofInt 1 = nI (k + 1) from nI_add k 1) (by decide) (show _ = [(6, .int (nI (k + 1))), (8, .int (nI 1)), (7, .int (nI 0)), (5, .int (nI (cI (wP R y z) k))), (4, .ref a), (0, .ref 0), (1, .int x), (2, .int y), (3, .int z)] from rfl) kK) ?_
              refine xe (fun _ _ kK => x_goto (tgt := 20) dX7_rows_94 (by decide) kK) ?_
              have hv : cI (wP R y z) (k + 1) = cI (wP R y z) k := cI_f (by simp only [wP]; simp [*])
              have := ih (R.length - (k + 1)) (by omega) (k + 1) rfl (by omega)
              rw [hv] at this
              exact xe_loc (by simp) this
        · -- pc 47
          refine xe (fun _ _ kK => x_iconst dX7_rows_47 (show _ = nI 1 by decide) kK) ?_
          refine xe (fun _ _ kK => x_goto (tgt := 52) dX7_rows_48 (by decide) kK) ?_
          refine xe (fun _ _ kK => x_istore dX7_rows_52 (by decide) (show _ = [(7, .int (nI 1)), (6, .int (nI k)), (5, .int (nI (cI (wP R y z) k))), (4, .ref a), (0, .ref 0), (1, .int x), (2, .int y), (3, .int z)] from rfl) kK) ?_
          refine xe (fun _ _ kK => x_iload_n dX7_rows_54 rfl 7 rfl kK) ?_
          refine xe (fun _ _ kK => x_iconst dX7_rows_55 (show _ = (-1) by decide) kK) ?_
          refine xe_icmp_eq (tgt := 71) dX7_rows_56 (by decide) (fun h56 => ?_) (fun h56 => ?_)
          · -- pc 71
            refine xe (fun _ _ kK => x_iconst dX7_rows_71 (show _ = nI 1 by decide) kK) ?_
            refine xe (fun _ _ kK => x_goto (tgt := 76) dX7_rows_72 (by decide) kK) ?_
            refine xe (fun _ _ kK => x_istore dX7_rows_76 (by decide) (show _ = [(8, .int (nI 1)), (7, .int (nI 1)), (6, .int (nI k)), (5, .int (nI (cI (wP R y z) k))), (4, .ref a), (0, .ref 0), (1, .int x), (2, .int y), (3, .int z)] from rfl) kK) ?_
            refine xe (fun _ _ kK => x_iload dX7_rows_78 1 rfl kK) ?_
            refine xe (fun _ _ kK => x_if_eqF (tgt := 91) dX7_rows_80 (by decide) (by decide) kK) ?_
            refine xe (fun _ _ kK => x_iload dX7_rows_83 0 rfl kK) ?_
            refine xe (fun _ _ kK => x_if_eqF (tgt := 91) dX7_rows_85 (by decide) (by decide) kK) ?_
            refine xe (fun _ _ kK => x_iinc dX7_rows_88 3 rfl (show (nI (cI (wP R y z) k)) + Int32.ofInt 1 = nI ((cI (wP R y z) k) + 1) from nI_add (cI (wP R y z) k) 1) (by decide) (show _ = [(5, .int (nI ((cI (wP R y z) k) + 1))), (8, .int (nI 1)), (7, .int (nI 1)), (6, .int (nI k)), (4, .ref a), (0, .ref 0), (1, .int x), (2, .int y), (3, .int z)] from rfl) kK) ?_
            refine xe (fun _ _ kK => x_iinc dX7_rows_91 3 rfl (show (nI k) + Int32.ofInt 1 = nI (k + 1) from nI_add k 1) (by decide) (show _ = [(6, .int (nI (k + 1))), (5, .int (nI ((cI (wP R y z) k) + 1))), (8, .int (nI 1)), (7, .int (nI 1)), (4, .ref a), (0, .ref 0), (1, .int x), (2, .int y), (3, .int z)] from rfl) kK) ?_
            refine xe (fun _ _ kK => x_goto (tgt := 20) dX7_rows_94 (by decide) kK) ?_
            have hv : cI (wP R y z) (k + 1) = cI (wP R y z) k + 1 := cI_t (by simp only [wP]; simp [*])
            have := ih (R.length - (k + 1)) (by omega) (k + 1) rfl (by omega)
            rw [hv] at this
            exact xe_loc (by simp) this
          · -- pc 59
            refine xe (fun _ _ kK => x_aload dX7_rows_59 3 rfl kK) ?_
            refine xe (fun _ _ kK => x_get dX7_rows_61 fl_X7_122 hT.1 (gvl_r1 fz_3_1.2.2 (show e_r T 193 a = some oa from hT.2.1.2.1)) kK) ?_
            refine xe (fun _ _ kK => x_iload dX7_rows_64 1 rfl kK) ?_
            refine xe (fun _ _ kK => x_iald dX7_rows_66 hT.2.2.1.2.1 (show (nI k) = nI k from rfl) (hT.len (show k < R.length by omega)).2.1 (show e_ai T oa k = nI (rowAt R k).2.1 from (hT.2.2.2.2.2 k h27).2.1) kK) ?_
            refine xe (fun _ _ kK => x_iload_n dX7_rows_67 rfl 7 rfl kK) ?_
            refine xe_icmp_ne (tgt := 75) dX7_rows_68 (by decide) (fun h68 => ?_) (fun h68 => ?_)
            · -- pc 75
              refine xe (fun _ _ kK => x_iconst dX7_rows_75 (show _ = nI 0 by decide) kK) ?_
              refine xe (fun _ _ kK => x_istore dX7_rows_76 (by decide) (show _ = [(8, .int (nI 0)), (7, .int (nI 1)), (6, .int (nI k)), (5, .int (nI (cI (wP R y z) k))), (4, .ref a), (0, .ref 0), (1, .int x), (2, .int y), (3, .int z)] from rfl) kK) ?_
              refine xe (fun _ _ kK => x_iload dX7_rows_78 1 rfl kK) ?_
              refine xe (fun _ _ kK => x_if_eqF (tgt := 91) dX7_rows_80 (by decide) (by decide) kK) ?_
              refine xe (fun _ _ kK => x_iload dX7_rows_83 0 rfl kK) ?_
              refine xe (fun _ _ kK => x_if_eqT (tgt := 91) dX7_rows_85 (by decide) (by decide) kK) ?_
              refine xe (fun _ _ kK => x_iinc dX7_rows_91 2 rfl (show (nI k) + Int32.ofInt 1 = nI (k + 1) from nI_add k 1) (by decide) (show _ = [(6, .int (nI (k + 1))), (8, .int (nI 0)), (7, .int (nI 1)), (5, .int (nI (cI (wP R y z) k))), (4, .ref a), (0, .ref 0), (1, .int x), (2, .int y), (3, .int z)] from rfl) kK) ?_
              refine xe (fun _ _ kK => x_goto (tgt := 20) dX7_rows_94 (by decide) kK) ?_
              have hv : cI (wP R y z) (k + 1) = cI (wP R y z) k := cI_f (by simp only [wP]; simp [*])
              have := ih (R.length - (k + 1)) (by omega) (k + 1) rfl (by omega)
              rw [hv] at this
              exact xe_loc (by simp) this
            · -- pc 71
              refine xe (fun _ _ kK => x_iconst dX7_rows_71 (show _ = nI 1 by decide) kK) ?_
              refine xe (fun _ _ kK => x_goto (tgt := 76) dX7_rows_72 (by decide) kK) ?_
              refine xe (fun _ _ kK => x_istore dX7_rows_76 (by decide) (show _ = [(8, .int (nI 1)), (7, .int (nI 1)), (6, .int (nI k)), (5, .int (nI (cI (wP R y z) k))), (4, .ref a), (0, .ref 0), (1, .int x), (2, .int y), (3, .int z)] from rfl) kK) ?_
              refine xe (fun _ _ kK => x_iload dX7_rows_78 1 rfl kK) ?_
              refine xe (fun _ _ kK => x_if_eqF (tgt := 91) dX7_rows_80 (by decide) (by decide) kK) ?_
              refine xe (fun _ _ kK => x_iload dX7_rows_83 0 rfl kK) ?_
              refine xe (fun _ _ kK => x_if_eqF (tgt := 91) dX7_rows_85 (by decide) (by decide) kK) ?_
              refine xe (fun _ _ kK => x_iinc dX7_rows_88 3 rfl (show (nI (cI (wP R y z) k)) + Int32.ofInt 1 = nI ((cI (wP R y z) k) + 1) from nI_add (cI (wP R y z) k) 1) (by decide) (show _ = [(5, .int (nI ((cI (wP R y z) k) + 1))), (8, .int (nI 1)), (7, .int (nI 1)), (6, .int (nI k)), (4, .ref a), (0, .ref 0), (1, .int x), (2, .int y), (3, .int z)] from rfl) kK) ?_
              refine xe (fun _ _ kK => x_iinc dX7_rows_91 3 rfl (show (nI k) + Int32.ofInt 1 = nI (k + 1) from nI_add k 1) (by decide) (show _ = [(6, .int (nI (k + 1))), (5, .int (nI ((cI (wP R y z) k) + 1))), (8, .int (nI 1)), (7, .int (nI 1)), (4, .ref a), (0, .ref 0), (1, .int x), (2, .int y), (3, .int z)] from rfl) kK) ?_
              refine xe (fun _ _ kK => x_goto (tgt := 20) dX7_rows_94 (by decide) kK) ?_
              have hv : cI (wP R y z) (k + 1) = cI (wP R y z) k + 1 := cI_t (by simp only [wP]; simp [*])
              have := ih (R.length - (k + 1)) (by omega) (k + 1) rfl (by omega)
              rw [hv] at this
              exact xe_loc (by simp) this

set_option maxHeartbeats 4000000 in
theorem c_X7_rows (d : Nat) {T : TH} {cu : Nat} {s : Sh} {ps : PS} (hQ : CQ T cu s ps) (x y z : Int32) : Xe m_X7_rows (d + 1) 0 [(0, .ref 0), (1, .int x), (2, .int y), (3, .int z)] [] T (fun r9 T1 => r9 = some (.int (match ix x s.2.1 with
    | none => -1
    | some c => nI (cI (wP (tOf s ps c) y z) (tOf s ps c).length))) ∧ T1 = T) := by
  obtain ⟨hU, hTQ, hRQ⟩ := hQ
  refine xe (fun _ _ kK => x_aload_n dX7_rows_0 rfl 0 rfl kK) ?_
  refine xe (fun _ _ kK => x_iload_n dX7_rows_1 rfl 1 rfl kK) ?_
  refine xe_callV (a := 0) [.int x] dX7_rows_2 ml_X7_85 mf_X7_tableOf hU.1.1 (c_X7_tableOf d hU x) rfl rfl (Nat.le_of_ble_eq_true rfl) (Nat.le_of_ble_eq_true rfl) ?_
  rintro _ T9 ⟨rfl, hTq9⟩
  refine xe_T hTq9 ?_
  cases hix : ix x s.2.1 with
  | none =>
    show Xe m_X7_rows (d + 1) 5 [(0, .ref 0), (1, .int x), (2, .int y), (3, .int z)] [.null] T _
    refine xe (fun _ _ kK => x_astoreN dX7_rows_5 (by decide) (show _ = [(4, .null), (0, .ref 0), (1, .int x), (2, .int y), (3, .int z)] from rfl) kK) ?_
    refine xe (fun _ _ kK => x_aloadN dX7_rows_7 0 rfl kK) ?_
    refine xe (fun _ _ kK => x_ifnonnullN dX7_rows_9 kK) ?_
    refine xe (fun _ _ kK => x_iconst dX7_rows_12 (show _ = (-1) by decide) kK) ?_
    exact xe_reti dX7_rows_13 rfl (⟨rfl, rfl⟩)
  | some c =>
    obtain ⟨hc, rfl, hcb⟩ := ix_lt hix
    show Xe m_X7_rows (d + 1) 5 [(0, .ref 0), (1, .int (nI c)), (2, .int y), (3, .int z)] [.ref (4 + 5 * c)] T _
    obtain ⟨la, oa, qa, va, cap, hT, hcap⟩ := hTQ c hc
    obtain ⟨hO, hH, hr5, hpp⟩ := hRQ c hc
    have hdc := dc_le s.2.2.2.2.2.1 (road s c)
    have hmc := mc_le s.2.2.2.2.2.1 (road s c)
    have hdg : dc s.2.2.2.2.2.1 (road s c) < 2 ^ 31 := by omega
    refine xe (fun _ _ kK => x_astore dX7_rows_5 (by decide) (show _ = [(4, .ref (4 + 5 * c)), (0, .ref 0), (1, .int (nI c)), (2, .int y), (3, .int z)] from rfl) kK) ?_
    refine xe (fun _ _ kK => x_aload dX7_rows_7 0 rfl kK) ?_
    refine xe (fun _ _ kK => x_ifnonnull (tgt := 14) dX7_rows_9 (by decide) kK) ?_
    refine xe (fun _ _ kK => x_iconst dX7_rows_14 (show _ = nI 0 by decide) kK) ?_
    refine xe (fun _ _ kK => x_istore dX7_rows_15 (by decide) (show _ = [(5, .int (nI 0)), (4, .ref (4 + 5 * c)), (0, .ref 0), (1, .int (nI c)), (2, .int y), (3, .int z)] from rfl) kK) ?_
    refine xe (fun _ _ kK => x_iconst dX7_rows_17 (show _ = nI 0 by decide) kK) ?_
    refine xe (fun _ _ kK => x_istore dX7_rows_18 (by decide) (show _ = [(6, .int (nI 0)), (5, .int (nI 0)), (4, .ref (4 + 5 * c)), (0, .ref 0), (1, .int (nI c)), (2, .int y), (3, .int z)] from rfl) kK) ?_
    exact xe_loc (by simp [cI]) (l_X7_rows (d + 1) (x := nI c) (y := y) (z := z) hT hO (tOf s ps c).length 0 rfl (Nat.zero_le _))

set_option maxHeartbeats 4000000 in
theorem l_X7_papers (d : Nat) {T : TH} {a la oa qa va cap : Nat} {R : List Row} {dg ag gr : Nat} {nm : Bool} (hT : Tb T a la oa qa va cap R dg ag gr nm) (hO : RwOk R) (hdg : dg < 2 ^ 31) (hH : HsOk R dg) {x : Int32} {lo hi : Int64} : ∀ (m k : Nat), R.length - k = m → k ≤ R.length → Xe m_X7_papers (d + 3) 23 [(9, .int (nI k)), (8, .int (oI (pap R lo hi k).2)), (7, .int (nI (pap R lo hi k).1)), (6, .ref a), (0, .ref 0), (1, .int x), (2, .long lo), (4, .long hi)] [] T (fun r T1 => r = some (.int (nI (pap R lo hi R.length).1)) ∧ T1 = T) := by
  intro m
  induction m using Nat.strongRecOn with
  | ind m ih =>
    intro k hm hk
    subst hm
    have h6 := hO.1
    refine xe (fun _ _ kK => x_iload dX7_papers_23 0 rfl kK) ?_
    refine xe (fun _ _ kK => x_aload dX7_papers_25 3 rfl kK) ?_
    refine xe (fun _ _ kK => x_get dX7_papers_27 fl_X7_102 hT.1 (gvl_i fz_3_4.2.2 (show e_i T 196 a = nI R.length from hT.2.2.2.2.1.1)) kK) ?_
    refine xe_icmp_ge (tgt := 78) dX7_papers_30 (by decide) (fun h30 => ?_) (fun h30 => ?_)
    · -- pc 78
      have h30 := cv_le (by omega) (by omega) h30
      refine xe (fun _ _ kK => x_iload dX7_papers_78 2 rfl kK) ?_
      exact xe_reti dX7_papers_80 rfl (⟨by rw [show k = R.length by omega], rfl⟩)
    · -- pc 33
      have h30 := cv_nle (by omega) (by omega) h30
      have hrk := hO.2 k h30
      have hpl := pap_le R lo hi k
      refine xe (fun _ _ kK => x_aload dX7_papers_33 3 rfl kK) ?_
      refine xe (fun _ _ kK => x_get dX7_papers_35 fl_X7_128 hT.1 (gvl_r1 fz_3_2.2.2 (show e_r T 194 a = some qa from hT.2.1.2.2.1)) kK) ?_
      refine xe (fun _ _ kK => x_iload dX7_papers_38 0 rfl kK) ?_
      refine xe (fun _ _ kK => x_iald dX7_papers_40 hT.2.2.1.2.2.1 (show (nI k) = nI k from rfl) (hT.len (show k < R.length by omega)).2.2.1 (show e_ai T qa k = nI (rowAt R k).2.2.2.2 from (hT.2.2.2.2.2 k h30).2.2.1) kK) ?_
      refine xe (fun _ _ kK => x_iload dX7_papers_41 1 rfl kK) ?_
      by_cases h43 : some (rowAt R k).2.2.2.2 = (pap R lo hi k).2
      · -- pc 43
        refine xe (fun _ _ kK => x_icmp_eqT (tgt := 72) dX7_papers_43 (by decide) (show nI (rowAt R k).2.2.2.2 = oI (pap R lo hi k).2 by rw [← h43]; rfl) kK) ?_
        refine xe (fun _ _ kK => x_iinc dX7_papers_72 0 rfl (show (nI k) + Int32.ofInt 1 = nI (k + 1) from nI_add k 1) (by decide) (show _ = [(9, .int (nI (k + 1))), (8, .int (oI (pap R lo hi k).2)), (7, .int (nI (pap R lo hi k).1)), (6, .ref a), (0, .ref 0), (1, .int x), (2, .long lo), (4, .long hi)] from rfl) kK) ?_
        refine xe (fun _ _ kK => x_goto (tgt := 23) dX7_papers_75 (by decide) kK) ?_
        have hv : pap R lo hi (k + 1) = pap R lo hi k := by rw [pap]; rw [if_neg (fun z => z.2 h43)]
        have := ih (R.length - (k + 1)) (by omega) (k + 1) rfl (by omega)
        rw [hv] at this
        exact xe_loc (by simp [oI]) this
      · -- pc 43
        refine xe (fun _ _ kK => x_icmp_eqF (tgt := 72) dX7_papers_43 (by decide) (show ¬ nI (rowAt R k).2.2.2.2 = oI (pap R lo hi k).2 from fun z9 => h43 (oI_some (pap_ok hO k (by omega)) hrk.2.2 z9.symm).symm) kK) ?_
        refine xe (fun _ _ kK => x_aload dX7_papers_46 3 rfl kK) ?_
        refine xe (fun _ _ kK => x_iload dX7_papers_48 0 rfl kK) ?_
        refine xe (fun _ _ kK => x_lload_n dX7_papers_50 rfl 6 rfl kK) ?_
        refine xe (fun _ _ kK => x_lload dX7_papers_51 7 rfl kK) ?_
        refine xe_callV (a := a) [.int (nI k), .long lo, .long hi] dX7_papers_53 ml_X7_148 mf_X3_hasValueWithin hT.1 (c_X3_hasValueWithin d hT hO hdg hH h30) rfl rfl (Nat.le_of_ble_eq_true rfl) (Nat.le_of_ble_eq_true rfl) ?_
        rintro _ T9 ⟨rfl, hTq9⟩
        refine xe_T hTq9 ?_
        refine xe_if_eq (tgt := 72) dX7_papers_56 (by decide) (fun h56 => ?_) (fun h56 => ?_)
        · -- pc 72
          have h56 := cv_b0 h56
          refine xe (fun _ _ kK => x_iinc dX7_papers_72 0 rfl (show (nI k) + Int32.ofInt 1 = nI (k + 1) from nI_add k 1) (by decide) (show _ = [(9, .int (nI (k + 1))), (8, .int (oI (pap R lo hi k).2)), (7, .int (nI (pap R lo hi k).1)), (6, .ref a), (0, .ref 0), (1, .int x), (2, .long lo), (4, .long hi)] from rfl) kK) ?_
          refine xe (fun _ _ kK => x_goto (tgt := 23) dX7_papers_75 (by decide) kK) ?_
          have hv : pap R lo hi (k + 1) = pap R lo hi k := by rw [pap]; rw [if_neg (fun z => by rw [h56] at z; cases z.1)]
          have := ih (R.length - (k + 1)) (by omega) (k + 1) rfl (by omega)
          rw [hv] at this
          exact xe_loc (by simp [oI]) this
        · -- pc 59
          have h56 := cv_b1 h56
          refine xe (fun _ _ kK => x_iinc dX7_papers_59 2 rfl (show (nI (pap R lo hi k).1) + Int32.ofInt 1 = nI ((pap R lo hi k).1 + 1) from nI_add ((pap R lo hi k).1) 1) (by decide) (show _ = [(7, .int (nI ((pap R lo hi k).1 + 1))), (9, .int (nI k)), (8, .int (oI (pap R lo hi k).2)), (6, .ref a), (0, .ref 0), (1, .int x), (2, .long lo), (4, .long hi)] from rfl) kK) ?_
          refine xe (fun _ _ kK => x_aload dX7_papers_62 3 rfl kK) ?_
          refine xe (fun _ _ kK => x_get dX7_papers_64 fl_X7_128 hT.1 (gvl_r1 fz_3_2.2.2 (show e_r T 194 a = some qa from hT.2.1.2.2.1)) kK) ?_
          refine xe (fun _ _ kK => x_iload dX7_papers_67 1 rfl kK) ?_
          refine xe (fun _ _ kK => x_iald dX7_papers_69 hT.2.2.1.2.2.1 (show (nI k) = nI k from rfl) (hT.len (show k < R.length by omega)).2.2.1 (show e_ai T qa k = nI (rowAt R k).2.2.2.2 from (hT.2.2.2.2.2 k h30).2.2.1) kK) ?_
          refine xe (fun _ _ kK => x_istore dX7_papers_70 (by decide) (show _ = [(8, .int (nI (rowAt R k).2.2.2.2)), (7, .int (nI ((pap R lo hi k).1 + 1))), (9, .int (nI k)), (6, .ref a), (0, .ref 0), (1, .int x), (2, .long lo), (4, .long hi)] from rfl) kK) ?_
          refine xe (fun _ _ kK => x_iinc dX7_papers_72 2 rfl (show (nI k) + Int32.ofInt 1 = nI (k + 1) from nI_add k 1) (by decide) (show _ = [(9, .int (nI (k + 1))), (8, .int (nI (rowAt R k).2.2.2.2)), (7, .int (nI ((pap R lo hi k).1 + 1))), (6, .ref a), (0, .ref 0), (1, .int x), (2, .long lo), (4, .long hi)] from rfl) kK) ?_
          refine xe (fun _ _ kK => x_goto (tgt := 23) dX7_papers_75 (by decide) kK) ?_
          have hv : pap R lo hi (k + 1) = ((pap R lo hi k).1 + 1, some (rowAt R k).2.2.2.2) := by rw [pap]; rw [if_pos ⟨h56, h43⟩]
          have := ih (R.length - (k + 1)) (by omega) (k + 1) rfl (by omega)
          rw [hv] at this
          exact xe_loc (by simp [oI]) this

set_option maxHeartbeats 4000000 in
theorem c_X7_papers (d : Nat) {T : TH} {cu : Nat} {s : Sh} {ps : PS} (hQ : CQ T cu s ps) (x : Int32) (lo hi : Int64) : Xe m_X7_papers (d + 3) 0 [(0, .ref 0), (1, .int x), (2, .long lo), (4, .long hi)] [] T (fun r9 T1 => r9 = some (.int (match ix x s.2.1 with
    | none => -1
    | some c => nI (pap (tOf s ps c) lo hi (tOf s ps c).length).1)) ∧ T1 = T) := by
  obtain ⟨hU, hTQ, hRQ⟩ := hQ
  refine xe (fun _ _ kK => x_aload_n dX7_papers_0 rfl 0 rfl kK) ?_
  refine xe (fun _ _ kK => x_iload_n dX7_papers_1 rfl 1 rfl kK) ?_
  refine xe_callV (a := 0) [.int x] dX7_papers_2 ml_X7_85 mf_X7_tableOf hU.1.1 (c_X7_tableOf (d + 2) hU x) rfl rfl (Nat.le_of_ble_eq_true rfl) (Nat.le_of_ble_eq_true rfl) ?_
  rintro _ T9 ⟨rfl, hTq9⟩
  refine xe_T hTq9 ?_
  cases hix : ix x s.2.1 with
  | none =>
    show Xe m_X7_papers ((d + 2) + 1) 5 [(0, .ref 0), (1, .int x), (2, .long lo), (4, .long hi)] [.null] T _
    refine xe (fun _ _ kK => x_astoreN dX7_papers_5 (by decide) (show _ = [(6, .null), (0, .ref 0), (1, .int x), (2, .long lo), (4, .long hi)] from rfl) kK) ?_
    refine xe (fun _ _ kK => x_aloadN dX7_papers_7 0 rfl kK) ?_
    refine xe (fun _ _ kK => x_ifnonnullN dX7_papers_9 kK) ?_
    refine xe (fun _ _ kK => x_iconst dX7_papers_12 (show _ = (-1) by decide) kK) ?_
    exact xe_reti dX7_papers_13 rfl (⟨rfl, rfl⟩)
  | some c =>
    obtain ⟨hc, rfl, hcb⟩ := ix_lt hix
    show Xe m_X7_papers ((d + 2) + 1) 5 [(0, .ref 0), (1, .int (nI c)), (2, .long lo), (4, .long hi)] [.ref (4 + 5 * c)] T _
    obtain ⟨la, oa, qa, va, cap, hT, hcap⟩ := hTQ c hc
    obtain ⟨hO, hH, hr5, hpp⟩ := hRQ c hc
    have hdc := dc_le s.2.2.2.2.2.1 (road s c)
    have hmc := mc_le s.2.2.2.2.2.1 (road s c)
    have hdg : dc s.2.2.2.2.2.1 (road s c) < 2 ^ 31 := by omega
    refine xe (fun _ _ kK => x_astore dX7_papers_5 (by decide) (show _ = [(6, .ref (4 + 5 * c)), (0, .ref 0), (1, .int (nI c)), (2, .long lo), (4, .long hi)] from rfl) kK) ?_
    refine xe (fun _ _ kK => x_aload dX7_papers_7 0 rfl kK) ?_
    refine xe (fun _ _ kK => x_ifnonnull (tgt := 14) dX7_papers_9 (by decide) kK) ?_
    refine xe (fun _ _ kK => x_iconst dX7_papers_14 (show _ = nI 0 by decide) kK) ?_
    refine xe (fun _ _ kK => x_istore dX7_papers_15 (by decide) (show _ = [(7, .int (nI 0)), (6, .ref (4 + 5 * c)), (0, .ref 0), (1, .int (nI c)), (2, .long lo), (4, .long hi)] from rfl) kK) ?_
    refine xe (fun _ _ kK => x_iconst dX7_papers_17 (show _ = (-1) by decide) kK) ?_
    refine xe (fun _ _ kK => x_istore dX7_papers_18 (by decide) (show _ = [(8, .int (-1)), (7, .int (nI 0)), (6, .ref (4 + 5 * c)), (0, .ref 0), (1, .int (nI c)), (2, .long lo), (4, .long hi)] from rfl) kK) ?_
    refine xe (fun _ _ kK => x_iconst dX7_papers_20 (show _ = nI 0 by decide) kK) ?_
    refine xe (fun _ _ kK => x_istore dX7_papers_21 (by decide) (show _ = [(9, .int (nI 0)), (8, .int (-1)), (7, .int (nI 0)), (6, .ref (4 + 5 * c)), (0, .ref 0), (1, .int (nI c)), (2, .long lo), (4, .long hi)] from rfl) kK) ?_
    exact xe_loc (by simp [pap, oI]) (l_X7_papers d (x := nI c) (lo := lo) (hi := hi) hT hO hdg hH (tOf s ps c).length 0 rfl (Nat.zero_le _))

set_option maxHeartbeats 4000000 in
theorem l_X7_sum (d : Nat) {T : TH} {a la oa qa va cap : Nat} {R : List Row} {dg ag gr : Nat} {nm : Bool} (hT : Tb T a la oa qa va cap R dg ag gr nm) (hO : RwOk R) (hdg : dg < 2 ^ 31) (hH : HsOk R dg) {x y : Int32} : ∀ (m k : Nat), R.length - k = m → k ≤ R.length → Xe m_X7_sum (d + 2) 25 [(6, .int (nI k)), (4, .long (smR R y k)), (3, .ref a), (0, .ref 0), (1, .int x), (2, .int y)] [] T (fun r T1 => r = some (.long (smR R y R.length)) ∧ T1 = T) := by
  intro m
  induction m using Nat.strongRecOn with
  | ind m ih =>
    intro k hm hk
    subst hm
    have h6 := hO.1
    refine xe (fun _ _ kK => x_iload dX7_sum_25 0 rfl kK) ?_
    refine xe (fun _ _ kK => x_aload_n dX7_sum_27 rfl 2 rfl kK) ?_
    refine xe (fun _ _ kK => x_get dX7_sum_28 fl_X7_102 hT.1 (gvl_i fz_3_4.2.2 (show e_i T 196 a = nI R.length from hT.2.2.2.2.1.1)) kK) ?_
    refine xe_icmp_ge (tgt := 77) dX7_sum_31 (by decide) (fun h31 => ?_) (fun h31 => ?_)
    · -- pc 77
      have h31 := cv_le (by omega) (by omega) h31
      refine xe (fun _ _ kK => x_lload dX7_sum_77 1 rfl kK) ?_
      exact xe_retl dX7_sum_79 rfl (⟨by rw [show k = R.length by omega], rfl⟩)
    · -- pc 34
      have h31 := cv_nle (by omega) (by omega) h31
      have hrk := hO.2 k h31
      refine xe (fun _ _ kK => x_aload_n dX7_sum_34 rfl 2 rfl kK) ?_
      refine xe (fun _ _ kK => x_iload dX7_sum_35 0 rfl kK) ?_
      refine xe_callV (a := a) [.int (nI k)] dX7_sum_37 ml_X7_125 mf_X3_hasValue hT.1 (by have := c_X3_hasValue d hT hO hdg hH (nI k); rw [hvX_in h31 h6] at this; exact this) rfl rfl (Nat.le_of_ble_eq_true rfl) (Nat.le_of_ble_eq_true rfl) ?_
      rintro _ T9 ⟨rfl, hTq9⟩
      refine xe_T hTq9 ?_
      refine xe_if_eq (tgt := 71) dX7_sum_40 (by decide) (fun h40 => ?_) (fun h40 => ?_)
      · -- pc 71
        have h40 := cv_b0 h40
        refine xe (fun _ _ kK => x_iinc dX7_sum_71 0 rfl (show (nI k) + Int32.ofInt 1 = nI (k + 1) from nI_add k 1) (by decide) (show _ = [(6, .int (nI (k + 1))), (4, .long (smR R y k)), (3, .ref a), (0, .ref 0), (1, .int x), (2, .int y)] from rfl) kK) ?_
        refine xe (fun _ _ kK => x_goto (tgt := 25) dX7_sum_74 (by decide) kK) ?_
        have hv : smR R y (k + 1) = smR R y k := by rw [smR]; rw [if_neg (fun z9 => by rw [h40] at z9; cases z9.1)]
        have := ih (R.length - (k + 1)) (by omega) (k + 1) rfl (by omega)
        rw [hv] at this
        exact xe_loc (by simp) this
      · -- pc 43
        have h40 := cv_b1 h40
        refine xe (fun _ _ kK => x_iload_n dX7_sum_43 rfl 5 rfl kK) ?_
        refine xe (fun _ _ kK => x_iconst dX7_sum_44 (show _ = (-1) by decide) kK) ?_
        refine xe_icmp_eq (tgt := 59) dX7_sum_45 (by decide) (fun h45 => ?_) (fun h45 => ?_)
        · -- pc 59
          refine xe (fun _ _ kK => x_lload dX7_sum_59 1 rfl kK) ?_
          refine xe (fun _ _ kK => x_aload_n dX7_sum_61 rfl 2 rfl kK) ?_
          refine xe (fun _ _ kK => x_get dX7_sum_62 fl_X7_131 hT.1 (gvl_r1 fz_3_3.2.2 (show e_r T 195 a = some va from hT.2.1.2.2.2)) kK) ?_
          refine xe (fun _ _ kK => x_iload dX7_sum_65 0 rfl kK) ?_
          refine xe (fun _ _ kK => x_lald dX7_sum_67 hT.2.2.1.2.2.2 (show (nI k) = nI k from rfl) (hT.len (show k < R.length by omega)).2.2.2 (show e_al T va k = (rowAt R k).2.2.2.1 from (hT.2.2.2.2.2 k h31).2.2.2) kK) ?_
          refine xe (fun _ _ kK => x_ladd dX7_sum_68 kK) ?_
          refine xe (fun _ _ kK => x_lstore dX7_sum_69 (by decide) (show _ = [(4, .long ((smR R y k) + ((rowAt R k).2.2.2.1))), (6, .int (nI k)), (3, .ref a), (0, .ref 0), (1, .int x), (2, .int y)] from rfl) kK) ?_
          refine xe (fun _ _ kK => x_iinc dX7_sum_71 1 rfl (show (nI k) + Int32.ofInt 1 = nI (k + 1) from nI_add k 1) (by decide) (show _ = [(6, .int (nI (k + 1))), (4, .long ((smR R y k) + ((rowAt R k).2.2.2.1))), (3, .ref a), (0, .ref 0), (1, .int x), (2, .int y)] from rfl) kK) ?_
          refine xe (fun _ _ kK => x_goto (tgt := 25) dX7_sum_74 (by decide) kK) ?_
          have hv : smR R y (k + 1) = smR R y k + (rowAt R k).2.2.2.1 := by rw [smR]; rw [if_pos ⟨h40, Or.inl h45⟩]
          have := ih (R.length - (k + 1)) (by omega) (k + 1) rfl (by omega)
          rw [hv] at this
          exact xe_loc (by simp) this
        · -- pc 48
          refine xe (fun _ _ kK => x_aload_n dX7_sum_48 rfl 2 rfl kK) ?_
          refine xe (fun _ _ kK => x_get dX7_sum_49 fl_X7_128 hT.1 (gvl_r1 fz_3_2.2.2 (show e_r T 194 a = some qa from hT.2.1.2.2.1)) kK) ?_
          refine xe (fun _ _ kK => x_iload dX7_sum_52 0 rfl kK) ?_
          refine xe (fun _ _ kK => x_iald dX7_sum_54 hT.2.2.1.2.2.1 (show (nI k) = nI k from rfl) (hT.len (show k < R.length by omega)).2.2.1 (show e_ai T qa k = nI (rowAt R k).2.2.2.2 from (hT.2.2.2.2.2 k h31).2.2.1) kK) ?_
          refine xe (fun _ _ kK => x_iload_n dX7_sum_55 rfl 5 rfl kK) ?_
          refine xe_icmp_ne (tgt := 71) dX7_sum_56 (by decide) (fun h56 => ?_) (fun h56 => ?_)
          · -- pc 71
            refine xe (fun _ _ kK => x_iinc dX7_sum_71 0 rfl (show (nI k) + Int32.ofInt 1 = nI (k + 1) from nI_add k 1) (by decide) (show _ = [(6, .int (nI (k + 1))), (4, .long (smR R y k)), (3, .ref a), (0, .ref 0), (1, .int x), (2, .int y)] from rfl) kK) ?_
            refine xe (fun _ _ kK => x_goto (tgt := 25) dX7_sum_74 (by decide) kK) ?_
            have hv : smR R y (k + 1) = smR R y k := by rw [smR]; rw [if_neg (fun z9 => z9.2.elim h45 h56)]
            have := ih (R.length - (k + 1)) (by omega) (k + 1) rfl (by omega)
            rw [hv] at this
            exact xe_loc (by simp) this
          · -- pc 59
            refine xe (fun _ _ kK => x_lload dX7_sum_59 1 rfl kK) ?_
            refine xe (fun _ _ kK => x_aload_n dX7_sum_61 rfl 2 rfl kK) ?_
            refine xe (fun _ _ kK => x_get dX7_sum_62 fl_X7_131 hT.1 (gvl_r1 fz_3_3.2.2 (show e_r T 195 a = some va from hT.2.1.2.2.2)) kK) ?_
            refine xe (fun _ _ kK => x_iload dX7_sum_65 0 rfl kK) ?_
            refine xe (fun _ _ kK => x_lald dX7_sum_67 hT.2.2.1.2.2.2 (show (nI k) = nI k from rfl) (hT.len (show k < R.length by omega)).2.2.2 (show e_al T va k = (rowAt R k).2.2.2.1 from (hT.2.2.2.2.2 k h31).2.2.2) kK) ?_
            refine xe (fun _ _ kK => x_ladd dX7_sum_68 kK) ?_
            refine xe (fun _ _ kK => x_lstore dX7_sum_69 (by decide) (show _ = [(4, .long ((smR R y k) + ((rowAt R k).2.2.2.1))), (6, .int (nI k)), (3, .ref a), (0, .ref 0), (1, .int x), (2, .int y)] from rfl) kK) ?_
            refine xe (fun _ _ kK => x_iinc dX7_sum_71 1 rfl (show (nI k) + Int32.ofInt 1 = nI (k + 1) from nI_add k 1) (by decide) (show _ = [(6, .int (nI (k + 1))), (4, .long ((smR R y k) + ((rowAt R k).2.2.2.1))), (3, .ref a), (0, .ref 0), (1, .int x), (2, .int y)] from rfl) kK) ?_
            refine xe (fun _ _ kK => x_goto (tgt := 25) dX7_sum_74 (by decide) kK) ?_
            have hv : smR R y (k + 1) = smR R y k + (rowAt R k).2.2.2.1 := by rw [smR]; rw [if_pos ⟨h40, Or.inr (by simpa using h56)⟩]
            have := ih (R.length - (k + 1)) (by omega) (k + 1) rfl (by omega)
            rw [hv] at this
            exact xe_loc (by simp) this

theorem smR_0 {R : List Row} {y : Int32} {n : Nat} (h1 : ¬ y = -1) (h2 : ix y n = none) (hn : n < 2 ^ 31) (hR : ∀ k, k < R.length → (rowAt R k).2.2.2.2 < n) : ∀ k, k ≤ R.length → smR R y k = 0 := by
  intro k
  induction k with
  | zero => intro _; rfl
  | succ k ih =>
    intro hk
    rw [smR, if_neg, ih (by omega)]
    rintro ⟨_, h3 | h3⟩
    · exact h1 h3
    · have := hR k (by omega)
      rw [← h3, ix_in this (by omega)] at h2
      cases h2

set_option maxHeartbeats 4000000 in
theorem c_X7_sum (d : Nat) {T : TH} {cu : Nat} {s : Sh} {ps : PS} (hQ : CQ T cu s ps) (hp30 : ps.1 ≤ 30) (x y : Int32) : Xe m_X7_sum (d + 2) 0 [(0, .ref 0), (1, .int x), (2, .int y)] [] T (fun r9 T1 => r9 = some (.long (sumA s ps x y)) ∧ T1 = T) := by
  obtain ⟨hU, hTQ, hRQ⟩ := hQ
  refine xe (fun _ _ kK => x_aload_n dX7_sum_0 rfl 0 rfl kK) ?_
  refine xe (fun _ _ kK => x_iload_n dX7_sum_1 rfl 1 rfl kK) ?_
  refine xe_callV (a := 0) [.int x] dX7_sum_2 ml_X7_85 mf_X7_tableOf hU.1.1 (c_X7_tableOf (d + 1) hU x) rfl rfl (Nat.le_of_ble_eq_true rfl) (Nat.le_of_ble_eq_true rfl) ?_
  rintro _ T9 ⟨rfl, hTq9⟩
  refine xe_T hTq9 ?_
  cases hix : ix x s.2.1 with
  | none =>
    show Xe m_X7_sum ((d + 1) + 1) 5 [(0, .ref 0), (1, .int x), (2, .int y)] [.null] T _
    refine xe (fun _ _ kK => x_astore_nN dX7_sum_5 rfl (by decide) (show _ = [(3, .null), (0, .ref 0), (1, .int x), (2, .int y)] from rfl) kK) ?_
    refine xe (fun _ _ kK => x_aload_nN dX7_sum_6 rfl 0 rfl kK) ?_
    refine xe (fun _ _ kK => x_ifnullN (tgt := 17) dX7_sum_7 (by decide) kK) ?_
    refine xe (fun _ _ kK => x_lconst dX7_sum_17 (show _ = lN 0 by decide) kK) ?_
    exact xe_retl dX7_sum_18 rfl (⟨by unfold sumA; rw [hix] <;> rfl, rfl⟩)
  | some c =>
    obtain ⟨hc, rfl, hcb⟩ := ix_lt hix
    show Xe m_X7_sum ((d + 1) + 1) 5 [(0, .ref 0), (1, .int (nI c)), (2, .int y)] [.ref (4 + 5 * c)] T _
    obtain ⟨la, oa, qa, va, cap, hT, hcap⟩ := hTQ c hc
    obtain ⟨hO, hH, hr5, hpp⟩ := hRQ c hc
    have hdc := dc_le s.2.2.2.2.2.1 (road s c)
    have hmc := mc_le s.2.2.2.2.2.1 (road s c)
    have hdg : dc s.2.2.2.2.2.1 (road s c) < 2 ^ 31 := by omega
    refine xe (fun _ _ kK => x_astore_n dX7_sum_5 rfl (by decide) (show _ = [(3, .ref (4 + 5 * c)), (0, .ref 0), (1, .int (nI c)), (2, .int y)] from rfl) kK) ?_
    refine xe (fun _ _ kK => x_aload_n dX7_sum_6 rfl 0 rfl kK) ?_
    refine xe (fun _ _ kK => x_ifnull dX7_sum_7 kK) ?_
    refine xe (fun _ _ kK => x_aload_n dX7_sum_10 rfl 0 rfl kK) ?_
    refine xe (fun _ _ kK => x_get dX7_sum_11 fl_X7_95 hT.1 (gvl_z fz_3_7.2.2 (show e_i T 199 (4 + 5 * c) = bI (decide (s.2.2.2.2.1 (s.2.2.2.2.2.2 c) = 0)) from hT.2.2.2.2.1.2.2.2.1)) kK) ?_
    refine xe_if_ne (tgt := 19) dX7_sum_14 (by decide) (fun h14 => ?_) (fun h14 => ?_)
    · -- pc 19
      have h14 := cv_b1 h14
      refine xe (fun _ _ kK => x_lconst dX7_sum_19 (show _ = lN 0 by decide) kK) ?_
      refine xe (fun _ _ kK => x_lstore dX7_sum_20 (by decide) (show _ = [(4, .long (lN 0)), (3, .ref (4 + 5 * c)), (0, .ref 0), (1, .int (nI c)), (2, .int y)] from rfl) kK) ?_
      refine xe (fun _ _ kK => x_iconst dX7_sum_22 (show _ = nI 0 by decide) kK) ?_
      refine xe (fun _ _ kK => x_istore dX7_sum_23 (by decide) (show _ = [(6, .int (nI 0)), (4, .long (lN 0)), (3, .ref (4 + 5 * c)), (0, .ref 0), (1, .int (nI c)), (2, .int y)] from rfl) kK) ?_
      refine Xe.imp (xe_loc (L' := [(6, .int (nI 0)), (4, .long (smR (tOf s ps c) y 0)), (3, .ref (4 + 5 * c)), (0, .ref 0), (1, .int (nI c)), (2, .int y)]) (by simp [smR, lN]) (l_X7_sum d (x := nI c) (y := y) hT hO hdg hH (tOf s ps c).length 0 rfl (Nat.zero_le _))) ?_
      rintro _ _ ⟨rfl, rfl⟩
      refine ⟨?_, rfl⟩
      unfold sumA; rw [hix]
      by_cases hy : y = -1 ∨ (ix y ps.1).isSome = true
      · exact congrArg (fun z => some (Value.long z)) (if_pos ⟨of_decide_eq_true h14, hy⟩).symm
      · have e9 : ix y ps.1 = none := by cases h9 : ix y ps.1 with | none => rfl | some j => exact absurd (Or.inr (by rw [h9]; rfl)) hy
        rw [smR_0 (fun z => hy (Or.inl z)) e9 (by omega) hpp _ (Nat.le_refl _)]
        exact congrArg (fun z => some (Value.long z)) (if_neg (fun z => hy z.2)).symm
    · -- pc 17
      have h14 := cv_b0 h14
      refine xe (fun _ _ kK => x_lconst dX7_sum_17 (show _ = lN 0 by decide) kK) ?_
      exact xe_retl dX7_sum_18 rfl (⟨by unfold sumA; rw [hix]; exact congrArg (fun z => some (Value.long z)) (if_neg (fun z => of_decide_eq_false h14 z.1)).symm, rfl⟩)

set_option maxHeartbeats 4000000 in
theorem c_X7_isPaper (d : Nat) {T : TH} (hC : CI T) {n : Nat} (ht : e_i T 453 0 = nI n) (hn : n ≤ 30) (x : Int32) : Xe m_X7_isPaper d 0 [(0, .ref 0), (1, .int x)] [] T (fun r T1 => r = some (.int (bI (ix x n).isSome)) ∧ T1 = T) := by
  by_cases hx : x < 0
  · -- pc 0
    refine xe (fun _ _ kK => x_iload_n dX7_isPaper_0 rfl 1 rfl kK) ?_
    refine xe (fun _ _ kK => x_if_ltT (tgt := 16) dX7_isPaper_1 (by decide) hx kK) ?_
    refine xe (fun _ _ kK => x_iconst dX7_isPaper_16 (show _ = nI 0 by decide) kK) ?_
    exact xe_retz dX7_isPaper_17 rfl (by first | exact Or.inl rfl | exact Or.inr rfl) (⟨r_0 (by rw [ix_neg hx]; rfl), rfl⟩)
  · -- pc 0
    obtain ⟨j, hj, rfl⟩ := nI_of hx
    refine xe (fun _ _ kK => x_iload_n dX7_isPaper_0 rfl 1 rfl kK) ?_
    refine xe (fun _ _ kK => x_if_ltF (tgt := 16) dX7_isPaper_1 (by decide) hx kK) ?_
    refine xe (fun _ _ kK => x_iload_n dX7_isPaper_4 rfl 1 rfl kK) ?_
    refine xe (fun _ _ kK => x_aload_n dX7_isPaper_5 rfl 0 rfl kK) ?_
    refine xe (fun _ _ kK => x_get dX7_isPaper_6 fl_X7_40 hC.1 (gvl_i fz_7_5.2.2 (show e_i T 453 0 = nI n from ht)) kK) ?_
    refine xe_icmp_ge (tgt := 16) dX7_isPaper_9 (by decide) (fun h9 => ?_) (fun h9 => ?_)
    · -- pc 16
      have h9 := cv_le (by omega) (by omega) h9
      refine xe (fun _ _ kK => x_iconst dX7_isPaper_16 (show _ = nI 0 by decide) kK) ?_
      exact xe_retz dX7_isPaper_17 rfl (by first | exact Or.inl rfl | exact Or.inr rfl) (⟨r_0 (by rw [ix_out (by omega) hj]; rfl), rfl⟩)
    · -- pc 12
      have h9 := cv_nle (by omega) (by omega) h9
      refine xe (fun _ _ kK => x_iconst dX7_isPaper_12 (show _ = nI 1 by decide) kK) ?_
      refine xe (fun _ _ kK => x_goto (tgt := 17) dX7_isPaper_13 (by decide) kK) ?_
      exact xe_retz dX7_isPaper_17 rfl (by first | exact Or.inl rfl | exact Or.inr rfl) (⟨r_1 (by rw [ix_in (by omega) hj]; rfl), rfl⟩)

set_option maxHeartbeats 4000000 in
theorem c_X7_end (d : Nat) {T : TH} (hC : CI T) {n : Nat} (ht : e_i T 257 1 = nI n) (hn : n ≤ 400) (x : Int32) : Xe m_X7_end d 0 [(0, .ref 0), (1, .int x)] [] T (fun r T1 => r = some (.int (bI (ix x (n + 1)).isSome)) ∧ T1 = match ix x (n + 1) with
    | none => T
    | some j => s_i T 257 1 (nI j)) := by
  by_cases hx : x < 0
  · -- pc 0
    refine xe (fun _ _ kK => x_iload_n dX7_end_0 rfl 1 rfl kK) ?_
    refine xe (fun _ _ kK => x_if_ltT (tgt := 15) dX7_end_1 (by decide) hx kK) ?_
    refine xe (fun _ _ kK => x_iconst dX7_end_15 (show _ = nI 0 by decide) kK) ?_
    exact xe_retz dX7_end_16 rfl (by first | exact Or.inl rfl | exact Or.inr rfl) (⟨r_0 (by rw [ix_neg hx]; rfl), by rw [ix_neg hx]⟩)
  · -- pc 0
    obtain ⟨j, hj, rfl⟩ := nI_of hx
    refine xe (fun _ _ kK => x_iload_n dX7_end_0 rfl 1 rfl kK) ?_
    refine xe (fun _ _ kK => x_if_ltF (tgt := 15) dX7_end_1 (by decide) hx kK) ?_
    refine xe (fun _ _ kK => x_iload_n dX7_end_4 rfl 1 rfl kK) ?_
    refine xe (fun _ _ kK => x_aload_n dX7_end_5 rfl 0 rfl kK) ?_
    refine xe (fun _ _ kK => x_get dX7_end_6 fl_X7_12 hC.1 (gvl_r1 fz_7_0.2.2 (show e_r T 448 0 = some 1 from hC.2.1)) kK) ?_
    refine xe (fun _ _ kK => x_get dX7_end_9 fl_X7_44 hC.2.2.2.2.1 (gvl_i fz_4_1.2.2 (show e_i T 257 1 = nI n from ht)) kK) ?_
    refine xe_icmp_le (tgt := 17) dX7_end_12 (by decide) (fun h12 => ?_) (fun h12 => ?_)
    · -- pc 17
      have h12 := cv_le (by omega) (by omega) h12
      refine xe (fun _ _ kK => x_aload_n dX7_end_17 rfl 0 rfl kK) ?_
      refine xe (fun _ _ kK => x_get dX7_end_18 fl_X7_12 hC.1 (gvl_r1 fz_7_0.2.2 (show e_r T 448 0 = some 1 from hC.2.1)) kK) ?_
      refine xe (fun _ _ kK => x_iload_n dX7_end_21 rfl 1 rfl kK) ?_
      refine xe (fun _ _ kK => x_puti dX7_end_22 ⟨fl_X7_44, fz_4_1.1, fz_4_1.2.1⟩ (Or.inl fz_4_1.2.2) rfl rfl hC.2.2.2.2.1 kK) ?_
      refine xe (fun _ _ kK => x_iconst dX7_end_25 (show _ = nI 1 by decide) kK) ?_
      exact xe_retz dX7_end_26 rfl (by first | exact Or.inl rfl | exact Or.inr rfl) (⟨r_1 (by rw [ix_in (by omega) hj]; rfl), by rw [ix_in (by omega) hj]⟩)
    · -- pc 15
      have h12 := cv_nle (by omega) (by omega) h12
      refine xe (fun _ _ kK => x_iconst dX7_end_15 (show _ = nI 0 by decide) kK) ?_
      exact xe_retz dX7_end_16 rfl (by first | exact Or.inl rfl | exact Or.inr rfl) (⟨r_0 (by rw [ix_out (by omega) hj]; rfl), by rw [ix_out (by omega) hj]⟩)

set_option maxHeartbeats 4000000 in
theorem c_X7_fault (d : Nat) {T : TH} (hC : CI T) (x : Int32) : Xe m_X7_fault d 0 [(0, .ref 0), (1, .int x)] [] T (fun r T1 => r = some (.int (if x = 0 then e_i T 259 1 else if x = nI 1 then e_i T 260 1 else -1)) ∧ T1 = T) := by
  refine xe (fun _ _ kK => x_iload_n dX7_fault_0 rfl 1 rfl kK) ?_
  refine xe_if_ne (tgt := 12) dX7_fault_1 (by decide) (fun h1 => ?_) (fun h1 => ?_)
  · -- pc 12
    refine xe (fun _ _ kK => x_iload_n dX7_fault_12 rfl 1 rfl kK) ?_
    refine xe (fun _ _ kK => x_iconst dX7_fault_13 (show _ = nI 1 by decide) kK) ?_
    refine xe_icmp_ne (tgt := 27) dX7_fault_14 (by decide) (fun h14 => ?_) (fun h14 => ?_)
    · -- pc 27
      refine xe (fun _ _ kK => x_iconst dX7_fault_27 (show _ = (-1) by decide) kK) ?_
      exact xe_reti dX7_fault_28 rfl (⟨by rw [if_neg h1, if_neg h14], rfl⟩)
    · -- pc 17
      refine xe (fun _ _ kK => x_aload_n dX7_fault_17 rfl 0 rfl kK) ?_
      refine xe (fun _ _ kK => x_get dX7_fault_18 fl_X7_12 hC.1 (gvl_r1 fz_7_0.2.2 (show e_r T 448 0 = some 1 from hC.2.1)) kK) ?_
      refine xe (fun _ _ kK => x_get dX7_fault_21 fl_X7_78 hC.2.2.2.2.1 (gvl_i fz_4_4.2.2 (show e_i T 260 1 = e_i T 260 1 from rfl)) kK) ?_
      refine xe (fun _ _ kK => x_goto (tgt := 28) dX7_fault_24 (by decide) kK) ?_
      exact xe_reti dX7_fault_28 rfl (⟨by rw [if_neg h1, if_pos h14], rfl⟩)
  · -- pc 4
    refine xe (fun _ _ kK => x_aload_n dX7_fault_4 rfl 0 rfl kK) ?_
    refine xe (fun _ _ kK => x_get dX7_fault_5 fl_X7_12 hC.1 (gvl_r1 fz_7_0.2.2 (show e_r T 448 0 = some 1 from hC.2.1)) kK) ?_
    refine xe (fun _ _ kK => x_get dX7_fault_8 fl_X7_75 hC.2.2.2.2.1 (gvl_i fz_4_3.2.2 (show e_i T 259 1 = e_i T 259 1 from rfl)) kK) ?_
    exact xe_reti dX7_fault_11 rfl (⟨by rw [if_pos h1], rfl⟩)

set_option maxHeartbeats 4000000 in
theorem c_X5_byteAt (d : Nat) {T : TH} (hC : CI T) {n : Nat} (ht : e_i T 321 64 = nI n) (hn : n ≤ 400) (x : Int32) : Xe m_X5_byteAt d 0 [(0, .ref 64), (1, .int x)] [] T (fun r T1 => r = some (.int (match ix x n with
    | none => -1
    | some j => e_ai T 65 j &&& nI 255)) ∧ T1 = T) := by
  by_cases hx : x < 0
  · -- pc 0
    refine xe (fun _ _ kK => x_iload_n dX5_byteAt_0 rfl 1 rfl kK) ?_
    refine xe (fun _ _ kK => x_if_ltT (tgt := 32) dX5_byteAt_1 (by decide) hx kK) ?_
    refine xe (fun _ _ kK => x_iconst dX5_byteAt_32 (show _ = (-1) by decide) kK) ?_
    exact xe_reti dX5_byteAt_33 rfl (⟨by rw [ix_neg hx], rfl⟩)
  · -- pc 0
    obtain ⟨j, hj, rfl⟩ := nI_of hx
    refine xe (fun _ _ kK => x_iload_n dX5_byteAt_0 rfl 1 rfl kK) ?_
    refine xe (fun _ _ kK => x_if_ltF (tgt := 32) dX5_byteAt_1 (by decide) hx kK) ?_
    refine xe (fun _ _ kK => x_iload_n dX5_byteAt_4 rfl 1 rfl kK) ?_
    refine xe (fun _ _ kK => x_aload_n dX5_byteAt_5 rfl 0 rfl kK) ?_
    refine xe (fun _ _ kK => x_get dX5_byteAt_6 fl_X5_15 hC.2.2.2.2.2.2.2.2.2.2.2.1 (gvl_i fz_5_1.2.2 (show e_i T 321 64 = nI n from ht)) kK) ?_
    refine xe_icmp_ge (tgt := 32) dX5_byteAt_9 (by decide) (fun h9 => ?_) (fun h9 => ?_)
    · -- pc 32
      have h9 := cv_le (by omega) (by omega) h9
      refine xe (fun _ _ kK => x_iconst dX5_byteAt_32 (show _ = (-1) by decide) kK) ?_
      exact xe_reti dX5_byteAt_33 rfl (⟨by rw [ix_out (by omega) hj], rfl⟩)
    · -- pc 12
      have h9 := cv_nle (by omega) (by omega) h9
      refine xe (fun _ _ kK => x_iload_n dX5_byteAt_12 rfl 1 rfl kK) ?_
      refine xe (fun _ _ kK => x_sipush dX5_byteAt_13 (show _ = nI 400 by decide) kK) ?_
      refine xe (fun _ _ kK => x_icmp_geF (tgt := 32) dX5_byteAt_16 (by decide) (fun z9 => by have := cv_le (by omega) (by omega) z9; omega) kK) ?_
      refine xe (fun _ _ kK => x_aload_n dX5_byteAt_19 rfl 0 rfl kK) ?_
      refine xe (fun _ _ kK => x_get dX5_byteAt_20 fl_X5_9 hC.2.2.2.2.2.2.2.2.2.2.2.1 (gvl_r1 fz_5_0.2.2 (show e_r T 320 64 = some 65 from hC.2.2.2.2.2.2.2.2.2.2.2.2.1)) kK) ?_
      refine xe (fun _ _ kK => x_iload_n dX5_byteAt_23 rfl 1 rfl kK) ?_
      refine xe (fun _ _ kK => x_bald dX5_byteAt_24 hC.2.2.2.2.2.2.2.2.2.2.2.2.2.1 (show (nI j) = nI j from rfl) (by rw [hC.2.2.2.2.2.2.2.2.2.2.2.2.2.2.1]; omega) (show e_ai T 65 j = e_ai T 65 j from rfl) kK) ?_
      refine xe (fun _ _ kK => x_sipush dX5_byteAt_25 (show _ = nI 255 by decide) kK) ?_
      refine xe (fun _ _ kK => x_iand dX5_byteAt_28 kK) ?_
      refine xe (fun _ _ kK => x_goto (tgt := 33) dX5_byteAt_29 (by decide) kK) ?_
      exact xe_reti dX5_byteAt_33 rfl (⟨by rw [ix_in (by omega) hj], rfl⟩)

set_option maxHeartbeats 4000000 in
theorem c_X7_at (d : Nat) {T : TH} (hC : CI T) {n : Nat} (ht : e_i T 321 64 = nI n) (hn : n ≤ 400) (x : Int32) : Xe m_X7_at (d + 1) 0 [(0, .ref 0), (1, .int x)] [] T (fun r T1 => r = some (.int (match ix x n with
    | none => -1
    | some j => e_ai T 65 j &&& nI 255)) ∧ T1 = T) := by
  refine xe (fun _ _ kK => x_aload_n dX7_at_0 rfl 0 rfl kK) ?_
  refine xe (fun _ _ kK => x_get dX7_at_1 fl_X7_26 hC.1 (gvl_r1 fz_7_2.2.2 (show e_r T 450 0 = some 64 from hC.2.2.2.1)) kK) ?_
  refine xe (fun _ _ kK => x_iload_n dX7_at_4 rfl 1 rfl kK) ?_
  refine xe_callV (a := 64) [.int x] dX7_at_5 ml_X7_144 mf_X5_byteAt hC.2.2.2.2.2.2.2.2.2.2.2.1 (c_X5_byteAt d hC ht hn x) rfl rfl (Nat.le_of_ble_eq_true rfl) (Nat.le_of_ble_eq_true rfl) ?_
  rintro _ T9 ⟨rfl, hTq9⟩
  refine xe_T hTq9 ?_
  exact xe_reti dX7_at_8 rfl (⟨rfl, rfl⟩)
