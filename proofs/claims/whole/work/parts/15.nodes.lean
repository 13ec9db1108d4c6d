/-! A PAPER as nodes: how many; of each its field, its group's node, its value -/
abbrev Pa : Type := Nat × (Nat → Option Nat) × (Nat → Option Nat) × (Nat → Int64)
def hasN (pa : Pa) (x f : Nat) : Prop := ∃ k, k < pa.1 ∧ x < k ∧ pa.2.2.1 k = some x ∧ pa.2.1 k = some f
def lackN (s : Sh) (pa : Pa) (x : Nat) : Prop := ∃ f, f < s.1 ∧ s.2.2.1 f = pa.2.1 x ∧ s.2.2.2.2.2.1 f = 0 ∧ ¬ hasN pa x f
def addN (pa : Pa) (f x : Option Nat) (v : Int64) : Pa := (pa.1 + 1, va_up pa.2.1 pa.1 f, va_up pa.2.2.1 pa.1 x, va_up pa.2.2.2 pa.1 v)
def fnd (p : Nat → Bool) : Nat → Nat → Option Nat
  | 0, _ => none
  | c + 1, k => if p k then some k else fnd p c (k + 1)
def findF (s : Sh) (o v : Option Nat) : Option Nat := fnd (fun f => decide (s.2.2.1 f = o ∧ some (s.2.2.2.1 f) = v)) s.1 0
/-- the reference's cells hold the nodes from o on -/
def PN (T : TH) (o : Nat) (pa : Pa) : Prop := ∀ x, x < pa.1 → e_ai T 103 (o + x) = oI (pa.2.1 x) ∧ e_ai T 104 (o + x) = oI ((pa.2.2.1 x).map (o + ·)) ∧ e_al T 105 (o + x) = pa.2.2.2 x
/-- nodes in order: a group's node stands ahead; fields are fields -/
def PaOk (nF : Nat) (pa : Pa) : Prop := ∀ x, x < pa.1 → (∀ y, pa.2.2.1 x = some y → y < x) ∧ ∀ f, pa.2.1 x = some f → f < nF
theorem oI_some {q : Option Nat} {a : Nat} (hq : oB q) (ha : a < 2 ^ 31) (h : oI q = nI a) : q = some a := cv_oo hq (fun z hz => by cases hz; exact ha) h
theorem oB_some {a : Nat} (h : a < 2 ^ 31) : oB (some a) := fun z hz => by cases hz; exact h
theorem oB_none : oB none := fun z hz => by cases hz
theorem map_some {q : Option Nat} {o a : Nat} (h : q.map (o + ·) = some (o + a)) : q = some a := by
  cases q with
  | none => cases h
  | some y => simp at h; rw [h]
/-- what a SHAPE is, as far as the reference's reader of PAPERS asks -/
def ShB (s : Sh) : Prop := s.1 ≤ 60 ∧ (∀ f, f < s.1 → s.2.2.2.1 f < 27 ^ 8) ∧ (∀ f, f < s.1 → oB (s.2.2.1 f)) ∧ ∀ f, f < s.1 → s.2.2.2.2.1 f ≤ 2 ∧ s.2.2.2.2.2.1 f ≤ 2

set_option maxHeartbeats 4000000 in
theorem l_X8_hasNode (d : Nat) {T : TH} (hM : MI T) {o x f nF : Nat} {pa : Pa} (hP : PN T o pa) (hok : PaOk nF pa) (hnF : nF ≤ 60) (hn : e_i T 548 88 = nI (o + pa.1)) (hb : o + pa.1 ≤ 6200) (hf : f < 60) : ∀ (m k : Nat), pa.1 - k = m → x < k → k ≤ pa.1 → (∀ j, x < j → j < k → ¬ (pa.2.2.1 j = some x ∧ pa.2.1 j = some f)) → Xe m_X8_hasNode d 4 [(3, .int (nI (o + k))), (0, .ref 88), (1, .int (nI (o + x))), (2, .int (nI f))] [] T (fun r T1 => r = some (.int (bI (pB (hasN pa x f)))) ∧ T1 = T) := by
  intro m
  induction m using Nat.strongRecOn with
  | ind m ih =>
    intro k hm hxk hks hno
    subst hm
    refine xe (fun _ _ kK => x_iload_n dX8_hasNode_4 rfl 0 rfl kK) ?_
    refine xe (fun _ _ kK => x_aload_n dX8_hasNode_5 rfl 1 rfl kK) ?_
    refine xe (fun _ _ kK => x_get dX8_hasNode_6 fl_X8_217 hM.1 (gvl_i fz_8_36.2.2 (show e_i T 548 88 = nI (o + pa.1) from hn)) kK) ?_
    refine xe_icmp_ge (tgt := 40) dX8_hasNode_9 (by decide) (fun h9 => ?_) (fun h9 => ?_)
    · -- pc 40
      have h9 := cv_le (by omega) (by omega) h9
      refine xe (fun _ _ kK => x_iconst dX8_hasNode_40 (show _ = nI 0 by decide) kK) ?_
      exact xe_retz dX8_hasNode_41 rfl (by first | exact Or.inl rfl | exact Or.inr rfl) (⟨r_0 (pB_f (fun ⟨j, j1, j2, j3, j4⟩ => hno j j2 (by omega) ⟨j3, j4⟩)), rfl⟩)
    · -- pc 12
      have h9 := cv_nle (by omega) (by omega) h9
      have hk9 : k < pa.1 := by omega
      refine xe (fun _ _ kK => x_aload_n dX8_hasNode_12 rfl 1 rfl kK) ?_
      refine xe (fun _ _ kK => x_get dX8_hasNode_13 fl_X8_80 hM.1 (gvl_r1 fz_8_34.2.2 (show e_r T 546 88 = some 104 from (hM.2.1 34))) kK) ?_
      refine xe (fun _ _ kK => x_iload_n dX8_hasNode_16 rfl 0 rfl kK) ?_
      refine xe (fun _ _ kK => x_iald dX8_hasNode_17 (hM.2.2.1 15 (by decide)) (show (nI (o + k)) = nI (o + k) from rfl) (mi_len hM 15 (by decide) (show o + k < 6200 by omega)) (show e_ai T 104 (o + k) = oI ((pa.2.2.1 k).map (o + ·)) from (hP k (by omega)).2.1) kK) ?_
      refine xe (fun _ _ kK => x_iload_n dX8_hasNode_18 rfl 2 rfl kK) ?_
      have hb1 : oB ((pa.2.2.1 k).map (o + ·)) := fun z hz => by cases h7 : pa.2.2.1 k with | none => (rw [h7] at hz; cases hz) | some y => (rw [h7] at hz; simp at hz; have := (hok k (by omega)).1 y h7; omega)
      have hb2 : oB (pa.2.1 k) := fun z hz => by have := (hok k (by omega)).2 z hz; omega
      by_cases h19 : pa.2.2.1 k = some x
      · -- pc 19
        refine xe (fun _ _ kK => x_icmp_neF (tgt := 34) dX8_hasNode_19 (by decide) (show oI ((pa.2.2.1 k).map (o + ·)) = nI (o + x) by rw [h19]; rfl) kK) ?_
        refine xe (fun _ _ kK => x_aload_n dX8_hasNode_22 rfl 1 rfl kK) ?_
        refine xe (fun _ _ kK => x_get dX8_hasNode_23 fl_X8_77 hM.1 (gvl_r1 fz_8_33.2.2 (show e_r T 545 88 = some 103 from (hM.2.1 33))) kK) ?_
        refine xe (fun _ _ kK => x_iload_n dX8_hasNode_26 rfl 0 rfl kK) ?_
        refine xe (fun _ _ kK => x_iald dX8_hasNode_27 (hM.2.2.1 14 (by decide)) (show (nI (o + k)) = nI (o + k) from rfl) (mi_len hM 14 (by decide) (show o + k < 6200 by omega)) (show e_ai T 103 (o + k) = oI (pa.2.1 k) from (hP k (by omega)).1) kK) ?_
        refine xe (fun _ _ kK => x_iload_n dX8_hasNode_28 rfl 3 rfl kK) ?_
        by_cases h29 : pa.2.1 k = some f
        · -- pc 29
          refine xe (fun _ _ kK => x_icmp_neF (tgt := 34) dX8_hasNode_29 (by decide) (show oI (pa.2.1 k) = nI f by rw [h29]; rfl) kK) ?_
          refine xe (fun _ _ kK => x_iconst dX8_hasNode_32 (show _ = nI 1 by decide) kK) ?_
          exact xe_retz dX8_hasNode_33 rfl (by first | exact Or.inl rfl | exact Or.inr rfl) (⟨r_1 (pB_t ⟨k, by omega, by omega, h19, h29⟩), rfl⟩)
        · -- pc 29
          refine xe (fun _ _ kK => x_icmp_neT (tgt := 34) dX8_hasNode_29 (by decide) (fun z => h29 (oI_some hb2 (by omega) z)) kK) ?_
          refine xe (fun _ _ kK => x_iinc dX8_hasNode_34 0 rfl (show (nI (o + k)) + Int32.ofInt 1 = nI ((o + k) + 1) from nI_add (o + k) 1) (by decide) (show _ = [(3, .int (nI ((o + k) + 1))), (0, .ref 88), (1, .int (nI (o + x))), (2, .int (nI f))] from rfl) kK) ?_
          refine xe (fun _ _ kK => x_goto (tgt := 4) dX8_hasNode_37 (by decide) kK) ?_
          refine xe_loc (by simp [Nat.add_assoc]) (ih (pa.1 - (k + 1)) (by omega) (k + 1) rfl (by omega) (by omega) ?_)
          rintro j h5 h6 ⟨h7, h8⟩
          rcases Nat.lt_or_ge j k with h9 | h9
          · exact hno j h5 h9 ⟨h7, h8⟩
          · have e9 : j = k := by omega
            subst e9
            exact h29 h8
      · -- pc 19
        refine xe (fun _ _ kK => x_icmp_neT (tgt := 34) dX8_hasNode_19 (by decide) (fun z => h19 (map_some (oI_some hb1 (by omega) z))) kK) ?_
        refine xe (fun _ _ kK => x_iinc dX8_hasNode_34 0 rfl (show (nI (o + k)) + Int32.ofInt 1 = nI ((o + k) + 1) from nI_add (o + k) 1) (by decide) (show _ = [(3, .int (nI ((o + k) + 1))), (0, .ref 88), (1, .int (nI (o + x))), (2, .int (nI f))] from rfl) kK) ?_
        refine xe (fun _ _ kK => x_goto (tgt := 4) dX8_hasNode_37 (by decide) kK) ?_
        refine xe_loc (by simp [Nat.add_assoc]) (ih (pa.1 - (k + 1)) (by omega) (k + 1) rfl (by omega) (by omega) ?_)
        rintro j h5 h6 ⟨h7, h8⟩
        rcases Nat.lt_or_ge j k with h9 | h9
        · exact hno j h5 h9 ⟨h7, h8⟩
        · have e9 : j = k := by omega
          subst e9
          exact h19 h7

set_option maxHeartbeats 4000000 in
theorem c_X8_hasNode (d : Nat) {T : TH} (hM : MI T) {o x f nF : Nat} {pa : Pa} (hP : PN T o pa) (hok : PaOk nF pa) (hnF : nF ≤ 60) (hn : e_i T 548 88 = nI (o + pa.1)) (hb : o + pa.1 ≤ 6200) (hf : f < 60) (hx : x < pa.1) : Xe m_X8_hasNode d 0 [(0, .ref 88), (1, .int (nI (o + x))), (2, .int (nI f))] [] T (fun r T1 => r = some (.int (bI (pB (hasN pa x f)))) ∧ T1 = T) := by
  refine xe (fun _ _ kK => x_iload_n dX8_hasNode_0 rfl 1 rfl kK) ?_
  refine xe (fun _ _ kK => x_iconst dX8_hasNode_1 (show _ = nI 1 by decide) kK) ?_
  refine xe (fun _ _ kK => x_iadd dX8_hasNode_2 kK) ?_
  refine xe_ti (show _ = nI ((o + x) + 1) from nI_add (o + x) 1) ?_
  refine xe (fun _ _ kK => x_istore_n dX8_hasNode_3 rfl (by decide) (show _ = [(3, .int (nI ((o + x) + 1))), (0, .ref 88), (1, .int (nI (o + x))), (2, .int (nI f))] from rfl) kK) ?_
  exact xe_loc (by simp [Nat.add_assoc]) (l_X8_hasNode d hM hP hok hnF hn hb hf (pa.1 - (x + 1)) (x + 1) rfl (by omega) (by omega) (fun j h1 h2 => absurd h2 (by omega)))

set_option maxHeartbeats 4000000 in
theorem l_X8_lacks (d : Nat) {T : TH} (hM : MI T) {s : Sh} {o x : Nat} {pa : Pa} (hS : MSh T s) (hB : ShB s) (hP : PN T o pa) (hok : PaOk s.1 pa) (hn : e_i T 548 88 = nI (o + pa.1)) (hb : o + pa.1 ≤ 6200) (hx : x < pa.1) : ∀ (m k : Nat), s.1 - k = m → k ≤ s.1 → (∀ j, j < k → ¬ (s.2.2.1 j = pa.2.1 x ∧ s.2.2.2.2.2.1 j = 0 ∧ ¬ hasN pa x j)) → Xe m_X8_lacks (d + 1) 2 [(2, .int (nI k)), (0, .ref 88), (1, .int (nI (o + x)))] [] T (fun r T1 => r = some (.int (bI (pB (lackN s pa x)))) ∧ T1 = T) := by
  intro m
  induction m using Nat.strongRecOn with
  | ind m ih =>
    intro k hm hks hno
    subst hm
    have hs60 := hB.1
    refine xe (fun _ _ kK => x_iload_n dX8_lacks_2 rfl 0 rfl kK) ?_
    refine xe (fun _ _ kK => x_aload_n dX8_lacks_3 rfl 1 rfl kK) ?_
    refine xe (fun _ _ kK => x_get dX8_lacks_4 fl_X8_208 hM.1 (gvl_i fz_8_14.2.2 (show e_i T 526 88 = nI s.1 from hS.1)) kK) ?_
    refine xe_icmp_ge (tgt := 51) dX8_lacks_7 (by decide) (fun h7 => ?_) (fun h7 => ?_)
    · -- pc 51
      have h7 := cv_le (by omega) (by omega) h7
      refine xe (fun _ _ kK => x_iconst dX8_lacks_51 (show _ = nI 0 by decide) kK) ?_
      exact xe_retz dX8_lacks_52 rfl (by first | exact Or.inl rfl | exact Or.inr rfl) (⟨r_0 (pB_f (fun ⟨j, j1, j2, j3, j4⟩ => hno j (by omega) ⟨j2, j3, j4⟩)), rfl⟩)
    · -- pc 10
      have h7 := cv_nle (by omega) (by omega) h7
      have hb1 : oB (s.2.2.1 k) := hB.2.2.1 k h7
      have hb2 : oB (pa.2.1 x) := fun z hz => by have := (hok x hx).2 z hz; omega
      have hb3 := (hB.2.2.2 k h7).2
      refine xe (fun _ _ kK => x_aload_n dX8_lacks_10 rfl 1 rfl kK) ?_
      refine xe (fun _ _ kK => x_get dX8_lacks_11 fl_X8_37 hM.1 (gvl_r1 fz_8_16.2.2 (show e_r T 528 88 = some 90 from (hM.2.1 16))) kK) ?_
      refine xe (fun _ _ kK => x_iload_n dX8_lacks_14 rfl 0 rfl kK) ?_
      refine xe (fun _ _ kK => x_iald dX8_lacks_15 (hM.2.2.1 1 (by decide)) (show (nI k) = nI k from rfl) (mi_len hM 1 (by decide) (show k < 80 by omega)) (show e_ai T 90 k = oI (s.2.2.1 k) from (hS.2.2.1 k h7).1) kK) ?_
      refine xe (fun _ _ kK => x_aload_n dX8_lacks_16 rfl 1 rfl kK) ?_
      refine xe (fun _ _ kK => x_get dX8_lacks_17 fl_X8_77 hM.1 (gvl_r1 fz_8_33.2.2 (show e_r T 545 88 = some 103 from (hM.2.1 33))) kK) ?_
      refine xe (fun _ _ kK => x_iload_n dX8_lacks_20 rfl 2 rfl kK) ?_
      refine xe (fun _ _ kK => x_iald dX8_lacks_21 (hM.2.2.1 14 (by decide)) (show (nI (o + x)) = nI (o + x) from rfl) (mi_len hM 14 (by decide) (show o + x < 6200 by omega)) (show e_ai T 103 (o + x) = oI (pa.2.1 x) from (hP x hx).1) kK) ?_
      refine xe_icmp_ne (tgt := 45) dX8_lacks_22 (by decide) (fun h22 => ?_) (fun h22 => ?_)
      · -- pc 45
        have h22 := cv_oon (by assumption) (by assumption) h22
        refine xe (fun _ _ kK => x_iinc dX8_lacks_45 0 rfl (show (nI k) + Int32.ofInt 1 = nI (k + 1) from nI_add k 1) (by decide) (show _ = [(2, .int (nI (k + 1))), (0, .ref 88), (1, .int (nI (o + x)))] from rfl) kK) ?_
        refine xe (fun _ _ kK => x_goto (tgt := 2) dX8_lacks_48 (by decide) kK) ?_
        refine xe_loc (by simp) (ih (s.1 - (k + 1)) (by omega) (k + 1) rfl (by omega) ?_)
        rintro j h5 ⟨u6, u7, u8⟩
        rcases Nat.lt_or_ge j k with h9 | h9
        · exact hno j h9 ⟨u6, u7, u8⟩
        · have e9 : j = k := by omega
          subst e9
          exact h22 u6
      · -- pc 25
        have h22 := cv_oo (by assumption) (by assumption) h22
        refine xe (fun _ _ kK => x_aload_n dX8_lacks_25 rfl 1 rfl kK) ?_
        refine xe (fun _ _ kK => x_get dX8_lacks_26 fl_X8_47 hM.1 (gvl_r1 fz_8_19.2.2 (show e_r T 531 88 = some 93 from (hM.2.1 19))) kK) ?_
        refine xe (fun _ _ kK => x_iload_n dX8_lacks_29 rfl 0 rfl kK) ?_
        refine xe (fun _ _ kK => x_iald dX8_lacks_30 (hM.2.2.1 4 (by decide)) (show (nI k) = nI k from rfl) (mi_len hM 4 (by decide) (show k < 80 by omega)) (show e_ai T 93 k = nI (s.2.2.2.2.2.1 k) from (hS.2.2.1 k h7).2.2.2) kK) ?_
        refine xe_if_ne (tgt := 45) dX8_lacks_31 (by decide) (fun h31 => ?_) (fun h31 => ?_)
        · -- pc 45
          have h31 := cv_nz (by omega) h31
          refine xe (fun _ _ kK => x_iinc dX8_lacks_45 0 rfl (show (nI k) + Int32.ofInt 1 = nI (k + 1) from nI_add k 1) (by decide) (show _ = [(2, .int (nI (k + 1))), (0, .ref 88), (1, .int (nI (o + x)))] from rfl) kK) ?_
          refine xe (fun _ _ kK => x_goto (tgt := 2) dX8_lacks_48 (by decide) kK) ?_
          refine xe_loc (by simp) (ih (s.1 - (k + 1)) (by omega) (k + 1) rfl (by omega) ?_)
          rintro j h5 ⟨u6, u7, u8⟩
          rcases Nat.lt_or_ge j k with h9 | h9
          · exact hno j h9 ⟨u6, u7, u8⟩
          · have e9 : j = k := by omega
            subst e9
            exact h31 u7
        · -- pc 34
          have h31 := cv_z (by omega) h31
          refine xe (fun _ _ kK => x_aload_n dX8_lacks_34 rfl 1 rfl kK) ?_
          refine xe (fun _ _ kK => x_iload_n dX8_lacks_35 rfl 2 rfl kK) ?_
          refine xe (fun _ _ kK => x_iload_n dX8_lacks_36 rfl 0 rfl kK) ?_
          refine xe_callV (a := 88) [.int (nI (o + x)), .int (nI k)] dX8_lacks_37 ml_X8_220 mf_X8_hasNode hM.1 (c_X8_hasNode d hM hP hok (by omega) hn hb (by omega) hx) rfl rfl (Nat.le_of_ble_eq_true rfl) (Nat.le_of_ble_eq_true rfl) ?_
          rintro _ T9 ⟨rfl, h9⟩
          refine xe_T h9 ?_
          refine xe_if_ne (tgt := 45) dX8_lacks_40 (by decide) (fun h40 => ?_) (fun h40 => ?_)
          · -- pc 45
            have h40 := cv_b1 h40
            refine xe (fun _ _ kK => x_iinc dX8_lacks_45 0 rfl (show (nI k) + Int32.ofInt 1 = nI (k + 1) from nI_add k 1) (by decide) (show _ = [(2, .int (nI (k + 1))), (0, .ref 88), (1, .int (nI (o + x)))] from rfl) kK) ?_
            refine xe (fun _ _ kK => x_goto (tgt := 2) dX8_lacks_48 (by decide) kK) ?_
            refine xe_loc (by simp) (ih (s.1 - (k + 1)) (by omega) (k + 1) rfl (by omega) ?_)
            rintro j h5 ⟨u6, u7, u8⟩
            rcases Nat.lt_or_ge j k with h9 | h9
            · exact hno j h9 ⟨u6, u7, u8⟩
            · have e9 : j = k := by omega
              subst e9
              exact u8 (pB_of h40)
          · -- pc 43
            have h40 := cv_b0 h40
            refine xe (fun _ _ kK => x_iconst dX8_lacks_43 (show _ = nI 1 by decide) kK) ?_
            exact xe_retz dX8_lacks_44 rfl (by first | exact Or.inl rfl | exact Or.inr rfl) (⟨r_1 (pB_t ⟨k, h7, h22, h31, pB_no h40⟩), rfl⟩)

set_option maxHeartbeats 4000000 in
theorem c_X8_lacks (d : Nat) {T : TH} (hM : MI T) {s : Sh} {o x : Nat} {pa : Pa} (hS : MSh T s) (hB : ShB s) (hP : PN T o pa) (hok : PaOk s.1 pa) (hn : e_i T 548 88 = nI (o + pa.1)) (hb : o + pa.1 ≤ 6200) (hx : x < pa.1) : Xe m_X8_lacks (d + 1) 0 [(0, .ref 88), (1, .int (nI (o + x)))] [] T (fun r T1 => r = some (.int (bI (pB (lackN s pa x)))) ∧ T1 = T) := by
  refine xe (fun _ _ kK => x_iconst dX8_lacks_0 (show _ = nI 0 by decide) kK) ?_
  refine xe (fun _ _ kK => x_istore_n dX8_lacks_1 rfl (by decide) (show _ = [(2, .int (nI 0)), (0, .ref 88), (1, .int (nI (o + x)))] from rfl) kK) ?_
  exact xe_loc (by simp) (l_X8_lacks d hM hS hB hP hok hn hb hx s.1 0 rfl (Nat.zero_le _) (fun j h => absurd h (Nat.not_lt_zero j)))

set_option maxHeartbeats 4000000 in
theorem l_X8_fieldOf (d : Nat) {T : TH} (hM : MI T) {s : Sh} (hS : MSh T s) (hB : ShB s) {gg : Option Nat} (hg : oB gg) {b : Nat → Nat} {n q : Nat} : ∀ (m k : Nat), s.1 - k = m → k ≤ s.1 → Xe m_X8_fieldOf d 3 [(4, .int (nI k)), (0, .ref 88), (1, .int (oI gg)), (2, .long (wv b q (we b n q)))] [] T (fun r T1 => r = some (.int (oI (fnd (fun f => decide (s.2.2.1 f = gg ∧ some (s.2.2.2.1 f) = wd b q (we b n q))) (s.1 - k) k))) ∧ T1 = T) := by
  intro m
  induction m using Nat.strongRecOn with
  | ind m ih =>
    intro k hm hks
    subst hm
    have hs60 := hB.1
    refine xe (fun _ _ kK => x_iload dX8_fieldOf_3 0 rfl kK) ?_
    refine xe (fun _ _ kK => x_aload_n dX8_fieldOf_5 rfl 1 rfl kK) ?_
    refine xe (fun _ _ kK => x_get dX8_fieldOf_6 fl_X8_208 hM.1 (gvl_i fz_8_14.2.2 (show e_i T 526 88 = nI s.1 from hS.1)) kK) ?_
    refine xe_icmp_ge (tgt := 44) dX8_fieldOf_9 (by decide) (fun h9 => ?_) (fun h9 => ?_)
    · -- pc 44
      have h9 := cv_le (by omega) (by omega) h9
      refine xe (fun _ _ kK => x_iconst dX8_fieldOf_44 (show _ = (-1) by decide) kK) ?_
      exact xe_reti dX8_fieldOf_45 rfl (⟨by rw [show s.1 - k = 0 by omega]; rfl, rfl⟩)
    · -- pc 12
      have h9 := cv_nle (by omega) (by omega) h9
      have hb1 : oB (s.2.2.1 k) := hB.2.2.1 k h9
      have hNk := hB.2.1 k h9
      rw [p278] at hNk
      refine xe (fun _ _ kK => x_aload_n dX8_fieldOf_12 rfl 1 rfl kK) ?_
      refine xe (fun _ _ kK => x_get dX8_fieldOf_13 fl_X8_37 hM.1 (gvl_r1 fz_8_16.2.2 (show e_r T 528 88 = some 90 from (hM.2.1 16))) kK) ?_
      refine xe (fun _ _ kK => x_iload dX8_fieldOf_16 0 rfl kK) ?_
      refine xe (fun _ _ kK => x_iald dX8_fieldOf_18 (hM.2.2.1 1 (by decide)) (show (nI k) = nI k from rfl) (mi_len hM 1 (by decide) (show k < 80 by omega)) (show e_ai T 90 k = oI (s.2.2.1 k) from (hS.2.2.1 k h9).1) kK) ?_
      refine xe (fun _ _ kK => x_iload_n dX8_fieldOf_19 rfl 2 rfl kK) ?_
      refine xe_icmp_ne (tgt := 38) dX8_fieldOf_20 (by decide) (fun h20 => ?_) (fun h20 => ?_)
      · -- pc 38
        have h20 := cv_oon (by assumption) (by assumption) h20
        refine xe (fun _ _ kK => x_iinc dX8_fieldOf_38 0 rfl (show (nI k) + Int32.ofInt 1 = nI (k + 1) from nI_add k 1) (by decide) (show _ = [(4, .int (nI (k + 1))), (0, .ref 88), (1, .int (oI gg)), (2, .long (wv b q (we b n q)))] from rfl) kK) ?_
        refine xe (fun _ _ kK => x_goto (tgt := 3) dX8_fieldOf_41 (by decide) kK) ?_
        have hstep : fnd (fun f => decide (s.2.2.1 f = gg ∧ some (s.2.2.2.1 f) = wd b q (we b n q))) (s.1 - k) k = fnd (fun f => decide (s.2.2.1 f = gg ∧ some (s.2.2.2.1 f) = wd b q (we b n q))) (s.1 - (k + 1)) (k + 1) := by
          rw [show s.1 - k = (s.1 - (k + 1)) + 1 by omega, fnd, if_neg]
          simp; intro z; exact absurd z h20
        refine Xe.imp (xe_loc (by simp) (ih (s.1 - (k + 1)) (by omega) (k + 1) rfl (by omega))) ?_
        rintro _ _ ⟨rfl, rfl⟩
        exact ⟨by rw [hstep], rfl⟩
      · -- pc 23
        have h20 := cv_oo (by assumption) (by assumption) h20
        refine xe (fun _ _ kK => x_aload_n dX8_fieldOf_23 rfl 1 rfl kK) ?_
        refine xe (fun _ _ kK => x_get dX8_fieldOf_24 fl_X8_40 hM.1 (gvl_r1 fz_8_17.2.2 (show e_r T 529 88 = some 91 from (hM.2.1 17))) kK) ?_
        refine xe (fun _ _ kK => x_iload dX8_fieldOf_27 0 rfl kK) ?_
        refine xe (fun _ _ kK => x_lald dX8_fieldOf_29 (hM.2.2.1 2 (by decide)) (show (nI k) = nI k from rfl) (mi_len hM 2 (by decide) (show k < 80 by omega)) (show e_al T 91 k = lN (s.2.2.2.1 k) from (hS.2.2.1 k h9).2.1) kK) ?_
        refine xe (fun _ _ kK => x_lload_n dX8_fieldOf_30 rfl 3 rfl kK) ?_
        refine xe (fun _ _ kK => x_lcmp dX8_fieldOf_31 kK) ?_
        refine xe_if_ne (tgt := 38) dX8_fieldOf_32 (by decide) (fun h32 => ?_) (fun h32 => ?_)
        · -- pc 38
          have h32 := lc_ne h32
          have h32w : ¬ some (s.2.2.2.1 k) = wd b q (we b n q) := fun z => h32 ((wv_iff (by omega)).mpr z.symm).symm
          refine xe (fun _ _ kK => x_iinc dX8_fieldOf_38 0 rfl (show (nI k) + Int32.ofInt 1 = nI (k + 1) from nI_add k 1) (by decide) (show _ = [(4, .int (nI (k + 1))), (0, .ref 88), (1, .int (oI gg)), (2, .long (wv b q (we b n q)))] from rfl) kK) ?_
          refine xe (fun _ _ kK => x_goto (tgt := 3) dX8_fieldOf_41 (by decide) kK) ?_
          have hstep : fnd (fun f => decide (s.2.2.1 f = gg ∧ some (s.2.2.2.1 f) = wd b q (we b n q))) (s.1 - k) k = fnd (fun f => decide (s.2.2.1 f = gg ∧ some (s.2.2.2.1 f) = wd b q (we b n q))) (s.1 - (k + 1)) (k + 1) := by
            rw [show s.1 - k = (s.1 - (k + 1)) + 1 by omega, fnd, if_neg]
            simp; intro _; exact h32w
          refine Xe.imp (xe_loc (by simp) (ih (s.1 - (k + 1)) (by omega) (k + 1) rfl (by omega))) ?_
          rintro _ _ ⟨rfl, rfl⟩
          exact ⟨by rw [hstep], rfl⟩
        · -- pc 35
          have h32 := lc_eqn h32
          have h32w : some (s.2.2.2.1 k) = wd b q (we b n q) := ((wv_iff (by omega)).mp h32.symm).symm
          refine xe (fun _ _ kK => x_iload dX8_fieldOf_35 0 rfl kK) ?_
          exact xe_reti dX8_fieldOf_37 rfl (⟨by rw [show s.1 - k = (s.1 - (k + 1)) + 1 by omega, fnd, if_pos (by simp; exact ⟨h20, h32w⟩)]; rfl, rfl⟩)

set_option maxHeartbeats 4000000 in
theorem c_X8_fieldOf (d : Nat) {T : TH} (hM : MI T) {s : Sh} (hS : MSh T s) (hB : ShB s) {gg : Option Nat} (hg : oB gg) {b : Nat → Nat} {n q : Nat} : Xe m_X8_fieldOf d 0 [(0, .ref 88), (1, .int (oI gg)), (2, .long (wv b q (we b n q)))] [] T (fun r T1 => r = some (.int (oI (findF s gg (wd b q (we b n q))))) ∧ T1 = T) := by
  refine xe (fun _ _ kK => x_iconst dX8_fieldOf_0 (show _ = nI 0 by decide) kK) ?_
  refine xe (fun _ _ kK => x_istore dX8_fieldOf_1 (by decide) (show _ = [(4, .int (nI 0)), (0, .ref 88), (1, .int (oI gg)), (2, .long (wv b q (we b n q)))] from rfl) kK) ?_
  exact xe_loc (by simp) (l_X8_fieldOf d hM hS hB hg s.1 0 rfl (Nat.zero_le _))

set_option maxHeartbeats 4000000 in
theorem c_X8_node (d : Nat) {T : TH} (hM : MI T) {m : Nat} (hn : e_i T 548 88 = nI m) (hb : m < 6200) (ff xx : Int32) (v : Int64) : Xe m_X8_node d 0 [(0, .ref 88), (1, .int ff), (2, .int xx), (3, .long v)] [] T (fun r T1 => r = some (.int (nI (m + 1 - 1))) ∧ T1 = (s_i (s_al (s_ai (s_ai T 103 m ff) 104 m xx) 105 m v) 548 88 (nI (m + 1)))) := by
  refine xe (fun _ _ kK => x_aload_n dX8_node_0 rfl 0 rfl kK) ?_
  refine xe (fun _ _ kK => x_get dX8_node_1 fl_X8_77 hM.1 (gvl_r1 fz_8_33.2.2 (show e_r T 545 88 = some 103 from (hM.2.1 33))) kK) ?_
  refine xe (fun _ _ kK => x_aload_n dX8_node_4 rfl 0 rfl kK) ?_
  refine xe (fun _ _ kK => x_get dX8_node_5 fl_X8_217 hM.1 (gvl_i fz_8_36.2.2 (show e_i T 548 88 = nI m from hn)) kK) ?_
  refine xe (fun _ _ kK => x_iload_n dX8_node_8 rfl 1 rfl kK) ?_
  refine xe (fun _ _ kK => x_iast dX8_node_9 (hM.2.2.1 14 (by decide)) (show (nI m) = nI m from rfl) (mi_len hM 14 (by decide) (show m < 6200 by omega)) kK) ?_
  refine xe (fun _ _ kK => x_aload_n dX8_node_10 rfl 0 rfl kK) ?_
  refine xe (fun _ _ kK => x_get dX8_node_11 fl_X8_80 (wK_ai hM.1) (gvl_r1 fz_8_34.2.2 (show e_r (s_ai T 103 m ff) 546 88 = some 104 from (wr_ai (hM.2.1 34)))) kK) ?_
  refine xe (fun _ _ kK => x_aload_n dX8_node_14 rfl 0 rfl kK) ?_
  refine xe (fun _ _ kK => x_get dX8_node_15 fl_X8_217 (wK_ai hM.1) (gvl_i fz_8_36.2.2 (show e_i (s_ai T 103 m ff) 548 88 = nI m from (wi_ai hn))) kK) ?_
  refine xe (fun _ _ kK => x_iload_n dX8_node_18 rfl 2 rfl kK) ?_
  refine xe (fun _ _ kK => x_iast dX8_node_19 (wK_ai (hM.2.2.1 15 (by decide))) (show (nI m) = nI m from rfl) (wN_ai (mi_len hM 15 (by decide) (show m < 6200 by omega))) kK) ?_
  refine xe (fun _ _ kK => x_aload_n dX8_node_20 rfl 0 rfl kK) ?_
  refine xe (fun _ _ kK => x_get dX8_node_21 fl_X8_83 (wK_ai (wK_ai hM.1)) (gvl_r1 fz_8_35.2.2 (show e_r (s_ai (s_ai T 103 m ff) 104 m xx) 547 88 = some 105 from (wr_ai (wr_ai (hM.2.1 35))))) kK) ?_
  refine xe (fun _ _ kK => x_aload_n dX8_node_24 rfl 0 rfl kK) ?_
  refine xe (fun _ _ kK => x_get dX8_node_25 fl_X8_217 (wK_ai (wK_ai hM.1)) (gvl_i fz_8_36.2.2 (show e_i (s_ai (s_ai T 103 m ff) 104 m xx) 548 88 = nI m from (wi_ai (wi_ai hn)))) kK) ?_
  refine xe (fun _ _ kK => x_lload_n dX8_node_28 rfl 3 rfl kK) ?_
  refine xe (fun _ _ kK => x_last dX8_node_29 (wK_ai (wK_ai (hM.2.2.1 16 (by decide)))) (show (nI m) = nI m from rfl) (wN_ai (wN_ai (mi_len hM 16 (by decide) (show m < 6200 by omega)))) kK) ?_
  refine xe (fun _ _ kK => x_aload_n dX8_node_30 rfl 0 rfl kK) ?_
  refine xe (fun _ _ kK => x_dup dX8_node_31 rfl kK) ?_
  refine xe (fun _ _ kK => x_get dX8_node_32 fl_X8_217 (wK_al (wK_ai (wK_ai hM.1))) (gvl_i fz_8_36.2.2 (show e_i (s_al (s_ai (s_ai T 103 m ff) 104 m xx) 105 m v) 548 88 = nI m from (wi_al (wi_ai (wi_ai hn))))) kK) ?_
  refine xe (fun _ _ kK => x_iconst dX8_node_35 (show _ = nI 1 by decide) kK) ?_
  refine xe (fun _ _ kK => x_iadd dX8_node_36 kK) ?_
  refine xe_ti (show _ = nI (m + 1) from nI_add m 1) ?_
  refine xe (fun _ _ kK => x_puti dX8_node_37 ⟨fl_X8_217, fz_8_36.1, fz_8_36.2.1⟩ (Or.inl fz_8_36.2.2) rfl rfl (wK_al (wK_ai (wK_ai hM.1))) kK) ?_
  refine xe (fun _ _ kK => x_aload_n dX8_node_40 rfl 0 rfl kK) ?_
  refine xe (fun _ _ kK => x_get dX8_node_41 fl_X8_217 (wK_i (wK_al (wK_ai (wK_ai hM.1)))) (gvl_i fz_8_36.2.2 (show e_i (s_i (s_al (s_ai (s_ai T 103 m ff) 104 m xx) 105 m v) 548 88 (nI (m + 1))) 548 88 = nI (m + 1) from rfl)) kK) ?_
  refine xe (fun _ _ kK => x_iconst dX8_node_44 (show _ = nI 1 by decide) kK) ?_
  refine xe (fun _ _ kK => x_isub dX8_node_45 kK) ?_
  refine xe_ti (show _ = nI ((m + 1) - 1) from pk_sub (by omega)) ?_
  exact xe_reti dX8_node_46 rfl (⟨rfl, rfl⟩)
