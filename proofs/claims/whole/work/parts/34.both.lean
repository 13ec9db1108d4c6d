/-! BOTH -/
def upA (pa : Pa) : Nat → Nat → List Nat
  | 0, _ => []
  | k + 1, z => z :: (match pa.2.2.1 z with
    | none => []
    | some p => upA pa k p)
def hasV (pa : Pa) (x lf : Nat) (v : Int64) : Prop := ∃ z, x ≤ z ∧ z < pa.1 ∧ pa.2.1 z = some lf ∧ pa.2.2.2 z = v ∧ x ∈ upA pa (z + 1) z
def grp (s : Sh) (a b : Nat) : Option Nat := (rdl s a).find? (fun f => decide (s.2.2.2.2.2.1 f = 2 ∧ f ∈ rdl s b))
noncomputable def bP (s : Sh) (pa : Pa) (a b : Nat) (v w : Int64) (x : Nat) : Bool := pB (pa.2.1 x = grp s a b ∧ hasV pa x (s.2.2.2.2.2.2 a) v ∧ hasV pa x (s.2.2.2.2.2.2 b) w)
noncomputable def bothF (s : Sh) (pp : Nat → Pa) (a b : Nat) (v w : Int64) : Nat → Nat
  | 0 => 0
  | n + 1 => bothF s pp a b v w n + cI (bP s (pp n) a b v w) (pp n).1
noncomputable def bothA (s : Sh) (ps : PS) (x : Int32) (v : Int64) (y : Int32) (w : Int64) : Int32 := match ix x s.2.1 with
  | none => -1
  | some a => match ix y s.2.1 with
    | none => -1
    | some b => nI (bothF s ps.2 a b v w ps.1)
theorem upA_s (pa : Pa) (k z : Nat) : upA pa (k + 1) z = z :: (match pa.2.2.1 z with
    | none => []
    | some p => upA pa k p) := rfl
theorem upA_f {nF : Nat} {pa : Pa} (hok : PaOk nF pa) : ∀ (k z j : Nat), z < pa.1 → z < k → z < j → upA pa k z = upA pa j z := by
  intro k
  induction k with
  | zero => intro z j _ h; exact absurd h (Nat.not_lt_zero _)
  | succ k ih =>
    intro z j hz hk hj
    cases j with
    | zero => exact absurd hj (Nat.not_lt_zero _)
    | succ j =>
      rw [upA_s, upA_s]
      cases hp : pa.2.2.1 z with
      | none => rfl
      | some p =>
        have := (hok z hz).1 p hp
        show z :: upA pa k p = z :: upA pa j p
        rw [ih p j (by omega) (by omega) (by omega)]

set_option maxHeartbeats 4000000 in
theorem l_X8_isOn (d : Nat) {T : TH} {s : Sh} {f c : Nat} (hM : MI T) (hS : MSh T s) (hs60 : s.1 ≤ 60) (hf : f < 60) (l : List Nat) : ∀ (oo : Option Nat), Chn s.2.2.1 oo l → (∀ f ∈ l, f < s.1) → Xe m_X8_isOn d 7 [(3, .int (oI oo)), (0, .ref 88), (1, .int (nI f)), (2, .int (nI c))] [] T (fun r T1 => r = some (.int (bI (decide (f ∈ l)))) ∧ T1 = T) := by
  induction l with
  | nil =>
    intro oo hc hl
    have hc' : oo = none := hc
    subst hc'
    show Xe m_X8_isOn d 7 [(3, .int (-1)), (0, .ref 88), (1, .int (nI f)), (2, .int (nI c))] [] T _
    refine xe (fun _ _ kK => x_iload_n dX8_isOn_7 rfl 0 rfl kK) ?_
    refine xe (fun _ _ kK => x_iconst dX8_isOn_8 (show _ = (-1) by decide) kK) ?_
    refine xe (fun _ _ kK => x_icmp_eqT (tgt := 29) dX8_isOn_9 (by decide) rfl kK) ?_
    refine xe (fun _ _ kK => x_iconst dX8_isOn_29 (show _ = nI 0 by decide) kK) ?_
    exact xe_retz dX8_isOn_30 rfl (by first | exact Or.inl rfl | exact Or.inr rfl) (⟨r_0 (by simp), rfl⟩)
  | cons g l ih =>
    intro oo hc hl
    obtain ⟨rfl, hc2⟩ := hc
    have hg := hl g List.mem_cons_self
    show Xe m_X8_isOn d 7 [(3, .int (nI g)), (0, .ref 88), (1, .int (nI f)), (2, .int (nI c))] [] T _
    refine xe (fun _ _ kK => x_iload_n dX8_isOn_7 rfl 0 rfl kK) ?_
    refine xe (fun _ _ kK => x_iconst dX8_isOn_8 (show _ = (-1) by decide) kK) ?_
    refine xe (fun _ _ kK => x_icmp_eqF (tgt := 29) dX8_isOn_9 (by decide) (nI_m1 (by omega)) kK) ?_
    refine xe (fun _ _ kK => x_iload_n dX8_isOn_12 rfl 0 rfl kK) ?_
    refine xe (fun _ _ kK => x_iload_n dX8_isOn_13 rfl 2 rfl kK) ?_
    refine xe_icmp_ne (tgt := 19) dX8_isOn_14 (by decide) (fun h14 => ?_) (fun h14 => ?_)
    · -- pc 19
      have h14 := cv_ne (by omega) (by omega) h14
      refine xe (fun _ _ kK => x_aload_n dX8_isOn_19 rfl 1 rfl kK) ?_
      refine xe (fun _ _ kK => x_get dX8_isOn_20 fl_X8_37 hM.1 (gvl_r1 fz_8_16.2.2 (show e_r T 528 88 = some 90 from (hM.2.1 16))) kK) ?_
      refine xe (fun _ _ kK => x_iload_n dX8_isOn_23 rfl 0 rfl kK) ?_
      refine xe (fun _ _ kK => x_iald dX8_isOn_24 (hM.2.2.1 1 (by decide)) (show (nI g) = nI g from rfl) (mi_len hM 1 (by decide) (show g < 80 by omega)) (show e_ai T 90 g = oI (s.2.2.1 g) from (hS.2.2.1 g hg).1) kK) ?_
      refine xe (fun _ _ kK => x_istore_n dX8_isOn_25 rfl (by decide) (show _ = [(3, .int (oI (s.2.2.1 g))), (0, .ref 88), (1, .int (nI f)), (2, .int (nI c))] from rfl) kK) ?_
      refine xe (fun _ _ kK => x_goto (tgt := 7) dX8_isOn_26 (by decide) kK) ?_
      refine Xe.imp (xe_loc (by simp) (ih (s.2.2.1 g) hc2 (fun x hx => hl x (List.mem_cons_of_mem _ hx)))) ?_
      rintro _ _ ⟨rfl, rfl⟩
      refine ⟨?_, rfl⟩
      have e9 : decide (f ∈ g :: l) = decide (f ∈ l) := by simp; intro z; exact absurd z.symm h14
      rw [e9]
    · -- pc 17
      have h14 := cv_eq (by omega) (by omega) h14
      refine xe (fun _ _ kK => x_iconst dX8_isOn_17 (show _ = nI 1 by decide) kK) ?_
      exact xe_retz dX8_isOn_18 rfl (by first | exact Or.inl rfl | exact Or.inr rfl) (⟨r_1 (by simp [h14]), rfl⟩)

set_option maxHeartbeats 4000000 in
theorem c_X8_isOn (d : Nat) {T : TH} {s : Sh} {f c : Nat} (hM : MI T) (hS : MSh T s) (hG : SG s) (hf : f < 60) (hc : c < s.2.1) : Xe m_X8_isOn d 0 [(0, .ref 88), (1, .int (nI f)), (2, .int (nI c))] [] T (fun r T1 => r = some (.int (bI (decide (f ∈ rdl s c)))) ∧ T1 = T) := by
  have hc12 := hG.2.1
  refine xe (fun _ _ kK => x_aload_n dX8_isOn_0 rfl 0 rfl kK) ?_
  refine xe (fun _ _ kK => x_get dX8_isOn_1 fl_X8_50 hM.1 (gvl_r1 fz_8_20.2.2 (show e_r T 532 88 = some 94 from (hM.2.1 20))) kK) ?_
  refine xe (fun _ _ kK => x_iload_n dX8_isOn_4 rfl 2 rfl kK) ?_
  refine xe (fun _ _ kK => x_iald dX8_isOn_5 (hM.2.2.1 5 (by decide)) (show (nI c) = nI c from rfl) (mi_len hM 5 (by decide) (show c < 12 by omega)) (show e_ai T 94 c = nI (s.2.2.2.2.2.2 c) from (hS.2.2.2 c hc)) kK) ?_
  refine xe (fun _ _ kK => x_istore_n dX8_isOn_6 rfl (by decide) (show _ = [(3, .int (nI (s.2.2.2.2.2.2 c))), (0, .ref 88), (1, .int (nI f)), (2, .int (nI c))] from rfl) kK) ?_
  obtain ⟨j1, j2, j3, j4⟩ := hG.2.2.2 c hc
  exact xe_loc (L' := [(3, .int (oI (some (s.2.2.2.2.2.2 c)))), (0, .ref 88), (1, .int (nI f)), (2, .int (nI c))]) (by simp [oI]) (l_X8_isOn d hM hS hG.1.1 hf (rdl s c) _ j1 j2)

set_option maxHeartbeats 4000000 in
theorem l_X8_hasI (d : Nat) {T : TH} {o x z c nF : Nat} {pa : Pa} {v : Int64} {P : Option Value → TH → Prop} (hM : MI T) (hP : PN T o pa) (hok : PaOk nF pa) (hb : o + pa.1 ≤ 6200) (hx : x < pa.1) : ∀ (k u : Nat), u < k → u < pa.1 → (x ∈ upA pa k u → P (some (.int (nI 1))) T) → (x ∉ upA pa k u → Xe m_X8_has d 71 [(6, .int (nI (o + z))), (0, .ref 88), (1, .int (nI (o + x))), (2, .int (nI (o + pa.1))), (3, .int (nI c)), (4, .long v)] [] T P) → Xe m_X8_has d 45 [(7, .int (nI (o + u))), (6, .int (nI (o + z))), (0, .ref 88), (1, .int (nI (o + x))), (2, .int (nI (o + pa.1))), (3, .int (nI c)), (4, .long v)] [] T P := by
  intro k
  induction k with
  | zero => intro u h; exact absurd h (Nat.not_lt_zero _)
  | succ k ih =>
    intro u huk hu hyes hno
    refine xe (fun _ _ kK => x_iload dX8_has_45 0 rfl kK) ?_
    refine xe (fun _ _ kK => x_iconst dX8_has_47 (show _ = (-1) by decide) kK) ?_
    refine xe (fun _ _ kK => x_icmp_eqF (tgt := 71) dX8_has_48 (by decide) (nI_m1 (by omega)) kK) ?_
    refine xe (fun _ _ kK => x_iload dX8_has_51 0 rfl kK) ?_
    refine xe (fun _ _ kK => x_iload_n dX8_has_53 rfl 3 rfl kK) ?_
    refine xe_icmp_ne (tgt := 59) dX8_has_54 (by decide) (fun h54 => ?_) (fun h54 => ?_)
    · -- pc 59
      have h54 := cv_ne (by omega) (by omega) h54
      refine xe (fun _ _ kK => x_aload_n dX8_has_59 rfl 2 rfl kK) ?_
      refine xe (fun _ _ kK => x_get dX8_has_60 fl_X8_80 hM.1 (gvl_r1 fz_8_34.2.2 (show e_r T 546 88 = some 104 from (hM.2.1 34))) kK) ?_
      refine xe (fun _ _ kK => x_iload dX8_has_63 0 rfl kK) ?_
      refine xe (fun _ _ kK => x_iald dX8_has_65 (hM.2.2.1 15 (by decide)) (show (nI (o + u)) = nI (o + u) from rfl) (mi_len hM 15 (by decide) (show o + u < 6200 by omega)) (show e_ai T 104 (o + u) = oI ((pa.2.2.1 u).map (o + ·)) from (hP u hu).2.1) kK) ?_
      refine xe (fun _ _ kK => x_istore dX8_has_66 (by decide) (show _ = [(7, .int (oI ((pa.2.2.1 u).map (o + ·)))), (6, .int (nI (o + z))), (0, .ref 88), (1, .int (nI (o + x))), (2, .int (nI (o + pa.1))), (3, .int (nI c)), (4, .long v)] from rfl) kK) ?_
      refine xe (fun _ _ kK => x_goto (tgt := 45) dX8_has_68 (by decide) kK) ?_
      cases hp : pa.2.2.1 u with
      | none =>
        show Xe m_X8_has d 45 [(7, .int (-1)), (6, .int (nI (o + z))), (0, .ref 88), (1, .int (nI (o + x))), (2, .int (nI (o + pa.1))), (3, .int (nI c)), (4, .long v)] [] T _
        refine xe (fun _ _ kK => x_iload dX8_has_45 0 rfl kK) ?_
        refine xe (fun _ _ kK => x_iconst dX8_has_47 (show _ = (-1) by decide) kK) ?_
        refine xe (fun _ _ kK => x_icmp_eqT (tgt := 71) dX8_has_48 (by decide) rfl kK) ?_
        refine xe_loc (by simp) (hno ?_)
        rw [upA_s, hp]; simp; omega
      | some p =>
        have hpu := (hok u hu).1 p hp
        refine xe_loc (L' := [(7, .int (nI (o + p))), (6, .int (nI (o + z))), (0, .ref 88), (1, .int (nI (o + x))), (2, .int (nI (o + pa.1))), (3, .int (nI c)), (4, .long v)]) (by simp [oI]) (ih p (by omega) (by omega) (fun h9 => hyes ?_) (fun h9 => hno ?_))
        · rw [upA_s, hp]; exact List.mem_cons_of_mem _ h9
        · rw [upA_s, hp]; intro z9; rcases List.mem_cons.mp z9 with e9 | e9
          · omega
          · exact h9 e9
    · -- pc 57
      have h54 := cv_eq (by omega) (by omega) h54
      refine xe (fun _ _ kK => x_iconst dX8_has_57 (show _ = nI 1 by decide) kK) ?_
      have e9 : u = x := by omega
      exact xe_retz dX8_has_58 rfl (by first | exact Or.inl rfl | exact Or.inr rfl) (hyes (by rw [upA_s, e9]; exact List.mem_cons_self))

set_option maxHeartbeats 4000000 in
theorem l_X8_has (d : Nat) {T : TH} {o x c lf nF : Nat} {pa : Pa} {v : Int64} (hM : MI T) (hP : PN T o pa) (hok : PaOk nF pa) (hnF : nF ≤ 60) (hb : o + pa.1 ≤ 6200) (hc : c < 12) (hlf : e_ai T 94 c = nI lf) (hl60 : lf < 60) : ∀ (m z : Nat), pa.1 - z = m → x ≤ z → z ≤ pa.1 → (∀ j, x ≤ j → j < z → ¬ (pa.2.1 j = some lf ∧ pa.2.2.2 j = v ∧ x ∈ upA pa (j + 1) j)) → Xe m_X8_has d 3 [(6, .int (nI (o + z))), (0, .ref 88), (1, .int (nI (o + x))), (2, .int (nI (o + pa.1))), (3, .int (nI c)), (4, .long v)] [] T (fun r T1 => r = some (.int (bI (pB (hasV pa x lf v)))) ∧ T1 = T) := by
  intro m
  induction m using Nat.strongRecOn with
  | ind m ih =>
    intro z hm hxz hzp hno
    subst hm
    refine xe (fun _ _ kK => x_iload dX8_has_3 0 rfl kK) ?_
    refine xe (fun _ _ kK => x_iload_n dX8_has_5 rfl 3 rfl kK) ?_
    refine xe_icmp_ge (tgt := 77) dX8_has_6 (by decide) (fun h6 => ?_) (fun h6 => ?_)
    · -- pc 77
      have h6 := cv_le (by omega) (by omega) h6
      refine xe (fun _ _ kK => x_iconst dX8_has_77 (show _ = nI 0 by decide) kK) ?_
      exact xe_retz dX8_has_78 rfl (by first | exact Or.inl rfl | exact Or.inr rfl) (⟨r_0 (pB_f (fun ⟨j, j1, j2, j3, j4, j5⟩ => hno j j1 (by omega) ⟨j3, j4, j5⟩)), rfl⟩)
    · -- pc 9
      have h6 := cv_nle (by omega) (by omega) h6
      have hz : z < pa.1 := by omega
      have hb2 : oB (pa.2.1 z) := fun q hq => by have := (hok z hz).2 q hq; omega
      refine xe (fun _ _ kK => x_aload_n dX8_has_9 rfl 1 rfl kK) ?_
      refine xe (fun _ _ kK => x_get dX8_has_10 fl_X8_77 hM.1 (gvl_r1 fz_8_33.2.2 (show e_r T 545 88 = some 103 from (hM.2.1 33))) kK) ?_
      refine xe (fun _ _ kK => x_iload dX8_has_13 0 rfl kK) ?_
      refine xe (fun _ _ kK => x_iald dX8_has_15 (hM.2.2.1 14 (by decide)) (show (nI (o + z)) = nI (o + z) from rfl) (mi_len hM 14 (by decide) (show o + z < 6200 by omega)) (show e_ai T 103 (o + z) = oI (pa.2.1 z) from (hP z hz).1) kK) ?_
      refine xe (fun _ _ kK => x_aload_n dX8_has_16 rfl 1 rfl kK) ?_
      refine xe (fun _ _ kK => x_get dX8_has_17 fl_X8_50 hM.1 (gvl_r1 fz_8_20.2.2 (show e_r T 532 88 = some 94 from (hM.2.1 20))) kK) ?_
      refine xe (fun _ _ kK => x_iload_n dX8_has_20 rfl 4 rfl kK) ?_
      refine xe (fun _ _ kK => x_iald dX8_has_21 (hM.2.2.1 5 (by decide)) (show (nI c) = nI c from rfl) (mi_len hM 5 (by decide) (show c < 12 by omega)) (show e_ai T 94 c = nI lf from hlf) kK) ?_
      by_cases h22 : pa.2.1 z = some lf
      · -- pc 22
        refine xe (fun _ _ kK => x_icmp_neF (tgt := 71) dX8_has_22 (by decide) (show oI (pa.2.1 z) = nI lf by rw [h22]; rfl) kK) ?_
        refine xe (fun _ _ kK => x_aload_n dX8_has_25 rfl 1 rfl kK) ?_
        refine xe (fun _ _ kK => x_get dX8_has_26 fl_X8_83 hM.1 (gvl_r1 fz_8_35.2.2 (show e_r T 547 88 = some 105 from (hM.2.1 35))) kK) ?_
        refine xe (fun _ _ kK => x_iload dX8_has_29 0 rfl kK) ?_
        refine xe (fun _ _ kK => x_lald dX8_has_31 (hM.2.2.1 16 (by decide)) (show (nI (o + z)) = nI (o + z) from rfl) (mi_len hM 16 (by decide) (show o + z < 6200 by omega)) (show e_al T 105 (o + z) = pa.2.2.2 z from (hP z hz).2.2) kK) ?_
        refine xe (fun _ _ kK => x_lload dX8_has_32 5 rfl kK) ?_
        refine xe (fun _ _ kK => x_lcmp dX8_has_34 kK) ?_
        refine xe_if_eq (tgt := 41) dX8_has_35 (by decide) (fun h35 => ?_) (fun h35 => ?_)
        · -- pc 41
          have h35 := lc_eq h35
          refine xe (fun _ _ kK => x_iload dX8_has_41 0 rfl kK) ?_
          refine xe (fun _ _ kK => x_istore dX8_has_43 (by decide) (show _ = [(7, .int (nI (o + z))), (6, .int (nI (o + z))), (0, .ref 88), (1, .int (nI (o + x))), (2, .int (nI (o + pa.1))), (3, .int (nI c)), (4, .long v)] from rfl) kK) ?_
          refine xe_loc (L' := [(7, .int (nI (o + z))), (6, .int (nI (o + z))), (0, .ref 88), (1, .int (nI (o + x))), (2, .int (nI (o + pa.1))), (3, .int (nI c)), (4, .long v)]) (by simp) ?_
          refine l_X8_hasI d hM hP hok hb (by omega) (z + 1) z (Nat.lt_succ_self _) hz (fun h9 => ⟨r_1 (pB_t ⟨z, hxz, hz, h22, h35, h9⟩), rfl⟩) (fun h9x => ?_)
          refine xe (fun _ _ kK => x_iinc dX8_has_71 0 rfl (show (nI (o + z)) + Int32.ofInt 1 = nI ((o + z) + 1) from nI_add (o + z) 1) (by decide) (show _ = [(6, .int (nI ((o + z) + 1))), (0, .ref 88), (1, .int (nI (o + x))), (2, .int (nI (o + pa.1))), (3, .int (nI c)), (4, .long v)] from rfl) kK) ?_
          refine xe (fun _ _ kK => x_goto (tgt := 3) dX8_has_74 (by decide) kK) ?_
          refine xe_loc (by simp [Nat.add_assoc]) (ih (pa.1 - (z + 1)) (by omega) (z + 1) rfl (by omega) (by omega) ?_)
          rintro j h5 h6 ⟨u1, u2, u3⟩
          rcases Nat.lt_or_ge j z with h9 | h9
          · exact hno j h5 h9 ⟨u1, u2, u3⟩
          · have e9 : j = z := by omega
            subst e9
            exact h9x u3
        · -- pc 38
          have h35 := lc_nen h35
          refine xe (fun _ _ kK => x_goto (tgt := 71) dX8_has_38 (by decide) kK) ?_
          refine xe (fun _ _ kK => x_iinc dX8_has_71 0 rfl (show (nI (o + z)) + Int32.ofInt 1 = nI ((o + z) + 1) from nI_add (o + z) 1) (by decide) (show _ = [(6, .int (nI ((o + z) + 1))), (0, .ref 88), (1, .int (nI (o + x))), (2, .int (nI (o + pa.1))), (3, .int (nI c)), (4, .long v)] from rfl) kK) ?_
          refine xe (fun _ _ kK => x_goto (tgt := 3) dX8_has_74 (by decide) kK) ?_
          refine xe_loc (by simp [Nat.add_assoc]) (ih (pa.1 - (z + 1)) (by omega) (z + 1) rfl (by omega) (by omega) ?_)
          rintro j h5 h6 ⟨u1, u2, u3⟩
          rcases Nat.lt_or_ge j z with h9 | h9
          · exact hno j h5 h9 ⟨u1, u2, u3⟩
          · have e9 : j = z := by omega
            subst e9
            exact h35 u2
      · -- pc 22
        refine xe (fun _ _ kK => x_icmp_neT (tgt := 71) dX8_has_22 (by decide) (fun z9 => h22 (oI_some hb2 (by omega) z9)) kK) ?_
        refine xe (fun _ _ kK => x_iinc dX8_has_71 0 rfl (show (nI (o + z)) + Int32.ofInt 1 = nI ((o + z) + 1) from nI_add (o + z) 1) (by decide) (show _ = [(6, .int (nI ((o + z) + 1))), (0, .ref 88), (1, .int (nI (o + x))), (2, .int (nI (o + pa.1))), (3, .int (nI c)), (4, .long v)] from rfl) kK) ?_
        refine xe (fun _ _ kK => x_goto (tgt := 3) dX8_has_74 (by decide) kK) ?_
        refine xe_loc (by simp [Nat.add_assoc]) (ih (pa.1 - (z + 1)) (by omega) (z + 1) rfl (by omega) (by omega) ?_)
        rintro j h5 h6 ⟨u1, u2, u3⟩
        rcases Nat.lt_or_ge j z with h9 | h9
        · exact hno j h5 h9 ⟨u1, u2, u3⟩
        · have e9 : j = z := by omega
          subst e9
          exact h22 u1

set_option maxHeartbeats 4000000 in
theorem c_X8_has (d : Nat) {T : TH} {o x c lf nF : Nat} {pa : Pa} {v : Int64} (hM : MI T) (hP : PN T o pa) (hok : PaOk nF pa) (hnF : nF ≤ 60) (hb : o + pa.1 ≤ 6200) (hc : c < 12) (hlf : e_ai T 94 c = nI lf) (hl60 : lf < 60) (hx : x < pa.1) : Xe m_X8_has d 0 [(0, .ref 88), (1, .int (nI (o + x))), (2, .int (nI (o + pa.1))), (3, .int (nI c)), (4, .long v)] [] T (fun r T1 => r = some (.int (bI (pB (hasV pa x lf v)))) ∧ T1 = T) := by
  refine xe (fun _ _ kK => x_iload_n dX8_has_0 rfl 1 rfl kK) ?_
  refine xe (fun _ _ kK => x_istore dX8_has_1 (by decide) (show _ = [(6, .int (nI (o + x))), (0, .ref 88), (1, .int (nI (o + x))), (2, .int (nI (o + pa.1))), (3, .int (nI c)), (4, .long v)] from rfl) kK) ?_
  exact xe_loc (by simp) (l_X8_has d hM hP hok hnF hb hc hlf hl60 (pa.1 - x) x rfl (Nat.le_refl _) (by omega) (fun j h1 h2 => absurd h2 (by omega)))

set_option maxHeartbeats 4000000 in
theorem l_X8_bothG (d : Nat) {T : TH} {s : Sh} {a b : Nat} {v w : Int64} {P : Option Value → TH → Prop} (hM : MI T) (hS : MSh T s) (hG : SG s) (hb : b < s.2.1) (hs60 : s.1 ≤ 60) (l : List Nat) : ∀ (oo : Option Nat), Chn s.2.2.1 oo l → (∀ f ∈ l, f < s.1) → Xe m_X8_both (d + 1) 80 [(7, .int (oI (l.find? (fun f => decide (s.2.2.2.2.2.1 f = 2 ∧ f ∈ rdl s b))))), (0, .ref 88), (1, .int (nI a)), (2, .long v), (4, .int (nI b)), (5, .long w)] [] T P → Xe m_X8_both (d + 1) 30 [(8, .int (oI oo)), (7, .int (-1)), (0, .ref 88), (1, .int (nI a)), (2, .long v), (4, .int (nI b)), (5, .long w)] [] T P := by
  induction l with
  | nil =>
    intro oo hc hl hno
    have hc' : oo = none := hc
    subst hc'
    show Xe m_X8_both (d + 1) 30 [(8, .int (-1)), (7, .int (-1)), (0, .ref 88), (1, .int (nI a)), (2, .long v), (4, .int (nI b)), (5, .long w)] [] T P
    refine xe (fun _ _ kK => x_iload dX8_both_30 0 rfl kK) ?_
    refine xe (fun _ _ kK => x_iconst dX8_both_32 (show _ = (-1) by decide) kK) ?_
    refine xe (fun _ _ kK => x_icmp_eqT (tgt := 80) dX8_both_33 (by decide) rfl kK) ?_
    exact xe_loc (by simp [oI]) hno
  | cons g l ih =>
    intro oo hc hl hno
    obtain ⟨rfl, hc2⟩ := hc
    have hg := hl g List.mem_cons_self
    have hMg := (hG.1.2.2.2 g hg).2
    show Xe m_X8_both (d + 1) 30 [(8, .int (nI g)), (7, .int (-1)), (0, .ref 88), (1, .int (nI a)), (2, .long v), (4, .int (nI b)), (5, .long w)] [] T P
    refine xe (fun _ _ kK => x_iload dX8_both_30 0 rfl kK) ?_
    refine xe (fun _ _ kK => x_iconst dX8_both_32 (show _ = (-1) by decide) kK) ?_
    refine xe (fun _ _ kK => x_icmp_eqF (tgt := 80) dX8_both_33 (by decide) (nI_m1 (by omega)) kK) ?_
    refine xe (fun _ _ kK => x_iload dX8_both_36 1 rfl kK) ?_
    refine xe (fun _ _ kK => x_iconst dX8_both_38 (show _ = (-1) by decide) kK) ?_
    refine xe (fun _ _ kK => x_icmp_neF (tgt := 80) dX8_both_39 (by decide) (by decide) kK) ?_
    refine xe (fun _ _ kK => x_aload_n dX8_both_42 rfl 2 rfl kK) ?_
    refine xe (fun _ _ kK => x_get dX8_both_43 fl_X8_47 hM.1 (gvl_r1 fz_8_19.2.2 (show e_r T 531 88 = some 93 from (hM.2.1 19))) kK) ?_
    refine xe (fun _ _ kK => x_iload dX8_both_46 0 rfl kK) ?_
    refine xe (fun _ _ kK => x_iald dX8_both_48 (hM.2.2.1 4 (by decide)) (show (nI g) = nI g from rfl) (mi_len hM 4 (by decide) (show g < 80 by omega)) (show e_ai T 93 g = nI (s.2.2.2.2.2.1 g) from (hS.2.2.1 g hg).2.2.2) kK) ?_
    refine xe (fun _ _ kK => x_iconst dX8_both_49 (show _ = nI 2 by decide) kK) ?_
    refine xe_icmp_ne (tgt := 68) dX8_both_50 (by decide) (fun h50 => ?_) (fun h50 => ?_)
    · -- pc 68
      have h50 := cv_ne (by omega) (by omega) h50
      refine xe (fun _ _ kK => x_aload_n dX8_both_68 rfl 2 rfl kK) ?_
      refine xe (fun _ _ kK => x_get dX8_both_69 fl_X8_37 hM.1 (gvl_r1 fz_8_16.2.2 (show e_r T 528 88 = some 90 from (hM.2.1 16))) kK) ?_
      refine xe (fun _ _ kK => x_iload dX8_both_72 0 rfl kK) ?_
      refine xe (fun _ _ kK => x_iald dX8_both_74 (hM.2.2.1 1 (by decide)) (show (nI g) = nI g from rfl) (mi_len hM 1 (by decide) (show g < 80 by omega)) (show e_ai T 90 g = oI (s.2.2.1 g) from (hS.2.2.1 g hg).1) kK) ?_
      refine xe (fun _ _ kK => x_istore dX8_both_75 (by decide) (show _ = [(8, .int (oI (s.2.2.1 g))), (7, .int (-1)), (0, .ref 88), (1, .int (nI a)), (2, .long v), (4, .int (nI b)), (5, .long w)] from rfl) kK) ?_
      refine xe (fun _ _ kK => x_goto (tgt := 30) dX8_both_77 (by decide) kK) ?_
      have e9 : (g :: l).find? (fun f => decide (s.2.2.2.2.2.1 f = 2 ∧ f ∈ rdl s b)) = l.find? (fun f => decide (s.2.2.2.2.2.1 f = 2 ∧ f ∈ rdl s b)) := List.find?_cons_of_neg (by simp; intro z; exact absurd z h50)
      rw [e9] at hno
      exact xe_loc (by simp) (ih (s.2.2.1 g) hc2 (fun x hx => hl x (List.mem_cons_of_mem _ hx)) hno)
    · -- pc 53
      have h50 := cv_eq (by omega) (by omega) h50
      refine xe (fun _ _ kK => x_aload_n dX8_both_53 rfl 2 rfl kK) ?_
      refine xe (fun _ _ kK => x_iload dX8_both_54 0 rfl kK) ?_
      refine xe (fun _ _ kK => x_iload dX8_both_56 5 rfl kK) ?_
      refine xe_callV (a := 88) [.int (nI g), .int (nI b)] dX8_both_58 ml_X8_314 mf_X8_isOn hM.1 (c_X8_isOn d hM hS hG (by omega) hb) rfl rfl (Nat.le_of_ble_eq_true rfl) (Nat.le_of_ble_eq_true rfl) ?_
      rintro _ T9 ⟨rfl, h9⟩
      refine xe_T h9 ?_
      refine xe_if_eq (tgt := 68) dX8_both_61 (by decide) (fun h61 => ?_) (fun h61 => ?_)
      · -- pc 68
        have h61 := cv_b0 h61
        refine xe (fun _ _ kK => x_aload_n dX8_both_68 rfl 2 rfl kK) ?_
        refine xe (fun _ _ kK => x_get dX8_both_69 fl_X8_37 hM.1 (gvl_r1 fz_8_16.2.2 (show e_r T 528 88 = some 90 from (hM.2.1 16))) kK) ?_
        refine xe (fun _ _ kK => x_iload dX8_both_72 0 rfl kK) ?_
        refine xe (fun _ _ kK => x_iald dX8_both_74 (hM.2.2.1 1 (by decide)) (show (nI g) = nI g from rfl) (mi_len hM 1 (by decide) (show g < 80 by omega)) (show e_ai T 90 g = oI (s.2.2.1 g) from (hS.2.2.1 g hg).1) kK) ?_
        refine xe (fun _ _ kK => x_istore dX8_both_75 (by decide) (show _ = [(8, .int (oI (s.2.2.1 g))), (7, .int (-1)), (0, .ref 88), (1, .int (nI a)), (2, .long v), (4, .int (nI b)), (5, .long w)] from rfl) kK) ?_
        refine xe (fun _ _ kK => x_goto (tgt := 30) dX8_both_77 (by decide) kK) ?_
        have e9 : (g :: l).find? (fun f => decide (s.2.2.2.2.2.1 f = 2 ∧ f ∈ rdl s b)) = l.find? (fun f => decide (s.2.2.2.2.2.1 f = 2 ∧ f ∈ rdl s b)) := List.find?_cons_of_neg (by simp; intro _; simpa using h61)
        rw [e9] at hno
        exact xe_loc (by simp) (ih (s.2.2.1 g) hc2 (fun x hx => hl x (List.mem_cons_of_mem _ hx)) hno)
      · -- pc 64
        have h61 := cv_b1 h61
        refine xe (fun _ _ kK => x_iload dX8_both_64 0 rfl kK) ?_
        refine xe (fun _ _ kK => x_istore dX8_both_66 (by decide) (show _ = [(7, .int (nI g)), (8, .int (nI g)), (0, .ref 88), (1, .int (nI a)), (2, .long v), (4, .int (nI b)), (5, .long w)] from rfl) kK) ?_
        refine xe (fun _ _ kK => x_aload_n dX8_both_68 rfl 2 rfl kK) ?_
        refine xe (fun _ _ kK => x_get dX8_both_69 fl_X8_37 hM.1 (gvl_r1 fz_8_16.2.2 (show e_r T 528 88 = some 90 from (hM.2.1 16))) kK) ?_
        refine xe (fun _ _ kK => x_iload dX8_both_72 1 rfl kK) ?_
        refine xe (fun _ _ kK => x_iald dX8_both_74 (hM.2.2.1 1 (by decide)) (show (nI g) = nI g from rfl) (mi_len hM 1 (by decide) (show g < 80 by omega)) (show e_ai T 90 g = oI (s.2.2.1 g) from (hS.2.2.1 g hg).1) kK) ?_
        refine xe (fun _ _ kK => x_istore dX8_both_75 (by decide) (show _ = [(8, .int (oI (s.2.2.1 g))), (7, .int (nI g)), (0, .ref 88), (1, .int (nI a)), (2, .long v), (4, .int (nI b)), (5, .long w)] from rfl) kK) ?_
        refine xe (fun _ _ kK => x_goto (tgt := 30) dX8_both_77 (by decide) kK) ?_
        have e9 : (g :: l).find? (fun f => decide (s.2.2.2.2.2.1 f = 2 ∧ f ∈ rdl s b)) = some g := List.find?_cons_of_pos (by simp; exact ⟨h50, by simpa using h61⟩)
        rw [e9] at hno
        cases hw9 : s.2.2.1 g with
        | none =>
          show Xe m_X8_both (d + 1) 30 [(8, .int (-1)), (7, .int (nI g)), (0, .ref 88), (1, .int (nI a)), (2, .long v), (4, .int (nI b)), (5, .long w)] [] T P
          refine xe (fun _ _ kK => x_iload dX8_both_30 0 rfl kK) ?_
          refine xe (fun _ _ kK => x_iconst dX8_both_32 (show _ = (-1) by decide) kK) ?_
          refine xe (fun _ _ kK => x_icmp_eqT (tgt := 80) dX8_both_33 (by decide) rfl kK) ?_
          exact xe_loc (by simp [oI]) hno
        | some p =>
          show Xe m_X8_both (d + 1) 30 [(8, .int (nI p)), (7, .int (nI g)), (0, .ref 88), (1, .int (nI a)), (2, .long v), (4, .int (nI b)), (5, .long w)] [] T P
          refine xe (fun _ _ kK => x_iload dX8_both_30 0 rfl kK) ?_
          refine xe (fun _ _ kK => x_iconst dX8_both_32 (show _ = (-1) by decide) kK) ?_
          have hpb := hG.1.2.2.1 g hg p hw9
          refine xe (fun _ _ kK => x_icmp_eqF (tgt := 80) dX8_both_33 (by decide) (nI_m1 hpb) kK) ?_
          refine xe (fun _ _ kK => x_iload dX8_both_36 1 rfl kK) ?_
          refine xe (fun _ _ kK => x_iconst dX8_both_38 (show _ = (-1) by decide) kK) ?_
          refine xe (fun _ _ kK => x_icmp_neT (tgt := 80) dX8_both_39 (by decide) (nI_m1 (by omega)) kK) ?_
          exact xe_loc (by simp [oI]) hno

set_option maxHeartbeats 4000000 in
theorem l_X8_bothX (d : Nat) {T : TH} {s : Sh} {a b o i n nF : Nat} {pa : Pa} {v w : Int64} {P : Option Value → TH → Prop} (hM : MI T) (hS : MSh T s) (hP : PN T o pa) (hok : PaOk nF pa) (hs60 : nF ≤ 60) (hb : o + pa.1 ≤ 6200) (hi : i < 30) (ha : a < s.2.1) (hb9 : b < s.2.1) (hc12 : s.2.1 ≤ 12) (hla : s.2.2.2.2.2.2 a < 60) (hlb : s.2.2.2.2.2.2 b < 60) (hgb : oB (grp s a b)) (he : e_ai T 102 (i + 1) = nI (o + pa.1)) : ∀ (m x : Nat), pa.1 - x = m → x ≤ pa.1 → Xe m_X8_both (d + 1) 181 [(9, .int (nI i)), (8, .int (nI (n + cI (bP s pa a b v w) pa.1))), (7, .int (oI (grp s a b))), (0, .ref 88), (1, .int (nI a)), (2, .long v), (4, .int (nI b)), (5, .long w)] [] T P → Xe m_X8_both (d + 1) 104 [(10, .int (nI (o + x))), (9, .int (nI i)), (8, .int (nI (n + (cI (bP s pa a b v w) x)))), (7, .int (oI (grp s a b))), (0, .ref 88), (1, .int (nI a)), (2, .long v), (4, .int (nI b)), (5, .long w)] [] T P := by
  intro m
  induction m using Nat.strongRecOn with
  | ind m ih =>
    intro x hm hxp hno
    subst hm
    refine xe (fun _ _ kK => x_iload dX8_both_104 0 rfl kK) ?_
    refine xe (fun _ _ kK => x_aload_n dX8_both_106 rfl 4 rfl kK) ?_
    refine xe (fun _ _ kK => x_get dX8_both_107 fl_X8_74 hM.1 (gvl_r1 fz_8_32.2.2 (show e_r T 544 88 = some 102 from (hM.2.1 32))) kK) ?_
    refine xe (fun _ _ kK => x_iload dX8_both_110 1 rfl kK) ?_
    refine xe (fun _ _ kK => x_iconst dX8_both_112 (show _ = nI 1 by decide) kK) ?_
    refine xe (fun _ _ kK => x_iadd dX8_both_113 kK) ?_
    refine xe_ti (show _ = nI (i + 1) from nI_add i 1) ?_
    refine xe (fun _ _ kK => x_iald dX8_both_114 (hM.2.2.1 13 (by decide)) (show (nI (i + 1)) = nI (i + 1) from rfl) (mi_len hM 13 (by decide) (show i + 1 < 31 by omega)) (show e_ai T 102 (i + 1) = nI (o + pa.1) from he) kK) ?_
    refine xe_icmp_ge (tgt := 181) dX8_both_115 (by decide) (fun h115 => ?_) (fun h115 => ?_)
    · -- pc 181
      have h115 := cv_le (by omega) (by omega) h115
      have e9 : x = pa.1 := by omega
      subst e9
      exact xe_loc (by simp) hno
    · -- pc 118
      have h115 := cv_nle (by omega) (by omega) h115
      have hx : x < pa.1 := by omega
      have hb2 : oB (pa.2.1 x) := fun q hq => by have := (hok x hx).2 q hq; omega
      refine xe (fun _ _ kK => x_aload_n dX8_both_118 rfl 4 rfl kK) ?_
      refine xe (fun _ _ kK => x_get dX8_both_119 fl_X8_77 hM.1 (gvl_r1 fz_8_33.2.2 (show e_r T 545 88 = some 103 from (hM.2.1 33))) kK) ?_
      refine xe (fun _ _ kK => x_iload dX8_both_122 0 rfl kK) ?_
      refine xe (fun _ _ kK => x_iald dX8_both_124 (hM.2.2.1 14 (by decide)) (show (nI (o + x)) = nI (o + x) from rfl) (mi_len hM 14 (by decide) (show o + x < 6200 by omega)) (show e_ai T 103 (o + x) = oI (pa.2.1 x) from (hP x hx).1) kK) ?_
      refine xe (fun _ _ kK => x_iload dX8_both_125 3 rfl kK) ?_
      refine xe_icmp_ne (tgt := 175) dX8_both_127 (by decide) (fun h127 => ?_) (fun h127 => ?_)
      · -- pc 175
        have h127 := cv_oon (by assumption) (by assumption) h127
        refine xe (fun _ _ kK => x_iinc dX8_both_175 0 rfl (show (nI (o + x)) + Int32.ofInt 1 = nI ((o + x) + 1) from nI_add (o + x) 1) (by decide) (show _ = [(10, .int (nI ((o + x) + 1))), (9, .int (nI i)), (8, .int (nI (n + (cI (bP s pa a b v w) x)))), (7, .int (oI (grp s a b))), (0, .ref 88), (1, .int (nI a)), (2, .long v), (4, .int (nI b)), (5, .long w)] from rfl) kK) ?_
        refine xe (fun _ _ kK => x_goto (tgt := 104) dX8_both_178 (by decide) kK) ?_
        have hv9 : cI (bP s pa a b v w) (x + 1) = cI (bP s pa a b v w) x := cI_f (pB_f (fun z9 => h127 z9.1))
        have := ih (pa.1 - (x + 1)) (by omega) (x + 1) rfl (by omega) hno
        rw [hv9] at this
        exact xe_loc (by simp [Nat.add_assoc]) this
      · -- pc 130
        have h127 := cv_oo (by assumption) (by assumption) h127
        refine xe (fun _ _ kK => x_aload_n dX8_both_130 rfl 4 rfl kK) ?_
        refine xe (fun _ _ kK => x_iload dX8_both_131 0 rfl kK) ?_
        refine xe (fun _ _ kK => x_aload_n dX8_both_133 rfl 4 rfl kK) ?_
        refine xe (fun _ _ kK => x_get dX8_both_134 fl_X8_74 hM.1 (gvl_r1 fz_8_32.2.2 (show e_r T 544 88 = some 102 from (hM.2.1 32))) kK) ?_
        refine xe (fun _ _ kK => x_iload dX8_both_137 1 rfl kK) ?_
        refine xe (fun _ _ kK => x_iconst dX8_both_139 (show _ = nI 1 by decide) kK) ?_
        refine xe (fun _ _ kK => x_iadd dX8_both_140 kK) ?_
        refine xe_ti (show _ = nI (i + 1) from nI_add i 1) ?_
        refine xe (fun _ _ kK => x_iald dX8_both_141 (hM.2.2.1 13 (by decide)) (show (nI (i + 1)) = nI (i + 1) from rfl) (mi_len hM 13 (by decide) (show i + 1 < 31 by omega)) (show e_ai T 102 (i + 1) = nI (o + pa.1) from he) kK) ?_
        refine xe (fun _ _ kK => x_iload_n dX8_both_142 rfl 5 rfl kK) ?_
        refine xe (fun _ _ kK => x_lload_n dX8_both_143 rfl 6 rfl kK) ?_
        refine xe_callV (a := 88) [.int (nI (o + x)), .int (nI (o + pa.1)), .int (nI a), .long v] dX8_both_144 ml_X8_317 mf_X8_has hM.1 (c_X8_has d (lf := s.2.2.2.2.2.2 a) hM hP hok hs60 hb (by omega) (hS.2.2.2 a ha) (by omega) hx) rfl rfl (Nat.le_of_ble_eq_true rfl) (Nat.le_of_ble_eq_true rfl) ?_
        rintro _ T9 ⟨rfl, h9⟩
        refine xe_T h9 ?_
        refine xe_if_eq (tgt := 175) dX8_both_147 (by decide) (fun h147 => ?_) (fun h147 => ?_)
        · -- pc 175
          have h147 := cv_b0 h147
          refine xe (fun _ _ kK => x_iinc dX8_both_175 0 rfl (show (nI (o + x)) + Int32.ofInt 1 = nI ((o + x) + 1) from nI_add (o + x) 1) (by decide) (show _ = [(10, .int (nI ((o + x) + 1))), (9, .int (nI i)), (8, .int (nI (n + (cI (bP s pa a b v w) x)))), (7, .int (oI (grp s a b))), (0, .ref 88), (1, .int (nI a)), (2, .long v), (4, .int (nI b)), (5, .long w)] from rfl) kK) ?_
          refine xe (fun _ _ kK => x_goto (tgt := 104) dX8_both_178 (by decide) kK) ?_
          have hv9 : cI (bP s pa a b v w) (x + 1) = cI (bP s pa a b v w) x := cI_f (pB_f (fun z9 => pB_no h147 z9.2.1))
          have := ih (pa.1 - (x + 1)) (by omega) (x + 1) rfl (by omega) hno
          rw [hv9] at this
          exact xe_loc (by simp [Nat.add_assoc]) this
        · -- pc 150
          have h147 := cv_b1 h147
          refine xe (fun _ _ kK => x_aload_n dX8_both_150 rfl 4 rfl kK) ?_
          refine xe (fun _ _ kK => x_iload dX8_both_151 0 rfl kK) ?_
          refine xe (fun _ _ kK => x_aload_n dX8_both_153 rfl 4 rfl kK) ?_
          refine xe (fun _ _ kK => x_get dX8_both_154 fl_X8_74 hM.1 (gvl_r1 fz_8_32.2.2 (show e_r T 544 88 = some 102 from (hM.2.1 32))) kK) ?_
          refine xe (fun _ _ kK => x_iload dX8_both_157 1 rfl kK) ?_
          refine xe (fun _ _ kK => x_iconst dX8_both_159 (show _ = nI 1 by decide) kK) ?_
          refine xe (fun _ _ kK => x_iadd dX8_both_160 kK) ?_
          refine xe_ti (show _ = nI (i + 1) from nI_add i 1) ?_
          refine xe (fun _ _ kK => x_iald dX8_both_161 (hM.2.2.1 13 (by decide)) (show (nI (i + 1)) = nI (i + 1) from rfl) (mi_len hM 13 (by decide) (show i + 1 < 31 by omega)) (show e_ai T 102 (i + 1) = nI (o + pa.1) from he) kK) ?_
          refine xe (fun _ _ kK => x_iload dX8_both_162 7 rfl kK) ?_
          refine xe (fun _ _ kK => x_lload dX8_both_164 8 rfl kK) ?_
          refine xe_callV (a := 88) [.int (nI (o + x)), .int (nI (o + pa.1)), .int (nI b), .long w] dX8_both_166 ml_X8_317 mf_X8_has hM.1 (c_X8_has d (lf := s.2.2.2.2.2.2 b) hM hP hok hs60 hb (by omega) (hS.2.2.2 b hb9) (by omega) hx) rfl rfl (Nat.le_of_ble_eq_true rfl) (Nat.le_of_ble_eq_true rfl) ?_
          rintro _ T9 ⟨rfl, h9⟩
          refine xe_T h9 ?_
          refine xe_if_eq (tgt := 175) dX8_both_169 (by decide) (fun h169 => ?_) (fun h169 => ?_)
          · -- pc 175
            have h169 := cv_b0 h169
            refine xe (fun _ _ kK => x_iinc dX8_both_175 0 rfl (show (nI (o + x)) + Int32.ofInt 1 = nI ((o + x) + 1) from nI_add (o + x) 1) (by decide) (show _ = [(10, .int (nI ((o + x) + 1))), (9, .int (nI i)), (8, .int (nI (n + (cI (bP s pa a b v w) x)))), (7, .int (oI (grp s a b))), (0, .ref 88), (1, .int (nI a)), (2, .long v), (4, .int (nI b)), (5, .long w)] from rfl) kK) ?_
            refine xe (fun _ _ kK => x_goto (tgt := 104) dX8_both_178 (by decide) kK) ?_
            have hv9 : cI (bP s pa a b v w) (x + 1) = cI (bP s pa a b v w) x := cI_f (pB_f (fun z9 => pB_no h169 z9.2.2))
            have := ih (pa.1 - (x + 1)) (by omega) (x + 1) rfl (by omega) hno
            rw [hv9] at this
            exact xe_loc (by simp [Nat.add_assoc]) this
          · -- pc 172
            have h169 := cv_b1 h169
            refine xe (fun _ _ kK => x_iinc dX8_both_172 2 rfl (show (nI (n + (cI (bP s pa a b v w) x))) + Int32.ofInt 1 = nI ((n + (cI (bP s pa a b v w) x)) + 1) from nI_add (n + (cI (bP s pa a b v w) x)) 1) (by decide) (show _ = [(8, .int (nI ((n + (cI (bP s pa a b v w) x)) + 1))), (10, .int (nI (o + x))), (9, .int (nI i)), (7, .int (oI (grp s a b))), (0, .ref 88), (1, .int (nI a)), (2, .long v), (4, .int (nI b)), (5, .long w)] from rfl) kK) ?_
            refine xe (fun _ _ kK => x_iinc dX8_both_175 1 rfl (show (nI (o + x)) + Int32.ofInt 1 = nI ((o + x) + 1) from nI_add (o + x) 1) (by decide) (show _ = [(10, .int (nI ((o + x) + 1))), (8, .int (nI ((n + (cI (bP s pa a b v w) x)) + 1))), (9, .int (nI i)), (7, .int (oI (grp s a b))), (0, .ref 88), (1, .int (nI a)), (2, .long v), (4, .int (nI b)), (5, .long w)] from rfl) kK) ?_
            refine xe (fun _ _ kK => x_goto (tgt := 104) dX8_both_178 (by decide) kK) ?_
            have hv9 : cI (bP s pa a b v w) (x + 1) = cI (bP s pa a b v w) x + 1 := cI_t (pB_t ⟨h127, pB_of h147, pB_of h169⟩)
            have := ih (pa.1 - (x + 1)) (by omega) (x + 1) rfl (by omega) hno
            rw [hv9] at this
            exact xe_loc (by simp [Nat.add_assoc]) this

set_option maxHeartbeats 4000000 in
theorem l_X8_bothP (d : Nat) {T : TH} {s : Sh} {ps : PS} {a b : Nat} {v w : Int64} (hM : MI T) (hS : MSh T s) (hP : MP T ps) (hpk : PpOk s ps) (hs60 : s.1 ≤ 60) (ha : a < s.2.1) (hb9 : b < s.2.1) (hc12 : s.2.1 ≤ 12) (hla : s.2.2.2.2.2.2 a < 60) (hlb : s.2.2.2.2.2.2 b < 60) (hgb : oB (grp s a b)) : ∀ (m i : Nat), ps.1 - i = m → i ≤ ps.1 → Xe m_X8_both (d + 1) 86 [(9, .int (nI i)), (8, .int (nI (bothF s ps.2 a b v w i))), (7, .int (oI (grp s a b))), (0, .ref 88), (1, .int (nI a)), (2, .long v), (4, .int (nI b)), (5, .long w)] [] T (fun r T1 => r = some (.int (nI (bothF s ps.2 a b v w ps.1))) ∧ T1 = T) := by
  intro m
  induction m using Nat.strongRecOn with
  | ind m ih =>
    intro i hm hip
    subst hm
    have hp30 := hpk.1
    refine xe (fun _ _ kK => x_iload dX8_both_86 0 rfl kK) ?_
    refine xe (fun _ _ kK => x_aload_n dX8_both_88 rfl 3 rfl kK) ?_
    refine xe (fun _ _ kK => x_get dX8_both_89 fl_X8_214 hM.1 (gvl_i fz_8_31.2.2 (show e_i T 543 88 = nI ps.1 from hP.1)) kK) ?_
    refine xe_icmp_ge (tgt := 187) dX8_both_92 (by decide) (fun h92 => ?_) (fun h92 => ?_)
    · -- pc 187
      have h92 := cv_le (by omega) (by omega) h92
      refine xe (fun _ _ kK => x_iload dX8_both_187 1 rfl kK) ?_
      exact xe_reti dX8_both_189 rfl (⟨by rw [show i = ps.1 by omega], rfl⟩)
    · -- pc 95
      have h92 := cv_nle (by omega) (by omega) h92
      have hpi := hpk.2 i h92
      have hof2 := off_le hpk (i + 1) (by omega)
      have hoe : off ps.2 (i + 1) = off ps.2 i + (ps.2 i).1 := rfl
      have hp30 := hpk.1
      refine xe (fun _ _ kK => x_aload_n dX8_both_95 rfl 3 rfl kK) ?_
      refine xe (fun _ _ kK => x_get dX8_both_96 fl_X8_74 hM.1 (gvl_r1 fz_8_32.2.2 (show e_r T 544 88 = some 102 from (hM.2.1 32))) kK) ?_
      refine xe (fun _ _ kK => x_iload dX8_both_99 0 rfl kK) ?_
      refine xe (fun _ _ kK => x_iald dX8_both_101 (hM.2.2.1 13 (by decide)) (show (nI i) = nI i from rfl) (mi_len hM 13 (by decide) (show i < 31 by omega)) (show e_ai T 102 i = nI (off ps.2 i) from (hP.2.1 (by omega) i (by omega))) kK) ?_
      refine xe (fun _ _ kK => x_istore dX8_both_102 (by decide) (show _ = [(10, .int (nI (off ps.2 i))), (9, .int (nI i)), (8, .int (nI (bothF s ps.2 a b v w i))), (7, .int (oI (grp s a b))), (0, .ref 88), (1, .int (nI a)), (2, .long v), (4, .int (nI b)), (5, .long w)] from rfl) kK) ?_
      refine xe_loc (L' := [(10, .int (nI (off ps.2 i + 0))), (9, .int (nI i)), (8, .int (nI (bothF s ps.2 a b v w i + cI (bP s (ps.2 i) a b v w) 0))), (7, .int (oI (grp s a b))), (0, .ref 88), (1, .int (nI a)), (2, .long v), (4, .int (nI b)), (5, .long w)]) (by simp [cI]) ?_
      refine l_X8_bothX d hM hS (hP.2.2 i h92) hpi.1 hs60 (by omega) (by omega) ha hb9 hc12 hla hlb hgb (hP.2.1 (by omega) (i + 1) (by omega)) (ps.2 i).1 0 rfl (Nat.zero_le _) ?_
      refine xe (fun _ _ kK => x_iinc dX8_both_181 0 rfl (show (nI i) + Int32.ofInt 1 = nI (i + 1) from nI_add i 1) (by decide) (show _ = [(9, .int (nI (i + 1))), (8, .int (nI (bothF s ps.2 a b v w i + cI (bP s (ps.2 i) a b v w) (ps.2 i).1))), (7, .int (oI (grp s a b))), (0, .ref 88), (1, .int (nI a)), (2, .long v), (4, .int (nI b)), (5, .long w)] from rfl) kK) ?_
      refine xe (fun _ _ kK => x_goto (tgt := 86) dX8_both_184 (by decide) kK) ?_
      exact xe_loc (by simp [bothF]) (ih (ps.1 - (i + 1)) (by omega) (i + 1) rfl (by omega))

set_option maxHeartbeats 4000000 in
theorem c_X8_both (d : Nat) {T : TH} {s : Sh} {ps : PS} (h : MQh T s ps) (x : Int32) (v : Int64) (y : Int32) (w : Int64) : Xe m_X8_both (d + 1) 0 [(0, .ref 88), (1, .int x), (2, .long v), (4, .int y), (5, .long w)] [] T (fun r9 T1 => r9 = some (.int (bothA s ps x v y w)) ∧ T1 = T) := by
  obtain ⟨hM, hs1, hS, hG, hP, hPG⟩ := id h
  have hc12 := hG.2.1
  refine xe (fun _ _ kK => x_aload_n dX8_both_0 rfl 0 rfl kK) ?_
  refine xe (fun _ _ kK => x_iload_n dX8_both_1 rfl 1 rfl kK) ?_
  refine xe_callV (a := 88) [.int x] dX8_both_2 ml_X8_289 mf_X8_isLeaf hM.1 (c_X8_isLeaf d hM hs1 hS.2.1 hc12 x) rfl rfl (Nat.le_of_ble_eq_true rfl) (Nat.le_of_ble_eq_true rfl) ?_
  rintro _ T9 ⟨rfl, h9⟩
  refine xe_T h9 ?_
  cases hix : ix x s.2.1 with
  | none =>
    show Xe m_X8_both (d + 1) 5 [(0, .ref 88), (1, .int x), (2, .long v), (4, .int y), (5, .long w)] [.int (bI false)] T _
    refine xe (fun _ _ kK => x_if_eqT (tgt := 17) dX8_both_5 (by decide) rfl kK) ?_
    refine xe (fun _ _ kK => x_iconst dX8_both_17 (show _ = (-1) by decide) kK) ?_
    exact xe_reti dX8_both_18 rfl (⟨by unfold bothA; rw [hix], rfl⟩)
  | some a =>
    obtain ⟨ha, rfl, hab⟩ := ix_lt hix
    show Xe m_X8_both (d + 1) 5 [(0, .ref 88), (1, .int (nI a)), (2, .long v), (4, .int y), (5, .long w)] [.int (bI true)] T _
    refine xe (fun _ _ kK => x_if_eqF (tgt := 17) dX8_both_5 (by decide) (by decide) kK) ?_
    refine xe (fun _ _ kK => x_aload_n dX8_both_8 rfl 0 rfl kK) ?_
    refine xe (fun _ _ kK => x_iload dX8_both_9 3 rfl kK) ?_
    refine xe_callV (a := 88) [.int y] dX8_both_11 ml_X8_289 mf_X8_isLeaf hM.1 (c_X8_isLeaf d hM hs1 hS.2.1 hc12 y) rfl rfl (Nat.le_of_ble_eq_true rfl) (Nat.le_of_ble_eq_true rfl) ?_
    rintro _ T9 ⟨rfl, h9⟩
    refine xe_T h9 ?_
    cases hiy : ix y s.2.1 with
    | none =>
      show Xe m_X8_both (d + 1) 14 [(0, .ref 88), (1, .int (nI a)), (2, .long v), (4, .int y), (5, .long w)] [.int (bI false)] T _
      refine xe (fun _ _ kK => x_if_neF (tgt := 19) dX8_both_14 (by decide) rfl kK) ?_
      refine xe (fun _ _ kK => x_iconst dX8_both_17 (show _ = (-1) by decide) kK) ?_
      exact xe_reti dX8_both_18 rfl (⟨by unfold bothA; rw [hix]; show _ = some (Value.int (match ix y s.2.1 with | none => -1 | some b => nI (bothF s ps.2 a b v w ps.1))); rw [hiy], rfl⟩)
    | some b =>
      obtain ⟨hb, rfl, hbb⟩ := ix_lt hiy
      show Xe m_X8_both (d + 1) 14 [(0, .ref 88), (1, .int (nI a)), (2, .long v), (4, .int (nI b)), (5, .long w)] [.int (bI true)] T _
      refine xe (fun _ _ kK => x_if_neT (tgt := 19) dX8_both_14 (by decide) (by decide) kK) ?_
      obtain ⟨j1, j2, j3, j4⟩ := hG.2.2.2 a ha
      obtain ⟨_, _, _, k4⟩ := hG.2.2.2 b hb
      have hs60 := hG.1.1
      refine xe (fun _ _ kK => x_iconst dX8_both_19 (show _ = (-1) by decide) kK) ?_
      refine xe (fun _ _ kK => x_istore dX8_both_20 (by decide) (show _ = [(7, .int (-1)), (0, .ref 88), (1, .int (nI a)), (2, .long v), (4, .int (nI b)), (5, .long w)] from rfl) kK) ?_
      refine xe (fun _ _ kK => x_aload_n dX8_both_22 rfl 1 rfl kK) ?_
      refine xe (fun _ _ kK => x_get dX8_both_23 fl_X8_50 hM.1 (gvl_r1 fz_8_20.2.2 (show e_r T 532 88 = some 94 from (hM.2.1 20))) kK) ?_
      refine xe (fun _ _ kK => x_iload_n dX8_both_26 rfl 2 rfl kK) ?_
      refine xe (fun _ _ kK => x_iald dX8_both_27 (hM.2.2.1 5 (by decide)) (show (nI a) = nI a from rfl) (mi_len hM 5 (by decide) (show a < 12 by omega)) (show e_ai T 94 a = nI (s.2.2.2.2.2.2 a) from (hS.2.2.2 a ha)) kK) ?_
      refine xe (fun _ _ kK => x_istore dX8_both_28 (by decide) (show _ = [(8, .int (nI (s.2.2.2.2.2.2 a))), (7, .int (-1)), (0, .ref 88), (1, .int (nI a)), (2, .long v), (4, .int (nI b)), (5, .long w)] from rfl) kK) ?_
      refine xe_loc (L' := [(8, .int (oI (some (s.2.2.2.2.2.2 a)))), (7, .int (-1)), (0, .ref 88), (1, .int (nI a)), (2, .long v), (4, .int (nI b)), (5, .long w)]) (by simp [oI]) ?_
      refine l_X8_bothG d hM hS hG hb hs60 (rdl s a) _ j1 j2 ?_
      refine xe (fun _ _ kK => x_iconst dX8_both_80 (show _ = nI 0 by decide) kK) ?_
      refine xe (fun _ _ kK => x_istore dX8_both_81 (by decide) (show _ = [(8, .int (nI 0)), (7, .int (oI ((rdl s a).find? (fun f => decide (s.2.2.2.2.2.1 f = 2 ∧ f ∈ rdl s b))))), (0, .ref 88), (1, .int (nI a)), (2, .long v), (4, .int (nI b)), (5, .long w)] from rfl) kK) ?_
      refine xe (fun _ _ kK => x_iconst dX8_both_83 (show _ = nI 0 by decide) kK) ?_
      refine xe (fun _ _ kK => x_istore dX8_both_84 (by decide) (show _ = [(9, .int (nI 0)), (8, .int (nI 0)), (7, .int (oI ((rdl s a).find? (fun f => decide (s.2.2.2.2.2.1 f = 2 ∧ f ∈ rdl s b))))), (0, .ref 88), (1, .int (nI a)), (2, .long v), (4, .int (nI b)), (5, .long w)] from rfl) kK) ?_
      have hgb : oB (grp s a b) := fun q hq => by have := j2 q (List.mem_of_find?_eq_some hq); omega
      refine Xe.imp (xe_loc (by simp [bothF, grp]) (l_X8_bothP d (a := a) (b := b) (v := v) (w := w) hM hS hP hPG.1 hs60 ha hb hc12 (by omega) (by omega) hgb ps.1 0 rfl (Nat.zero_le _))) ?_
      rintro _ _ ⟨rfl, rfl⟩
      exact ⟨by unfold bothA; rw [hix]; show _ = some (Value.int (match ix (nI b) s.2.1 with | none => -1 | some b => nI (bothF s ps.2 a b v w ps.1))); rw [hiy], rfl⟩
