/-! DROP -/
def dropP (ps : PS) (i : Nat) : PS := (ps.1 - 1, fun k => if k < i then ps.2 k else ps.2 (k + 1))
theorem off_drop (ps : PS) (i : Nat) : ∀ j, off (dropP ps i).2 j = if j ≤ i then off ps.2 j else off ps.2 (j + 1) - (ps.2 i).1 := by
  intro j
  induction j with
  | zero => rw [if_pos (Nat.zero_le _)]; rfl
  | succ j ih =>
    show off (dropP ps i).2 j + ((dropP ps i).2 j).1 = _
    rw [ih]
    show _ + (if j < i then ps.2 j else ps.2 (j + 1)).1 = _
    have h1 : off ps.2 (j + 1) = off ps.2 j + (ps.2 j).1 := rfl
    have h2 : off ps.2 (j + 1 + 1) = off ps.2 (j + 1) + (ps.2 (j + 1)).1 := rfl
    rcases Nat.lt_trichotomy j i with h | h | h
    · rw [if_pos (by omega), if_pos h, if_pos (by omega)]; rfl
    · subst h; rw [if_pos (by omega), if_neg (by omega), if_neg (by omega), h2, h1]; omega
    · rw [if_neg (by omega), if_neg (by omega), if_neg (by omega), h2]
      have h3 := off_mono' ps.2 (show i + 1 ≤ j + 1 by omega)
      have h4 : off ps.2 (i + 1) = off ps.2 i + (ps.2 i).1 := rfl
      omega
def dsh (y : Nat) (v : Int32) : Int32 := if v = -1 then -1 else v - nI y
def DI (T0 T : TH) (o y k : Nat) : Prop := FrM [] [103, 104, 105] T0 T ∧ (∀ j, e_ai T 103 j = if o ≤ j ∧ j + y < k then e_ai T0 103 (j + y) else e_ai T0 103 j) ∧ (∀ j, e_ai T 104 j = if o ≤ j ∧ j + y < k then dsh y (e_ai T0 104 (j + y)) else e_ai T0 104 j) ∧ ∀ j, e_al T 105 j = if o ≤ j ∧ j + y < k then e_al T0 105 (j + y) else e_al T0 105 j
theorem DI_f {α : Type} {f g : Nat → α} {h : Nat → α} {o y k : Nat} {v : α} (hk : o + y ≤ k) (hf : ∀ j, f j = if o ≤ j ∧ j + y < k then h (j + y) else g j) (hv : v = h k) : ∀ j, (if j = k - y then v else f j) = if o ≤ j ∧ j + y < k + 1 then h (j + y) else g j := by
  intro j
  by_cases hj : j = k - y
  · subst hj
    rw [if_pos rfl, if_pos ⟨by omega, by omega⟩, hv, show k - y + y = k by omega]
  · rw [if_neg hj, hf j]
    by_cases h1 : o ≤ j ∧ j + y < k
    · rw [if_pos h1, if_pos ⟨h1.1, by omega⟩]
    · rw [if_neg h1, if_neg (fun z => h1 ⟨z.1, by omega⟩)]

set_option maxHeartbeats 4000000 in
theorem l_X8_drop1 (d : Nat) {T0 : TH} {o y e p i : Nat} {P : Option Value → TH → Prop} (hM0 : MI T0) (hp0 : e_i T0 543 88 = nI p) (hp30 : p ≤ 30) (he0 : e_ai T0 102 p = nI e) (he6 : e ≤ 6200) : ∀ (m k : Nat) (T : TH), e - k = m → k ≤ e → o + y ≤ k → DI T0 T o y k → (∀ T1, DI T0 T1 o y e → Xe m_X8_drop d 112 [(3, .int (nI e)), (2, .int (nI y)), (0, .ref 88), (1, .int (nI i))] [] T1 P) → Xe m_X8_drop d 35 [(3, .int (nI k)), (2, .int (nI y)), (0, .ref 88), (1, .int (nI i))] [] T P := by
  intro m
  induction m using Nat.strongRecOn with
  | ind m ih =>
    intro k T hm hke hk1 hI hno
    subst hm
    have hM := hI.1.mi hM0
    have hp : e_i T 543 88 = nI p := (hI.1.i (by decide)).trans hp0
    have he : e_ai T 102 p = nI e := by rw [hI.1.ai (by decide)]; exact he0
    refine xe (fun _ _ kK => x_iload_n dX8_drop_35 rfl 0 rfl kK) ?_
    refine xe (fun _ _ kK => x_aload_n dX8_drop_36 rfl 2 rfl kK) ?_
    refine xe (fun _ _ kK => x_get dX8_drop_37 fl_X8_74 hM.1 (gvl_r1 fz_8_32.2.2 (show e_r T 544 88 = some 102 from (hM.2.1 32))) kK) ?_
    refine xe (fun _ _ kK => x_aload_n dX8_drop_40 rfl 2 rfl kK) ?_
    refine xe (fun _ _ kK => x_get dX8_drop_41 fl_X8_214 hM.1 (gvl_i fz_8_31.2.2 (show e_i T 543 88 = nI p from hp)) kK) ?_
    refine xe (fun _ _ kK => x_iald dX8_drop_44 (hM.2.2.1 13 (by decide)) (show (nI p) = nI p from rfl) (mi_len hM 13 (by decide) (show p < 31 by omega)) (show e_ai T 102 p = nI e from he) kK) ?_
    refine xe_icmp_ge (tgt := 112) dX8_drop_45 (by decide) (fun h45 => ?_) (fun h45 => ?_)
    · -- pc 112
      have h45 := cv_le (by omega) (by omega) h45
      have e9 : k = e := by omega
      subst e9
      exact hno T hI
    · -- pc 48
      have h45 := cv_nle (by omega) (by omega) h45
      have hk3 : e_ai T 103 k = e_ai T0 103 k := by rw [hI.2.1, if_neg (by omega)]
      have hk4 : e_ai T 104 k = e_ai T0 104 k := by rw [hI.2.2.1, if_neg (by omega)]
      have hk5 : e_al T 105 k = e_al T0 105 k := by rw [hI.2.2.2, if_neg (by omega)]
      refine xe (fun _ _ kK => x_aload_n dX8_drop_48 rfl 2 rfl kK) ?_
      refine xe (fun _ _ kK => x_get dX8_drop_49 fl_X8_77 hM.1 (gvl_r1 fz_8_33.2.2 (show e_r T 545 88 = some 103 from (hM.2.1 33))) kK) ?_
      refine xe (fun _ _ kK => x_iload_n dX8_drop_52 rfl 0 rfl kK) ?_
      refine xe (fun _ _ kK => x_iload_n dX8_drop_53 rfl 1 rfl kK) ?_
      refine xe (fun _ _ kK => x_isub dX8_drop_54 kK) ?_
      refine xe_ti (show _ = nI (k - y) from pk_sub (by omega)) ?_
      refine xe (fun _ _ kK => x_aload_n dX8_drop_55 rfl 2 rfl kK) ?_
      refine xe (fun _ _ kK => x_get dX8_drop_56 fl_X8_77 hM.1 (gvl_r1 fz_8_33.2.2 (show e_r T 545 88 = some 103 from (hM.2.1 33))) kK) ?_
      refine xe (fun _ _ kK => x_iload_n dX8_drop_59 rfl 0 rfl kK) ?_
      refine xe (fun _ _ kK => x_iald dX8_drop_60 (hM.2.2.1 14 (by decide)) (show (nI k) = nI k from rfl) (mi_len hM 14 (by decide) (show k < 6200 by omega)) (show e_ai T 103 k = e_ai T0 103 k from hk3) kK) ?_
      refine xe (fun _ _ kK => x_iast dX8_drop_61 (hM.2.2.1 14 (by decide)) (show (nI (k - y)) = nI (k - y) from rfl) (mi_len hM 14 (by decide) (show k - y < 6200 by omega)) kK) ?_
      refine xe (fun _ _ kK => x_aload_n dX8_drop_62 rfl 2 rfl kK) ?_
      refine xe (fun _ _ kK => x_get dX8_drop_63 fl_X8_80 (wK_ai hM.1) (gvl_r1 fz_8_34.2.2 (show e_r (s_ai T 103 (k - y) (e_ai T0 103 k)) 546 88 = some 104 from (wr_ai (hM.2.1 34)))) kK) ?_
      refine xe (fun _ _ kK => x_iload_n dX8_drop_66 rfl 0 rfl kK) ?_
      refine xe (fun _ _ kK => x_iload_n dX8_drop_67 rfl 1 rfl kK) ?_
      refine xe (fun _ _ kK => x_isub dX8_drop_68 kK) ?_
      refine xe_ti (show _ = nI (k - y) from pk_sub (by omega)) ?_
      refine xe (fun _ _ kK => x_aload_n dX8_drop_69 rfl 2 rfl kK) ?_
      refine xe (fun _ _ kK => x_get dX8_drop_70 fl_X8_80 (wK_ai hM.1) (gvl_r1 fz_8_34.2.2 (show e_r (s_ai T 103 (k - y) (e_ai T0 103 k)) 546 88 = some 104 from (wr_ai (hM.2.1 34)))) kK) ?_
      refine xe (fun _ _ kK => x_iload_n dX8_drop_73 rfl 0 rfl kK) ?_
      refine xe (fun _ _ kK => x_iald dX8_drop_74 (wK_ai (hM.2.2.1 15 (by decide))) (show (nI k) = nI k from rfl) (wN_ai (mi_len hM 15 (by decide) (show k < 6200 by omega))) (show e_ai (s_ai T 103 (k - y) (e_ai T0 103 k)) 104 k = e_ai T0 104 k from (wai_ai (fun q => absurd q.1 (by decide)) hk4)) kK) ?_
      refine xe (fun _ _ kK => x_iconst dX8_drop_75 (show _ = (-1) by decide) kK) ?_
      by_cases h76 : e_ai T0 104 k = -1
      · -- pc 76
        refine xe (fun _ _ kK => x_icmp_neF (tgt := 83) dX8_drop_76 (by decide) h76 kK) ?_
        refine xe (fun _ _ kK => x_iconst dX8_drop_79 (show _ = (-1) by decide) kK) ?_
        refine xe (fun _ _ kK => x_goto (tgt := 91) dX8_drop_80 (by decide) kK) ?_
        refine xe (fun _ _ kK => x_iast dX8_drop_91 (wK_ai (hM.2.2.1 15 (by decide))) (show (nI (k - y)) = nI (k - y) from rfl) (wN_ai (mi_len hM 15 (by decide) (show k - y < 6200 by omega))) kK) ?_
        refine xe (fun _ _ kK => x_aload_n dX8_drop_92 rfl 2 rfl kK) ?_
        refine xe (fun _ _ kK => x_get dX8_drop_93 fl_X8_83 (wK_ai (wK_ai hM.1)) (gvl_r1 fz_8_35.2.2 (show e_r (s_ai (s_ai T 103 (k - y) (e_ai T0 103 k)) 104 (k - y) (-1)) 547 88 = some 105 from (wr_ai (wr_ai (hM.2.1 35))))) kK) ?_
        refine xe (fun _ _ kK => x_iload_n dX8_drop_96 rfl 0 rfl kK) ?_
        refine xe (fun _ _ kK => x_iload_n dX8_drop_97 rfl 1 rfl kK) ?_
        refine xe (fun _ _ kK => x_isub dX8_drop_98 kK) ?_
        refine xe_ti (show _ = nI (k - y) from pk_sub (by omega)) ?_
        refine xe (fun _ _ kK => x_aload_n dX8_drop_99 rfl 2 rfl kK) ?_
        refine xe (fun _ _ kK => x_get dX8_drop_100 fl_X8_83 (wK_ai (wK_ai hM.1)) (gvl_r1 fz_8_35.2.2 (show e_r (s_ai (s_ai T 103 (k - y) (e_ai T0 103 k)) 104 (k - y) (-1)) 547 88 = some 105 from (wr_ai (wr_ai (hM.2.1 35))))) kK) ?_
        refine xe (fun _ _ kK => x_iload_n dX8_drop_103 rfl 0 rfl kK) ?_
        refine xe (fun _ _ kK => x_lald dX8_drop_104 (wK_ai (wK_ai (hM.2.2.1 16 (by decide)))) (show (nI k) = nI k from rfl) (wN_ai (wN_ai (mi_len hM 16 (by decide) (show k < 6200 by omega)))) (show e_al (s_ai (s_ai T 103 (k - y) (e_ai T0 103 k)) 104 (k - y) (-1)) 105 k = e_al T0 105 k from (wal_ai (wal_ai hk5))) kK) ?_
        refine xe (fun _ _ kK => x_last dX8_drop_105 (wK_ai (wK_ai (hM.2.2.1 16 (by decide)))) (show (nI (k - y)) = nI (k - y) from rfl) (wN_ai (wN_ai (mi_len hM 16 (by decide) (show k - y < 6200 by omega)))) kK) ?_
        refine xe (fun _ _ kK => x_iinc dX8_drop_106 0 rfl (show (nI k) + Int32.ofInt 1 = nI (k + 1) from nI_add k 1) (by decide) (show _ = [(3, .int (nI (k + 1))), (2, .int (nI y)), (0, .ref 88), (1, .int (nI i))] from rfl) kK) ?_
        refine xe (fun _ _ kK => x_goto (tgt := 35) dX8_drop_109 (by decide) kK) ?_
        have hI2 : DI T0 (s_al (s_ai (s_ai T 103 (k - y) (e_ai T0 103 k)) 104 (k - y) (-1)) 105 (k - y) (e_al T0 105 k)) o y (k + 1) := ⟨FrM.tr hI.1 (FrM.sal (FrM.sai (FrM.sai FrM.rf (by decide) _ _) (by decide) _ _) (by decide) _ _), fun j => Eq.trans (by simp [q_i_i, q_i_ai, q_i_al, q_ai_ai, q_ai_i, q_ai_al, q_al_al, q_al_i, q_al_ai]) (DI_f (v := e_ai T0 103 k) (h := fun z => e_ai T0 103 z) hk1 hI.2.1 rfl j), fun j => Eq.trans (by simp [q_i_i, q_i_ai, q_i_al, q_ai_ai, q_ai_i, q_ai_al, q_al_al, q_al_i, q_al_ai]) (DI_f (v := (-1)) (h := fun z => dsh y (e_ai T0 104 z)) hk1 hI.2.2.1 (by show _ = dsh y (e_ai T0 104 k); unfold dsh; rw [if_pos h76]) j), fun j => Eq.trans (by simp [q_i_i, q_i_ai, q_i_al, q_ai_ai, q_ai_i, q_ai_al, q_al_al, q_al_i, q_al_ai]) (DI_f (v := e_al T0 105 k) (h := fun z => e_al T0 105 z) hk1 hI.2.2.2 rfl j)⟩
        exact xe_loc (by simp) (ih (e - (k + 1)) (by omega) (k + 1) _ rfl (by omega) (by omega) hI2 hno)
      · -- pc 76
        refine xe (fun _ _ kK => x_icmp_neT (tgt := 83) dX8_drop_76 (by decide) h76 kK) ?_
        refine xe (fun _ _ kK => x_aload_n dX8_drop_83 rfl 2 rfl kK) ?_
        refine xe (fun _ _ kK => x_get dX8_drop_84 fl_X8_80 (wK_ai hM.1) (gvl_r1 fz_8_34.2.2 (show e_r (s_ai T 103 (k - y) (e_ai T0 103 k)) 546 88 = some 104 from (wr_ai (hM.2.1 34)))) kK) ?_
        refine xe (fun _ _ kK => x_iload_n dX8_drop_87 rfl 0 rfl kK) ?_
        refine xe (fun _ _ kK => x_iald dX8_drop_88 (wK_ai (hM.2.2.1 15 (by decide))) (show (nI k) = nI k from rfl) (wN_ai (mi_len hM 15 (by decide) (show k < 6200 by omega))) (show e_ai (s_ai T 103 (k - y) (e_ai T0 103 k)) 104 k = e_ai T0 104 k from (wai_ai (fun q => absurd q.1 (by decide)) hk4)) kK) ?_
        refine xe (fun _ _ kK => x_iload_n dX8_drop_89 rfl 1 rfl kK) ?_
        refine xe (fun _ _ kK => x_isub dX8_drop_90 kK) ?_
        refine xe (fun _ _ kK => x_iast dX8_drop_91 (wK_ai (hM.2.2.1 15 (by decide))) (show (nI (k - y)) = nI (k - y) from rfl) (wN_ai (mi_len hM 15 (by decide) (show k - y < 6200 by omega))) kK) ?_
        refine xe (fun _ _ kK => x_aload_n dX8_drop_92 rfl 2 rfl kK) ?_
        refine xe (fun _ _ kK => x_get dX8_drop_93 fl_X8_83 (wK_ai (wK_ai hM.1)) (gvl_r1 fz_8_35.2.2 (show e_r (s_ai (s_ai T 103 (k - y) (e_ai T0 103 k)) 104 (k - y) ((e_ai T0 104 k) - (nI y))) 547 88 = some 105 from (wr_ai (wr_ai (hM.2.1 35))))) kK) ?_
        refine xe (fun _ _ kK => x_iload_n dX8_drop_96 rfl 0 rfl kK) ?_
        refine xe (fun _ _ kK => x_iload_n dX8_drop_97 rfl 1 rfl kK) ?_
        refine xe (fun _ _ kK => x_isub dX8_drop_98 kK) ?_
        refine xe_ti (show _ = nI (k - y) from pk_sub (by omega)) ?_
        refine xe (fun _ _ kK => x_aload_n dX8_drop_99 rfl 2 rfl kK) ?_
        refine xe (fun _ _ kK => x_get dX8_drop_100 fl_X8_83 (wK_ai (wK_ai hM.1)) (gvl_r1 fz_8_35.2.2 (show e_r (s_ai (s_ai T 103 (k - y) (e_ai T0 103 k)) 104 (k - y) ((e_ai T0 104 k) - (nI y))) 547 88 = some 105 from (wr_ai (wr_ai (hM.2.1 35))))) kK) ?_
        refine xe (fun _ _ kK => x_iload_n dX8_drop_103 rfl 0 rfl kK) ?_
        refine xe (fun _ _ kK => x_lald dX8_drop_104 (wK_ai (wK_ai (hM.2.2.1 16 (by decide)))) (show (nI k) = nI k from rfl) (wN_ai (wN_ai (mi_len hM 16 (by decide) (show k < 6200 by omega)))) (show e_al (s_ai (s_ai T 103 (k - y) (e_ai T0 103 k)) 104 (k - y) ((e_ai T0 104 k) - (nI y))) 105 k = e_al T0 105 k from (wal_ai (wal_ai hk5))) kK) ?_
        refine xe (fun _ _ kK => x_last dX8_drop_105 (wK_ai (wK_ai (hM.2.2.1 16 (by decide)))) (show (nI (k - y)) = nI (k - y) from rfl) (wN_ai (wN_ai (mi_len hM 16 (by decide) (show k - y < 6200 by omega)))) kK) ?_
        refine xe (fun _ _ kK => x_iinc dX8_drop_106 0 rfl (show (nI k) + Int32.ofInt 1 = nI (k + 1) from nI_add k 1) (by decide) (show _ = [(3, .int (nI (k + 1))), (2, .int (nI y)), (0, .ref 88), (1, .int (nI i))] from rfl) kK) ?_
        refine xe (fun _ _ kK => x_goto (tgt := 35) dX8_drop_109 (by decide) kK) ?_
        have hI2 : DI T0 (s_al (s_ai (s_ai T 103 (k - y) (e_ai T0 103 k)) 104 (k - y) ((e_ai T0 104 k) - (nI y))) 105 (k - y) (e_al T0 105 k)) o y (k + 1) := ⟨FrM.tr hI.1 (FrM.sal (FrM.sai (FrM.sai FrM.rf (by decide) _ _) (by decide) _ _) (by decide) _ _), fun j => Eq.trans (by simp [q_i_i, q_i_ai, q_i_al, q_ai_ai, q_ai_i, q_ai_al, q_al_al, q_al_i, q_al_ai]) (DI_f (v := e_ai T0 103 k) (h := fun z => e_ai T0 103 z) hk1 hI.2.1 rfl j), fun j => Eq.trans (by simp [q_i_i, q_i_ai, q_i_al, q_ai_ai, q_ai_i, q_ai_al, q_al_al, q_al_i, q_al_ai]) (DI_f (v := e_ai T0 104 k - nI y) (h := fun z => dsh y (e_ai T0 104 z)) hk1 hI.2.2.1 (by show _ = dsh y (e_ai T0 104 k); unfold dsh; rw [if_neg h76]) j), fun j => Eq.trans (by simp [q_i_i, q_i_ai, q_i_al, q_ai_ai, q_ai_i, q_ai_al, q_al_al, q_al_i, q_al_ai]) (DI_f (v := e_al T0 105 k) (h := fun z => e_al T0 105 z) hk1 hI.2.2.2 rfl j)⟩
        exact xe_loc (by simp) (ih (e - (k + 1)) (by omega) (k + 1) _ rfl (by omega) (by omega) hI2 hno)

def DF (T0 T : TH) (i q : Nat) (ff : Nat → Nat) (y : Nat) : Prop := FrM [] [102] T0 T ∧ (∀ j, i + 1 ≤ j → j < q → e_ai T 102 j = nI (ff (j + 1) - y)) ∧ ∀ j, (j < i + 1 ∨ q ≤ j) → e_ai T 102 j = e_ai T0 102 j

set_option maxHeartbeats 4000000 in
theorem l_X8_drop2 (d : Nat) {T0 : TH} {y p i : Nat} {ff : Nat → Nat} {P : Option Value → TH → Prop} (hM0 : MI T0) (hp0 : e_i T0 543 88 = nI p) (hp30 : p ≤ 30) (hf0 : ∀ j, j ≤ p → e_ai T0 102 j = nI (ff j)) (hfy0 : ∀ j, i + 1 ≤ j → y ≤ ff j) : ∀ (m q : Nat) (T : TH), p - q = m → q ≤ p → i + 1 ≤ q → DF T0 T i q ff y → (∀ T1, DF T0 T1 i p ff y → Xe m_X8_drop d 146 [(3, .int (nI p)), (2, .int (nI y)), (0, .ref 88), (1, .int (nI i))] [] T1 P) → Xe m_X8_drop d 116 [(3, .int (nI q)), (2, .int (nI y)), (0, .ref 88), (1, .int (nI i))] [] T P := by
  intro m
  induction m using Nat.strongRecOn with
  | ind m ih =>
    intro q T hm hke hk1 hI hno
    subst hm
    have hM := hI.1.mi hM0
    have hp : e_i T 543 88 = nI p := (hI.1.i (by decide)).trans hp0
    refine xe (fun _ _ kK => x_iload_n dX8_drop_116 rfl 0 rfl kK) ?_
    refine xe (fun _ _ kK => x_aload_n dX8_drop_117 rfl 2 rfl kK) ?_
    refine xe (fun _ _ kK => x_get dX8_drop_118 fl_X8_214 hM.1 (gvl_i fz_8_31.2.2 (show e_i T 543 88 = nI p from hp)) kK) ?_
    refine xe_icmp_ge (tgt := 146) dX8_drop_121 (by decide) (fun h121 => ?_) (fun h121 => ?_)
    · -- pc 146
      have h121 := cv_le (by omega) (by omega) h121
      have e9 : q = p := by omega
      subst e9
      exact hno T hI
    · -- pc 124
      have h121 := cv_nle (by omega) (by omega) h121
      have hq1 : e_ai T 102 (q + 1) = nI (ff (q + 1)) := by rw [hI.2.2 (q + 1) (Or.inr (by omega))]; exact hf0 (q + 1) (by omega)
      have hfy := hfy0 (q + 1) (by omega)
      refine xe (fun _ _ kK => x_aload_n dX8_drop_124 rfl 2 rfl kK) ?_
      refine xe (fun _ _ kK => x_get dX8_drop_125 fl_X8_74 hM.1 (gvl_r1 fz_8_32.2.2 (show e_r T 544 88 = some 102 from (hM.2.1 32))) kK) ?_
      refine xe (fun _ _ kK => x_iload_n dX8_drop_128 rfl 0 rfl kK) ?_
      refine xe (fun _ _ kK => x_aload_n dX8_drop_129 rfl 2 rfl kK) ?_
      refine xe (fun _ _ kK => x_get dX8_drop_130 fl_X8_74 hM.1 (gvl_r1 fz_8_32.2.2 (show e_r T 544 88 = some 102 from (hM.2.1 32))) kK) ?_
      refine xe (fun _ _ kK => x_iload_n dX8_drop_133 rfl 0 rfl kK) ?_
      refine xe (fun _ _ kK => x_iconst dX8_drop_134 (show _ = nI 1 by decide) kK) ?_
      refine xe (fun _ _ kK => x_iadd dX8_drop_135 kK) ?_
      refine xe_ti (show _ = nI (q + 1) from nI_add q 1) ?_
      refine xe (fun _ _ kK => x_iald dX8_drop_136 (hM.2.2.1 13 (by decide)) (show (nI (q + 1)) = nI (q + 1) from rfl) (mi_len hM 13 (by decide) (show q + 1 < 31 by omega)) (show e_ai T 102 (q + 1) = nI (ff (q + 1)) from hq1) kK) ?_
      refine xe (fun _ _ kK => x_iload_n dX8_drop_137 rfl 1 rfl kK) ?_
      refine xe (fun _ _ kK => x_isub dX8_drop_138 kK) ?_
      refine xe_ti (show _ = nI ((ff (q + 1)) - y) from pk_sub (by omega)) ?_
      refine xe (fun _ _ kK => x_iast dX8_drop_139 (hM.2.2.1 13 (by decide)) (show (nI q) = nI q from rfl) (mi_len hM 13 (by decide) (show q < 31 by omega)) kK) ?_
      refine xe (fun _ _ kK => x_iinc dX8_drop_140 0 rfl (show (nI q) + Int32.ofInt 1 = nI (q + 1) from nI_add q 1) (by decide) (show _ = [(3, .int (nI (q + 1))), (2, .int (nI y)), (0, .ref 88), (1, .int (nI i))] from rfl) kK) ?_
      refine xe (fun _ _ kK => x_goto (tgt := 116) dX8_drop_143 (by decide) kK) ?_
      suffices hI2 : DF T0 (s_ai T 102 q (nI ((ff (q + 1)) - y))) i (q + 1) ff y by
        exact xe_loc (by simp) (ih (p - (q + 1)) (by omega) (q + 1) _ rfl (by omega) (by omega) hI2 hno)
      refine ⟨FrM.tr hI.1 (FrM.sai FrM.rf (by decide) _ _), fun j h1 h2 => ?_, fun j h1 => ?_⟩
      · by_cases hj : j = q
        · subst hj; exact eai_s _ _ _ _
        · rw [eai_j _ _ hj]; exact hI.2.1 j h1 (by omega)
      · rw [eai_j _ _ (by omega)]; exact hI.2.2 j (by omega)

set_option maxHeartbeats 4000000 in
theorem c_X8_drop (d : Nat) {T : TH} {s : Sh} {ps : PS} (hM : MI T) (hP : MP T ps) (hpk : PpOk s ps) (x : Int32) : Xe m_X8_drop (d + 1) 0 [(0, .ref 88), (1, .int x)] [] T (match ix x ps.1 with
    | none => (fun r T1 => r = some (.int (-1)) ∧ T1 = T)
    | some i => (fun r T1 => r = some (.int (nI (ps.1 - 1))) ∧ FrM [543] [102, 103, 104, 105] T T1 ∧ MP T1 (dropP ps i))) := by
  refine xe (fun _ _ kK => x_aload_n dX8_drop_0 rfl 0 rfl kK) ?_
  refine xe (fun _ _ kK => x_iload_n dX8_drop_1 rfl 1 rfl kK) ?_
  refine xe_callV (a := 88) [.int x] dX8_drop_2 ml_X8_251 mf_X8_isPaper hM.1 (c_X8_isPaper d hM hP.1 hpk.1 x) rfl rfl (Nat.le_of_ble_eq_true rfl) (Nat.le_of_ble_eq_true rfl) ?_
  rintro _ T9 ⟨rfl, h9⟩
  refine xe_T h9 ?_
  cases hix : ix x ps.1 with
  | none =>
    show Xe m_X8_drop (d + 1) 5 [(0, .ref 88), (1, .int x)] [.int (bI false)] T _
    refine xe (fun _ _ kK => x_if_neF (tgt := 10) dX8_drop_5 (by decide) rfl kK) ?_
    refine xe (fun _ _ kK => x_iconst dX8_drop_8 (show _ = (-1) by decide) kK) ?_
    exact xe_reti dX8_drop_9 rfl (⟨rfl, rfl⟩)
  | some i =>
    obtain ⟨hi, rfl, hib⟩ := ix_lt hix
    show Xe m_X8_drop (d + 1) 5 [(0, .ref 88), (1, .int (nI i))] [.int (bI true)] T _
    refine xe (fun _ _ kK => x_if_neT (tgt := 10) dX8_drop_5 (by decide) (by decide) kK) ?_
    have hp30 := hpk.1
    have hfr := hP.2.1 (by omega)
    have hoe : off ps.2 (i + 1) = off ps.2 i + (ps.2 i).1 := rfl
    have hol := off_le hpk ps.1 (Nat.le_refl _)
    have hom := off_mono' ps.2 (show i + 1 ≤ ps.1 by omega)
    refine xe (fun _ _ kK => x_aload_n dX8_drop_10 rfl 0 rfl kK) ?_
    refine xe (fun _ _ kK => x_get dX8_drop_11 fl_X8_74 hM.1 (gvl_r1 fz_8_32.2.2 (show e_r T 544 88 = some 102 from (hM.2.1 32))) kK) ?_
    refine xe (fun _ _ kK => x_iload_n dX8_drop_14 rfl 1 rfl kK) ?_
    refine xe (fun _ _ kK => x_iconst dX8_drop_15 (show _ = nI 1 by decide) kK) ?_
    refine xe (fun _ _ kK => x_iadd dX8_drop_16 kK) ?_
    refine xe_ti (show _ = nI (i + 1) from nI_add i 1) ?_
    refine xe (fun _ _ kK => x_iald dX8_drop_17 (hM.2.2.1 13 (by decide)) (show (nI (i + 1)) = nI (i + 1) from rfl) (mi_len hM 13 (by decide) (show i + 1 < 31 by omega)) (show e_ai T 102 (i + 1) = nI (off ps.2 (i + 1)) from (hfr (i + 1) (by omega))) kK) ?_
    refine xe (fun _ _ kK => x_aload_n dX8_drop_18 rfl 0 rfl kK) ?_
    refine xe (fun _ _ kK => x_get dX8_drop_19 fl_X8_74 hM.1 (gvl_r1 fz_8_32.2.2 (show e_r T 544 88 = some 102 from (hM.2.1 32))) kK) ?_
    refine xe (fun _ _ kK => x_iload_n dX8_drop_22 rfl 1 rfl kK) ?_
    refine xe (fun _ _ kK => x_iald dX8_drop_23 (hM.2.2.1 13 (by decide)) (show (nI i) = nI i from rfl) (mi_len hM 13 (by decide) (show i < 31 by omega)) (show e_ai T 102 i = nI (off ps.2 i) from (hfr i (by omega))) kK) ?_
    refine xe (fun _ _ kK => x_isub dX8_drop_24 kK) ?_
    refine xe_ti (show _ = nI (ps.2 i).1 from (pk_sub (by omega)).trans (by rw [hoe, Nat.add_sub_cancel_left])) ?_
    refine xe (fun _ _ kK => x_istore_n dX8_drop_25 rfl (by decide) (show _ = [(2, .int (nI (ps.2 i).1)), (0, .ref 88), (1, .int (nI i))] from rfl) kK) ?_
    refine xe (fun _ _ kK => x_aload_n dX8_drop_26 rfl 1 rfl kK) ?_
    refine xe (fun _ _ kK => x_get dX8_drop_27 fl_X8_74 hM.1 (gvl_r1 fz_8_32.2.2 (show e_r T 544 88 = some 102 from (hM.2.1 32))) kK) ?_
    refine xe (fun _ _ kK => x_iload_n dX8_drop_30 rfl 2 rfl kK) ?_
    refine xe (fun _ _ kK => x_iconst dX8_drop_31 (show _ = nI 1 by decide) kK) ?_
    refine xe (fun _ _ kK => x_iadd dX8_drop_32 kK) ?_
    refine xe_ti (show _ = nI (i + 1) from nI_add i 1) ?_
    refine xe (fun _ _ kK => x_iald dX8_drop_33 (hM.2.2.1 13 (by decide)) (show (nI (i + 1)) = nI (i + 1) from rfl) (mi_len hM 13 (by decide) (show i + 1 < 31 by omega)) (show e_ai T 102 (i + 1) = nI (off ps.2 (i + 1)) from (hfr (i + 1) (by omega))) kK) ?_
    refine xe (fun _ _ kK => x_istore_n dX8_drop_34 rfl (by decide) (show _ = [(3, .int (nI (off ps.2 (i + 1)))), (2, .int (nI (ps.2 i).1)), (0, .ref 88), (1, .int (nI i))] from rfl) kK) ?_
    refine xe_loc (by simp) (l_X8_drop1 (d + 1) (o := off ps.2 i) (y := (ps.2 i).1) (e := off ps.2 ps.1) (i := i) hM hP.1 hp30 (hfr ps.1 (Nat.le_refl _)) (by omega) (off ps.2 ps.1 - off ps.2 (i + 1)) (off ps.2 (i + 1)) T rfl hom (by omega) ⟨FrM.rf, fun j => by rw [if_neg (by omega)], fun j => by rw [if_neg (by omega)], fun j => by rw [if_neg (by omega)]⟩ (fun T1 hD1 => ?_))
    have hM1 := hD1.1.mi hM
    have hp1 : e_i T1 543 88 = nI ps.1 := (hD1.1.i (by decide)).trans hP.1
    have hf1 : ∀ j, j ≤ ps.1 → e_ai T1 102 j = nI (off ps.2 j) := fun j hj => by rw [hD1.1.ai (by decide)]; exact hfr j hj
    refine xe (fun _ _ kK => x_iload_n dX8_drop_112 rfl 3 rfl kK) ?_
    refine xe (fun _ _ kK => x_iconst dX8_drop_113 (show _ = nI 1 by decide) kK) ?_
    refine xe (fun _ _ kK => x_iadd dX8_drop_114 kK) ?_
    refine xe_ti (show _ = nI (i + 1) from nI_add i 1) ?_
    refine xe (fun _ _ kK => x_istore_n dX8_drop_115 rfl (by decide) (show _ = [(3, .int (nI (i + 1))), (2, .int (nI (ps.2 i).1)), (0, .ref 88), (1, .int (nI i))] from rfl) kK) ?_
    refine xe_loc (by simp) (l_X8_drop2 (d + 1) (y := (ps.2 i).1) (p := ps.1) (i := i) (ff := off ps.2) hM1 hp1 hp30 hf1 (fun j hj => by have := off_mono' ps.2 hj; omega) (ps.1 - (i + 1)) (i + 1) T1 rfl (by omega) (Nat.le_refl _) ⟨FrM.rf, fun j h1 h2 => absurd h2 (by omega), fun j _ => rfl⟩ (fun T2 hD2 => ?_))
    have hM2 := hD2.1.mi hM1
    have hp2 : e_i T2 543 88 = nI ps.1 := (hD2.1.i (by decide)).trans hp1
    refine xe (fun _ _ kK => x_aload_n dX8_drop_146 rfl 2 rfl kK) ?_
    refine xe (fun _ _ kK => x_dup dX8_drop_147 rfl kK) ?_
    refine xe (fun _ _ kK => x_get dX8_drop_148 fl_X8_214 hM2.1 (gvl_i fz_8_31.2.2 (show e_i T2 543 88 = nI ps.1 from hp2)) kK) ?_
    refine xe (fun _ _ kK => x_iconst dX8_drop_151 (show _ = nI 1 by decide) kK) ?_
    refine xe (fun _ _ kK => x_isub dX8_drop_152 kK) ?_
    refine xe_ti (show _ = nI (ps.1 - 1) from pk_sub (by omega)) ?_
    refine xe (fun _ _ kK => x_puti dX8_drop_153 ⟨fl_X8_214, fz_8_31.1, fz_8_31.2.1⟩ (Or.inl fz_8_31.2.2) rfl rfl hM2.1 kK) ?_
    refine xe (fun _ _ kK => x_aload_n dX8_drop_156 rfl 2 rfl kK) ?_
    refine xe (fun _ _ kK => x_get dX8_drop_157 fl_X8_214 (wK_i hM2.1) (gvl_i fz_8_31.2.2 (show e_i (s_i T2 543 88 (nI (ps.1 - 1))) 543 88 = nI (ps.1 - 1) from rfl)) kK) ?_
    have hFa : FrM [543] [102, 103, 104, 105] T (s_i T2 543 88 (nI (ps.1 - 1))) := FrM.si (FrM.tr (hD1.1.mono (by decide) (by decide)) (hD2.1.mono (by decide) (by decide))) (by decide) _
    refine xe_reti dX8_drop_160 rfl (⟨rfl, hFa, rfl, fun _ j hj => ?_, fun j hj z hz => ?_⟩)
    · have hj2 : j ≤ ps.1 - 1 := hj
      show e_ai T2 102 j = _
      rw [off_drop]
      by_cases h1 : j ≤ i
      · rw [if_pos h1, hD2.2.2 j (Or.inl (by omega))]; exact hf1 j (by omega)
      · rw [if_neg h1]; exact hD2.2.1 j (by omega) (by omega)
    · have hj2 : j < ps.1 - 1 := hj
      have k3 : ∀ q, e_ai T2 103 q = e_ai T1 103 q := fun q => by rw [hD2.1.ai (by decide)]
      have k4 : ∀ q, e_ai T2 104 q = e_ai T1 104 q := fun q => by rw [hD2.1.ai (by decide)]
      have k5 : ∀ q, e_al T2 105 q = e_al T1 105 q := fun q => by rw [hD2.1.al (by decide)]
      show e_ai T2 103 _ = _ ∧ e_ai T2 104 _ = _ ∧ e_al T2 105 _ = _
      rw [k3, k4, k5, hD1.2.1, hD1.2.2.1, hD1.2.2.2, off_drop]
      by_cases h1 : j < i
      · have e1 : (dropP ps i).2 j = ps.2 j := if_pos h1
        rw [e1] at hz ⊢
        have hlow : off ps.2 j + z < off ps.2 i := by have := off_mono' ps.2 (show j + 1 ≤ i by omega); have e : off ps.2 (j + 1) = off ps.2 j + (ps.2 j).1 := rfl; omega
        have hoj : (if j ≤ i then off ps.2 j else off ps.2 (j + 1) - (ps.2 i).1) = off ps.2 j := if_pos (by omega)
        rw [hoj, if_neg (by omega), if_neg (by omega), if_neg (by omega)]
        exact hP.2.2 j (by omega) z hz
      · have e1 : (dropP ps i).2 j = ps.2 (j + 1) := if_neg h1
        rw [e1] at hz ⊢
        have hhi : off ps.2 (j + 1) + z < off ps.2 ps.1 := by have := off_mono' ps.2 (show j + 1 + 1 ≤ ps.1 by omega); have e : off ps.2 (j + 1 + 1) = off ps.2 (j + 1) + (ps.2 (j + 1)).1 := rfl; omega
        have hlo : off ps.2 (i + 1) ≤ off ps.2 (j + 1) := off_mono' ps.2 (by omega)
        have hoj : (if j ≤ i then off ps.2 j else off ps.2 (j + 1) - (ps.2 i).1) = off ps.2 (j + 1) - (ps.2 i).1 := by
          split
          · have e2 : j = i := by omega
            subst e2; omega
          · rfl
        rw [hoj, if_pos ⟨by omega, by omega⟩, if_pos ⟨by omega, by omega⟩, if_pos ⟨by omega, by omega⟩, show off ps.2 (j + 1) - (ps.2 i).1 + z + (ps.2 i).1 = off ps.2 (j + 1) + z by omega]
        obtain ⟨q1, q2, q3⟩ := hP.2.2 (j + 1) (by omega) z hz
        refine ⟨q1, ?_, q3⟩
        rw [q2]
        cases hin : (ps.2 (j + 1)).2.2.1 z with
        | none => rfl
        | some u =>
          have hu := ((hpk.2 (j + 1) (by omega)).1 z hz).1 u hin
          show dsh _ (nI (off ps.2 (j + 1) + u)) = nI (off ps.2 (j + 1) - (ps.2 i).1 + u)
          unfold dsh
          rw [if_neg (nI_m1 (by omega)), pk_sub (by omega)]
          congr 1; omega
