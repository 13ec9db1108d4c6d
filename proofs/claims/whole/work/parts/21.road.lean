/-! the road to a leaf -/
/-- l: the field o, its group, and so on outwards -/
def Chn (W : Nat → Option Nat) : Option Nat → List Nat → Prop
  | o, [] => o = none
  | o, f :: l => o = some f ∧ Chn W (W f) l
def RDl (T : TH) : List Nat → Prop
  | [] => True
  | f :: l => e_ai T 106 l.length = nI f ∧ RDl T l
theorem RDl.of {T T' : TH} : ∀ {l : List Nat}, RDl T l → (∀ j, j < l.length → e_ai T' 106 j = e_ai T 106 j) → RDl T' l
  | [], _, _ => trivial
  | _ :: l, h, k => ⟨(k l.length (Nat.lt_succ_self _)).trans h.1, RDl.of h.2 (fun j hj => k j (Nat.lt_succ_of_lt hj))⟩
/-- the reference's road, the outermost field first -/
def RD (T : TH) (r : List Nat) : Prop := e_i T 549 88 = nI r.length ∧ ∀ k f, r[k]? = some f → e_ai T 106 k = nI f
theorem RDl.rev {T : TH} : ∀ {l : List Nat}, RDl T l → ∀ k f, l.reverse[k]? = some f → e_ai T 106 k = nI f
  | [], _, k, f, h => by simp at h
  | x :: l, h, k, f, hk => by
    rw [List.reverse_cons] at hk
    rcases Nat.lt_or_ge k l.length with q | q
    · rw [List.getElem?_append_left (by simpa using q)] at hk
      exact RDl.rev h.2 k f hk
    · rw [List.getElem?_append_right (by simpa using q)] at hk
      have hz : k - l.reverse.length < 1 := (List.getElem?_eq_some_iff.mp hk).1
      have hk0 : k = l.length := by simp at hz; omega
      subst hk0
      simp at hk
      rw [← hk]; exact h.1
def mc (M : Nat → Nat) (l : List Nat) : Nat := (l.filter (fun f => M f == 2)).length
def dc (M : Nat → Nat) (l : List Nat) : Nat := (l.filter (fun f => M f != 0)).length
theorem mc_app (M : Nat → Nat) (a b : List Nat) : mc M (a ++ b) = mc M a + mc M b := by unfold mc; rw [List.filter_append, List.length_append]
theorem dc_app (M : Nat → Nat) (a b : List Nat) : dc M (a ++ b) = dc M a + dc M b := by unfold dc; rw [List.filter_append, List.length_append]
theorem mc_le (M : Nat → Nat) (l : List Nat) : mc M l ≤ l.length := List.length_filter_le _ _
theorem dc_le (M : Nat → Nat) (l : List Nat) : dc M l ≤ l.length := List.length_filter_le _ _
theorem mc_1 (M : Nat → Nat) (f : Nat) : mc M [f] = if M f = 2 then 1 else 0 := by
  unfold mc
  by_cases h : M f = 2 <;> simp [h]
theorem dc_1 (M : Nat → Nat) (f : Nat) : dc M [f] = if M f = 0 then 0 else 1 := by
  unfold dc
  by_cases h : M f = 0 <;> simp [h]
theorem take_s {l : List Nat} {k f : Nat} (h : l[k]? = some f) : l.take (k + 1) = l.take k ++ [f] := by
  rw [List.take_add_one, h]; rfl

set_option maxHeartbeats 4000000 in
theorem l_X8_roadOf1 (d : Nat) {T : TH} {s : Sh} (hM : MI T) (hS : MSh T s) (hs : s.1 ≤ 60) {c : Nat} {P : Option Value → TH → Prop} (l : List Nat) : ∀ (oo : Option Nat) (k : Nat), Chn s.2.2.1 oo l → (∀ f ∈ l, f < s.1) → k + l.length ≤ 10 → Xe m_X8_roadOf d 37 [(2, .int (-1)), (0, .ref 88), (1, .int (nI c))] [] (s_i T 549 88 (nI (k + l.length))) P → Xe m_X8_roadOf d 12 [(2, .int (oI oo)), (0, .ref 88), (1, .int (nI c))] [] (s_i T 549 88 (nI k)) P := by
  induction l with
  | nil =>
    intro oo k hc hl h1 hno
    have hc' : oo = none := hc
    subst hc'
    show Xe m_X8_roadOf d 12 [(2, .int (-1)), (0, .ref 88), (1, .int (nI c))] [] (s_i T 549 88 (nI k)) P
    refine xe (fun _ _ kK => x_iload_n dX8_roadOf_12 rfl 0 rfl kK) ?_
    refine xe (fun _ _ kK => x_iconst dX8_roadOf_13 (show _ = (-1) by decide) kK) ?_
    refine xe (fun _ _ kK => x_icmp_eqT (tgt := 37) dX8_roadOf_14 (by decide) rfl kK) ?_
    exact hno
  | cons f l ih =>
    intro oo k hc hl h1 hno
    obtain ⟨rfl, hc2⟩ := hc
    have hf := hl f List.mem_cons_self
    have h1' : k + (l.length + 1) ≤ 10 := h1
    show Xe m_X8_roadOf d 12 [(2, .int (nI f)), (0, .ref 88), (1, .int (nI c))] [] (s_i T 549 88 (nI k)) P
    refine xe (fun _ _ kK => x_iload_n dX8_roadOf_12 rfl 0 rfl kK) ?_
    refine xe (fun _ _ kK => x_iconst dX8_roadOf_13 (show _ = (-1) by decide) kK) ?_
    refine xe (fun _ _ kK => x_icmp_eqF (tgt := 37) dX8_roadOf_14 (by decide) (nI_m1 (by omega)) kK) ?_
    refine xe (fun _ _ kK => x_aload_n dX8_roadOf_17 rfl 1 rfl kK) ?_
    refine xe (fun _ _ kK => x_dup dX8_roadOf_18 rfl kK) ?_
    refine xe (fun _ _ kK => x_get dX8_roadOf_19 fl_X8_254 (wK_i hM.1) (gvl_i fz_8_37.2.2 (show e_i (s_i T 549 88 (nI k)) 549 88 = nI k from rfl)) kK) ?_
    refine xe (fun _ _ kK => x_iconst dX8_roadOf_22 (show _ = nI 1 by decide) kK) ?_
    refine xe (fun _ _ kK => x_iadd dX8_roadOf_23 kK) ?_
    refine xe_ti (show _ = nI (k + 1) from nI_add k 1) ?_
    refine xe (fun _ _ kK => x_puti dX8_roadOf_24 ⟨fl_X8_254, fz_8_37.1, fz_8_37.2.1⟩ (Or.inl fz_8_37.2.2) rfl rfl (wK_i hM.1) kK) ?_
    refine xe (fun _ _ kK => x_aload_n dX8_roadOf_27 rfl 1 rfl kK) ?_
    refine xe (fun _ _ kK => x_get dX8_roadOf_28 fl_X8_37 (wK_i (wK_i hM.1)) (gvl_r1 fz_8_16.2.2 (show e_r (s_i (s_i T 549 88 (nI k)) 549 88 (nI (k + 1))) 528 88 = some 90 from (wr_i (wr_i (hM.2.1 16))))) kK) ?_
    refine xe (fun _ _ kK => x_iload_n dX8_roadOf_31 rfl 0 rfl kK) ?_
    refine xe (fun _ _ kK => x_iald dX8_roadOf_32 (wK_i (wK_i (hM.2.2.1 1 (by decide)))) (show (nI f) = nI f from rfl) (wN_i (wN_i (mi_len hM 1 (by decide) (show f < 80 by omega)))) (show e_ai (s_i (s_i T 549 88 (nI k)) 549 88 (nI (k + 1))) 90 f = oI (s.2.2.1 f) from (wai_i (wai_i (hS.2.2.1 f hf).1))) kK) ?_
    refine xe (fun _ _ kK => x_istore_n dX8_roadOf_33 rfl (by decide) (show _ = [(2, .int (oI (s.2.2.1 f))), (0, .ref 88), (1, .int (nI c))] from rfl) kK) ?_
    refine xe (fun _ _ kK => x_goto (tgt := 12) dX8_roadOf_34 (by decide) kK) ?_
    refine xe_T (si_si _ _ _ _ _) ?_
    have hno2 : Xe m_X8_roadOf d 37 [(2, .int (-1)), (0, .ref 88), (1, .int (nI c))] [] (s_i T 549 88 (nI (k + 1 + l.length))) P := by rw [show k + 1 + l.length = k + (f :: l).length by simp; omega]; exact hno
    exact ih (s.2.2.1 f) (k + 1) hc2 (fun x hx => hl x (List.mem_cons_of_mem _ hx)) (by omega) hno2

set_option maxHeartbeats 4000000 in
theorem l_X8_roadOf2 (d : Nat) {s : Sh} (hs : s.1 ≤ 60) {c : Nat} {P : Option Value → TH → Prop} (l : List Nat) : ∀ (oo : Option Nat) (T : TH), MI T → MSh T s → Chn s.2.2.1 oo l → (∀ f ∈ l, f < s.1) → l.length ≤ 8 → (∀ T', FrM [] [106] T T' → RDl T' l → (∀ j, l.length ≤ j → e_ai T' 106 j = e_ai T 106 j) → P none T') → Xe m_X8_roadOf d 49 [(3, .int (oI oo)), (2, .int (nI l.length)), (0, .ref 88), (1, .int (nI c))] [] T P := by
  induction l with
  | nil =>
    intro oo T hM hS hc hl h1 hno
    have hc' : oo = none := hc
    subst hc'
    show Xe m_X8_roadOf d 49 [(3, .int (-1)), (2, .int (nI 0)), (0, .ref 88), (1, .int (nI c))] [] T P
    refine xe (fun _ _ kK => x_iload_n dX8_roadOf_49 rfl 0 rfl kK) ?_
    refine xe (fun _ _ kK => x_iconst dX8_roadOf_50 (show _ = (-1) by decide) kK) ?_
    refine xe (fun _ _ kK => x_icmp_eqT (tgt := 74) dX8_roadOf_51 (by decide) rfl kK) ?_
    exact xe_retv dX8_roadOf_74 rfl (hno T FrM.rf trivial (fun _ _ => rfl))
  | cons f l ih =>
    intro oo T hM hS hc hl h1 hno
    obtain ⟨rfl, hc2⟩ := hc
    have hf := hl f List.mem_cons_self
    have h1' : l.length + 1 ≤ 8 := h1
    show Xe m_X8_roadOf d 49 [(3, .int (nI f)), (2, .int (nI (l.length + 1))), (0, .ref 88), (1, .int (nI c))] [] T P
    refine xe (fun _ _ kK => x_iload_n dX8_roadOf_49 rfl 0 rfl kK) ?_
    refine xe (fun _ _ kK => x_iconst dX8_roadOf_50 (show _ = (-1) by decide) kK) ?_
    refine xe (fun _ _ kK => x_icmp_eqF (tgt := 74) dX8_roadOf_51 (by decide) (nI_m1 (by omega)) kK) ?_
    refine xe (fun _ _ kK => x_iinc dX8_roadOf_54 1 rfl (pk_m1 l.length) (by decide) (show _ = [(2, .int (nI l.length)), (3, .int (nI f)), (0, .ref 88), (1, .int (nI c))] from rfl) kK) ?_
    refine xe (fun _ _ kK => x_aload_n dX8_roadOf_57 rfl 2 rfl kK) ?_
    refine xe (fun _ _ kK => x_get dX8_roadOf_58 fl_X8_86 hM.1 (gvl_r1 fz_8_38.2.2 (show e_r T 550 88 = some 106 from (hM.2.1 38))) kK) ?_
    refine xe (fun _ _ kK => x_iload_n dX8_roadOf_61 rfl 0 rfl kK) ?_
    refine xe (fun _ _ kK => x_iload_n dX8_roadOf_62 rfl 1 rfl kK) ?_
    refine xe (fun _ _ kK => x_iast dX8_roadOf_63 (hM.2.2.1 17 (by decide)) (show (nI l.length) = nI l.length from rfl) (mi_len hM 17 (by decide) (show l.length < 8 by omega)) kK) ?_
    refine xe (fun _ _ kK => x_aload_n dX8_roadOf_64 rfl 2 rfl kK) ?_
    refine xe (fun _ _ kK => x_get dX8_roadOf_65 fl_X8_37 (wK_ai hM.1) (gvl_r1 fz_8_16.2.2 (show e_r (s_ai T 106 l.length (nI f)) 528 88 = some 90 from (wr_ai (hM.2.1 16)))) kK) ?_
    refine xe (fun _ _ kK => x_iload_n dX8_roadOf_68 rfl 1 rfl kK) ?_
    refine xe (fun _ _ kK => x_iald dX8_roadOf_69 (wK_ai (hM.2.2.1 1 (by decide))) (show (nI f) = nI f from rfl) (wN_ai (mi_len hM 1 (by decide) (show f < 80 by omega))) (show e_ai (s_ai T 106 l.length (nI f)) 90 f = oI (s.2.2.1 f) from (wai_ai (fun q => absurd q.1 (by decide)) (hS.2.2.1 f hf).1)) kK) ?_
    refine xe (fun _ _ kK => x_istore_n dX8_roadOf_70 rfl (by decide) (show _ = [(3, .int (oI (s.2.2.1 f))), (2, .int (nI l.length)), (0, .ref 88), (1, .int (nI c))] from rfl) kK) ?_
    refine xe (fun _ _ kK => x_goto (tgt := 49) dX8_roadOf_71 (by decide) kK) ?_
    have hF : FrM [] [106] T (s_ai T 106 l.length (nI f)) := (FrM.sai FrM.rf (by decide) _ _)
    refine xe_loc (by simp) (ih (s.2.2.1 f) _ (hF.mi hM) (hS.of hF (by decide) (by decide) (by decide)) hc2 (fun x hx => hl x (List.mem_cons_of_mem _ hx)) (by omega) (fun T9 hF9 hR9 hU9 => hno T9 (FrM.tr hF hF9) ⟨?_, hR9⟩ (fun j hj => ?_)))
    · rw [hU9 l.length (Nat.le_refl _)]; simp [q_i_i, q_i_ai, q_i_al, q_ai_ai, q_ai_i, q_ai_al, q_al_al, q_al_i, q_al_ai]
    · have hj2 : l.length + 1 ≤ j := hj
      rw [hU9 j (by omega)]; simp [q_i_i, q_i_ai, q_i_al, q_ai_ai, q_ai_i, q_ai_al, q_al_al, q_al_i, q_al_ai, show ¬ j = l.length by omega]

set_option maxHeartbeats 4000000 in
theorem c_X8_roadOf (d : Nat) {T : TH} {s : Sh} (hM : MI T) (hS : MSh T s) (hs : s.1 ≤ 60) {c : Nat} (hc : c < s.2.1) (hc12 : s.2.1 ≤ 12) {l : List Nat} (hl : Chn s.2.2.1 (some (s.2.2.2.2.2.2 c)) l) (hlt : ∀ f ∈ l, f < s.1) (hl5 : l.length ≤ 5) : Xe m_X8_roadOf d 0 [(0, .ref 88), (1, .int (nI c))] [] T (fun r T1 => r = none ∧ FrM [549] [106] T T1 ∧ RD T1 l.reverse) := by
  refine xe (fun _ _ kK => x_aload_n dX8_roadOf_0 rfl 0 rfl kK) ?_
  refine xe (fun _ _ kK => x_iconst dX8_roadOf_1 (show _ = nI 0 by decide) kK) ?_
  refine xe (fun _ _ kK => x_puti dX8_roadOf_2 ⟨fl_X8_254, fz_8_37.1, fz_8_37.2.1⟩ (Or.inl fz_8_37.2.2) rfl rfl hM.1 kK) ?_
  refine xe (fun _ _ kK => x_aload_n dX8_roadOf_5 rfl 0 rfl kK) ?_
  refine xe (fun _ _ kK => x_get dX8_roadOf_6 fl_X8_50 (wK_i hM.1) (gvl_r1 fz_8_20.2.2 (show e_r (s_i T 549 88 (nI 0)) 532 88 = some 94 from (wr_i (hM.2.1 20)))) kK) ?_
  refine xe (fun _ _ kK => x_iload_n dX8_roadOf_9 rfl 1 rfl kK) ?_
  refine xe (fun _ _ kK => x_iald dX8_roadOf_10 (wK_i (hM.2.2.1 5 (by decide))) (show (nI c) = nI c from rfl) (wN_i (mi_len hM 5 (by decide) (show c < 12 by omega))) (show e_ai (s_i T 549 88 (nI 0)) 94 c = nI (s.2.2.2.2.2.2 c) from (wai_i (hS.2.2.2 c hc))) kK) ?_
  refine xe (fun _ _ kK => x_istore_n dX8_roadOf_11 rfl (by decide) (show _ = [(2, .int (nI (s.2.2.2.2.2.2 c))), (0, .ref 88), (1, .int (nI c))] from rfl) kK) ?_
  refine xe_loc (L' := [(2, .int (oI (some (s.2.2.2.2.2.2 c)))), (0, .ref 88), (1, .int (nI c))]) (by simp [oI]) ?_
  refine l_X8_roadOf1 d hM hS hs l (some (s.2.2.2.2.2.2 c)) 0 hl hlt (by omega) ?_
  rw [Nat.zero_add]
  refine xe (fun _ _ kK => x_aload_n dX8_roadOf_37 rfl 1 rfl kK) ?_
  refine xe (fun _ _ kK => x_get dX8_roadOf_38 fl_X8_254 (wK_i hM.1) (gvl_i fz_8_37.2.2 (show e_i (s_i T 549 88 (nI l.length)) 549 88 = nI l.length from rfl)) kK) ?_
  refine xe (fun _ _ kK => x_istore_n dX8_roadOf_41 rfl (by decide) (show _ = [(2, .int (nI l.length)), (0, .ref 88), (1, .int (nI c))] from rfl) kK) ?_
  refine xe (fun _ _ kK => x_aload_n dX8_roadOf_42 rfl 1 rfl kK) ?_
  refine xe (fun _ _ kK => x_get dX8_roadOf_43 fl_X8_50 (wK_i hM.1) (gvl_r1 fz_8_20.2.2 (show e_r (s_i T 549 88 (nI l.length)) 532 88 = some 94 from (wr_i (hM.2.1 20)))) kK) ?_
  refine xe (fun _ _ kK => x_iload_n dX8_roadOf_46 rfl 2 rfl kK) ?_
  refine xe (fun _ _ kK => x_iald dX8_roadOf_47 (wK_i (hM.2.2.1 5 (by decide))) (show (nI c) = nI c from rfl) (wN_i (mi_len hM 5 (by decide) (show c < 12 by omega))) (show e_ai (s_i T 549 88 (nI l.length)) 94 c = nI (s.2.2.2.2.2.2 c) from (wai_i (hS.2.2.2 c hc))) kK) ?_
  refine xe (fun _ _ kK => x_istore_n dX8_roadOf_48 rfl (by decide) (show _ = [(3, .int (nI (s.2.2.2.2.2.2 c))), (2, .int (nI l.length)), (0, .ref 88), (1, .int (nI c))] from rfl) kK) ?_
  have hF : FrM [549] [106] T (s_i T 549 88 (nI l.length)) := FrM.si FrM.rf (by decide) _
  refine xe_loc (L' := [(3, .int (oI (some (s.2.2.2.2.2.2 c)))), (2, .int (nI l.length)), (0, .ref 88), (1, .int (nI c))]) (by simp [oI]) ?_
  refine l_X8_roadOf2 d hs l (some (s.2.2.2.2.2.2 c)) _ (hF.mi hM) (hS.of hF (by decide) (by decide) (by decide)) hl hlt (by omega) (fun T9 hF9 hR9 _ => ⟨rfl, FrM.tr hF (hF9.mono (by decide) (by decide)), ?_, hR9.rev⟩)
  rw [List.length_reverse]; exact (hF9.i (by decide)).trans rfl

set_option maxHeartbeats 4000000 in
theorem l_X8_manyUpTo (d : Nat) {T : TH} {s : Sh} {r : List Nat} {dd : Nat} (hM : MI T) (hS : MSh T s) (hB : ShB s) (hR : RD T r) (hlt : ∀ f ∈ r, f < s.1) (hd : dd < r.length) (hr : r.length ≤ 5) : ∀ (m k : Nat), dd + 1 - k = m → k ≤ dd + 1 → Xe m_X8_manyUpTo d 4 [(3, .int (nI k)), (2, .int (nI (mc s.2.2.2.2.2.1 (r.take k)))), (0, .ref 88), (1, .int (nI dd))] [] T (fun r9 T1 => r9 = some (.int (nI (mc s.2.2.2.2.2.1 (r.take (dd + 1))))) ∧ T1 = T) := by
  intro m
  induction m using Nat.strongRecOn with
  | ind m ih =>
    intro k hm hk
    subst hm
    have hs60 := hB.1
    refine xe (fun _ _ kK => x_iload_n dX8_manyUpTo_4 rfl 0 rfl kK) ?_
    refine xe (fun _ _ kK => x_iload_n dX8_manyUpTo_5 rfl 3 rfl kK) ?_
    refine xe_icmp_gt (tgt := 33) dX8_manyUpTo_6 (by decide) (fun h6 => ?_) (fun h6 => ?_)
    · -- pc 33
      have h6 := cv_lt (by omega) (by omega) h6
      refine xe (fun _ _ kK => x_iload_n dX8_manyUpTo_33 rfl 1 rfl kK) ?_
      exact xe_reti dX8_manyUpTo_34 rfl (⟨by rw [show k = dd + 1 by omega], rfl⟩)
    · -- pc 9
      have h6 := cv_nlt (by omega) (by omega) h6
      obtain ⟨f, hf⟩ : ∃ f, r[k]? = some f := ⟨_, List.getElem?_eq_getElem (by omega)⟩
      have hf9 := hlt f (List.mem_of_getElem? hf)
      have hMf := (hB.2.2.2 f hf9).2
      have hml := mc_le s.2.2.2.2.2.1 (r.take k)
      have htk := List.length_take_le k r
      refine xe (fun _ _ kK => x_aload_n dX8_manyUpTo_9 rfl 2 rfl kK) ?_
      refine xe (fun _ _ kK => x_get dX8_manyUpTo_10 fl_X8_47 hM.1 (gvl_r1 fz_8_19.2.2 (show e_r T 531 88 = some 93 from (hM.2.1 19))) kK) ?_
      refine xe (fun _ _ kK => x_aload_n dX8_manyUpTo_13 rfl 2 rfl kK) ?_
      refine xe (fun _ _ kK => x_get dX8_manyUpTo_14 fl_X8_86 hM.1 (gvl_r1 fz_8_38.2.2 (show e_r T 550 88 = some 106 from (hM.2.1 38))) kK) ?_
      refine xe (fun _ _ kK => x_iload_n dX8_manyUpTo_17 rfl 0 rfl kK) ?_
      refine xe (fun _ _ kK => x_iald dX8_manyUpTo_18 (hM.2.2.1 17 (by decide)) (show (nI k) = nI k from rfl) (mi_len hM 17 (by decide) (show k < 8 by omega)) (show e_ai T 106 k = nI f from (hR.2 k f hf)) kK) ?_
      refine xe (fun _ _ kK => x_iald dX8_manyUpTo_19 (hM.2.2.1 4 (by decide)) (show (nI f) = nI f from rfl) (mi_len hM 4 (by decide) (show f < 80 by omega)) (show e_ai T 93 f = nI (s.2.2.2.2.2.1 f) from (hS.2.2.1 f hf9).2.2.2) kK) ?_
      refine xe (fun _ _ kK => x_iconst dX8_manyUpTo_20 (show _ = nI 2 by decide) kK) ?_
      refine xe_icmp_ne (tgt := 27) dX8_manyUpTo_21 (by decide) (fun h21 => ?_) (fun h21 => ?_)
      · -- pc 27
        have h21 := cv_ne (by omega) (by omega) h21
        refine xe (fun _ _ kK => x_iinc dX8_manyUpTo_27 0 rfl (show (nI k) + Int32.ofInt 1 = nI (k + 1) from nI_add k 1) (by decide) (show _ = [(3, .int (nI (k + 1))), (2, .int (nI (mc s.2.2.2.2.2.1 (r.take k)))), (0, .ref 88), (1, .int (nI dd))] from rfl) kK) ?_
        refine xe (fun _ _ kK => x_goto (tgt := 4) dX8_manyUpTo_30 (by decide) kK) ?_
        have hv : mc s.2.2.2.2.2.1 (r.take (k + 1)) = mc s.2.2.2.2.2.1 (r.take k) + 0 := by rw [take_s hf, mc_app, mc_1, if_neg h21]
        have := ih (dd + 1 - (k + 1)) (by omega) (k + 1) rfl (by omega)
        rw [hv] at this
        exact xe_loc (by simp) this
      · -- pc 24
        have h21 := cv_eq (by omega) (by omega) h21
        refine xe (fun _ _ kK => x_iinc dX8_manyUpTo_24 1 rfl (show (nI (mc s.2.2.2.2.2.1 (r.take k))) + Int32.ofInt 1 = nI ((mc s.2.2.2.2.2.1 (r.take k)) + 1) from nI_add (mc s.2.2.2.2.2.1 (r.take k)) 1) (by decide) (show _ = [(2, .int (nI ((mc s.2.2.2.2.2.1 (r.take k)) + 1))), (3, .int (nI k)), (0, .ref 88), (1, .int (nI dd))] from rfl) kK) ?_
        refine xe (fun _ _ kK => x_iinc dX8_manyUpTo_27 1 rfl (show (nI k) + Int32.ofInt 1 = nI (k + 1) from nI_add k 1) (by decide) (show _ = [(3, .int (nI (k + 1))), (2, .int (nI ((mc s.2.2.2.2.2.1 (r.take k)) + 1))), (0, .ref 88), (1, .int (nI dd))] from rfl) kK) ?_
        refine xe (fun _ _ kK => x_goto (tgt := 4) dX8_manyUpTo_30 (by decide) kK) ?_
        have hv : mc s.2.2.2.2.2.1 (r.take (k + 1)) = mc s.2.2.2.2.2.1 (r.take k) + 1 := by rw [take_s hf, mc_app, mc_1, if_pos h21]
        have := ih (dd + 1 - (k + 1)) (by omega) (k + 1) rfl (by omega)
        rw [hv] at this
        exact xe_loc (by simp) this

set_option maxHeartbeats 4000000 in
theorem c_X8_manyUpTo (d : Nat) {T : TH} {s : Sh} {r : List Nat} {dd : Nat} (hM : MI T) (hS : MSh T s) (hB : ShB s) (hR : RD T r) (hlt : ∀ f ∈ r, f < s.1) (hd : dd < r.length) (hr : r.length ≤ 5) : Xe m_X8_manyUpTo d 0 [(0, .ref 88), (1, .int (nI dd))] [] T (fun r9 T1 => r9 = some (.int (nI (mc s.2.2.2.2.2.1 (r.take (dd + 1))))) ∧ T1 = T) := by
  refine xe (fun _ _ kK => x_iconst dX8_manyUpTo_0 (show _ = nI 0 by decide) kK) ?_
  refine xe (fun _ _ kK => x_istore_n dX8_manyUpTo_1 rfl (by decide) (show _ = [(2, .int (nI 0)), (0, .ref 88), (1, .int (nI dd))] from rfl) kK) ?_
  refine xe (fun _ _ kK => x_iconst dX8_manyUpTo_2 (show _ = nI 0 by decide) kK) ?_
  refine xe (fun _ _ kK => x_istore_n dX8_manyUpTo_3 rfl (by decide) (show _ = [(3, .int (nI 0)), (2, .int (nI 0)), (0, .ref 88), (1, .int (nI dd))] from rfl) kK) ?_
  exact xe_loc (by simp [mc]) (l_X8_manyUpTo d hM hS hB hR hlt hd hr (dd + 1) 0 rfl (Nat.zero_le _))

set_option maxHeartbeats 4000000 in
theorem l_X8_deepOf (d : Nat) {T : TH} {s : Sh} {r : List Nat} (hM : MI T) (hS : MSh T s) (hB : ShB s) (hR : RD T r) (hlt : ∀ f ∈ r, f < s.1) (hr : r.length ≤ 5) : ∀ (m k : Nat), r.length - k = m → k ≤ r.length → Xe m_X8_deepOf d 4 [(2, .int (nI k)), (1, .int (nI (dc s.2.2.2.2.2.1 (r.take k)))), (0, .ref 88)] [] T (fun r9 T1 => r9 = some (.int (nI (dc s.2.2.2.2.2.1 r))) ∧ T1 = T) := by
  intro m
  induction m using Nat.strongRecOn with
  | ind m ih =>
    intro k hm hk
    subst hm
    have hs60 := hB.1
    refine xe (fun _ _ kK => x_iload_n dX8_deepOf_4 rfl 0 rfl kK) ?_
    refine xe (fun _ _ kK => x_aload_n dX8_deepOf_5 rfl 2 rfl kK) ?_
    refine xe (fun _ _ kK => x_get dX8_deepOf_6 fl_X8_254 hM.1 (gvl_i fz_8_37.2.2 (show e_i T 549 88 = nI r.length from hR.1)) kK) ?_
    refine xe_icmp_ge (tgt := 35) dX8_deepOf_9 (by decide) (fun h9 => ?_) (fun h9 => ?_)
    · -- pc 35
      have h9 := cv_le (by omega) (by omega) h9
      refine xe (fun _ _ kK => x_iload_n dX8_deepOf_35 rfl 1 rfl kK) ?_
      exact xe_reti dX8_deepOf_36 rfl (⟨by rw [show k = r.length by omega, List.take_length], rfl⟩)
    · -- pc 12
      have h9 := cv_nle (by omega) (by omega) h9
      obtain ⟨f, hf⟩ : ∃ f, r[k]? = some f := ⟨_, List.getElem?_eq_getElem (by omega)⟩
      have hf9 := hlt f (List.mem_of_getElem? hf)
      have hMf := (hB.2.2.2 f hf9).2
      refine xe (fun _ _ kK => x_aload_n dX8_deepOf_12 rfl 2 rfl kK) ?_
      refine xe (fun _ _ kK => x_get dX8_deepOf_13 fl_X8_47 hM.1 (gvl_r1 fz_8_19.2.2 (show e_r T 531 88 = some 93 from (hM.2.1 19))) kK) ?_
      refine xe (fun _ _ kK => x_aload_n dX8_deepOf_16 rfl 2 rfl kK) ?_
      refine xe (fun _ _ kK => x_get dX8_deepOf_17 fl_X8_86 hM.1 (gvl_r1 fz_8_38.2.2 (show e_r T 550 88 = some 106 from (hM.2.1 38))) kK) ?_
      refine xe (fun _ _ kK => x_iload_n dX8_deepOf_20 rfl 0 rfl kK) ?_
      refine xe (fun _ _ kK => x_iald dX8_deepOf_21 (hM.2.2.1 17 (by decide)) (show (nI k) = nI k from rfl) (mi_len hM 17 (by decide) (show k < 8 by omega)) (show e_ai T 106 k = nI f from (hR.2 k f hf)) kK) ?_
      refine xe (fun _ _ kK => x_iald dX8_deepOf_22 (hM.2.2.1 4 (by decide)) (show (nI f) = nI f from rfl) (mi_len hM 4 (by decide) (show f < 80 by omega)) (show e_ai T 93 f = nI (s.2.2.2.2.2.1 f) from (hS.2.2.1 f hf9).2.2.2) kK) ?_
      refine xe_if_eq (tgt := 29) dX8_deepOf_23 (by decide) (fun h23 => ?_) (fun h23 => ?_)
      · -- pc 29
        have h23 := cv_z (by omega) h23
        refine xe (fun _ _ kK => x_iinc dX8_deepOf_29 0 rfl (show (nI k) + Int32.ofInt 1 = nI (k + 1) from nI_add k 1) (by decide) (show _ = [(2, .int (nI (k + 1))), (1, .int (nI (dc s.2.2.2.2.2.1 (r.take k)))), (0, .ref 88)] from rfl) kK) ?_
        refine xe (fun _ _ kK => x_goto (tgt := 4) dX8_deepOf_32 (by decide) kK) ?_
        have hv : dc s.2.2.2.2.2.1 (r.take (k + 1)) = dc s.2.2.2.2.2.1 (r.take k) + 0 := by rw [take_s hf, dc_app, dc_1, if_pos h23]
        have := ih (r.length - (k + 1)) (by omega) (k + 1) rfl (by omega)
        rw [hv] at this
        exact xe_loc (by simp) this
      · -- pc 26
        have h23 := cv_nz (by omega) h23
        refine xe (fun _ _ kK => x_iinc dX8_deepOf_26 1 rfl (show (nI (dc s.2.2.2.2.2.1 (r.take k))) + Int32.ofInt 1 = nI ((dc s.2.2.2.2.2.1 (r.take k)) + 1) from nI_add (dc s.2.2.2.2.2.1 (r.take k)) 1) (by decide) (show _ = [(1, .int (nI ((dc s.2.2.2.2.2.1 (r.take k)) + 1))), (2, .int (nI k)), (0, .ref 88)] from rfl) kK) ?_
        refine xe (fun _ _ kK => x_iinc dX8_deepOf_29 1 rfl (show (nI k) + Int32.ofInt 1 = nI (k + 1) from nI_add k 1) (by decide) (show _ = [(2, .int (nI (k + 1))), (1, .int (nI ((dc s.2.2.2.2.2.1 (r.take k)) + 1))), (0, .ref 88)] from rfl) kK) ?_
        refine xe (fun _ _ kK => x_goto (tgt := 4) dX8_deepOf_32 (by decide) kK) ?_
        have hv : dc s.2.2.2.2.2.1 (r.take (k + 1)) = dc s.2.2.2.2.2.1 (r.take k) + 1 := by rw [take_s hf, dc_app, dc_1, if_neg h23]
        have := ih (r.length - (k + 1)) (by omega) (k + 1) rfl (by omega)
        rw [hv] at this
        exact xe_loc (by simp) this

set_option maxHeartbeats 4000000 in
theorem c_X8_deepOf (d : Nat) {T : TH} {s : Sh} {r : List Nat} (hM : MI T) (hS : MSh T s) (hB : ShB s) (hR : RD T r) (hlt : ∀ f ∈ r, f < s.1) (hr : r.length ≤ 5) : Xe m_X8_deepOf d 0 [(0, .ref 88)] [] T (fun r9 T1 => r9 = some (.int (nI (dc s.2.2.2.2.2.1 r))) ∧ T1 = T) := by
  refine xe (fun _ _ kK => x_iconst dX8_deepOf_0 (show _ = nI 0 by decide) kK) ?_
  refine xe (fun _ _ kK => x_istore_n dX8_deepOf_1 rfl (by decide) (show _ = [(1, .int (nI 0)), (0, .ref 88)] from rfl) kK) ?_
  refine xe (fun _ _ kK => x_iconst dX8_deepOf_2 (show _ = nI 0 by decide) kK) ?_
  refine xe (fun _ _ kK => x_istore_n dX8_deepOf_3 rfl (by decide) (show _ = [(2, .int (nI 0)), (1, .int (nI 0)), (0, .ref 88)] from rfl) kK) ?_
  exact xe_loc (by simp [dc]) (l_X8_deepOf d hM hS hB hR hlt hr r.length 0 rfl (Nat.zero_le _))

set_option maxHeartbeats 4000000 in
theorem c_X8_putsRow (d : Nat) {T : TH} (hM : MI T) {k : Nat} (hk : e_i T 551 88 = nI k) (hk6 : k < 6300) (lv tv hv iv : Int32) (v : Int64) : Xe m_X8_putsRow d 0 [(0, .ref 88), (1, .int lv), (2, .int tv), (3, .int hv), (4, .long v), (6, .int iv)] [] T (fun r T1 => r = none ∧ T1 = (s_i (s_ai (s_al (s_ai (s_ai (s_ai T 107 k lv) 108 k tv) 109 k (vp_nar .boolean hv)) 110 k v) 111 k iv) 551 88 (nI (k + 1)))) := by
  refine xe (fun _ _ kK => x_aload_n dX8_putsRow_0 rfl 0 rfl kK) ?_
  refine xe (fun _ _ kK => x_get dX8_putsRow_1 fl_X8_89 hM.1 (gvl_r1 fz_8_40.2.2 (show e_r T 552 88 = some 107 from (hM.2.1 40))) kK) ?_
  refine xe (fun _ _ kK => x_aload_n dX8_putsRow_4 rfl 0 rfl kK) ?_
  refine xe (fun _ _ kK => x_get dX8_putsRow_5 fl_X8_257 hM.1 (gvl_i fz_8_39.2.2 (show e_i T 551 88 = nI k from hk)) kK) ?_
  refine xe (fun _ _ kK => x_iload_n dX8_putsRow_8 rfl 1 rfl kK) ?_
  refine xe (fun _ _ kK => x_iast dX8_putsRow_9 (hM.2.2.1 18 (by decide)) (show (nI k) = nI k from rfl) (mi_len hM 18 (by decide) (show k < 6300 by omega)) kK) ?_
  refine xe (fun _ _ kK => x_aload_n dX8_putsRow_10 rfl 0 rfl kK) ?_
  refine xe (fun _ _ kK => x_get dX8_putsRow_11 fl_X8_92 (wK_ai hM.1) (gvl_r1 fz_8_41.2.2 (show e_r (s_ai T 107 k lv) 553 88 = some 108 from (wr_ai (hM.2.1 41)))) kK) ?_
  refine xe (fun _ _ kK => x_aload_n dX8_putsRow_14 rfl 0 rfl kK) ?_
  refine xe (fun _ _ kK => x_get dX8_putsRow_15 fl_X8_257 (wK_ai hM.1) (gvl_i fz_8_39.2.2 (show e_i (s_ai T 107 k lv) 551 88 = nI k from (wi_ai hk))) kK) ?_
  refine xe (fun _ _ kK => x_iload_n dX8_putsRow_18 rfl 2 rfl kK) ?_
  refine xe (fun _ _ kK => x_iast dX8_putsRow_19 (wK_ai (hM.2.2.1 19 (by decide))) (show (nI k) = nI k from rfl) (wN_ai (mi_len hM 19 (by decide) (show k < 6300 by omega))) kK) ?_
  refine xe (fun _ _ kK => x_aload_n dX8_putsRow_20 rfl 0 rfl kK) ?_
  refine xe (fun _ _ kK => x_get dX8_putsRow_21 fl_X8_95 (wK_ai (wK_ai hM.1)) (gvl_r1 fz_8_42.2.2 (show e_r (s_ai (s_ai T 107 k lv) 108 k tv) 554 88 = some 109 from (wr_ai (wr_ai (hM.2.1 42))))) kK) ?_
  refine xe (fun _ _ kK => x_aload_n dX8_putsRow_24 rfl 0 rfl kK) ?_
  refine xe (fun _ _ kK => x_get dX8_putsRow_25 fl_X8_257 (wK_ai (wK_ai hM.1)) (gvl_i fz_8_39.2.2 (show e_i (s_ai (s_ai T 107 k lv) 108 k tv) 551 88 = nI k from (wi_ai (wi_ai hk)))) kK) ?_
  refine xe (fun _ _ kK => x_iload_n dX8_putsRow_28 rfl 3 rfl kK) ?_
  refine xe (fun _ _ kK => x_zast dX8_putsRow_29 (wK_ai (wK_ai (hM.2.2.1 20 (by decide)))) (show (nI k) = nI k from rfl) (wN_ai (wN_ai (mi_len hM 20 (by decide) (show k < 6300 by omega)))) kK) ?_
  refine xe (fun _ _ kK => x_aload_n dX8_putsRow_30 rfl 0 rfl kK) ?_
  refine xe (fun _ _ kK => x_get dX8_putsRow_31 fl_X8_99 (wK_ai (wK_ai (wK_ai hM.1))) (gvl_r1 fz_8_43.2.2 (show e_r (s_ai (s_ai (s_ai T 107 k lv) 108 k tv) 109 k (vp_nar .boolean hv)) 555 88 = some 110 from (wr_ai (wr_ai (wr_ai (hM.2.1 43)))))) kK) ?_
  refine xe (fun _ _ kK => x_aload_n dX8_putsRow_34 rfl 0 rfl kK) ?_
  refine xe (fun _ _ kK => x_get dX8_putsRow_35 fl_X8_257 (wK_ai (wK_ai (wK_ai hM.1))) (gvl_i fz_8_39.2.2 (show e_i (s_ai (s_ai (s_ai T 107 k lv) 108 k tv) 109 k (vp_nar .boolean hv)) 551 88 = nI k from (wi_ai (wi_ai (wi_ai hk))))) kK) ?_
  refine xe (fun _ _ kK => x_lload dX8_putsRow_38 4 rfl kK) ?_
  refine xe (fun _ _ kK => x_last dX8_putsRow_40 (wK_ai (wK_ai (wK_ai (hM.2.2.1 21 (by decide))))) (show (nI k) = nI k from rfl) (wN_ai (wN_ai (wN_ai (mi_len hM 21 (by decide) (show k < 6300 by omega))))) kK) ?_
  refine xe (fun _ _ kK => x_aload_n dX8_putsRow_41 rfl 0 rfl kK) ?_
  refine xe (fun _ _ kK => x_get dX8_putsRow_42 fl_X8_102 (wK_al (wK_ai (wK_ai (wK_ai hM.1)))) (gvl_r1 fz_8_44.2.2 (show e_r (s_al (s_ai (s_ai (s_ai T 107 k lv) 108 k tv) 109 k (vp_nar .boolean hv)) 110 k v) 556 88 = some 111 from (wr_al (wr_ai (wr_ai (wr_ai (hM.2.1 44))))))) kK) ?_
  refine xe (fun _ _ kK => x_aload_n dX8_putsRow_45 rfl 0 rfl kK) ?_
  refine xe (fun _ _ kK => x_get dX8_putsRow_46 fl_X8_257 (wK_al (wK_ai (wK_ai (wK_ai hM.1)))) (gvl_i fz_8_39.2.2 (show e_i (s_al (s_ai (s_ai (s_ai T 107 k lv) 108 k tv) 109 k (vp_nar .boolean hv)) 110 k v) 551 88 = nI k from (wi_al (wi_ai (wi_ai (wi_ai hk)))))) kK) ?_
  refine xe (fun _ _ kK => x_iload dX8_putsRow_49 5 rfl kK) ?_
  refine xe (fun _ _ kK => x_iast dX8_putsRow_51 (wK_al (wK_ai (wK_ai (wK_ai (hM.2.2.1 22 (by decide)))))) (show (nI k) = nI k from rfl) (wN_al (wN_ai (wN_ai (wN_ai (mi_len hM 22 (by decide) (show k < 6300 by omega)))))) kK) ?_
  refine xe (fun _ _ kK => x_aload_n dX8_putsRow_52 rfl 0 rfl kK) ?_
  refine xe (fun _ _ kK => x_dup dX8_putsRow_53 rfl kK) ?_
  refine xe (fun _ _ kK => x_get dX8_putsRow_54 fl_X8_257 (wK_ai (wK_al (wK_ai (wK_ai (wK_ai hM.1))))) (gvl_i fz_8_39.2.2 (show e_i (s_ai (s_al (s_ai (s_ai (s_ai T 107 k lv) 108 k tv) 109 k (vp_nar .boolean hv)) 110 k v) 111 k iv) 551 88 = nI k from (wi_ai (wi_al (wi_ai (wi_ai (wi_ai hk))))))) kK) ?_
  refine xe (fun _ _ kK => x_iconst dX8_putsRow_57 (show _ = nI 1 by decide) kK) ?_
  refine xe (fun _ _ kK => x_iadd dX8_putsRow_58 kK) ?_
  refine xe_ti (show _ = nI (k + 1) from nI_add k 1) ?_
  refine xe (fun _ _ kK => x_puti dX8_putsRow_59 ⟨fl_X8_257, fz_8_39.1, fz_8_39.2.1⟩ (Or.inl fz_8_39.2.2) rfl rfl (wK_ai (wK_al (wK_ai (wK_ai (wK_ai hM.1))))) kK) ?_
  exact xe_retv dX8_putsRow_62 rfl (⟨rfl, rfl⟩)

set_option maxHeartbeats 4000000 in
theorem c_X8_steps (d : Nat) {T : TH} (hM : MI T) {dd : Nat} (hd : dd < 8) (x : Nat) (tv lv : Int32) : Xe m_X8_steps d 0 [(0, .ref 88), (1, .int (nI dd)), (2, .int (nI x)), (3, .int tv), (4, .int lv)] [] T (fun r T1 => r = none ∧ T1 = (s_ai (s_ai (s_ai (s_ai (s_ai T 112 dd (nI x)) 113 dd (nI (x + 1))) 114 dd (nI 0)) 115 dd tv) 116 dd lv)) := by
  refine xe (fun _ _ kK => x_aload_n dX8_steps_0 rfl 0 rfl kK) ?_
  refine xe (fun _ _ kK => x_get dX8_steps_1 fl_X8_105 hM.1 (gvl_r1 fz_8_45.2.2 (show e_r T 557 88 = some 112 from (hM.2.1 45))) kK) ?_
  refine xe (fun _ _ kK => x_iload_n dX8_steps_4 rfl 1 rfl kK) ?_
  refine xe (fun _ _ kK => x_iload_n dX8_steps_5 rfl 2 rfl kK) ?_
  refine xe (fun _ _ kK => x_iast dX8_steps_6 (hM.2.2.1 23 (by decide)) (show (nI dd) = nI dd from rfl) (mi_len hM 23 (by decide) (show dd < 8 by omega)) kK) ?_
  refine xe (fun _ _ kK => x_aload_n dX8_steps_7 rfl 0 rfl kK) ?_
  refine xe (fun _ _ kK => x_get dX8_steps_8 fl_X8_108 (wK_ai hM.1) (gvl_r1 fz_8_46.2.2 (show e_r (s_ai T 112 dd (nI x)) 558 88 = some 113 from (wr_ai (hM.2.1 46)))) kK) ?_
  refine xe (fun _ _ kK => x_iload_n dX8_steps_11 rfl 1 rfl kK) ?_
  refine xe (fun _ _ kK => x_iload_n dX8_steps_12 rfl 2 rfl kK) ?_
  refine xe (fun _ _ kK => x_iconst dX8_steps_13 (show _ = nI 1 by decide) kK) ?_
  refine xe (fun _ _ kK => x_iadd dX8_steps_14 kK) ?_
  refine xe_ti (show _ = nI (x + 1) from nI_add x 1) ?_
  refine xe (fun _ _ kK => x_iast dX8_steps_15 (wK_ai (hM.2.2.1 24 (by decide))) (show (nI dd) = nI dd from rfl) (wN_ai (mi_len hM 24 (by decide) (show dd < 8 by omega))) kK) ?_
  refine xe (fun _ _ kK => x_aload_n dX8_steps_16 rfl 0 rfl kK) ?_
  refine xe (fun _ _ kK => x_get dX8_steps_17 fl_X8_111 (wK_ai (wK_ai hM.1)) (gvl_r1 fz_8_47.2.2 (show e_r (s_ai (s_ai T 112 dd (nI x)) 113 dd (nI (x + 1))) 559 88 = some 114 from (wr_ai (wr_ai (hM.2.1 47))))) kK) ?_
  refine xe (fun _ _ kK => x_iload_n dX8_steps_20 rfl 1 rfl kK) ?_
  refine xe (fun _ _ kK => x_iconst dX8_steps_21 (show _ = nI 0 by decide) kK) ?_
  refine xe (fun _ _ kK => x_iast dX8_steps_22 (wK_ai (wK_ai (hM.2.2.1 25 (by decide)))) (show (nI dd) = nI dd from rfl) (wN_ai (wN_ai (mi_len hM 25 (by decide) (show dd < 8 by omega)))) kK) ?_
  refine xe (fun _ _ kK => x_aload_n dX8_steps_23 rfl 0 rfl kK) ?_
  refine xe (fun _ _ kK => x_get dX8_steps_24 fl_X8_114 (wK_ai (wK_ai (wK_ai hM.1))) (gvl_r1 fz_8_48.2.2 (show e_r (s_ai (s_ai (s_ai T 112 dd (nI x)) 113 dd (nI (x + 1))) 114 dd (nI 0)) 560 88 = some 115 from (wr_ai (wr_ai (wr_ai (hM.2.1 48)))))) kK) ?_
  refine xe (fun _ _ kK => x_iload_n dX8_steps_27 rfl 1 rfl kK) ?_
  refine xe (fun _ _ kK => x_iload_n dX8_steps_28 rfl 3 rfl kK) ?_
  refine xe (fun _ _ kK => x_iast dX8_steps_29 (wK_ai (wK_ai (wK_ai (hM.2.2.1 26 (by decide))))) (show (nI dd) = nI dd from rfl) (wN_ai (wN_ai (wN_ai (mi_len hM 26 (by decide) (show dd < 8 by omega))))) kK) ?_
  refine xe (fun _ _ kK => x_aload_n dX8_steps_30 rfl 0 rfl kK) ?_
  refine xe (fun _ _ kK => x_get dX8_steps_31 fl_X8_117 (wK_ai (wK_ai (wK_ai (wK_ai hM.1)))) (gvl_r1 fz_8_49.2.2 (show e_r (s_ai (s_ai (s_ai (s_ai T 112 dd (nI x)) 113 dd (nI (x + 1))) 114 dd (nI 0)) 115 dd tv) 561 88 = some 116 from (wr_ai (wr_ai (wr_ai (wr_ai (hM.2.1 49))))))) kK) ?_
  refine xe (fun _ _ kK => x_iload_n dX8_steps_34 rfl 1 rfl kK) ?_
  refine xe (fun _ _ kK => x_iload dX8_steps_35 4 rfl kK) ?_
  refine xe (fun _ _ kK => x_iast dX8_steps_37 (wK_ai (wK_ai (wK_ai (wK_ai (hM.2.2.1 27 (by decide)))))) (show (nI dd) = nI dd from rfl) (wN_ai (wN_ai (wN_ai (wN_ai (mi_len hM 27 (by decide) (show dd < 8 by omega)))))) kK) ?_
  exact xe_retv dX8_steps_38 rfl (⟨rfl, rfl⟩)
