/-! wanted leaves -/
def bitOn (bits : Int32) (c : Nat) : Prop := (bits >>> (nI c &&& 31)) &&& nI 1 = nI 1
def wnU (s : Sh) (bits : Int32) (n f : Nat) : Prop := ∃ c, c < n ∧ bitOn bits c ∧ f ∈ rdl s c
noncomputable def wnB (s : Sh) (bits : Int32) (f : Nat) : Bool := pB (wnU s bits s.2.1 f)
theorem wnU_s {s : Sh} {bits : Int32} {n f : Nat} : wnU s bits (n + 1) f ↔ wnU s bits n f ∨ (bitOn bits n ∧ f ∈ rdl s n) := by
  constructor
  · rintro ⟨c, h1, h2, h3⟩
    rcases Nat.lt_or_ge c n with z | z
    · exact Or.inl ⟨c, z, h2, h3⟩
    · have e : c = n := by omega
      subst e; exact Or.inr ⟨h2, h3⟩
  · rintro (⟨c, h1, h2, h3⟩ | ⟨h2, h3⟩)
    · exact ⟨c, by omega, h2, h3⟩
    · exact ⟨n, by omega, h2, h3⟩
theorem pB_c {p q : Prop} (h : p ↔ q) : pB p = pB q := by rw [propext h]
noncomputable def txt (s : Sh) (pa : Pa) (bits : Int32) : List Nat := txN s pa (wnB s bits) 5 0
def PX (s : Sh) (pa : Pa) : Prop := VOk s pa ∧ pa.2.1 0 = none ∧ pa.2.2.1 0 = none ∧ ∀ wn, (txN s pa wn 5 0).length ≤ 400

set_option maxHeartbeats 4000000 in
theorem l_X8_textA (d : Nat) {s : Sh} {i : Nat} {bits : Int32} {P : Option Value → TH → Prop} (hs60 : s.1 ≤ 60) : ∀ (m f : Nat) (T : TH), s.1 - f = m → f ≤ s.1 → MI T → MSh T s → (∀ j, j < f → e_ai T 118 j = bI false) → (∀ T', FrM [] [118] T T' → (∀ j, j < s.1 → e_ai T' 118 j = bI false) → Xe m_X8_text d 33 [(3, .int (nI s.1)), (0, .ref 88), (1, .int (nI i)), (2, .int bits)] [] T' P) → Xe m_X8_text d 12 [(3, .int (nI f)), (0, .ref 88), (1, .int (nI i)), (2, .int bits)] [] T P := by
  intro m
  induction m using Nat.strongRecOn with
  | ind m ih =>
    intro f T hm hf hM hS hI hno
    subst hm
    refine xe (fun _ _ kK => x_iload_n dX8_text_12 rfl 0 rfl kK) ?_
    refine xe (fun _ _ kK => x_aload_n dX8_text_13 rfl 1 rfl kK) ?_
    refine xe (fun _ _ kK => x_get dX8_text_14 fl_X8_208 hM.1 (gvl_i fz_8_14.2.2 (show e_i T 526 88 = nI s.1 from hS.1)) kK) ?_
    refine xe_icmp_ge (tgt := 33) dX8_text_17 (by decide) (fun h17 => ?_) (fun h17 => ?_)
    · -- pc 33
      have h17 := cv_le (by omega) (by omega) h17
      have e9 : f = s.1 := by omega
      subst e9
      exact hno T FrM.rf hI
    · -- pc 20
      have h17 := cv_nle (by omega) (by omega) h17
      refine xe (fun _ _ kK => x_aload_n dX8_text_20 rfl 1 rfl kK) ?_
      refine xe (fun _ _ kK => x_get dX8_text_21 fl_X8_123 hM.1 (gvl_r1 fz_8_52.2.2 (show e_r T 564 88 = some 118 from (hM.2.1 52))) kK) ?_
      refine xe (fun _ _ kK => x_iload_n dX8_text_24 rfl 0 rfl kK) ?_
      refine xe (fun _ _ kK => x_iconst dX8_text_25 (show _ = nI 0 by decide) kK) ?_
      refine xe (fun _ _ kK => x_zast dX8_text_26 (hM.2.2.1 29 (by decide)) (show (nI f) = nI f from rfl) (mi_len hM 29 (by decide) (show f < 80 by omega)) kK) ?_
      refine xe (fun _ _ kK => x_iinc dX8_text_27 0 rfl (show (nI f) + Int32.ofInt 1 = nI (f + 1) from nI_add f 1) (by decide) (show _ = [(3, .int (nI (f + 1))), (0, .ref 88), (1, .int (nI i)), (2, .int bits)] from rfl) kK) ?_
      refine xe (fun _ _ kK => x_goto (tgt := 12) dX8_text_30 (by decide) kK) ?_
      have hF : FrM [] [118] T (s_ai T 118 f (vp_nar .boolean (nI 0))) := (FrM.sai FrM.rf (by decide) _ _)
      refine xe_loc (by simp) (ih (s.1 - (f + 1)) (by omega) (f + 1) (s_ai T 118 f (vp_nar .boolean (nI 0))) rfl (by omega) (hF.mi hM) (hS.of hF (by decide) (by decide) (by decide)) (fun j hj => ?_) (fun T9 h1 h2 => hno T9 (FrM.tr hF h1) h2))
      by_cases e9 : j = f
      · subst e9; exact eai_s _ _ _ _
      · rw [eai_j _ _ e9]; exact hI j (by omega)

set_option maxHeartbeats 4000000 in
theorem l_X8_textC (d : Nat) {s : Sh} {i c : Nat} {bits : Int32} {P : Option Value → TH → Prop} (hs60 : s.1 ≤ 60) (l : List Nat) : ∀ (oo : Option Nat) (T : TH), MI T → MSh T s → Chn s.2.2.1 oo l → (∀ f ∈ l, f < s.1) → (∀ T', FrM [] [118] T T' → (∀ j, e_ai T' 118 j = if j ∈ l then bI true else e_ai T 118 j) → Xe m_X8_text d 86 [(3, .int (nI c)), (0, .ref 88), (1, .int (nI i)), (2, .int bits)] [] T' P) → Xe m_X8_text d 60 [(4, .int (oI oo)), (3, .int (nI c)), (0, .ref 88), (1, .int (nI i)), (2, .int bits)] [] T P := by
  induction l with
  | nil =>
    intro oo T hM hS hc hl hno
    have hc' : oo = none := hc
    subst hc'
    show Xe m_X8_text d 60 [(4, .int (-1)), (3, .int (nI c)), (0, .ref 88), (1, .int (nI i)), (2, .int bits)] [] T P
    refine xe (fun _ _ kK => x_iload dX8_text_60 0 rfl kK) ?_
    refine xe (fun _ _ kK => x_iconst dX8_text_62 (show _ = (-1) by decide) kK) ?_
    refine xe (fun _ _ kK => x_icmp_eqT (tgt := 86) dX8_text_63 (by decide) rfl kK) ?_
    exact xe_loc (by simp) (hno T FrM.rf (fun j => by simp))
  | cons f l ih =>
    intro oo T hM hS hc hl hno
    obtain ⟨rfl, hc2⟩ := hc
    have hf := hl f List.mem_cons_self
    show Xe m_X8_text d 60 [(4, .int (nI f)), (3, .int (nI c)), (0, .ref 88), (1, .int (nI i)), (2, .int bits)] [] T P
    refine xe (fun _ _ kK => x_iload dX8_text_60 0 rfl kK) ?_
    refine xe (fun _ _ kK => x_iconst dX8_text_62 (show _ = (-1) by decide) kK) ?_
    refine xe (fun _ _ kK => x_icmp_eqF (tgt := 86) dX8_text_63 (by decide) (nI_m1 (by omega)) kK) ?_
    refine xe (fun _ _ kK => x_aload_n dX8_text_66 rfl 2 rfl kK) ?_
    refine xe (fun _ _ kK => x_get dX8_text_67 fl_X8_123 hM.1 (gvl_r1 fz_8_52.2.2 (show e_r T 564 88 = some 118 from (hM.2.1 52))) kK) ?_
    refine xe (fun _ _ kK => x_iload dX8_text_70 0 rfl kK) ?_
    refine xe (fun _ _ kK => x_iconst dX8_text_72 (show _ = nI 1 by decide) kK) ?_
    refine xe (fun _ _ kK => x_zast dX8_text_73 (hM.2.2.1 29 (by decide)) (show (nI f) = nI f from rfl) (mi_len hM 29 (by decide) (show f < 80 by omega)) kK) ?_
    refine xe (fun _ _ kK => x_aload_n dX8_text_74 rfl 2 rfl kK) ?_
    refine xe (fun _ _ kK => x_get dX8_text_75 fl_X8_37 (wK_ai hM.1) (gvl_r1 fz_8_16.2.2 (show e_r (s_ai T 118 f (vp_nar .boolean (nI 1))) 528 88 = some 90 from (wr_ai (hM.2.1 16)))) kK) ?_
    refine xe (fun _ _ kK => x_iload dX8_text_78 0 rfl kK) ?_
    refine xe (fun _ _ kK => x_iald dX8_text_80 (wK_ai (hM.2.2.1 1 (by decide))) (show (nI f) = nI f from rfl) (wN_ai (mi_len hM 1 (by decide) (show f < 80 by omega))) (show e_ai (s_ai T 118 f (vp_nar .boolean (nI 1))) 90 f = oI (s.2.2.1 f) from (wai_ai (fun q => absurd q.1 (by decide)) (hS.2.2.1 f hf).1)) kK) ?_
    refine xe (fun _ _ kK => x_istore dX8_text_81 (by decide) (show _ = [(4, .int (oI (s.2.2.1 f))), (3, .int (nI c)), (0, .ref 88), (1, .int (nI i)), (2, .int bits)] from rfl) kK) ?_
    refine xe (fun _ _ kK => x_goto (tgt := 60) dX8_text_83 (by decide) kK) ?_
    have hF : FrM [] [118] T (s_ai T 118 f (vp_nar .boolean (nI 1))) := (FrM.sai FrM.rf (by decide) _ _)
    refine xe_loc (by simp) (ih (s.2.2.1 f) (s_ai T 118 f (vp_nar .boolean (nI 1))) (hF.mi hM) (hS.of hF (by decide) (by decide) (by decide)) hc2 (fun x hx => hl x (List.mem_cons_of_mem _ hx)) (fun T9 h1 h2 => hno T9 (FrM.tr hF h1) (fun j => ?_)))
    rw [h2 j]
    by_cases e9 : j = f
    · subst e9; rw [eai_s, if_pos List.mem_cons_self]; split <;> rfl
    · rw [eai_j _ _ e9]; simp [e9]

set_option maxHeartbeats 4000000 in
theorem l_X8_textB (d : Nat) {s : Sh} {i : Nat} {bits : Int32} {P : Option Value → TH → Prop} (hG : SG s) : ∀ (m c : Nat) (T : TH), s.2.1 - c = m → c ≤ s.2.1 → MI T → MSh T s → (∀ j, j < s.1 → e_ai T 118 j = bI (pB (wnU s bits c j))) → (∀ T', FrM [] [118] T T' → (∀ j, j < s.1 → e_ai T' 118 j = bI (wnB s bits j)) → Xe m_X8_text d 92 [(3, .int (nI s.2.1)), (0, .ref 88), (1, .int (nI i)), (2, .int bits)] [] T' P) → Xe m_X8_text d 35 [(3, .int (nI c)), (0, .ref 88), (1, .int (nI i)), (2, .int bits)] [] T P := by
  intro m
  induction m using Nat.strongRecOn with
  | ind m ih =>
    intro c T hm hc hM hS hI hno
    subst hm
    have hc12 := hG.2.1
    refine xe (fun _ _ kK => x_iload_n dX8_text_35 rfl 0 rfl kK) ?_
    refine xe (fun _ _ kK => x_aload_n dX8_text_36 rfl 1 rfl kK) ?_
    refine xe (fun _ _ kK => x_get dX8_text_37 fl_X8_211 hM.1 (gvl_i fz_8_15.2.2 (show e_i T 527 88 = nI s.2.1 from hS.2.1)) kK) ?_
    refine xe_icmp_ge (tgt := 92) dX8_text_40 (by decide) (fun h40 => ?_) (fun h40 => ?_)
    · -- pc 92
      have h40 := cv_le (by omega) (by omega) h40
      have e9 : c = s.2.1 := by omega
      subst e9
      exact hno T FrM.rf hI
    · -- pc 43
      have h40 := cv_nle (by omega) (by omega) h40
      refine xe (fun _ _ kK => x_iload_n dX8_text_43 rfl 3 rfl kK) ?_
      refine xe (fun _ _ kK => x_iload_n dX8_text_44 rfl 0 rfl kK) ?_
      refine xe (fun _ _ kK => x_ishr dX8_text_45 kK) ?_
      refine xe (fun _ _ kK => x_iconst dX8_text_46 (show _ = nI 1 by decide) kK) ?_
      refine xe (fun _ _ kK => x_iand dX8_text_47 kK) ?_
      refine xe (fun _ _ kK => x_iconst dX8_text_48 (show _ = nI 1 by decide) kK) ?_
      refine xe_icmp_ne (tgt := 86) dX8_text_49 (by decide) (fun h49 => ?_) (fun h49 => ?_)
      · -- pc 86
        refine xe (fun _ _ kK => x_iinc dX8_text_86 0 rfl (show (nI c) + Int32.ofInt 1 = nI (c + 1) from nI_add c 1) (by decide) (show _ = [(3, .int (nI (c + 1))), (0, .ref 88), (1, .int (nI i)), (2, .int bits)] from rfl) kK) ?_
        refine xe (fun _ _ kK => x_goto (tgt := 35) dX8_text_89 (by decide) kK) ?_
        refine xe_loc (by simp) (ih (s.2.1 - (c + 1)) (by omega) (c + 1) T rfl (by omega) hM hS (fun j hj => ?_) hno)
        rw [hI j hj]
        exact congrArg bI (pB_c ⟨fun z => wnU_s.mpr (Or.inl z), fun z => (wnU_s.mp z).elim id (fun z2 => absurd z2.1 h49)⟩)
      · -- pc 52
        have h49b : bitOn bits c := h49
        refine xe (fun _ _ kK => x_aload_n dX8_text_52 rfl 1 rfl kK) ?_
        refine xe (fun _ _ kK => x_get dX8_text_53 fl_X8_50 hM.1 (gvl_r1 fz_8_20.2.2 (show e_r T 532 88 = some 94 from (hM.2.1 20))) kK) ?_
        refine xe (fun _ _ kK => x_iload_n dX8_text_56 rfl 0 rfl kK) ?_
        refine xe (fun _ _ kK => x_iald dX8_text_57 (hM.2.2.1 5 (by decide)) (show (nI c) = nI c from rfl) (mi_len hM 5 (by decide) (show c < 12 by omega)) (show e_ai T 94 c = nI (s.2.2.2.2.2.2 c) from (hS.2.2.2 c h40)) kK) ?_
        refine xe (fun _ _ kK => x_istore dX8_text_58 (by decide) (show _ = [(4, .int (nI (s.2.2.2.2.2.2 c))), (3, .int (nI c)), (0, .ref 88), (1, .int (nI i)), (2, .int bits)] from rfl) kK) ?_
        obtain ⟨j1, j2, j3, j4⟩ := hG.2.2.2 c h40
        refine xe_loc (L' := [(4, .int (oI (some (s.2.2.2.2.2.2 c)))), (3, .int (nI c)), (0, .ref 88), (1, .int (nI i)), (2, .int bits)]) (by simp [oI]) ?_
        refine l_X8_textC d hG.1.1 (rdl s c) (some (s.2.2.2.2.2.2 c)) T hM hS j1 j2 (fun T1 hF1 h1 => ?_)
        refine xe (fun _ _ kK => x_iinc dX8_text_86 0 rfl (show (nI c) + Int32.ofInt 1 = nI (c + 1) from nI_add c 1) (by decide) (show _ = [(3, .int (nI (c + 1))), (0, .ref 88), (1, .int (nI i)), (2, .int bits)] from rfl) kK) ?_
        refine xe (fun _ _ kK => x_goto (tgt := 35) dX8_text_89 (by decide) kK) ?_
        refine xe_loc (by simp) (ih (s.2.1 - (c + 1)) (by omega) (c + 1) T1 rfl (by omega) (hF1.mi hM) (hS.of hF1 (by decide) (by decide) (by decide)) (fun j hj => ?_) (fun T9 h8 h9 => hno T9 (FrM.tr hF1 h8) h9))
        rw [h1 j]
        by_cases hj2 : j ∈ rdl s c
        · rw [if_pos hj2]; exact congrArg bI (pB_t (wnU_s.mpr (Or.inr ⟨h49b, hj2⟩))).symm
        · rw [if_neg hj2, hI j hj]; exact congrArg bI (pB_c ⟨fun z => wnU_s.mpr (Or.inl z), fun z => (wnU_s.mp z).elim id (fun z2 => absurd z2.2 hj2)⟩)

abbrev asXX : List Nat := [112, 113, 117, 119, 118]

set_option maxHeartbeats 4000000 in
theorem c_X8_text (dep : Nat) {T : TH} {s : Sh} {ps : PS} (h : MQh T s ps) (hPX : ∀ i, i < ps.1 → PX s (ps.2 i)) (x bits : Int32) : Xe m_X8_text (dep + 2) 0 [(0, .ref 88), (1, .int x), (2, .int bits)] [] T (match ix x ps.1 with
    | none => (fun r T1 => r = some (.int (-1)) ∧ T1 = T)
    | some i => (fun r T1 => r = some (.int (nI (txt s (ps.2 i) bits).length)) ∧ FrM fsX asXX T T1 ∧ TXs T1 (txt s (ps.2 i) bits))) := by
  obtain ⟨hM, hs1, hS, hG, hP, hPG⟩ := id h
  refine xe (fun _ _ kK => x_aload_n dX8_text_0 rfl 0 rfl kK) ?_
  refine xe (fun _ _ kK => x_iload_n dX8_text_1 rfl 1 rfl kK) ?_
  refine xe_callV (a := 88) [.int x] dX8_text_2 ml_X8_251 mf_X8_isPaper hM.1 (c_X8_isPaper (dep + 1) hM hP.1 hPG.1.1 x) rfl rfl (Nat.le_of_ble_eq_true rfl) (Nat.le_of_ble_eq_true rfl) ?_
  rintro _ T9 ⟨rfl, h9⟩
  refine xe_T h9 ?_
  cases hix : ix x ps.1 with
  | none =>
    show Xe m_X8_text (dep + 2) 5 [(0, .ref 88), (1, .int x), (2, .int bits)] [.int (bI false)] T _
    refine xe (fun _ _ kK => x_if_neF (tgt := 10) dX8_text_5 (by decide) rfl kK) ?_
    refine xe (fun _ _ kK => x_iconst dX8_text_8 (show _ = (-1) by decide) kK) ?_
    exact xe_reti dX8_text_9 rfl (⟨rfl, rfl⟩)
  | some i =>
    obtain ⟨hi, rfl, hib⟩ := ix_lt hix
    show Xe m_X8_text (dep + 2) 5 [(0, .ref 88), (1, .int (nI i)), (2, .int bits)] [.int (bI true)] T _
    refine xe (fun _ _ kK => x_if_neT (tgt := 10) dX8_text_5 (by decide) (by decide) kK) ?_
    have hp30 := hPG.1.1
    have hfr := hP.2.1 (by omega)
    obtain ⟨hV, hr0, hr1, htx⟩ := hPX i hi
    obtain ⟨dp, hD⟩ := hG.2.2.1
    have hpi := hPG.1.2 i hi
    have hof2 := off_le hPG.1 (i + 1) (by omega)
    have hoe : off ps.2 (i + 1) = off ps.2 i + (ps.2 i).1 := rfl
    refine xe (fun _ _ kK => x_iconst dX8_text_10 (show _ = nI 0 by decide) kK) ?_
    refine xe (fun _ _ kK => x_istore_n dX8_text_11 rfl (by decide) (show _ = [(3, .int (nI 0)), (0, .ref 88), (1, .int (nI i)), (2, .int bits)] from rfl) kK) ?_
    refine xe_loc (by simp) (l_X8_textA (dep + 2) (s := s) (i := i) (bits := bits) hG.1.1 s.1 0 T rfl (Nat.zero_le _) hM hS (fun j hj => absurd hj (Nat.not_lt_zero _)) (fun T1 hF1 h1 => ?_))
    have hM1 := hF1.mi hM
    have hS1 := hS.of hF1 (by decide) (by decide) (by decide)
    refine xe (fun _ _ kK => x_iconst dX8_text_33 (show _ = nI 0 by decide) kK) ?_
    refine xe (fun _ _ kK => x_istore_n dX8_text_34 rfl (by decide) (show _ = [(3, .int (nI 0)), (0, .ref 88), (1, .int (nI i)), (2, .int bits)] from rfl) kK) ?_
    refine xe_loc (by simp) (l_X8_textB (dep + 2) (s := s) (i := i) (bits := bits) hG s.2.1 0 T1 rfl (Nat.zero_le _) hM1 hS1 (fun j hj => (h1 j hj).trans (congrArg bI (pB_f (fun z => by obtain ⟨c, hc, _⟩ := z; exact absurd hc (Nat.not_lt_zero _))).symm)) (fun T2 hF2 h2 => ?_))
    have hM2 := hF2.mi hM1
    have hA2 : FrM fsX asXX T T2 := FrM.tr (hF1.mono (by decide) (by decide)) (hF2.mono (by decide) (by decide))
    refine xe (fun _ _ kK => x_aload_n dX8_text_92 rfl 1 rfl kK) ?_
    refine xe (fun _ _ kK => x_iconst dX8_text_93 (show _ = nI 0 by decide) kK) ?_
    refine xe (fun _ _ kK => x_puti dX8_text_94 ⟨fl_X8_301, fz_8_50.1, fz_8_50.2.1⟩ (Or.inl fz_8_50.2.2) rfl rfl hM2.1 kK) ?_
    refine xe (fun _ _ kK => x_iconst dX8_text_97 (show _ = nI 0 by decide) kK) ?_
    refine xe (fun _ _ kK => x_istore_n dX8_text_98 rfl (by decide) (show _ = [(3, .int (nI 0)), (0, .ref 88), (1, .int (nI i)), (2, .int bits)] from rfl) kK) ?_
    refine xe (fun _ _ kK => x_aload_n dX8_text_99 rfl 1 rfl kK) ?_
    refine xe (fun _ _ kK => x_get dX8_text_100 fl_X8_105 (wK_i hM2.1) (gvl_r1 fz_8_45.2.2 (show e_r (s_i T2 562 88 (nI 0)) 557 88 = some 112 from (wr_i (hM2.2.1 45)))) kK) ?_
    refine xe (fun _ _ kK => x_iconst dX8_text_103 (show _ = nI 0 by decide) kK) ?_
    refine xe (fun _ _ kK => x_aload_n dX8_text_104 rfl 1 rfl kK) ?_
    refine xe (fun _ _ kK => x_get dX8_text_105 fl_X8_74 (wK_i hM2.1) (gvl_r1 fz_8_32.2.2 (show e_r (s_i T2 562 88 (nI 0)) 544 88 = some 102 from (wr_i (hM2.2.1 32)))) kK) ?_
    refine xe (fun _ _ kK => x_iload_n dX8_text_108 rfl 2 rfl kK) ?_
    refine xe (fun _ _ kK => x_iald dX8_text_109 (wK_i (hM2.2.2.1 13 (by decide))) (show (nI i) = nI i from rfl) (wN_i (mi_len hM2 13 (by decide) (show i < 31 by omega))) (show e_ai (s_i T2 562 88 (nI 0)) 102 i = nI (off ps.2 i) from (wai_i (show e_ai T2 102 i = _ by rw [hA2.ai (by decide)]; exact hfr i (by omega)))) kK) ?_
    refine xe (fun _ _ kK => x_iast dX8_text_110 (wK_i (hM2.2.2.1 23 (by decide))) (show (nI 0) = nI 0 from rfl) (wN_i (mi_len hM2 23 (by decide) (show 0 < 8 by omega))) kK) ?_
    refine xe (fun _ _ kK => x_aload_n dX8_text_111 rfl 1 rfl kK) ?_
    refine xe (fun _ _ kK => x_get dX8_text_112 fl_X8_126 (wK_ai (wK_i hM2.1)) (gvl_r1 fz_8_53.2.2 (show e_r (s_ai (s_i T2 562 88 (nI 0)) 112 0 (nI (off ps.2 i))) 565 88 = some 119 from (wr_ai (wr_i (hM2.2.1 53))))) kK) ?_
    refine xe (fun _ _ kK => x_iconst dX8_text_115 (show _ = nI 0 by decide) kK) ?_
    refine xe (fun _ _ kK => x_iconst dX8_text_116 (show _ = nI 0 by decide) kK) ?_
    refine xe (fun _ _ kK => x_iast dX8_text_117 (wK_ai (wK_i (hM2.2.2.1 30 (by decide)))) (show (nI 0) = nI 0 from rfl) (wN_ai (wN_i (mi_len hM2 30 (by decide) (show 0 < 8 by omega)))) kK) ?_
    refine xe (fun _ _ kK => x_aload_n dX8_text_118 rfl 1 rfl kK) ?_
    refine xe (fun _ _ kK => x_get dX8_text_119 fl_X8_108 (wK_ai (wK_ai (wK_i hM2.1))) (gvl_r1 fz_8_46.2.2 (show e_r (s_ai (s_ai (s_i T2 562 88 (nI 0)) 112 0 (nI (off ps.2 i))) 119 0 (nI 0)) 558 88 = some 113 from (wr_ai (wr_ai (wr_i (hM2.2.1 46)))))) kK) ?_
    refine xe (fun _ _ kK => x_iconst dX8_text_122 (show _ = nI 0 by decide) kK) ?_
    refine xe (fun _ _ kK => x_aload_n dX8_text_123 rfl 1 rfl kK) ?_
    refine xe (fun _ _ kK => x_get dX8_text_124 fl_X8_74 (wK_ai (wK_ai (wK_i hM2.1))) (gvl_r1 fz_8_32.2.2 (show e_r (s_ai (s_ai (s_i T2 562 88 (nI 0)) 112 0 (nI (off ps.2 i))) 119 0 (nI 0)) 544 88 = some 102 from (wr_ai (wr_ai (wr_i (hM2.2.1 32)))))) kK) ?_
    refine xe (fun _ _ kK => x_iload_n dX8_text_127 rfl 2 rfl kK) ?_
    refine xe (fun _ _ kK => x_iald dX8_text_128 (wK_ai (wK_ai (wK_i (hM2.2.2.1 13 (by decide))))) (show (nI i) = nI i from rfl) (wN_ai (wN_ai (wN_i (mi_len hM2 13 (by decide) (show i < 31 by omega))))) (show e_ai (s_ai (s_ai (s_i T2 562 88 (nI 0)) 112 0 (nI (off ps.2 i))) 119 0 (nI 0)) 102 i = nI (off ps.2 i) from (wai_ai (fun q => absurd q.1 (by decide)) (wai_ai (fun q => absurd q.1 (by decide)) (wai_i (show e_ai T2 102 i = _ by rw [hA2.ai (by decide)]; exact hfr i (by omega)))))) kK) ?_
    refine xe (fun _ _ kK => x_iconst dX8_text_129 (show _ = nI 1 by decide) kK) ?_
    refine xe (fun _ _ kK => x_iadd dX8_text_130 kK) ?_
    refine xe_ti (show _ = nI ((off ps.2 i) + 1) from nI_add (off ps.2 i) 1) ?_
    refine xe (fun _ _ kK => x_iast dX8_text_131 (wK_ai (wK_ai (wK_i (hM2.2.2.1 24 (by decide))))) (show (nI 0) = nI 0 from rfl) (wN_ai (wN_ai (wN_i (mi_len hM2 24 (by decide) (show 0 < 8 by omega))))) kK) ?_
    have hA3 : FrM fsX asXX T (s_ai (s_ai (s_ai (s_i T2 562 88 (nI 0)) 112 0 (nI (off ps.2 i))) 119 0 (nI 0)) 113 0 (nI ((off ps.2 i) + 1))) := FrM.tr hA2 (FrM.sai (FrM.sai (FrM.sai (FrM.si FrM.rf (by decide) _) (by decide) _ _) (by decide) _ _) (by decide) _ _)
    have hC3 : TCt (s_ai (s_ai (s_ai (s_i T2 562 88 (nI 0)) 112 0 (nI (off ps.2 i))) 119 0 (nI 0)) 113 0 (nI ((off ps.2 i) + 1))) s (wnB s bits) (off ps.2 i) i (ps.2 i) := ⟨hA3.mi hM, hS.of hA3 (by decide) (by decide) (by decide), (hP.2.2 i hi).ofF hA3 (by decide) (by decide) (by decide), by rw [hA3.ai (by decide)]; exact hfr (i + 1) (by omega), fun f hf => (wai_ai (fun q => absurd q.1 (by decide)) (wai_ai (fun q => absurd q.1 (by decide)) (wai_ai (fun q => absurd q.1 (by decide)) (wai_i (h2 f hf)))))⟩
    have hFx3 : Fx (s_ai (s_ai (s_ai (s_i T2 562 88 (nI 0)) 112 0 (nI (off ps.2 i))) 119 0 (nI 0)) 113 0 (nI ((off ps.2 i) + 1))) 0 (off ps.2 i) 0 0 1 := ⟨by simp [q_i_i, q_i_ai, q_i_al, q_ai_ai, q_ai_i, q_ai_al, q_al_al, q_al_i, q_al_ai], by simp [q_i_i, q_i_ai, q_i_al, q_ai_ai, q_ai_i, q_ai_al, q_al_al, q_al_i, q_al_ai], by simp [q_i_i, q_i_ai, q_i_al, q_ai_ai, q_ai_i, q_ai_al, q_al_al, q_al_i, q_al_ai]⟩
    have hX3 : TXs (s_ai (s_ai (s_ai (s_i T2 562 88 (nI 0)) 112 0 (nI (off ps.2 i))) 119 0 (nI 0)) 113 0 (nI ((off ps.2 i) + 1))) [] := ⟨by simp [q_i_i, q_i_ai, q_i_al, q_ai_ai, q_ai_i, q_ai_al, q_al_al, q_al_i, q_al_ai], fun q9 c9 h9 => by simp at h9⟩
    generalize hT3 : (s_ai (s_ai (s_ai (s_i T2 562 88 (nI 0)) 112 0 (nI (off ps.2 i))) 119 0 (nI 0)) 113 0 (nI ((off ps.2 i) + 1))) = T3 at hA3 hC3 hFx3 hX3 ⊢
    have htx0 : rsF s (ps.2 i) (wnB s bits) (ITk s (ps.2 i) (wnB s bits) 4) 0 0 (0 + 1) = txt s (ps.2 i) bits := by rw [rsF_0 (Nat.zero_le _)]; rfl
    have hln := htx (wnB s bits)
    refine xe_loc (by simp) (l_X8_textN dep (bits := bits) (P := _) hG.1 hD hpi.1 hV (by omega) (by omega) 4 0 0 rfl hpi.2.2 (by unfold DpN; rw [hr0]) s.1 0 rfl (Nat.zero_le _) ((ps.2 i).1 - 1) 1 T3 [] rfl (by omega) hpi.2.2 hC3 hFx3 hX3 (by rw [htx0]; show 0 + (txN s (ps.2 i) (wnB s bits) 5 0).length ≤ _; omega) (fun T4 hF4 _ hX4 => ?_))
    rw [htx0, List.nil_append] at hX4
    have hA4 : FrM fsX asXX T T4 := FrM.tr hA3 (hF4.mono (by decide) (by decide))
    have hM4 := hA4.mi hM
    refine xe (fun _ _ kK => x_iload_n dX8_text_156 rfl 0 rfl kK) ?_
    refine xe (fun _ _ kK => x_if_geF (tgt := 163) dX8_text_157 (by decide) (by decide) kK) ?_
    refine xe (fun _ _ kK => x_goto (tgt := 132) dX8_text_160 (by decide) kK) ?_
    refine xe (fun _ _ kK => x_iload_n dX8_text_132 rfl 0 rfl kK) ?_
    refine xe (fun _ _ kK => x_if_ltT (tgt := 435) dX8_text_133 (by decide) (by decide) kK) ?_
    refine xe (fun _ _ kK => x_aload_n dX8_text_435 rfl 1 rfl kK) ?_
    refine xe (fun _ _ kK => x_get dX8_text_436 fl_X8_301 hM4.1 (gvl_i fz_8_50.2.2 (show e_i T4 562 88 = nI (txt s (ps.2 i) bits).length from hX4.1)) kK) ?_
    exact xe_reti dX8_text_439 rfl (⟨rfl, hA4, hX4⟩)

set_option maxHeartbeats 4000000 in
theorem c_X8_text0 (d : Nat) {T : TH} (hM : MI T) (hp0 : e_i T 543 88 = nI 0) (x bits : Int32) : Xe m_X8_text (d + 1) 0 [(0, .ref 88), (1, .int x), (2, .int bits)] [] T (fun r T1 => r = some (.int (-1)) ∧ T1 = T) := by
  refine xe (fun _ _ kK => x_aload_n dX8_text_0 rfl 0 rfl kK) ?_
  refine xe (fun _ _ kK => x_iload_n dX8_text_1 rfl 1 rfl kK) ?_
  refine xe_callV (a := 88) [.int x] dX8_text_2 ml_X8_251 mf_X8_isPaper hM.1 (c_X8_isPaper (n := 0) d hM hp0 (by omega) x) rfl rfl (Nat.le_of_ble_eq_true rfl) (Nat.le_of_ble_eq_true rfl) ?_
  rintro _ T9 ⟨rfl, h9⟩
  refine xe_T h9 ?_
  have e9 : ix x 0 = none := by cases h9 : ix x 0 with | none => rfl | some j => exact absurd (ix_lt h9).1 (Nat.not_lt_zero _)
  rw [e9]
  refine xe (fun _ _ kK => x_if_neF (tgt := 10) dX8_text_5 (by decide) rfl kK) ?_
  refine xe (fun _ _ kK => x_iconst dX8_text_8 (show _ = (-1) by decide) kK) ?_
  exact xe_reti dX8_text_9 rfl (⟨rfl, rfl⟩)
