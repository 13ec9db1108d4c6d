/-! a leaf's TABLE -/
def tbl (M : Nat → Nat) (r : List Nat) (pp : Nat → Pa) : Nat → List Row
  | 0 => []
  | n + 1 => tbl M r pp n ++ rwG M (pp n) n r 0 0 0 0
abbrev fsTb : List Nat := [549, 551]
abbrev asTb : List Nat := [106, 107, 108, 109, 110, 111, 112, 113, 114, 115, 116]
theorem MP.ofF {fs as : List Nat} {T T1 : TH} {ps : PS} (h : MP T ps) (hF : FrM fs as T T1) (h1 : 543 ∉ fs) (h2 : 102 ∉ as) (h3 : 103 ∉ as) (h4 : 104 ∉ as) (h5 : 105 ∉ as) : MP T1 ps :=
  h.of (hF.i (fun q => h1 q.2)) (fun i _ _ => by rw [hF.ai h2]) (fun j _ => ⟨by rw [hF.ai h3], by rw [hF.ai h4], by rw [hF.al h5]⟩)
theorem tbl_len (M : Nat → Nat) (r : List Nat) (pp : Nat → Pa) : ∀ (k i : Nat), (tbl M r pp i).length ≤ (tbl M r pp (i + k)).length := by
  intro k
  induction k with
  | zero => intro i; exact Nat.le_refl _
  | succ k ih => intro i; have := ih i; show _ ≤ (tbl M r pp (i + k) ++ _).length; rw [List.length_append]; omega

set_option maxHeartbeats 4000000 in
theorem l_X8_table (d : Nat) {s : Sh} {ps : PS} {f c : Nat} {fs : List Nat} {P : Option Value → TH → Prop} (hB : ShB s) (hpk : PpOk s ps) (hr5 : (f :: fs).length ≤ 5) (hlt : ∀ x ∈ f :: fs, x < s.1) (hlen : (tbl s.2.2.2.2.2.1 (f :: fs) ps.2 ps.1).length ≤ 6300) : ∀ (m i : Nat) (T : TH), ps.1 - i = m → i ≤ ps.1 → MI T → MSh T s → RD T (f :: fs) → MP T ps → MRw T (tbl s.2.2.2.2.2.1 (f :: fs) ps.2 i) → (∀ T', FrM fsB asB T T' → RD T' (f :: fs) → MRw T' (tbl s.2.2.2.2.2.1 (f :: fs) ps.2 ps.1) → P none T') → Xe m_X8_table (d + 1) 12 [(2, .int (nI i)), (0, .ref 88), (1, .int (nI c))] [] T P := by
  intro m
  induction m using Nat.strongRecOn with
  | ind m ih =>
    intro i T hm hi hM hS hR hP hW hno
    subst hm
    have hs60 := hB.1
    have hp30 := hpk.1
    refine xe (fun _ _ kK => x_iload_n dX8_table_12 rfl 0 rfl kK) ?_
    refine xe (fun _ _ kK => x_aload_n dX8_table_13 rfl 1 rfl kK) ?_
    refine xe (fun _ _ kK => x_get dX8_table_14 fl_X8_214 hM.1 (gvl_i fz_8_31.2.2 (show e_i T 543 88 = nI ps.1 from hP.1)) kK) ?_
    refine xe_icmp_ge (tgt := 271) dX8_table_17 (by decide) (fun h17 => ?_) (fun h17 => ?_)
    · -- pc 271
      have h17 := cv_le (by omega) (by omega) h17
      have e9 : i = ps.1 := by omega
      subst e9
      exact xe_retv dX8_table_271 rfl (hno T FrM.rf hR hW)
    · -- pc 20
      have h17 := cv_nle (by omega) (by omega) h17
      have hpi := hpk.2 i h17
      have hof := off_le hpk i (by omega)
      have hof2 := off_le hpk (i + 1) (by omega)
      have hoe : off ps.2 (i + 1) = off ps.2 i + (ps.2 i).1 := rfl
      refine xe (fun _ _ kK => x_iconst dX8_table_20 (show _ = nI 0 by decide) kK) ?_
      refine xe (fun _ _ kK => x_istore_n dX8_table_21 rfl (by decide) (show _ = [(3, .int (nI 0)), (2, .int (nI i)), (0, .ref 88), (1, .int (nI c))] from rfl) kK) ?_
      refine xe (fun _ _ kK => x_aload_n dX8_table_22 rfl 2 rfl kK) ?_
      refine xe (fun _ _ kK => x_iconst dX8_table_23 (show _ = nI 0 by decide) kK) ?_
      refine xe (fun _ _ kK => x_aload_n dX8_table_24 rfl 2 rfl kK) ?_
      refine xe (fun _ _ kK => x_get dX8_table_25 fl_X8_74 hM.1 (gvl_r1 fz_8_32.2.2 (show e_r T 544 88 = some 102 from (hM.2.1 32))) kK) ?_
      refine xe (fun _ _ kK => x_iload_n dX8_table_28 rfl 1 rfl kK) ?_
      refine xe (fun _ _ kK => x_iald dX8_table_29 (hM.2.2.1 13 (by decide)) (show (nI i) = nI i from rfl) (mi_len hM 13 (by decide) (show i < 31 by omega)) (show e_ai T 102 i = nI (off ps.2 i) from (hP.2.1 (by omega) i (by omega))) kK) ?_
      refine xe (fun _ _ kK => x_iconst dX8_table_30 (show _ = nI 0 by decide) kK) ?_
      refine xe (fun _ _ kK => x_iconst dX8_table_31 (show _ = nI 0 by decide) kK) ?_
      refine xe_callV (a := 88) [.int (nI 0), .int (nI (off ps.2 i)), .int (nI 0), .int (nI 0)] dX8_table_32 ml_X8_263 mf_X8_steps hM.1 (c_X8_steps d hM (dd := 0) (by decide) (off ps.2 i) (nI 0) (nI 0)) rfl rfl (Nat.le_of_ble_eq_true rfl) (Nat.le_of_ble_eq_true rfl) ?_
      rintro _ _ ⟨rfl, rfl⟩
      have hF1 : FrM fsB asB T (s_ai (s_ai (s_ai (s_ai (s_ai T 112 0 (nI (off ps.2 i))) 113 0 (nI (off ps.2 i + 1))) 114 0 (nI 0)) 115 0 (nI 0)) 116 0 (nI 0)) := (FrM.sai (FrM.sai (FrM.sai (FrM.sai (FrM.sai FrM.rf (by decide) _ _) (by decide) _ _) (by decide) _ _) (by decide) _ _) (by decide) _ _)
      have hC0 : TC T s (f :: fs) (off ps.2 i) i (ps.2 i) := ⟨hM, hS, hR, hP.2.2 i h17, hP.2.1 (by omega) (i + 1) (by omega)⟩
      have hW1 : MRw (s_ai (s_ai (s_ai (s_ai (s_ai T 112 0 (nI (off ps.2 i))) 113 0 (nI (off ps.2 i + 1))) 114 0 (nI 0)) 115 0 (nI 0)) 116 0 (nI 0)) (tbl s.2.2.2.2.2.1 (f :: fs) ps.2 i) := hW.of (wi_ai (wi_ai (wi_ai (wi_ai (wi_ai rfl))))) (fun a ha => by simp only [List.mem_cons, List.not_mem_nil, or_false] at ha; rcases ha with rfl | rfl | rfl | rfl <;> rfl) rfl
      have hFm1 : Fm (s_ai (s_ai (s_ai (s_ai (s_ai T 112 0 (nI (off ps.2 i))) 113 0 (nI (off ps.2 i + 1))) 114 0 (nI 0)) 115 0 (nI 0)) 116 0 (nI 0)) 0 (off ps.2 i) 0 1 0 0 0 := ⟨by simp [q_i_i, q_i_ai, q_i_al, q_ai_ai, q_ai_i, q_ai_al, q_al_al, q_al_i, q_al_ai], by simp [q_i_i, q_i_ai, q_i_al, q_ai_ai, q_ai_i, q_ai_al, q_al_al, q_al_i, q_al_ai], by simp [q_i_i, q_i_ai, q_i_al, q_ai_ai, q_ai_i, q_ai_al, q_al_al, q_al_i, q_al_ai], by simp [q_i_i, q_i_ai, q_i_al, q_ai_ai, q_ai_i, q_ai_al, q_al_al, q_al_i, q_al_ai], by simp [q_i_i, q_i_ai, q_i_al, q_ai_ai, q_ai_i, q_ai_al, q_al_al, q_al_i, q_al_ai]⟩
      have hrw : rwG s.2.2.2.2.2.1 (ps.2 i) i (f :: fs) 0 0 0 0 = rst (bdy s.2.2.2.2.2.1 (ps.2 i) i f fs 0 (mc s.2.2.2.2.2.1 ([] ++ [f]))) (0, 0, false, lN 0, i) 0 (mc s.2.2.2.2.2.1 ([] ++ [f])) 0 (ch (ps.2 i) 0 f 1) := by rw [rwG_eq, List.nil_append, mc_1, Nat.zero_add]
      have hlen2 : (tbl s.2.2.2.2.2.1 (f :: fs) ps.2 (i + 1)).length ≤ 6300 := by have := tbl_len s.2.2.2.2.2.1 (f :: fs) ps.2 (ps.1 - (i + 1)) (i + 1); rw [show i + 1 + (ps.1 - (i + 1)) = ps.1 by omega] at this; omega
      have htb : tbl s.2.2.2.2.2.1 (f :: fs) ps.2 (i + 1) = tbl s.2.2.2.2.2.1 (f :: fs) ps.2 i ++ rwG s.2.2.2.2.2.1 (ps.2 i) i (f :: fs) 0 0 0 0 := rfl
      rw [htb, List.length_append, hrw] at hlen2
      refine xe_loc (L' := [(3, .int (nI 0)), (2, .int (nI i)), (0, .ref 88), (1, .int (nI c))]) (by simp) ?_
      refine l_X8_walk d hB hpi.1 (by omega) (by omega) (by omega) hr5 hlt fs [] f 0 rfl rfl (mc s.2.2.2.2.2.1 ([] ++ [f])) rfl 0 0 0 hpi.2.2 (Nat.le_refl _) (Nat.zero_le _) ((ps.2 i).1 - 1) 1 0 (s_ai (s_ai (s_ai (s_ai (s_ai T 112 0 (nI (off ps.2 i))) 113 0 (nI (off ps.2 i + 1))) 114 0 (nI 0)) 115 0 (nI 0)) 116 0 (nI 0)) _ rfl hpi.2.2 (by omega) (hC0.of hF1) hFm1 hW1 hlen2 (fun T9 hF9 hL9 hR9 => ?_)
      have hF8 : FrM fsB asB T T9 := FrM.tr hF1 hF9
      refine xe (fun _ _ kK => x_iload_n dX8_table_35 rfl 0 rfl kK) ?_
      refine xe (fun _ _ kK => x_if_ltT (tgt := 265) dX8_table_36 (by decide) (by decide) kK) ?_
      refine xe (fun _ _ kK => x_iinc dX8_table_265 1 rfl (show (nI i) + Int32.ofInt 1 = nI (i + 1) from nI_add i 1) (by decide) (show _ = [(2, .int (nI (i + 1))), (3, .int (nI 0 + Int32.ofInt (-1))), (0, .ref 88), (1, .int (nI c))] from rfl) kK) ?_
      refine xe (fun _ _ kK => x_goto (tgt := 12) dX8_table_268 (by decide) kK) ?_
      refine xe_loc (by simp) (ih (ps.1 - (i + 1)) (by omega) (i + 1) T9 rfl (by omega) (hF8.mi hM) (hS.of hF8 (by decide) (by decide) (by decide)) (hR.of hF8 (by decide) (by decide)) (hP.ofF hF8 (by decide) (by decide) (by decide) (by decide) (by decide)) (by rw [htb, hrw]; exact hR9) (fun T7 hF7 h1 h2 => hno T7 (FrM.tr hF8 hF7) h1 h2))

set_option maxHeartbeats 4000000 in
theorem c_X8_table (d : Nat) {T : TH} {s : Sh} {ps : PS} {c : Nat} {l : List Nat} (hM : MI T) (hS : MSh T s) (hB : ShB s) (hP : MP T ps) (hpk : PpOk s ps) (hc : c < s.2.1) (hc12 : s.2.1 ≤ 12) (hl : Chn s.2.2.1 (some (s.2.2.2.2.2.2 c)) l) (hlt : ∀ f ∈ l, f < s.1) (hl5 : l.length ≤ 5) (hlen : (tbl s.2.2.2.2.2.1 l.reverse ps.2 ps.1).length ≤ 6300) : Xe m_X8_table (d + 1) 0 [(0, .ref 88), (1, .int (nI c))] [] T (fun r9 T1 => r9 = none ∧ FrM fsTb asTb T T1 ∧ RD T1 l.reverse ∧ MRw T1 (tbl s.2.2.2.2.2.1 l.reverse ps.2 ps.1)) := by
  refine xe (fun _ _ kK => x_aload_n dX8_table_0 rfl 0 rfl kK) ?_
  refine xe (fun _ _ kK => x_iload_n dX8_table_1 rfl 1 rfl kK) ?_
  refine xe_callV (a := 88) [.int (nI c)] dX8_table_2 ml_X8_260 mf_X8_roadOf hM.1 (c_X8_roadOf d hM hS hB.1 hc hc12 hl hlt hl5) rfl rfl (Nat.le_of_ble_eq_true rfl) (Nat.le_of_ble_eq_true rfl) ?_
  rintro _ T1 ⟨rfl, hF1, hR1⟩
  refine xe (fun _ _ kK => x_aload_n dX8_table_5 rfl 0 rfl kK) ?_
  refine xe (fun _ _ kK => x_iconst dX8_table_6 (show _ = nI 0 by decide) kK) ?_
  refine xe (fun _ _ kK => x_puti dX8_table_7 ⟨fl_X8_257, fz_8_39.1, fz_8_39.2.1⟩ (Or.inl fz_8_39.2.2) rfl rfl (hF1.mi hM).1 kK) ?_
  refine xe (fun _ _ kK => x_iconst dX8_table_10 (show _ = nI 0 by decide) kK) ?_
  refine xe (fun _ _ kK => x_istore_n dX8_table_11 rfl (by decide) (show _ = [(2, .int (nI 0)), (0, .ref 88), (1, .int (nI c))] from rfl) kK) ?_
  obtain ⟨f, fs, hrv⟩ : ∃ f fs, l.reverse = f :: fs := by
    cases hlr : l.reverse with
    | nil => exfalso; have : l = [] := List.reverse_eq_nil_iff.mp hlr; subst this; cases hl
    | cons f fs => exact ⟨f, fs, rfl⟩
  rw [hrv] at hR1 hlen ⊢
  have hF2 : FrM fsTb asTb T (s_i T1 551 88 (nI 0)) := FrM.si (hF1.mono (by decide) (by decide)) (by decide) _
  have hR2 : RD (s_i T1 551 88 (nI 0)) (f :: fs) := ⟨(wi_i (fun q => absurd q.1 (by decide)) hR1.1), hR1.2⟩
  have hlr5 : (f :: fs).length ≤ 5 := by rw [← hrv, List.length_reverse]; exact hl5
  refine xe_loc (L' := [(2, .int (nI 0)), (0, .ref 88), (1, .int (nI c))]) (by simp) ?_
  refine (l_X8_table d (c := c) hB hpk hlr5 (fun x hx => hlt x (List.mem_reverse.mp (by rw [hrv]; exact hx))) hlen ps.1 0 _ rfl (Nat.zero_le _) (hF2.mi hM) (hS.of hF2 (by decide) (by decide) (by decide)) hR2 (hP.ofF hF2 (by decide) (by decide) (by decide) (by decide) (by decide)) ⟨rfl, fun k r9 hk => by simp [tbl] at hk⟩ (fun T7 hF7 h1 h2 => ⟨rfl, FrM.tr hF2 (hF7.mono (by decide) (by decide)), h1, h2⟩))
