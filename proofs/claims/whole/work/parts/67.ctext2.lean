/-! the class's writer of TEXTS -/
def TWc (T : TH) (wr cu : Nat) (bits : Int32) : Prop := e_K T wr = 7 ∧ e_r T 384 wr = some cu ∧ e_r T 385 wr = some 3 ∧ e_i T 386 wr = bits ∧ e_r T 387 wr = some 64 ∧ e_r T 388 wr = some (wr + 1) ∧ e_K T (wr + 1) = 20 ∧ e_len T (wr + 1) = 12
def HD (T : TH) (wr : Nat) (s : Sh) (bits : Int32) (h : Nat → Nat) : Prop := ∀ c, c < s.2.1 → bitOn bits c → e_ai T (wr + 1) c = nI (h c)
def WSt (T : TH) (wr cu : Nat) (bits : Int32) (s : Sh) (en : Nat → Nat) (lo : Nat → Option Nat) (A : Nat → Nat → Nat) (cp : Nat → Nat) (RR : Nat → List Row) (R : List Nat) (h : Nat → Nat) : Prop :=
  CI T ∧ CSp T cu s en lo ∧ MsK T cu s s.1 ∧ TWc T wr cu bits ∧ HD T wr s bits h ∧ TbA T A cp ∧ (∀ c, c < s.2.1 → TbR T A cp c (RR c) ∧ TbL T s c) ∧ CTx T R ∧ 120 ≤ wr ∧ ∀ c k, c < 12 → k < 4 → A c k ≠ wr + 1
/-- what stays: the shape and the rows -/
def WZ (cu : Nat) (s : Sh) (en : Nat → Nat) (lo : Nat → Option Nat) (RR : Nat → List Row) : Prop := (cu = 66 ∨ cu = 77) ∧ ShV s [] en lo ∧ (s.1 ≤ 60 ∧ s.2.1 ≤ 12) ∧ (∀ f g, f < s.1 → s.2.2.1 f = some g → g < f) ∧ (∀ f, f < s.1 → s.2.2.2.1 f < 27 ^ 8) ∧ ∀ c, c < s.2.1 → RwOk (RR c) ∧ HsOk (RR c) (dc s.2.2.2.2.2.1 (road s c))
theorem WSt.of {T T1 : TH} {wr cu : Nat} {bits : Int32} {s : Sh} {en : Nat → Nat} {lo : Nat → Option Nat} {A : Nat → Nat → Nat} {cp : Nat → Nat} {RR : Nat → List Row} {R R' : List Nat} {h h' : Nat → Nat} (hW : WSt T wr cu bits s en lo A cp RR R h) (hZ : WZ cu s en lo RR) (hF : FrG [(321, 64)] [65, wr + 1] T T1) (hX : CTx T1 R') (hH : HD T1 wr s bits h') : WSt T1 wr cu bits s en lo A cp RR R' h' := by
  obtain ⟨w1, w2, w3, w4, w5, w6, w7, w8, w9, w10⟩ := hW
  obtain ⟨hu, -, ⟨-, h12⟩, -⟩ := hZ
  obtain ⟨t1, t2, t3, t4, t5, t6, t7, t8⟩ := w4
  refine ⟨hF.ci w1, w2.of hF (by simp) (by simp) (fun k hk => by simp at hk ⊢; omega), w3.of hF (by simp; omega) (by simp; omega) (by simp; omega), ⟨by rw [hF.1]; exact t1, by rw [hF.2.1]; exact t2, by rw [hF.2.1]; exact t3, (hF.i (by simp)).trans t4, by rw [hF.2.1]; exact t5, by rw [hF.2.1]; exact t6, by rw [hF.1]; exact t7, by rw [hF.2.2.1]; exact t8⟩, hH, w6.ofG hF, fun c hc => ⟨(w7 c hc).1.ofG hF (by simp) (fun k hk => ?_), ?_⟩, hX, w9, w10⟩
  · have := w10 c k (by omega) hk
    have := (w6.2.1 c k (by omega) hk).2.2.2.2
    simp; omega
  · obtain ⟨m1, m2, m3, m4⟩ := (w7 c hc).2
    exact ⟨(hF.i (by simp)).trans m1, (hF.i (by simp)).trans m2, (hF.i (by simp)).trans m3, (hF.i (by simp)).trans m4⟩
theorem HD.of {I : List (Nat × Nat)} {B : List Nat} {T T1 : TH} {wr : Nat} {s : Sh} {bits : Int32} {h : Nat → Nat} (hH : HD T wr s bits h) (hF : FrG I B T T1) (h1 : wr + 1 ∉ B) : HD T1 wr s bits h := fun c hc hb => by rw [hF.ai h1]; exact hH c hc hb
theorem WSt.tx {T T1 : TH} {wr cu : Nat} {bits : Int32} {s : Sh} {en : Nat → Nat} {lo : Nat → Option Nat} {A : Nat → Nat → Nat} {cp : Nat → Nat} {RR : Nat → List Row} {R R' : List Nat} {h : Nat → Nat} (hW : WSt T wr cu bits s en lo A cp RR R h) (hZ : WZ cu s en lo RR) (hF : FrG [(321, 64)] [65] T T1) (hX : CTx T1 R') : WSt T1 wr cu bits s en lo A cp RR R' h := hW.of hZ (hF.mono (fun _ z => z) (by simp)) hX (hW.2.2.2.2.1.of hF (by have := hW.2.2.2.2.2.2.2.2.1; simp; omega))
theorem WSt.tb {T : TH} {wr cu : Nat} {bits : Int32} {s : Sh} {en : Nat → Nat} {lo : Nat → Option Nat} {A : Nat → Nat → Nat} {cp : Nat → Nat} {RR : Nat → List Row} {R : List Nat} {h : Nat → Nat} (hW : WSt T wr cu bits s en lo A cp RR R h) (h12 : s.2.1 ≤ 12) {c : Nat} (hc : c < s.2.1) : Tb T (4 + 5 * c) (A c 0) (A c 1) (A c 2) (A c 3) (cp c) (RR c) (dc s.2.2.2.2.2.1 (road s c)) (mc s.2.2.2.2.2.1 (road s c)) ((road s c).length - 1) (decide (s.2.2.2.2.1 (s.2.2.2.2.2.2 c) = 0)) := hW.2.2.2.2.2.1.tb (by omega) (hW.2.2.2.2.2.2.1 c hc).1 (hW.2.2.2.2.2.2.1 c hc).2

set_option maxHeartbeats 4000000 in
theorem c_X6_wantedY (d : Nat) {T : TH} {wr cu : Nat} {bits : Int32} {s : Sh} {en : Nat → Nat} {lo : Nat → Option Nat} {A : Nat → Nat → Nat} {cp : Nat → Nat} {RR : Nat → List Row} {R : List Nat} {h : Nat → Nat} (hW : WSt T wr cu bits s en lo A cp RR R h) (hZ : WZ cu s en lo RR) {c : Nat} (hc : c < s.2.1) (hb : bitOn bits c) : Xe m_X6_wantedTable d 0 [(0, .ref wr), (1, .int (nI c))] [] T (fun r T1 => r = some (.ref (4 + 5 * c)) ∧ T1 = T) := by
  obtain ⟨hC, hS, hK, hTW, hHD, hA, hTR, hX, hwr, hsep⟩ := id hW
  obtain ⟨hu, hV, ⟨hs60, h12⟩, hWl, hNb, hRO⟩ := id hZ
  refine xe (fun _ _ kK => x_iload_n dX6_wantedTable_0 rfl 1 rfl kK) ?_
  refine xe (fun _ _ kK => x_if_ltF (tgt := 34) dX6_wantedTable_1 (by decide) (nI_pos (by omega)) kK) ?_
  refine xe (fun _ _ kK => x_iload_n dX6_wantedTable_4 rfl 1 rfl kK) ?_
  refine xe (fun _ _ kK => x_aload_n dX6_wantedTable_5 rfl 0 rfl kK) ?_
  refine xe (fun _ _ kK => x_get dX6_wantedTable_6 fl_X6_9 hTW.1 (gvl_r1 fz_6_0.2.2 (show e_r T 384 wr = some cu from hTW.2.1)) kK) ?_
  refine xe (fun _ _ kK => x_get dX6_wantedTable_9 fl_X6_50 hS.1.1 (gvl_i fz_1_11.2.2 (show e_i T 75 cu = nI s.2.1 from hS.2.2.1)) kK) ?_
  refine xe (fun _ _ kK => x_icmp_geF (tgt := 34) dX6_wantedTable_12 (by decide) (fun z9 => by have := cv_le (by omega) (by omega) z9; omega) kK) ?_
  refine xe (fun _ _ kK => x_iload_n dX6_wantedTable_15 rfl 1 rfl kK) ?_
  refine xe (fun _ _ kK => x_bipush dX6_wantedTable_16 (show _ = nI 12 by decide) kK) ?_
  refine xe (fun _ _ kK => x_icmp_geF (tgt := 34) dX6_wantedTable_18 (by decide) (fun z9 => by have := cv_le (by omega) (by omega) z9; omega) kK) ?_
  refine xe (fun _ _ kK => x_iload_n dX6_wantedTable_21 rfl 1 rfl kK) ?_
  refine xe (fun _ _ kK => x_aload_n dX6_wantedTable_22 rfl 0 rfl kK) ?_
  refine xe (fun _ _ kK => x_get dX6_wantedTable_23 fl_X6_15 hTW.1 (gvl_r1 fz_6_1.2.2 (show e_r T 385 wr = some 3 from hTW.2.2.1)) kK) ?_
  refine xe (fun _ _ kK => x_alen (j := 0) dX6_wantedTable_26 (by rw [hC.2.2.2.2.2.2.2.2.1]; decide) (show nI (e_len T 3) = nI 12 from congrArg nI hC.2.2.2.2.2.2.2.2.2.1) kK) ?_
  refine xe (fun _ _ kK => x_icmp_geF (tgt := 34) dX6_wantedTable_27 (by decide) (fun z9 => by have := cv_le (by omega) (by omega) z9; omega) kK) ?_
  refine xe (fun _ _ kK => x_iconst dX6_wantedTable_30 (show _ = nI 1 by decide) kK) ?_
  refine xe (fun _ _ kK => x_goto (tgt := 35) dX6_wantedTable_31 (by decide) kK) ?_
  refine xe (fun _ _ kK => x_istore_n dX6_wantedTable_35 rfl (by decide) (show _ = [(2, .int (nI 1)), (0, .ref wr), (1, .int (nI c))] from rfl) kK) ?_
  refine xe (fun _ _ kK => x_iload_n dX6_wantedTable_36 rfl 0 rfl kK) ?_
  refine xe (fun _ _ kK => x_if_eqF (tgt := 61) dX6_wantedTable_37 (by decide) (show ¬ nI 1 = 0 by decide) kK) ?_
  refine xe (fun _ _ kK => x_aload_n dX6_wantedTable_40 rfl 1 rfl kK) ?_
  refine xe (fun _ _ kK => x_get dX6_wantedTable_41 fl_X6_19 hTW.1 (gvl_i fz_6_2.2.2 (show e_i T 386 wr = bits from hTW.2.2.2.1)) kK) ?_
  refine xe (fun _ _ kK => x_iload_n dX6_wantedTable_44 rfl 2 rfl kK) ?_
  refine xe (fun _ _ kK => x_ishr dX6_wantedTable_45 kK) ?_
  refine xe (fun _ _ kK => x_iconst dX6_wantedTable_46 (show _ = nI 1 by decide) kK) ?_
  refine xe (fun _ _ kK => x_iand dX6_wantedTable_47 kK) ?_
  refine xe (fun _ _ kK => x_iconst dX6_wantedTable_48 (show _ = nI 1 by decide) kK) ?_
  refine xe (fun _ _ kK => x_icmp_neF (tgt := 61) dX6_wantedTable_49 (by decide) hb kK) ?_
  refine xe (fun _ _ kK => x_aload_n dX6_wantedTable_52 rfl 1 rfl kK) ?_
  refine xe (fun _ _ kK => x_get dX6_wantedTable_53 fl_X6_15 hTW.1 (gvl_r1 fz_6_1.2.2 (show e_r T 385 wr = some 3 from hTW.2.2.1)) kK) ?_
  refine xe (fun _ _ kK => x_iload_n dX6_wantedTable_56 rfl 2 rfl kK) ?_
  refine xe (fun _ _ kK => x_aald dX6_wantedTable_57 hC.2.2.2.2.2.2.2.2.1 (show (nI c) = nI c from rfl) (by rw [hC.2.2.2.2.2.2.2.2.2.1]; omega) (show va_rf (e_ar T 3 c) = .ref (4 + 5 * c) from congrArg va_rf (hC.2.2.2.2.2.2.2.2.2.2.1 c (by omega))) kK) ?_
  refine xe (fun _ _ kK => x_goto (tgt := 62) dX6_wantedTable_58 (by decide) kK) ?_
  exact xe_reta dX6_wantedTable_62 rfl (⟨rfl, rfl⟩)

set_option maxHeartbeats 4000000 in
theorem c_X6_wantedN (d : Nat) {T : TH} {wr cu : Nat} {bits : Int32} {s : Sh} {en : Nat → Nat} {lo : Nat → Option Nat} {A : Nat → Nat → Nat} {cp : Nat → Nat} {RR : Nat → List Row} {R : List Nat} {h : Nat → Nat} (hW : WSt T wr cu bits s en lo A cp RR R h) (hZ : WZ cu s en lo RR) {c : Nat} (hc : c < s.2.1) (hb : ¬ bitOn bits c) : Xe m_X6_wantedTable d 0 [(0, .ref wr), (1, .int (nI c))] [] T (fun r T1 => r = some .null ∧ T1 = T) := by
  obtain ⟨hC, hS, hK, hTW, hHD, hA, hTR, hX, hwr, hsep⟩ := id hW
  obtain ⟨hu, hV, ⟨hs60, h12⟩, hWl, hNb, hRO⟩ := id hZ
  refine xe (fun _ _ kK => x_iload_n dX6_wantedTable_0 rfl 1 rfl kK) ?_
  refine xe (fun _ _ kK => x_if_ltF (tgt := 34) dX6_wantedTable_1 (by decide) (nI_pos (by omega)) kK) ?_
  refine xe (fun _ _ kK => x_iload_n dX6_wantedTable_4 rfl 1 rfl kK) ?_
  refine xe (fun _ _ kK => x_aload_n dX6_wantedTable_5 rfl 0 rfl kK) ?_
  refine xe (fun _ _ kK => x_get dX6_wantedTable_6 fl_X6_9 hTW.1 (gvl_r1 fz_6_0.2.2 (show e_r T 384 wr = some cu from hTW.2.1)) kK) ?_
  refine xe (fun _ _ kK => x_get dX6_wantedTable_9 fl_X6_50 hS.1.1 (gvl_i fz_1_11.2.2 (show e_i T 75 cu = nI s.2.1 from hS.2.2.1)) kK) ?_
  refine xe (fun _ _ kK => x_icmp_geF (tgt := 34) dX6_wantedTable_12 (by decide) (fun z9 => by have := cv_le (by omega) (by omega) z9; omega) kK) ?_
  refine xe (fun _ _ kK => x_iload_n dX6_wantedTable_15 rfl 1 rfl kK) ?_
  refine xe (fun _ _ kK => x_bipush dX6_wantedTable_16 (show _ = nI 12 by decide) kK) ?_
  refine xe (fun _ _ kK => x_icmp_geF (tgt := 34) dX6_wantedTable_18 (by decide) (fun z9 => by have := cv_le (by omega) (by omega) z9; omega) kK) ?_
  refine xe (fun _ _ kK => x_iload_n dX6_wantedTable_21 rfl 1 rfl kK) ?_
  refine xe (fun _ _ kK => x_aload_n dX6_wantedTable_22 rfl 0 rfl kK) ?_
  refine xe (fun _ _ kK => x_get dX6_wantedTable_23 fl_X6_15 hTW.1 (gvl_r1 fz_6_1.2.2 (show e_r T 385 wr = some 3 from hTW.2.2.1)) kK) ?_
  refine xe (fun _ _ kK => x_alen (j := 0) dX6_wantedTable_26 (by rw [hC.2.2.2.2.2.2.2.2.1]; decide) (show nI (e_len T 3) = nI 12 from congrArg nI hC.2.2.2.2.2.2.2.2.2.1) kK) ?_
  refine xe (fun _ _ kK => x_icmp_geF (tgt := 34) dX6_wantedTable_27 (by decide) (fun z9 => by have := cv_le (by omega) (by omega) z9; omega) kK) ?_
  refine xe (fun _ _ kK => x_iconst dX6_wantedTable_30 (show _ = nI 1 by decide) kK) ?_
  refine xe (fun _ _ kK => x_goto (tgt := 35) dX6_wantedTable_31 (by decide) kK) ?_
  refine xe (fun _ _ kK => x_istore_n dX6_wantedTable_35 rfl (by decide) (show _ = [(2, .int (nI 1)), (0, .ref wr), (1, .int (nI c))] from rfl) kK) ?_
  refine xe (fun _ _ kK => x_iload_n dX6_wantedTable_36 rfl 0 rfl kK) ?_
  refine xe (fun _ _ kK => x_if_eqF (tgt := 61) dX6_wantedTable_37 (by decide) (show ¬ nI 1 = 0 by decide) kK) ?_
  refine xe (fun _ _ kK => x_aload_n dX6_wantedTable_40 rfl 1 rfl kK) ?_
  refine xe (fun _ _ kK => x_get dX6_wantedTable_41 fl_X6_19 hTW.1 (gvl_i fz_6_2.2.2 (show e_i T 386 wr = bits from hTW.2.2.2.1)) kK) ?_
  refine xe (fun _ _ kK => x_iload_n dX6_wantedTable_44 rfl 2 rfl kK) ?_
  refine xe (fun _ _ kK => x_ishr dX6_wantedTable_45 kK) ?_
  refine xe (fun _ _ kK => x_iconst dX6_wantedTable_46 (show _ = nI 1 by decide) kK) ?_
  refine xe (fun _ _ kK => x_iand dX6_wantedTable_47 kK) ?_
  refine xe (fun _ _ kK => x_iconst dX6_wantedTable_48 (show _ = nI 1 by decide) kK) ?_
  refine xe (fun _ _ kK => x_icmp_neT (tgt := 61) dX6_wantedTable_49 (by decide) hb kK) ?_
  refine xe (fun _ _ kK => x_null dX6_wantedTable_61 kK) ?_
  exact xe_retn dX6_wantedTable_62 rfl (⟨rfl, rfl⟩)

set_option maxHeartbeats 4000000 in
theorem c_X6_wantedM (d : Nat) {T : TH} {wr cu : Nat} {bits : Int32} {s : Sh} {en : Nat → Nat} {lo : Nat → Option Nat} {A : Nat → Nat → Nat} {cp : Nat → Nat} {RR : Nat → List Row} {R : List Nat} {h : Nat → Nat} (hW : WSt T wr cu bits s en lo A cp RR R h) (hZ : WZ cu s en lo RR) : Xe m_X6_wantedTable d 0 [(0, .ref wr), (1, .int (-1))] [] T (fun r T1 => r = some .null ∧ T1 = T) := by
  obtain ⟨hC, hS, hK, hTW, hHD, hA, hTR, hX, hwr, hsep⟩ := id hW
  obtain ⟨hu, hV, ⟨hs60, h12⟩, hWl, hNb, hRO⟩ := id hZ
  refine xe (fun _ _ kK => x_iload_n dX6_wantedTable_0 rfl 1 rfl kK) ?_
  refine xe (fun _ _ kK => x_if_ltT (tgt := 34) dX6_wantedTable_1 (by decide) (by decide) kK) ?_
  refine xe (fun _ _ kK => x_iconst dX6_wantedTable_34 (show _ = nI 0 by decide) kK) ?_
  refine xe (fun _ _ kK => x_istore_n dX6_wantedTable_35 rfl (by decide) (show _ = [(2, .int (nI 0)), (0, .ref wr), (1, .int (-1))] from rfl) kK) ?_
  refine xe (fun _ _ kK => x_iload_n dX6_wantedTable_36 rfl 0 rfl kK) ?_
  refine xe (fun _ _ kK => x_if_eqT (tgt := 61) dX6_wantedTable_37 (by decide) rfl kK) ?_
  refine xe (fun _ _ kK => x_null dX6_wantedTable_61 kK) ?_
  exact xe_retn dX6_wantedTable_62 rfl (⟨rfl, rfl⟩)

set_option maxHeartbeats 4000000 in
theorem c_X6_wantedO (d : Nat) {T : TH} {wr cu : Nat} {bits : Int32} {s : Sh} {en : Nat → Nat} {lo : Nat → Option Nat} {A : Nat → Nat → Nat} {cp : Nat → Nat} {RR : Nat → List Row} {R : List Nat} {h : Nat → Nat} (hW : WSt T wr cu bits s en lo A cp RR R h) (hZ : WZ cu s en lo RR) {c : Nat} (hc : s.2.1 ≤ c) (hc2 : c < 2 ^ 31) : Xe m_X6_wantedTable d 0 [(0, .ref wr), (1, .int (nI c))] [] T (fun r T1 => r = some .null ∧ T1 = T) := by
  obtain ⟨hC, hS, hK, hTW, hHD, hA, hTR, hX, hwr, hsep⟩ := id hW
  obtain ⟨hu, hV, ⟨hs60, h12⟩, hWl, hNb, hRO⟩ := id hZ
  refine xe (fun _ _ kK => x_iload_n dX6_wantedTable_0 rfl 1 rfl kK) ?_
  refine xe (fun _ _ kK => x_if_ltF (tgt := 34) dX6_wantedTable_1 (by decide) (nI_pos (by omega)) kK) ?_
  refine xe (fun _ _ kK => x_iload_n dX6_wantedTable_4 rfl 1 rfl kK) ?_
  refine xe (fun _ _ kK => x_aload_n dX6_wantedTable_5 rfl 0 rfl kK) ?_
  refine xe (fun _ _ kK => x_get dX6_wantedTable_6 fl_X6_9 hTW.1 (gvl_r1 fz_6_0.2.2 (show e_r T 384 wr = some cu from hTW.2.1)) kK) ?_
  refine xe (fun _ _ kK => x_get dX6_wantedTable_9 fl_X6_50 hS.1.1 (gvl_i fz_1_11.2.2 (show e_i T 75 cu = nI s.2.1 from hS.2.2.1)) kK) ?_
  refine xe (fun _ _ kK => x_icmp_geT (tgt := 34) dX6_wantedTable_12 (by decide) ((nI_leI (by omega) (by omega)).mpr hc) kK) ?_
  refine xe (fun _ _ kK => x_iconst dX6_wantedTable_34 (show _ = nI 0 by decide) kK) ?_
  refine xe (fun _ _ kK => x_istore_n dX6_wantedTable_35 rfl (by decide) (show _ = [(2, .int (nI 0)), (0, .ref wr), (1, .int (nI c))] from rfl) kK) ?_
  refine xe (fun _ _ kK => x_iload_n dX6_wantedTable_36 rfl 0 rfl kK) ?_
  refine xe (fun _ _ kK => x_if_eqT (tgt := 61) dX6_wantedTable_37 (by decide) rfl kK) ?_
  refine xe (fun _ _ kK => x_null dX6_wantedTable_61 kK) ?_
  exact xe_retn dX6_wantedTable_62 rfl (⟨rfl, rfl⟩)

set_option maxHeartbeats 4000000 in
theorem c_X6_isWantedBelow (d : Nat) {T : TH} {wr cu : Nat} {bits : Int32} {s : Sh} {en : Nat → Nat} {lo : Nat → Option Nat} {A : Nat → Nat → Nat} {cp : Nat → Nat} {RR : Nat → List Row} {R : List Nat} {h : Nat → Nat} (hW : WSt T wr cu bits s en lo A cp RR R h) (hZ : WZ cu s en lo RR) {f c : Nat} (hf : f < s.1) (hc : c < s.2.1) : Xe m_X6_isWantedBelow (d + 2) 0 [(0, .ref wr), (1, .int (nI f)), (2, .int (nI c))] [] T (fun r T1 => r = some (.int (bI (pB (bitOn bits c ∧ f ∈ rdl s c)))) ∧ T1 = T) := by
  obtain ⟨hC, hS, hK, hTW, hHD, hA, hTR, hX, hwr, hsep⟩ := id hW
  obtain ⟨hu, hV, ⟨hs60, h12⟩, hWl, hNb, hRO⟩ := id hZ
  have hfk := (hV.2.2.2.2.2.2.1 c hc).1
  have hef := (hV.2.2.1 f hf).2.2
  refine xe (fun _ _ kK => x_aload_n dX6_isWantedBelow_0 rfl 0 rfl kK) ?_
  refine xe (fun _ _ kK => x_iload_n dX6_isWantedBelow_1 rfl 2 rfl kK) ?_
  by_cases hb : bitOn bits c
  · -- pc 2
    refine xe_callV (a := wr) [.int (nI c)] dX6_isWantedBelow_2 ml_X6_36 mf_X6_wantedTable hTW.1 (c_X6_wantedY (d + 1) hW hZ hc hb) rfl rfl (Nat.le_of_ble_eq_true rfl) (Nat.le_of_ble_eq_true rfl) ?_
    rintro _ T9 ⟨rfl, hTq9⟩
    refine xe_T hTq9 ?_
    refine xe (fun _ _ kK => x_ifnull dX6_isWantedBelow_5 kK) ?_
    refine xe (fun _ _ kK => x_aload_n dX6_isWantedBelow_8 rfl 0 rfl kK) ?_
    refine xe (fun _ _ kK => x_get dX6_isWantedBelow_9 fl_X6_9 hTW.1 (gvl_r1 fz_6_0.2.2 (show e_r T 384 wr = some cu from hTW.2.1)) kK) ?_
    refine xe (fun _ _ kK => x_iload_n dX6_isWantedBelow_12 rfl 1 rfl kK) ?_
    refine xe (fun _ _ kK => x_aload_n dX6_isWantedBelow_13 rfl 0 rfl kK) ?_
    refine xe (fun _ _ kK => x_get dX6_isWantedBelow_14 fl_X6_9 hTW.1 (gvl_r1 fz_6_0.2.2 (show e_r T 384 wr = some cu from hTW.2.1)) kK) ?_
    refine xe (fun _ _ kK => x_iload_n dX6_isWantedBelow_17 rfl 2 rfl kK) ?_
    refine xe_callV (a := cu) [.int (nI c)] dX6_isWantedBelow_18 ml_X6_127 mf_X1_fieldOfLeaf hS.1.1 (by have := c_X1_fieldOfLeaf (d + 1) hS hs60 h12 (nI c); rw [ix_in hc (by omega)] at this; exact this) rfl rfl (Nat.le_of_ble_eq_true rfl) (Nat.le_of_ble_eq_true rfl) ?_
    rintro _ T9 ⟨rfl, hTq9⟩
    refine xe_T hTq9 ?_
    refine xe_callV (a := cu) [.int (nI f), .int (nI (s.2.2.2.2.2.2 c))] dX6_isWantedBelow_21 ml_X6_130 mf_X1_isOnRoad hS.1.1 (c_X1_isOnRoad d hS hs60 (f := f) (t := (s.2.2.2.2.2.2 c)) hf (by omega) (by omega)) rfl rfl (Nat.le_of_ble_eq_true rfl) (Nat.le_of_ble_eq_true rfl) ?_
    rintro _ T9 ⟨rfl, hTq9⟩
    refine xe_T hTq9 ?_
    refine xe_if_eq (tgt := 31) dX6_isWantedBelow_24 (by decide) (fun h24 => ?_) (fun h24 => ?_)
    · -- pc 31
      have h24 := cv_b0 h24
      refine xe (fun _ _ kK => x_iconst dX6_isWantedBelow_31 (show _ = nI 0 by decide) kK) ?_
      exact xe_retz dX6_isWantedBelow_32 rfl (by first | exact Or.inl rfl | exact Or.inr rfl) (⟨r_0 (pB_f (fun z => of_decide_eq_false h24 ((rdl_on hV hc hf).mp z.2))), rfl⟩)
    · -- pc 27
      have h24 := cv_b1 h24
      refine xe (fun _ _ kK => x_iconst dX6_isWantedBelow_27 (show _ = nI 1 by decide) kK) ?_
      refine xe (fun _ _ kK => x_goto (tgt := 32) dX6_isWantedBelow_28 (by decide) kK) ?_
      exact xe_retz dX6_isWantedBelow_32 rfl (by first | exact Or.inl rfl | exact Or.inr rfl) (⟨r_1 (pB_t ⟨hb, (rdl_on hV hc hf).mpr (of_decide_eq_true h24)⟩), rfl⟩)
  · -- pc 2
    refine xe_callV (a := wr) [.int (nI c)] dX6_isWantedBelow_2 ml_X6_36 mf_X6_wantedTable hTW.1 (c_X6_wantedN (d + 1) hW hZ hc hb) rfl rfl (Nat.le_of_ble_eq_true rfl) (Nat.le_of_ble_eq_true rfl) ?_
    rintro _ T9 ⟨rfl, hTq9⟩
    refine xe_T hTq9 ?_
    refine xe (fun _ _ kK => x_ifnullN (tgt := 31) dX6_isWantedBelow_5 (by decide) kK) ?_
    refine xe (fun _ _ kK => x_iconst dX6_isWantedBelow_31 (show _ = nI 0 by decide) kK) ?_
    exact xe_retz dX6_isWantedBelow_32 rfl (by first | exact Or.inl rfl | exact Or.inr rfl) (⟨r_0 (pB_f (fun z => hb z.1)), rfl⟩)

set_option maxHeartbeats 4000000 in
theorem l_X6_firstWantedLeaf (d : Nat) {T : TH} {wr cu : Nat} {bits : Int32} {s : Sh} {en : Nat → Nat} {lo : Nat → Option Nat} {A : Nat → Nat → Nat} {cp : Nat → Nat} {RR : Nat → List Row} {R : List Nat} {h : Nat → Nat} (hW : WSt T wr cu bits s en lo A cp RR R h) (hZ : WZ cu s en lo RR) {f : Nat} (hf : f < s.1) : ∀ (m k : Nat), s.2.1 - k = m → k ≤ s.2.1 → Xe m_X6_firstWantedLeaf (d + 3) 2 [(2, .int (nI k)), (0, .ref wr), (1, .int (nI f))] [] T (fun r T1 => r = some (.int (oI (fnd (fun c => pB (bitOn bits c ∧ f ∈ rdl s c)) (s.2.1 - k) k))) ∧ T1 = T) := by
  intro m
  induction m using Nat.strongRecOn with
  | ind m ih =>
    intro k hm hk
    subst hm
    obtain ⟨hC, hS, hK, hTW, hHD, hA, hTR, hX, hwr, hsep⟩ := id hW
    obtain ⟨hu, hV, ⟨hs60, h12⟩, hWl, hNb, hRO⟩ := id hZ
    refine xe (fun _ _ kK => x_iload_n dX6_firstWantedLeaf_2 rfl 0 rfl kK) ?_
    refine xe (fun _ _ kK => x_aload_n dX6_firstWantedLeaf_3 rfl 1 rfl kK) ?_
    refine xe (fun _ _ kK => x_get dX6_firstWantedLeaf_4 fl_X6_9 hTW.1 (gvl_r1 fz_6_0.2.2 (show e_r T 384 wr = some cu from hTW.2.1)) kK) ?_
    refine xe (fun _ _ kK => x_get dX6_firstWantedLeaf_7 fl_X6_50 hS.1.1 (gvl_i fz_1_11.2.2 (show e_i T 75 cu = nI s.2.1 from hS.2.2.1)) kK) ?_
    refine xe_icmp_ge (tgt := 30) dX6_firstWantedLeaf_10 (by decide) (fun h10 => ?_) (fun h10 => ?_)
    · -- pc 30
      have h10 := cv_le (by omega) (by omega) h10
      refine xe (fun _ _ kK => x_iconst dX6_firstWantedLeaf_30 (show _ = (-1) by decide) kK) ?_
      have e0 : s.2.1 - k = 0 := by omega
      exact xe_reti dX6_firstWantedLeaf_31 rfl (⟨by rw [e0]; rfl, rfl⟩)
    · -- pc 13
      have h10 := cv_nle (by omega) (by omega) h10
      refine xe (fun _ _ kK => x_aload_n dX6_firstWantedLeaf_13 rfl 1 rfl kK) ?_
      refine xe (fun _ _ kK => x_iload_n dX6_firstWantedLeaf_14 rfl 2 rfl kK) ?_
      refine xe (fun _ _ kK => x_iload_n dX6_firstWantedLeaf_15 rfl 0 rfl kK) ?_
      refine xe_callV (a := wr) [.int (nI f), .int (nI k)] dX6_firstWantedLeaf_16 ml_X6_124 mf_X6_isWantedBelow hTW.1 (c_X6_isWantedBelow d hW hZ hf h10) rfl rfl (Nat.le_of_ble_eq_true rfl) (Nat.le_of_ble_eq_true rfl) ?_
      rintro _ T9 ⟨rfl, hTq9⟩
      refine xe_T hTq9 ?_
      refine xe_if_eq (tgt := 24) dX6_firstWantedLeaf_19 (by decide) (fun h19 => ?_) (fun h19 => ?_)
      · -- pc 24
        have h19 := cv_b0 h19
        refine xe (fun _ _ kK => x_iinc dX6_firstWantedLeaf_24 0 rfl (show (nI k) + Int32.ofInt 1 = nI (k + 1) from nI_add k 1) (by decide) (show _ = [(2, .int (nI (k + 1))), (0, .ref wr), (1, .int (nI f))] from rfl) kK) ?_
        refine xe (fun _ _ kK => x_goto (tgt := 2) dX6_firstWantedLeaf_27 (by decide) kK) ?_
        have hs : fnd (fun c => pB (bitOn bits c ∧ f ∈ rdl s c)) (s.2.1 - k) k = fnd (fun c => pB (bitOn bits c ∧ f ∈ rdl s c)) (s.2.1 - (k + 1)) (k + 1) := by rw [show s.2.1 - k = (s.2.1 - (k + 1)) + 1 by omega, fnd, if_neg (by rw [h19]; decide)]
        rw [hs]
        exact xe_loc (by simp) (ih (s.2.1 - (k + 1)) (by omega) (k + 1) rfl (by omega))
      · -- pc 22
        have h19 := cv_b1 h19
        refine xe (fun _ _ kK => x_iload_n dX6_firstWantedLeaf_22 rfl 0 rfl kK) ?_
        have hs : fnd (fun c => pB (bitOn bits c ∧ f ∈ rdl s c)) (s.2.1 - k) k = some k := by rw [show s.2.1 - k = (s.2.1 - (k + 1)) + 1 by omega, fnd, if_pos h19]
        exact xe_reti dX6_firstWantedLeaf_23 rfl (⟨by rw [hs]; rfl, rfl⟩)

set_option maxHeartbeats 4000000 in
theorem c_X6_firstWantedLeaf (d : Nat) {T : TH} {wr cu : Nat} {bits : Int32} {s : Sh} {en : Nat → Nat} {lo : Nat → Option Nat} {A : Nat → Nat → Nat} {cp : Nat → Nat} {RR : Nat → List Row} {R : List Nat} {h : Nat → Nat} (hW : WSt T wr cu bits s en lo A cp RR R h) (hZ : WZ cu s en lo RR) {f : Nat} (hf : f < s.1) : Xe m_X6_firstWantedLeaf (d + 3) 0 [(0, .ref wr), (1, .int (nI f))] [] T (fun r T1 => r = some (.int (oI (fnd (fun c => pB (bitOn bits c ∧ f ∈ rdl s c)) s.2.1 0))) ∧ T1 = T) := by
  obtain ⟨hC, hS, hK, hTW, hHD, hA, hTR, hX, hwr, hsep⟩ := id hW
  obtain ⟨hu, hV, ⟨hs60, h12⟩, hWl, hNb, hRO⟩ := id hZ
  refine xe (fun _ _ kK => x_iconst dX6_firstWantedLeaf_0 (show _ = nI 0 by decide) kK) ?_
  refine xe (fun _ _ kK => x_istore_n dX6_firstWantedLeaf_1 rfl (by decide) (show _ = [(2, .int (nI 0)), (0, .ref wr), (1, .int (nI f))] from rfl) kK) ?_
  exact xe_loc (by simp) (l_X6_firstWantedLeaf d hW hZ hf s.2.1 0 rfl (Nat.zero_le _))

/-- the rows in hand, one on for the wanted leaves below f among the first k -/
noncomputable def hP (s : Sh) (bits : Int32) (f : Nat) (h : Nat → Nat) (k : Nat) : Nat → Nat := fun c => if pB (c < k ∧ bitOn bits c ∧ f ∈ rdl s c) = true then h c + 1 else h c
theorem hP_at {s : Sh} {bits : Int32} {f : Nat} {h : Nat → Nat} {k c : Nat} (hk : k ≤ c) : hP s bits f h k c = h c := by unfold hP; rw [if_neg]; rw [pB_f (fun z => by omega)]; decide
theorem hP_no {s : Sh} {bits : Int32} {f : Nat} {h : Nat → Nat} {k : Nat} (hn : ¬ (bitOn bits k ∧ f ∈ rdl s k)) : hP s bits f h (k + 1) = hP s bits f h k := by
  funext c
  unfold hP
  rw [pB_c (show (c < k + 1 ∧ bitOn bits c ∧ f ∈ rdl s c) ↔ (c < k ∧ bitOn bits c ∧ f ∈ rdl s c) from ⟨fun z => ⟨by by_cases e : c = k; subst e; exact absurd z.2 hn; omega, z.2⟩, fun z => ⟨by omega, z.2⟩⟩)]
theorem hP_yes {s : Sh} {bits : Int32} {f : Nat} {h : Nat → Nat} {k : Nat} (hn : bitOn bits k ∧ f ∈ rdl s k) (c : Nat) : hP s bits f h (k + 1) c = if c = k then h k + 1 else hP s bits f h k c := by
  by_cases e : c = k
  · subst e; rw [if_pos rfl]; unfold hP; rw [if_pos (pB_t ⟨by omega, hn⟩)]
  · rw [if_neg e]; unfold hP
    rw [pB_c (show (c < k + 1 ∧ bitOn bits c ∧ f ∈ rdl s c) ↔ (c < k ∧ bitOn bits c ∧ f ∈ rdl s c) from ⟨fun z => ⟨by omega, z.2⟩, fun z => ⟨by omega, z.2⟩⟩)]

set_option maxHeartbeats 4000000 in
theorem l_X6_passLacking (d : Nat) {T : TH} {wr cu : Nat} {bits : Int32} {s : Sh} {en : Nat → Nat} {lo : Nat → Option Nat} {A : Nat → Nat → Nat} {cp : Nat → Nat} {RR : Nat → List Row} {R : List Nat} {h : Nat → Nat} (hZ : WZ cu s en lo RR) {f : Nat} (hf : f < s.1) : ∀ (m k : Nat) (T1 : TH), s.2.1 - k = m → k ≤ s.2.1 → FrG [(321, 64)] [65, wr + 1] T T1 → WSt T1 wr cu bits s en lo A cp RR R (hP s bits f h k) → Xe m_X6_passLacking (d + 3) 2 [(2, .int (nI k)), (0, .ref wr), (1, .int (nI f))] [] T1 (fun r T2 => r = none ∧ FrG [(321, 64)] [65, wr + 1] T T2 ∧ WSt T2 wr cu bits s en lo A cp RR R (hP s bits f h s.2.1)) := by
  intro m
  induction m using Nat.strongRecOn with
  | ind m ih =>
    intro k T1 hm hk hF0 hW
    subst hm
    obtain ⟨hC, hS, hK, hTW, hHD, hA, hTR, hX, hwr, hsep⟩ := id hW
    obtain ⟨hu, hV, ⟨hs60, h12⟩, hWl, hNb, hRO⟩ := id hZ
    refine xe (fun _ _ kK => x_iload_n dX6_passLacking_2 rfl 0 rfl kK) ?_
    refine xe (fun _ _ kK => x_aload_n dX6_passLacking_3 rfl 1 rfl kK) ?_
    refine xe (fun _ _ kK => x_get dX6_passLacking_4 fl_X6_9 hTW.1 (gvl_r1 fz_6_0.2.2 (show e_r T1 384 wr = some cu from hTW.2.1)) kK) ?_
    refine xe (fun _ _ kK => x_get dX6_passLacking_7 fl_X6_50 hS.1.1 (gvl_i fz_1_11.2.2 (show e_i T1 75 cu = nI s.2.1 from hS.2.2.1)) kK) ?_
    refine xe_icmp_ge (tgt := 44) dX6_passLacking_10 (by decide) (fun h10 => ?_) (fun h10 => ?_)
    · -- pc 44
      have h10 := cv_le (by omega) (by omega) h10
      have ek : k = s.2.1 := by omega
      subst ek
      exact xe_retv dX6_passLacking_44 rfl (⟨rfl, hF0, hW⟩)
    · -- pc 13
      have h10 := cv_nle (by omega) (by omega) h10
      refine xe (fun _ _ kK => x_iload_n dX6_passLacking_13 rfl 0 rfl kK) ?_
      refine xe (fun _ _ kK => x_bipush dX6_passLacking_14 (show _ = nI 12 by decide) kK) ?_
      refine xe (fun _ _ kK => x_icmp_geF (tgt := 44) dX6_passLacking_16 (by decide) (fun z9 => by have := cv_le (by omega) (by omega) z9; omega) kK) ?_
      refine xe (fun _ _ kK => x_aload_n dX6_passLacking_19 rfl 1 rfl kK) ?_
      refine xe (fun _ _ kK => x_iload_n dX6_passLacking_20 rfl 2 rfl kK) ?_
      refine xe (fun _ _ kK => x_iload_n dX6_passLacking_21 rfl 0 rfl kK) ?_
      refine xe_callV (a := wr) [.int (nI f), .int (nI k)] dX6_passLacking_22 ml_X6_124 mf_X6_isWantedBelow hTW.1 (c_X6_isWantedBelow d hW hZ hf h10) rfl rfl (Nat.le_of_ble_eq_true rfl) (Nat.le_of_ble_eq_true rfl) ?_
      rintro _ T9 ⟨rfl, hTq9⟩
      refine xe_T hTq9 ?_
      refine xe_if_eq (tgt := 38) dX6_passLacking_25 (by decide) (fun h25 => ?_) (fun h25 => ?_)
      · -- pc 38
        have h25 := cv_b0 h25
        refine xe (fun _ _ kK => x_iinc dX6_passLacking_38 0 rfl (show (nI k) + Int32.ofInt 1 = nI (k + 1) from nI_add k 1) (by decide) (show _ = [(2, .int (nI (k + 1))), (0, .ref wr), (1, .int (nI f))] from rfl) kK) ?_
        refine xe (fun _ _ kK => x_goto (tgt := 2) dX6_passLacking_41 (by decide) kK) ?_
        rw [← hP_no (pB_no h25)] at hW
        exact xe_loc (by simp) (ih (s.2.1 - (k + 1)) (by omega) (k + 1) T1 rfl (by omega) hF0 hW)
      · -- pc 28
        have h25 := cv_b1 h25
        have hy := pB_of h25
        refine xe (fun _ _ kK => x_aload_n dX6_passLacking_28 rfl 1 rfl kK) ?_
        refine xe (fun _ _ kK => x_get dX6_passLacking_29 fl_X6_27 hTW.1 (gvl_r1 fz_6_4.2.2 (show e_r T1 388 wr = some (wr + 1) from hTW.2.2.2.2.2.1)) kK) ?_
        refine xe (fun _ _ kK => x_iload_n dX6_passLacking_32 rfl 0 rfl kK) ?_
        refine xe (fun _ _ kK => x_dup2 dX6_passLacking_33 rfl rfl kK) ?_
        refine xe (fun _ _ kK => x_iald dX6_passLacking_34 hTW.2.2.2.2.2.2.1 (show (nI k) = nI k from rfl) (by rw [hTW.2.2.2.2.2.2.2]; omega) (show e_ai T1 (wr + 1) k = nI (h k) from ((hHD k h10 hy.1).trans (by rw [hP_at (Nat.le_refl _)]))) kK) ?_
        refine xe (fun _ _ kK => x_iconst dX6_passLacking_35 (show _ = nI 1 by decide) kK) ?_
        refine xe (fun _ _ kK => x_iadd dX6_passLacking_36 kK) ?_
        refine xe_ti (show _ = nI ((h k) + 1) from nI_add (h k) 1) ?_
        refine xe (fun _ _ kK => x_iast dX6_passLacking_37 hTW.2.2.2.2.2.2.1 (show (nI k) = nI k from rfl) (by rw [hTW.2.2.2.2.2.2.2]; omega) kK) ?_
        refine xe (fun _ _ kK => x_iinc dX6_passLacking_38 0 rfl (show (nI k) + Int32.ofInt 1 = nI (k + 1) from nI_add k 1) (by decide) (show _ = [(2, .int (nI (k + 1))), (0, .ref wr), (1, .int (nI f))] from rfl) kK) ?_
        refine xe (fun _ _ kK => x_goto (tgt := 2) dX6_passLacking_41 (by decide) kK) ?_
        have hF : FrG [(321, 64)] [65, wr + 1] T1 (s_ai T1 (wr + 1) k (nI ((h k) + 1))) := (FrG.sai FrG.rf (by simp) _ _)
        have hX2 : CTx (s_ai T1 (wr + 1) k (nI ((h k) + 1))) R := ⟨hX.1, hX.2.1, fun k9 c9 hk9 => by rw [show e_ai (s_ai T1 (wr + 1) k (nI ((h k) + 1))) 65 = e_ai T1 65 from funext (fun j => by rw [q_ai_ai, if_neg (by omega)])]; exact hX.2.2 k9 c9 hk9⟩
        have hH2 : HD (s_ai T1 (wr + 1) k (nI ((h k) + 1))) wr s bits (hP s bits f h (k + 1)) := fun c hc hb => by
          rw [hP_yes hy]
          by_cases e9 : c = k
          · subst e9; simp [q_i_i, q_i_l, q_i_ai, q_i_al, q_ai_ai, q_ai_i, q_ai_l, q_ai_al, q_al_al, q_al_i, q_al_ai, q_al_l, q_l_i, q_l_l, q_l_ai, q_l_al, q_r_r, q_r_i, q_r_l, q_r_ai, q_r_al, q_i_r, q_l_r, q_ai_r, q_al_r, q_K_i, q_K_r, q_K_l, q_K_ai, q_K_al, q_len_i, q_len_r, q_len_l, q_len_ai, q_len_al, q_n_i, q_n_r, q_n_l, q_n_ai, q_n_al, q_s_i, q_s_r, q_s_l, q_s_ai, q_s_al]
          · rw [if_neg e9]; have h1 := hHD c hc hb; simp [q_i_i, q_i_l, q_i_ai, q_i_al, q_ai_ai, q_ai_i, q_ai_l, q_ai_al, q_al_al, q_al_i, q_al_ai, q_al_l, q_l_i, q_l_l, q_l_ai, q_l_al, q_r_r, q_r_i, q_r_l, q_r_ai, q_r_al, q_i_r, q_l_r, q_ai_r, q_al_r, q_K_i, q_K_r, q_K_l, q_K_ai, q_K_al, q_len_i, q_len_r, q_len_l, q_len_ai, q_len_al, q_n_i, q_n_r, q_n_l, q_n_ai, q_n_al, q_s_i, q_s_r, q_s_l, q_s_ai, q_s_al, e9]; exact h1
        exact xe_loc (by simp) (ih (s.2.1 - (k + 1)) (by omega) (k + 1) _ rfl (by omega) (FrG.tr hF0 hF) (hW.of hZ hF hX2 hH2))

set_option maxHeartbeats 4000000 in
theorem c_X6_passLacking (d : Nat) {T : TH} {wr cu : Nat} {bits : Int32} {s : Sh} {en : Nat → Nat} {lo : Nat → Option Nat} {A : Nat → Nat → Nat} {cp : Nat → Nat} {RR : Nat → List Row} {R : List Nat} {h : Nat → Nat} (hW : WSt T wr cu bits s en lo A cp RR R h) (hZ : WZ cu s en lo RR) {f : Nat} (hf : f < s.1) : Xe m_X6_passLacking (d + 3) 0 [(0, .ref wr), (1, .int (nI f))] [] T (fun r T2 => r = none ∧ FrG [(321, 64)] [65, wr + 1] T T2 ∧ WSt T2 wr cu bits s en lo A cp RR R (hP s bits f h s.2.1)) := by
  obtain ⟨hC, hS, hK, hTW, hHD, hA, hTR, hX, hwr, hsep⟩ := id hW
  obtain ⟨hu, hV, ⟨hs60, h12⟩, hWl, hNb, hRO⟩ := id hZ
  refine xe (fun _ _ kK => x_iconst dX6_passLacking_0 (show _ = nI 0 by decide) kK) ?_
  refine xe (fun _ _ kK => x_istore_n dX6_passLacking_1 rfl (by decide) (show _ = [(2, .int (nI 0)), (0, .ref wr), (1, .int (nI f))] from rfl) kK) ?_
  have h0 : WSt T wr cu bits s en lo A cp RR R (hP s bits f h 0) := by rw [show hP s bits f h 0 = h from funext (fun c => hP_at (Nat.zero_le _))]; exact hW
  exact xe_loc (by simp) (l_X6_passLacking d (T := T) hZ hf s.2.1 0 T rfl (Nat.zero_le _) FrG.rf h0)

set_option maxHeartbeats 4000000 in
theorem c_X6_writeLeaf (d : Nat) {T : TH} {wr cu : Nat} {bits : Int32} {s : Sh} {en : Nat → Nat} {lo : Nat → Option Nat} {A : Nat → Nat → Nat} {cp : Nat → Nat} {RR : Nat → List Row} {R : List Nat} {h : Nat → Nat} (hW : WSt T wr cu bits s en lo A cp RR R h) (hZ : WZ cu s en lo RR) {c : Nat} (hc : c < s.2.1) (hb : bitOn bits c) (hk : h c < (RR c).length) (hhv : (rowAt (RR c) (h c)).2.2.1 = true) (hvo : vOk1 (s.2.2.2.2.1 (s.2.2.2.2.2.2 c)) (rowAt (RR c) (h c)).2.2.2.1) (hl : R.length + (vtx (s.2.2.2.2.1 (s.2.2.2.2.2.2 c)) (rowAt (RR c) (h c)).2.2.2.1).length ≤ 400) : Xe m_X6_writeLeaf (d + 2) 0 [(0, .ref wr), (1, .int (nI c))] [] T (fun r T2 => r = none ∧ FrG [(321, 64)] [65, wr + 1] T T2 ∧ WSt T2 wr cu bits s en lo A cp RR (R ++ vtx (s.2.2.2.2.1 (s.2.2.2.2.2.2 c)) (rowAt (RR c) (h c)).2.2.2.1) (va_up h c (h c + 1))) := by
  obtain ⟨hC, hS, hK, hTW, hHD, hA, hTR, hX, hwr, hsep⟩ := id hW
  obtain ⟨hu, hV, ⟨hs60, h12⟩, hWl, hNb, hRO⟩ := id hZ
  have hT := hW.tb h12 hc
  obtain ⟨hO, hH⟩ := hRO c hc
  have h6 := hO.1
  have hrd5 := (hV.rd hc).2
  have hdg : dc s.2.2.2.2.2.1 (road s c) < 2 ^ 31 := by have := dc_le s.2.2.2.2.2.1 (road s c); have e3 : (road s c).length = (rdl s c).length := List.length_reverse; omega
  refine xe (fun _ _ kK => x_aload_n dX6_writeLeaf_0 rfl 0 rfl kK) ?_
  refine xe (fun _ _ kK => x_iload_n dX6_writeLeaf_1 rfl 1 rfl kK) ?_
  refine xe_callV (a := wr) [.int (nI c)] dX6_writeLeaf_2 ml_X6_36 mf_X6_wantedTable hTW.1 (c_X6_wantedY (d + 1) hW hZ hc hb) rfl rfl (Nat.le_of_ble_eq_true rfl) (Nat.le_of_ble_eq_true rfl) ?_
  rintro _ T9 ⟨rfl, hTq9⟩
  refine xe_T hTq9 ?_
  refine xe (fun _ _ kK => x_astore_n dX6_writeLeaf_5 rfl (by decide) (show _ = [(2, .ref (4 + 5 * c)), (0, .ref wr), (1, .int (nI c))] from rfl) kK) ?_
  refine xe (fun _ _ kK => x_aload_n dX6_writeLeaf_6 rfl 0 rfl kK) ?_
  refine xe (fun _ _ kK => x_ifnull dX6_writeLeaf_7 kK) ?_
  refine xe (fun _ _ kK => x_aload_n dX6_writeLeaf_10 rfl 0 rfl kK) ?_
  refine xe (fun _ _ kK => x_aload_n dX6_writeLeaf_11 rfl 1 rfl kK) ?_
  refine xe (fun _ _ kK => x_get dX6_writeLeaf_12 fl_X6_27 hTW.1 (gvl_r1 fz_6_4.2.2 (show e_r T 388 wr = some (wr + 1) from hTW.2.2.2.2.2.1)) kK) ?_
  refine xe (fun _ _ kK => x_iload_n dX6_writeLeaf_15 rfl 2 rfl kK) ?_
  refine xe (fun _ _ kK => x_iald dX6_writeLeaf_16 hTW.2.2.2.2.2.2.1 (show (nI c) = nI c from rfl) (by rw [hTW.2.2.2.2.2.2.2]; omega) (show e_ai T (wr + 1) c = nI (h c) from (hHD c hc hb)) kK) ?_
  refine xe_callV (a := (4 + 5 * c)) [.int (nI (h c))] dX6_writeLeaf_17 ml_X6_111 mf_X3_hasValue hT.1 (by have := c_X3_hasValue d hT hO hdg hH (nI (h c)); rw [hvX_in hk h6, hhv] at this; exact this) rfl rfl (Nat.le_of_ble_eq_true rfl) (Nat.le_of_ble_eq_true rfl) ?_
  rintro _ T9 ⟨rfl, hTq9⟩
  refine xe_T hTq9 ?_
  refine xe (fun _ _ kK => x_if_neT (tgt := 24) dX6_writeLeaf_20 (by decide) (show ¬ bI true = 0 by decide) kK) ?_
  refine xe (fun _ _ kK => x_aload_n dX6_writeLeaf_24 rfl 0 rfl kK) ?_
  refine xe (fun _ _ kK => x_get dX6_writeLeaf_25 fl_X6_114 hT.1 (gvl_r1 fz_3_3.2.2 (show e_r T 195 (4 + 5 * c) = some (A c 3) from hT.2.1.2.2.2)) kK) ?_
  refine xe (fun _ _ kK => x_aload_n dX6_writeLeaf_28 rfl 1 rfl kK) ?_
  refine xe (fun _ _ kK => x_get dX6_writeLeaf_29 fl_X6_27 hTW.1 (gvl_r1 fz_6_4.2.2 (show e_r T 388 wr = some (wr + 1) from hTW.2.2.2.2.2.1)) kK) ?_
  refine xe (fun _ _ kK => x_iload_n dX6_writeLeaf_32 rfl 2 rfl kK) ?_
  refine xe (fun _ _ kK => x_iald dX6_writeLeaf_33 hTW.2.2.2.2.2.2.1 (show (nI c) = nI c from rfl) (by rw [hTW.2.2.2.2.2.2.2]; omega) (show e_ai T (wr + 1) c = nI (h c) from (hHD c hc hb)) kK) ?_
  refine xe (fun _ _ kK => x_lald dX6_writeLeaf_34 hT.2.2.1.2.2.2 (show (nI (h c)) = nI (h c) from rfl) ((hT.len hk).2.2.2) (show e_al T (A c 3) (h c) = (rowAt (RR c) (h c)).2.2.2.1 from (hT.2.2.2.2.2 (h c) hk).2.2.2) kK) ?_
  refine xe (fun _ _ kK => x_lstore_n dX6_writeLeaf_35 rfl (by decide) (show _ = [(3, .long ((rowAt (RR c) (h c)).2.2.2.1)), (2, .ref (4 + 5 * c)), (0, .ref wr), (1, .int (nI c))] from rfl) kK) ?_
  refine xe (fun _ _ kK => x_aload_n dX6_writeLeaf_36 rfl 2 rfl kK) ?_
  refine xe (fun _ _ kK => x_get dX6_writeLeaf_37 fl_X6_27 hTW.1 (gvl_r1 fz_6_4.2.2 (show e_r T 388 wr = some (wr + 1) from hTW.2.2.2.2.2.1)) kK) ?_
  refine xe (fun _ _ kK => x_iload_n dX6_writeLeaf_40 rfl 3 rfl kK) ?_
  refine xe (fun _ _ kK => x_dup2 dX6_writeLeaf_41 rfl rfl kK) ?_
  refine xe (fun _ _ kK => x_iald dX6_writeLeaf_42 hTW.2.2.2.2.2.2.1 (show (nI c) = nI c from rfl) (by rw [hTW.2.2.2.2.2.2.2]; omega) (show e_ai T (wr + 1) c = nI (h c) from (hHD c hc hb)) kK) ?_
  refine xe (fun _ _ kK => x_iconst dX6_writeLeaf_43 (show _ = nI 1 by decide) kK) ?_
  refine xe (fun _ _ kK => x_iadd dX6_writeLeaf_44 kK) ?_
  refine xe_ti (show _ = nI ((h c) + 1) from nI_add (h c) 1) ?_
  refine xe (fun _ _ kK => x_iast dX6_writeLeaf_45 hTW.2.2.2.2.2.2.1 (show (nI c) = nI c from rfl) (by rw [hTW.2.2.2.2.2.2.2]; omega) kK) ?_
  have hF : FrG [(321, 64)] [65, wr + 1] T (s_ai T (wr + 1) c (nI ((h c) + 1))) := (FrG.sai FrG.rf (by simp) _ _)
  have hX2 : CTx (s_ai T (wr + 1) c (nI ((h c) + 1))) R := ⟨hX.1, hX.2.1, fun k9 c9 hk9 => by rw [show e_ai (s_ai T (wr + 1) c (nI ((h c) + 1))) 65 = e_ai T 65 from funext (fun j => by rw [q_ai_ai, if_neg (by omega)])]; exact hX.2.2 k9 c9 hk9⟩
  have hH2 : HD (s_ai T (wr + 1) c (nI ((h c) + 1))) wr s bits (va_up h c (h c + 1)) := fun c9 hc9 hb9 => by
    by_cases e9 : c9 = c
    · subst e9; rw [ups]; simp [q_i_i, q_i_l, q_i_ai, q_i_al, q_ai_ai, q_ai_i, q_ai_l, q_ai_al, q_al_al, q_al_i, q_al_ai, q_al_l, q_l_i, q_l_l, q_l_ai, q_l_al, q_r_r, q_r_i, q_r_l, q_r_ai, q_r_al, q_i_r, q_l_r, q_ai_r, q_al_r, q_K_i, q_K_r, q_K_l, q_K_ai, q_K_al, q_len_i, q_len_r, q_len_l, q_len_ai, q_len_al, q_n_i, q_n_r, q_n_l, q_n_ai, q_n_al, q_s_i, q_s_r, q_s_l, q_s_ai, q_s_al]
    · rw [upn e9]; have h1 := hHD c9 hc9 hb9; simp [q_i_i, q_i_l, q_i_ai, q_i_al, q_ai_ai, q_ai_i, q_ai_l, q_ai_al, q_al_al, q_al_i, q_al_ai, q_al_l, q_l_i, q_l_l, q_l_ai, q_l_al, q_r_r, q_r_i, q_r_l, q_r_ai, q_r_al, q_i_r, q_l_r, q_ai_r, q_al_r, q_K_i, q_K_r, q_K_l, q_K_ai, q_K_al, q_len_i, q_len_r, q_len_l, q_len_ai, q_len_al, q_n_i, q_n_r, q_n_l, q_n_ai, q_n_al, q_s_i, q_s_r, q_s_l, q_s_ai, q_s_al, e9]; exact h1
  have hW2 := hW.of hZ hF hX2 hH2
  generalize hT2 : (s_ai T (wr + 1) c (nI ((h c) + 1))) = T2 at hF hX2 hH2 hW2 ⊢
  obtain ⟨hCa, hSa, hKa, hTWa, hHDa, hAa, hTRa, hXa, hwra, hsepa⟩ := id hW2
  have hTa := hW2.tb h12 hc
  refine xe (fun _ _ kK => x_aload_n dX6_writeLeaf_46 rfl 1 rfl kK) ?_
  refine xe (fun _ _ kK => x_get dX6_writeLeaf_47 fl_X6_117 hTa.1 (gvl_z fz_3_7.2.2 (show e_i T2 199 (4 + 5 * c) = bI (decide (s.2.2.2.2.1 (s.2.2.2.2.2.2 c) = 0)) from hTa.2.2.2.2.1.2.2.2.1)) kK) ?_
  refine xe_if_eq (tgt := 64) dX6_writeLeaf_50 (by decide) (fun h50 => ?_) (fun h50 => ?_)
  · -- pc 64
    have h50 := cv_b0 h50
    have hkd : ¬ s.2.2.2.2.1 (s.2.2.2.2.2.2 c) = 0 := of_decide_eq_false h50
    unfold vtx at hl ⊢
    rw [if_neg hkd] at hl ⊢
    refine xe (fun _ _ kK => x_aload_n dX6_writeLeaf_64 rfl 2 rfl kK) ?_
    refine xe (fun _ _ kK => x_get dX6_writeLeaf_65 fl_X6_23 hTWa.1 (gvl_r1 fz_6_3.2.2 (show e_r T2 387 wr = some 64 from hTWa.2.2.2.2.1)) kK) ?_
    refine xe (fun _ _ kK => x_lload_n dX6_writeLeaf_68 rfl 0 rfl kK) ?_
    have hk1 := (hV.2.2.1 _ (hV.2.2.2.2.2.2.1 c hc).1).1
    have hk2 := (hV.2.2.2.2.2.2.1 c hc).2.1
    obtain ⟨w9, q1, q2, q3, q4⟩ := hvo.2 (by omega)
    rw [q4] at hl ⊢
    rw [lN_na (by omega)] at hl ⊢
    refine xe_callV (a := 64) [.long (lN w9)] dX6_writeLeaf_69 ml_X6_85 mf_X5_putWord hCa.2.2.2.2.2.2.2.2.2.2.2.1 (c_X5_putWord (d + 0) hCa hXa q2 q3 q1 hl) rfl rfl (Nat.le_of_ble_eq_true rfl) (Nat.le_of_ble_eq_true rfl) ?_
    rintro _ T3 ⟨rfl, hF3, hX3⟩
    exact xe_retv dX6_writeLeaf_72 rfl (⟨rfl, FrG.tr hF (hF3.mono (fun _ z => z) (by simp)), hW2.tx hZ hF3 hX3⟩)
  · -- pc 53
    have h50 := cv_b1 h50
    have hkd : s.2.2.2.2.1 (s.2.2.2.2.2.2 c) = 0 := of_decide_eq_true h50
    unfold vtx at hl ⊢
    rw [if_pos hkd] at hl ⊢
    refine xe (fun _ _ kK => x_aload_n dX6_writeLeaf_53 rfl 2 rfl kK) ?_
    refine xe (fun _ _ kK => x_get dX6_writeLeaf_54 fl_X6_23 hTWa.1 (gvl_r1 fz_6_3.2.2 (show e_r T2 387 wr = some 64 from hTWa.2.2.2.2.1)) kK) ?_
    refine xe (fun _ _ kK => x_lload_n dX6_writeLeaf_57 rfl 0 rfl kK) ?_
    refine xe_callV (a := 64) [.long ((rowAt (RR c) (h c)).2.2.2.1)] dX6_writeLeaf_58 ml_X6_121 mf_X5_putNumber hCa.2.2.2.2.2.2.2.2.2.2.2.1 (c_X5_putNumber (d + 0) hCa hXa (hvo.1 hkd) hl) rfl rfl (Nat.le_of_ble_eq_true rfl) (Nat.le_of_ble_eq_true rfl) ?_
    rintro _ T3 ⟨rfl, hF3, hX3⟩
    refine xe (fun _ _ kK => x_goto (tgt := 72) dX6_writeLeaf_61 (by decide) kK) ?_
    exact xe_retv dX6_writeLeaf_72 rfl (⟨rfl, FrG.tr hF (hF3.mono (fun _ z => z) (by simp)), hW2.tx hZ hF3 hX3⟩)
