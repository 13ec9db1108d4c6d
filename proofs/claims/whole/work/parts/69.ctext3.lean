/-! a node's TEXT from the rows in hand -/
theorem WSt.hc {T : TH} {wr cu : Nat} {bits : Int32} {s : Sh} {en : Nat → Nat} {lo : Nat → Option Nat} {A : Nat → Nat → Nat} {cp : Nat → Nat} {RR : Nat → List Row} {R : List Nat} {h : Nat → Nat} {h' : Nat → Nat} (hW : WSt T wr cu bits s en lo A cp RR R h) (hh : ∀ c, c < s.2.1 → bitOn bits c → h' c = h c) : WSt T wr cu bits s en lo A cp RR R h' := by
  obtain ⟨w1, w2, w3, w4, w5, w6⟩ := hW
  exact ⟨w1, w2, w3, w4, fun c hc hb => by rw [hh c hc hb]; exact w5 c hc hb, w6⟩
theorem fnd_no {p : Nat → Bool} : ∀ (c k : Nat), fnd p c k = none → ∀ f, k ≤ f → f < k + c → p f = false := by
  intro c
  induction c with
  | zero => intro k _ f h1 h2; omega
  | succ c ih =>
    intro k h f h1 h2
    rw [fnd] at h
    split at h
    · cases h
    · rename_i hp
      rcases Nat.lt_or_ge k f with z | z
      · exact ih (k + 1) h f z (by omega)
      · have : f = k := by omega
        subst this; simpa using hp
noncomputable def hFd (s : Sh) (bits : Int32) (f : Nat) (L : Nat → Nat) (h : Nat → Nat) : Nat → Nat := fun c => if pB (bitOn bits c ∧ f ∈ rdl s c) = true then h c + L c else h c
theorem hFd_y {s : Sh} {bits : Int32} {f c : Nat} {L h : Nat → Nat} (h1 : bitOn bits c) (h2 : f ∈ rdl s c) : hFd s bits f L h c = h c + L c := if_pos (pB_t ⟨h1, h2⟩)
theorem hFd_n {s : Sh} {bits : Int32} {f c : Nat} {L h : Nat → Nat} (h1 : ¬ (bitOn bits c ∧ f ∈ rdl s c)) : hFd s bits f L h c = h c := if_neg (by rw [pB_f h1]; decide)
def WPk (wr cu : Nat) (bits : Int32) (s : Sh) (en : Nat → Nat) (lo : Nat → Option Nat) (A : Nat → Nat → Nat) (cp : Nat → Nat) (RR : Nat → List Row) (pa : Pa) (i k E : Nat) : Prop := ∀ (T : TH) (R : List Nat) (h : Nat → Nat) (x : Nat) (gl : List Nat) (lev : Nat) (o : Option Nat), WSt T wr cu bits s en lo A cp RR R h → x < pa.1 → pa.2.1 x = o → Chn s.2.2.1 o gl.reverse → gl.length + k = 5 → gl.length ≤ 4 → (∀ g, o = some g → g < s.1) → HBk s bits pa i RR x gl lev o h → R.length + (txN s pa (wnB s bits) k x).length ≤ 400 → Xe m_X6_writeParts E 0 [(0, .ref wr), (1, .int (oI o)), (2, .int (nI gl.length))] [] T (fun r T1 => r = none ∧ FrG [(321, 64)] [65, wr + 1] T T1 ∧ WSt T1 wr cu bits s en lo A cp RR (R ++ txN s pa (wnB s bits) k x) (hAv s bits pa i x gl lev o h))
/-- the papers' nodes -/
def PTv (s : Sh) (pa : Pa) : Prop := (∃ z, TVd s pa [] z) ∧ pa.2.1 0 = none ∧ pa.2.2.1 0 = none ∧ 0 < pa.1 ∧ pa.1 ≤ 110

set_option maxHeartbeats 4000000 in
theorem c_X6_writeGroup {T : TH} {wr cu : Nat} {bits : Int32} {s : Sh} {en : Nat → Nat} {lo : Nat → Option Nat} {A : Nat → Nat → Nat} {cp : Nat → Nat} {RR : Nat → List Row} {R : List Nat} {h : Nat → Nat} (hW : WSt T wr cu bits s en lo A cp RR R h) (hZ : WZ cu s en lo RR) {pa : Pa} {i k E f y : Nat} {gl : List Nat} {lev : Nat} {o : Option Nat} (hIH : WPk wr cu bits s en lo A cp RR pa i k E) (hf : f < s.1) (hWf : s.2.2.1 f = o) (hg : Chn s.2.2.1 o gl.reverse) (hlen : gl.length + 1 + k = 5) (hl4 : gl.length + 1 ≤ 4) (hy : y < pa.1) (hyf : pa.2.1 y = some f) (hB : HBk s bits pa i RR y (gl ++ [f]) lev (some f) h) (hl : R.length + ([91] ++ (txN s pa (wnB s bits) k y ++ [93])).length ≤ 400) : Xe m_X6_writeGroup (E + 1) 0 [(0, .ref wr), (1, .int (nI f)), (2, .int (nI gl.length))] [] T (fun r T1 => r = none ∧ FrG [(321, 64)] [65, wr + 1] T T1 ∧ WSt T1 wr cu bits s en lo A cp RR (R ++ ([91] ++ (txN s pa (wnB s bits) k y ++ [93]))) (hAv s bits pa i y (gl ++ [f]) lev (some f) h)) := by
  obtain ⟨hC, hS, hK, hTW, hHD, hA, hTR, hX, hwr, hsep⟩ := id hW
  obtain ⟨hu, hV, ⟨hs60, h12⟩, hWl, hNb, hRO⟩ := id hZ
  refine xe (fun _ _ kK => x_aload_n dX6_writeGroup_0 rfl 0 rfl kK) ?_
  refine xe (fun _ _ kK => x_get dX6_writeGroup_1 fl_X6_23 hTW.1 (gvl_r1 fz_6_3.2.2 (show e_r T 387 wr = some 64 from hTW.2.2.2.2.1)) kK) ?_
  refine xe (fun _ _ kK => x_bipush dX6_writeGroup_4 (show _ = nI 91 by decide) kK) ?_
  refine xe_callV (a := 64) [.int (nI 91)] dX6_writeGroup_6 ml_X6_89 mf_X5_put hC.2.2.2.2.2.2.2.2.2.2.2.1 (c_X5_put E hC hX (c := 91) (by simp at hl; omega) (by decide)) rfl rfl (Nat.le_of_ble_eq_true rfl) (Nat.le_of_ble_eq_true rfl) ?_
  rintro _ T1 ⟨rfl, hF1, hX1⟩
  have hW1 := hW.tx hZ hF1 hX1
  obtain ⟨hCa, hSa, hKa, hTWa, hHDa, hAa, hTRa, hXa, hwra, hsepa⟩ := id hW1
  refine xe (fun _ _ kK => x_aload_n dX6_writeGroup_9 rfl 0 rfl kK) ?_
  refine xe (fun _ _ kK => x_iload_n dX6_writeGroup_10 rfl 1 rfl kK) ?_
  refine xe (fun _ _ kK => x_iload_n dX6_writeGroup_11 rfl 2 rfl kK) ?_
  refine xe (fun _ _ kK => x_iconst dX6_writeGroup_12 (show _ = nI 1 by decide) kK) ?_
  refine xe (fun _ _ kK => x_iadd dX6_writeGroup_13 kK) ?_
  refine xe_ti (show _ = nI (gl.length + 1) from nI_add gl.length 1) ?_
  rw [show gl.length + 1 = (gl ++ [f]).length by simp]
  refine xe_callV (a := wr) [.int (nI f), .int (nI (gl ++ [f]).length)] dX6_writeGroup_14 ml_X6_46 mf_X6_writeParts hTWa.1 (hIH T1 _ h y (gl ++ [f]) lev (some f) hW1 hy hyf (by rw [List.reverse_append]; exact ⟨rfl, by rw [hWf]; exact hg⟩) (by simp; omega) (by simp; omega) (fun g hg9 => by cases hg9; exact hf) hB (by simp at hl ⊢; omega)) rfl rfl (Nat.le_of_ble_eq_true rfl) (Nat.le_of_ble_eq_true rfl) ?_
  rintro _ T2 ⟨rfl, hF2, hW2⟩
  obtain ⟨hCb, hSb, hKb, hTWb, hHDb, hAb, hTRb, hXb, hwrb, hsepb⟩ := id hW2
  refine xe (fun _ _ kK => x_aload_n dX6_writeGroup_17 rfl 0 rfl kK) ?_
  refine xe (fun _ _ kK => x_get dX6_writeGroup_18 fl_X6_23 hTWb.1 (gvl_r1 fz_6_3.2.2 (show e_r T2 387 wr = some 64 from hTWb.2.2.2.2.1)) kK) ?_
  refine xe (fun _ _ kK => x_bipush dX6_writeGroup_21 (show _ = nI 93 by decide) kK) ?_
  refine xe_callV (a := 64) [.int (nI 93)] dX6_writeGroup_23 ml_X6_89 mf_X5_put hCb.2.2.2.2.2.2.2.2.2.2.2.1 (c_X5_put E hCb hXb (c := 93) (by simp at hl ⊢; omega) (by decide)) rfl rfl (Nat.le_of_ble_eq_true rfl) (Nat.le_of_ble_eq_true rfl) ?_
  rintro _ T3 ⟨rfl, hF3, hX3⟩
  have hW3 := hW2.tx hZ hF3 hX3
  exact xe_retv dX6_writeGroup_26 rfl (⟨rfl, FrG.tr (hF1.mono (fun _ z => z) (by simp)) (FrG.tr hF2 (hF3.mono (fun _ z => z) (by simp))), by rw [show R ++ ([91] ++ (txN s pa (wnB s bits) k y ++ [93])) = R ++ [91] ++ txN s pa (wnB s bits) k y ++ [93] by simp]; exact hW3⟩)

theorem chF_nd (pa : Pa) (x f : Nat) : ∀ (k lk : Nat), (chF pa x f k lk).Pairwise (· < ·) := by
  intro k
  induction k with
  | zero => intro lk; exact List.Pairwise.nil
  | succ k ih =>
    intro lk
    rw [chF]
    split
    · exact List.pairwise_cons.mpr ⟨fun y hy => by have := (mem_chF _ _ _).mp hy; omega, ih _⟩
    · exact ih _
theorem ch_nd (pa : Pa) (x f lk : Nat) : (ch pa x f lk).Pairwise (· < ·) := chF_nd pa x f _ _

set_option maxHeartbeats 4000000 in
theorem l_X6_more {T T3 : TH} {wr cu : Nat} {bits : Int32} {s : Sh} {en : Nat → Nat} {lo : Nat → Option Nat} {A : Nat → Nat → Nat} {cp : Nat → Nat} {RR : Nat → List Row} {R : List Nat} {h : Nat → Nat} {pa : Pa} {i k E f x c0 tm y l0 : Nat} {gl ys pre : List Nat} {o : Option Nat} (hW : WSt T3 wr cu bits s en lo A cp RR R (hFd s bits f (fun c => (blk s pa i y (gl ++ [f]) l0 c).length) h)) (hZ : WZ cu s en lo RR) (hPT : PTv s pa) (hf : f < s.1) (hWf : s.2.2.1 f = o) (hg : Chn s.2.2.1 o gl.reverse) (hc0 : c0 < s.2.1) (hb0 : bitOn bits c0) (hf0 : f ∈ rdl s c0) (hpre : ch pa x f (x + 1) = pre ++ y :: ys) (hTm : tm + (y :: ys).length ≤ 200) (hgl5 : gl.length ≤ 5) (hBl : (∀ c, c < s.2.1 → bitOn bits c → f ∈ rdl s c → ∃ B, (RR c).drop (h c) = fbk s pa i f gl l0 (y :: ys) c ++ B ∧ HdLe B (mc s.2.2.2.2.2.1 gl))) (hl : R.length + 1 + (ys.flatMap (ITk s pa (wnB s bits) k f)).length ≤ 400) (hF03 : FrG [(321, 64)] [65, wr + 1] T T3) (ih : ∀ (y2 : Nat) (ys2 : List Nat) (l1 tm2 : Nat) (T4 : TH) (R4 : List Nat) (h4 : Nat → Nat), ys = y2 :: ys2 → ∀ (pre2 : List Nat), WSt T4 wr cu bits s en lo A cp RR R4 h4 → ch pa x f (x + 1) = pre2 ++ y2 :: ys2 → tm2 + (y2 :: ys2).length ≤ 200 → (∀ c, c < s.2.1 → bitOn bits c → f ∈ rdl s c → ∃ B, (RR c).drop (h4 c) = fbk s pa i f gl l1 (y2 :: ys2) c ++ B ∧ HdLe B (mc s.2.2.2.2.2.1 gl)) → R4.length + ((y2 :: ys2).flatMap (ITk s pa (wnB s bits) k f)).length ≤ 400 → Xe m_X6_writeField (E + 6) 69 [(6, .int (nI tm2)), (5, .int (nI 1)), (4, .ref (4 + 5 * c0)), (3, .int (nI c0)), (0, .ref wr), (1, .int (nI f)), (2, .int (nI gl.length))] [] T4 (fun r T1 => r = none ∧ FrG [(321, 64)] [65, wr + 1] T4 T1 ∧ WSt T1 wr cu bits s en lo A cp RR (R4 ++ (y2 :: ys2).flatMap (ITk s pa (wnB s bits) k f)) (hFd s bits f (fun c => (fbk s pa i f gl l1 (y2 :: ys2) c).length) h4))) : Xe m_X6_writeField (E + 6) 134 [(6, .int (nI tm)), (5, .int (nI 1)), (4, .ref (4 + 5 * c0)), (3, .int (nI c0)), (0, .ref wr), (1, .int (nI f)), (2, .int (nI gl.length))] [] T3 (fun r T1 => r = none ∧ FrG [(321, 64)] [65, wr + 1] T T1 ∧ WSt T1 wr cu bits s en lo A cp RR (R ++ [59] ++ ys.flatMap (ITk s pa (wnB s bits) k f)) (hFd s bits f (fun c => (fbk s pa i f gl l0 (y :: ys) c).length) h)) := by
  obtain ⟨hC, hS, hK, hTW, hHD, hA, hTR, hX, hwr, hsep⟩ := id hW
  obtain ⟨hu, hV, ⟨hs60, h12⟩, hWl, hNb, hRO⟩ := id hZ
  have hnpx := hX.2.1
  obtain ⟨hO, hH⟩ := hRO c0 hc0
  have h6 := hO.1
  have hMf := (hV.2.2.1 f hf).2.1
  obtain ⟨⟨z9, tv1, tv2, tv3, tv4, tv5⟩, tz0, tz1, tz2, tz3⟩ := id hPT
  obtain ⟨B0, hB0, hBl0⟩ := hBl c0 hc0 hb0 hf0
  rw [fbk_cons, List.append_assoc] at hB0
  have hdr := drop_nx hB0
  have hh0 : hFd s bits f (fun c => (blk s pa i y (gl ++ [f]) l0 c).length) h c0 = h c0 + (blk s pa i y (gl ++ [f]) l0 c0).length := hFd_y hb0 hf0
  rw [← hh0] at hdr
  have hhl : hFd s bits f (fun c => (blk s pa i y (gl ++ [f]) l0 c).length) h c0 ≤ (RR c0).length := by
    have := congrArg List.length hB0
    rw [List.length_drop, List.length_append] at this
    have hp : h c0 < (RR c0).length := by obtain ⟨w, ws, q1, q2, q3⟩ := blk_hd (s := s) (pa := pa) (i := i) (x := y) (lev := l0) (c := c0) (gl := gl ++ [f]); rw [q1] at hB0; exact (drop_hd hB0).1
    rw [hh0]; omega
  have hag5 : (mc s.2.2.2.2.2.1 gl + mM s.2.2.2.2.2.1 f) ≤ 10 := by have h1 := mc_le s.2.2.2.2.2.1 (gl ++ [f]); rw [mc_s] at h1; simp at h1; omega
  refine xe (fun _ _ kK => x_aload_n dX6_writeField_134 rfl 4 rfl kK) ?_
  refine xe (fun _ _ kK => x_get dX6_writeField_135 fl_X6_23 hTW.1 (gvl_r1 fz_6_3.2.2 (show e_r T3 387 wr = some 64 from hTW.2.2.2.2.1)) kK) ?_
  refine xe (fun _ _ kK => x_bipush dX6_writeField_138 (show _ = nI 59 by decide) kK) ?_
  refine xe_callV (a := 64) [.int (nI 59)] dX6_writeField_140 ml_X6_89 mf_X5_put hC.2.2.2.2.2.2.2.2.2.2.2.1 (c_X5_put (E + 5) hC hX (c := 59) (by omega) (by decide)) rfl rfl (Nat.le_of_ble_eq_true rfl) (Nat.le_of_ble_eq_true rfl) ?_
  rintro _ T4 ⟨rfl, hF4, hX4⟩
  have hW4 := hW.tx hZ hF4 hX4
  obtain ⟨hCa, hSa, hKa, hTWa, hHDa, hAa, hTRa, hXa, hwra, hsepa⟩ := id hW4
  have hTc := hW4.tb h12 hc0
  have hF04 : FrG [(321, 64)] [65, wr + 1] T T4 := FrG.tr hF03 (hF4.mono (fun _ z => z) (by simp))
  refine xe (fun _ _ kK => x_aload_n dX6_writeField_143 rfl 4 rfl kK) ?_
  refine xe (fun _ _ kK => x_get dX6_writeField_144 fl_X6_9 hTWa.1 (gvl_r1 fz_6_0.2.2 (show e_r T4 384 wr = some cu from hTWa.2.1)) kK) ?_
  refine xe (fun _ _ kK => x_get dX6_writeField_147 fl_X6_101 hSa.1.1 (gvl_r1 fz_1_2.2.2 (show e_r T4 66 cu = some (cu + 3) from (hSa.1.2.1 2 (by decide)))) kK) ?_
  refine xe (fun _ _ kK => x_iload_n dX6_writeField_150 rfl 5 rfl kK) ?_
  refine xe (fun _ _ kK => x_iald dX6_writeField_151 (show e_K _ (cu + 3) = 20 from (hSa.1.2.2.1 2 (by decide))) (show (nI f) = nI f from rfl) (shi_len hSa.1 2 (by decide) (show f < 66 by omega)) (show e_ai T4 (cu + 3) f = nI (s.2.2.2.2.2.1 f + 1) from (hSa.2.2.2.1 f hf).2.2.1) kK) ?_
  refine xe (fun _ _ kK => x_iconst dX6_writeField_152 (show _ = nI 3 by decide) kK) ?_
  cases ys with
  | nil =>
    refine xe_icmp_ne (tgt := 183) dX6_writeField_153 (by decide) (fun h153 => ?_) (fun h153 => ?_)
    · -- pc 183
      have h153 := cv_ne (by omega) (by omega) h153
      refine xe (fun _ _ kK => x_iconst dX6_writeField_183 (show _ = nI 0 by decide) kK) ?_
      refine xe (fun _ _ kK => x_istore dX6_writeField_184 (by decide) (show _ = [(5, .int (nI 0)), (6, .int (nI tm)), (4, .ref (4 + 5 * c0)), (3, .int (nI c0)), (0, .ref wr), (1, .int (nI f)), (2, .int (nI gl.length))] from rfl) kK) ?_
      refine xe (fun _ _ kK => x_iinc dX6_writeField_186 1 rfl (show (nI tm) + Int32.ofInt 1 = nI (tm + 1) from nI_add tm 1) (by decide) (show _ = [(6, .int (nI (tm + 1))), (5, .int (nI 0)), (4, .ref (4 + 5 * c0)), (3, .int (nI c0)), (0, .ref wr), (1, .int (nI f)), (2, .int (nI gl.length))] from rfl) kK) ?_
      refine xe (fun _ _ kK => x_goto (tgt := 69) dX6_writeField_189 (by decide) kK) ?_
      refine xe (fun _ _ kK => x_iload dX6_writeField_69 0 rfl kK) ?_
      refine xe (fun _ _ kK => x_sipush dX6_writeField_71 (show _ = nI 400 by decide) kK) ?_
      refine xe_icmp_ge (tgt := 192) dX6_writeField_74 (by decide) (fun h74 => ?_) (fun h74 => ?_)
      · -- pc 192
        exact xe_retv dX6_writeField_192 rfl (⟨rfl, hF04, by rw [show (fun c => (fbk s pa i f gl l0 [y] c).length) = (fun c => (blk s pa i y (gl ++ [f]) l0 c).length) from funext (fun c => by rw [fbk_cons]; simp)]; simpa using hW4⟩)
      · -- pc 77
        refine xe (fun _ _ kK => x_iload dX6_writeField_77 1 rfl kK) ?_
        refine xe (fun _ _ kK => x_if_eqT (tgt := 192) dX6_writeField_79 (by decide) rfl kK) ?_
        exact xe_retv dX6_writeField_192 rfl (⟨rfl, hF04, by rw [show (fun c => (fbk s pa i f gl l0 [y] c).length) = (fun c => (blk s pa i y (gl ++ [f]) l0 c).length) from funext (fun c => by rw [fbk_cons]; simp)]; simpa using hW4⟩)
    · -- pc 156
      have h153 := cv_eq (by omega) (by omega) h153
      have hm2 : s.2.2.2.2.2.1 f = 2 := by omega
      have hmM : mM s.2.2.2.2.2.1 f = 1 := by unfold mM; rw [if_pos hm2]
      refine xe (fun _ _ kK => x_aload dX6_writeField_156 2 rfl kK) ?_
      refine xe (fun _ _ kK => x_aload_n dX6_writeField_158 rfl 4 rfl kK) ?_
      refine xe (fun _ _ kK => x_get dX6_writeField_159 fl_X6_27 hTWa.1 (gvl_r1 fz_6_4.2.2 (show e_r T4 388 wr = some (wr + 1) from hTWa.2.2.2.2.2.1)) kK) ?_
      refine xe (fun _ _ kK => x_iload_n dX6_writeField_162 rfl 3 rfl kK) ?_
      refine xe (fun _ _ kK => x_iald dX6_writeField_163 hTWa.2.2.2.2.2.2.1 (show (nI c0) = nI c0 from rfl) (by rw [hTWa.2.2.2.2.2.2.2]; omega) (show e_ai T4 (wr + 1) c0 = nI (hFd s bits f (fun c => (blk s pa i y (gl ++ [f]) l0 c).length) h c0) from (hHDa c0 hc0 hb0)) kK) ?_
      refine xe (fun _ _ kK => x_aload_n dX6_writeField_164 rfl 4 rfl kK) ?_
      refine xe (fun _ _ kK => x_get dX6_writeField_165 fl_X6_9 hTWa.1 (gvl_r1 fz_6_0.2.2 (show e_r T4 384 wr = some cu from hTWa.2.1)) kK) ?_
      refine xe (fun _ _ kK => x_get dX6_writeField_168 fl_X6_104 hSa.1.1 (gvl_r1 fz_1_6.2.2 (show e_r T4 70 cu = some (cu + 7) from (hSa.1.2.1 6 (by decide)))) kK) ?_
      refine xe (fun _ _ kK => x_iload_n dX6_writeField_171 rfl 5 rfl kK) ?_
      refine xe (fun _ _ kK => x_iald dX6_writeField_172 (show e_K _ (cu + 7) = 20 from (hSa.1.2.2.1 6 (by decide))) (show (nI f) = nI f from rfl) (shi_len hSa.1 6 (by decide) (show f < 66 by omega)) (show e_ai T4 (cu + 7) f = nI (mc s.2.2.2.2.2.1 gl + mM s.2.2.2.2.2.1 f) from (by have := (hKa f hf _ (hV.up hf).1).2.1; rw [up_gl hV hf hg hWf, mc_k, mc_rev] at this; rw [this]; congr 1; omega)) kK) ?_
      have hhx : hlX (RR c0) (nI (hFd s bits f (fun c => (blk s pa i y (gl ++ [f]) l0 c).length) h c0)) (mc s.2.2.2.2.2.1 gl + mM s.2.2.2.2.2.1 f) = false := by
        unfold hlX
        rcases Nat.lt_or_ge (hFd s bits f (fun c => (blk s pa i y (gl ++ [f]) l0 c).length) h c0) (RR c0).length with z | z
        · rw [ix_in z (by omega)]
          cases B0 with
          | nil => simp only [List.flatMap_nil, List.append_nil] at hdr; have := congrArg List.length hdr; rw [List.length_drop] at this; simp at this; omega
          | cons r B0 =>
            have hr := (drop_hd (show (RR c0).drop _ = r :: B0 from hdr)).2
            have hle := hBl0 r rfl
            show decide ((rowAt (RR c0) _).1 = _) = false
            rw [hr]; simp; omega
        · rw [ix_out z (by omega)]
      refine xe_callV (a := (4 + 5 * c0)) [.int (nI (hFd s bits f (fun c => (blk s pa i y (gl ++ [f]) l0 c).length) h c0)), .int (nI (mc s.2.2.2.2.2.1 gl + mM s.2.2.2.2.2.1 f))] dX6_writeField_173 ml_X6_107 mf_X3_hasLevel hTc.1 (by have := c_X3_hasLevel (E + 4) hTc hO (lv := (mc s.2.2.2.2.2.1 gl + mM s.2.2.2.2.2.1 f)) (by omega) (nI (hFd s bits f (fun c => (blk s pa i y (gl ++ [f]) l0 c).length) h c0)); rw [hhx] at this; exact this) rfl rfl (Nat.le_of_ble_eq_true rfl) (Nat.le_of_ble_eq_true rfl) ?_
      rintro _ T9 ⟨rfl, hTq9⟩
      refine xe_T hTq9 ?_
      refine xe (fun _ _ kK => x_if_eqT (tgt := 183) dX6_writeField_176 (by decide) rfl kK) ?_
      refine xe (fun _ _ kK => x_iconst dX6_writeField_183 (show _ = nI 0 by decide) kK) ?_
      refine xe (fun _ _ kK => x_istore dX6_writeField_184 (by decide) (show _ = [(5, .int (nI 0)), (6, .int (nI tm)), (4, .ref (4 + 5 * c0)), (3, .int (nI c0)), (0, .ref wr), (1, .int (nI f)), (2, .int (nI gl.length))] from rfl) kK) ?_
      refine xe (fun _ _ kK => x_iinc dX6_writeField_186 1 rfl (show (nI tm) + Int32.ofInt 1 = nI (tm + 1) from nI_add tm 1) (by decide) (show _ = [(6, .int (nI (tm + 1))), (5, .int (nI 0)), (4, .ref (4 + 5 * c0)), (3, .int (nI c0)), (0, .ref wr), (1, .int (nI f)), (2, .int (nI gl.length))] from rfl) kK) ?_
      refine xe (fun _ _ kK => x_goto (tgt := 69) dX6_writeField_189 (by decide) kK) ?_
      refine xe (fun _ _ kK => x_iload dX6_writeField_69 0 rfl kK) ?_
      refine xe (fun _ _ kK => x_sipush dX6_writeField_71 (show _ = nI 400 by decide) kK) ?_
      refine xe_icmp_ge (tgt := 192) dX6_writeField_74 (by decide) (fun h74 => ?_) (fun h74 => ?_)
      · -- pc 192
        exact xe_retv dX6_writeField_192 rfl (⟨rfl, hF04, by rw [show (fun c => (fbk s pa i f gl l0 [y] c).length) = (fun c => (blk s pa i y (gl ++ [f]) l0 c).length) from funext (fun c => by rw [fbk_cons]; simp)]; simpa using hW4⟩)
      · -- pc 77
        refine xe (fun _ _ kK => x_iload dX6_writeField_77 1 rfl kK) ?_
        refine xe (fun _ _ kK => x_if_eqT (tgt := 192) dX6_writeField_79 (by decide) rfl kK) ?_
        exact xe_retv dX6_writeField_192 rfl (⟨rfl, hF04, by rw [show (fun c => (fbk s pa i f gl l0 [y] c).length) = (fun c => (blk s pa i y (gl ++ [f]) l0 c).length) from funext (fun c => by rw [fbk_cons]; simp)]; simpa using hW4⟩)
  | cons y2 ys =>
    have hy2 : y2 ∈ ch pa x f (x + 1) := by rw [hpre]; simp
    have hy1 : y ∈ ch pa x f (x + 1) := by rw [hpre]; simp
    have hm2 : s.2.2.2.2.2.1 f = 2 := Classical.byContradiction (fun hne => by
      obtain ⟨a1, a2, a3, a4⟩ := mem_ch.mp hy1
      obtain ⟨b1, b2, b3, b4⟩ := mem_ch.mp hy2
      have e9 := tv2 y y2 x f a2 b2 a3 b3 a4 b4 hne
      have hnd := ch_nd pa x f (x + 1)
      rw [hpre, e9] at hnd
      have := (List.pairwise_append.mp hnd).2.1
      have := (List.pairwise_cons.mp this).1 y2 List.mem_cons_self
      omega)
    refine xe (fun _ _ kK => x_icmp_neF (tgt := 183) dX6_writeField_153 (by decide) (show nI _ = nI 3 by rw [hm2]) kK) ?_
    refine xe (fun _ _ kK => x_aload dX6_writeField_156 2 rfl kK) ?_
    refine xe (fun _ _ kK => x_aload_n dX6_writeField_158 rfl 4 rfl kK) ?_
    refine xe (fun _ _ kK => x_get dX6_writeField_159 fl_X6_27 hTWa.1 (gvl_r1 fz_6_4.2.2 (show e_r T4 388 wr = some (wr + 1) from hTWa.2.2.2.2.2.1)) kK) ?_
    refine xe (fun _ _ kK => x_iload_n dX6_writeField_162 rfl 3 rfl kK) ?_
    refine xe (fun _ _ kK => x_iald dX6_writeField_163 hTWa.2.2.2.2.2.2.1 (show (nI c0) = nI c0 from rfl) (by rw [hTWa.2.2.2.2.2.2.2]; omega) (show e_ai T4 (wr + 1) c0 = nI (hFd s bits f (fun c => (blk s pa i y (gl ++ [f]) l0 c).length) h c0) from (hHDa c0 hc0 hb0)) kK) ?_
    refine xe (fun _ _ kK => x_aload_n dX6_writeField_164 rfl 4 rfl kK) ?_
    refine xe (fun _ _ kK => x_get dX6_writeField_165 fl_X6_9 hTWa.1 (gvl_r1 fz_6_0.2.2 (show e_r T4 384 wr = some cu from hTWa.2.1)) kK) ?_
    refine xe (fun _ _ kK => x_get dX6_writeField_168 fl_X6_104 hSa.1.1 (gvl_r1 fz_1_6.2.2 (show e_r T4 70 cu = some (cu + 7) from (hSa.1.2.1 6 (by decide)))) kK) ?_
    refine xe (fun _ _ kK => x_iload_n dX6_writeField_171 rfl 5 rfl kK) ?_
    refine xe (fun _ _ kK => x_iald dX6_writeField_172 (show e_K _ (cu + 7) = 20 from (hSa.1.2.2.1 6 (by decide))) (show (nI f) = nI f from rfl) (shi_len hSa.1 6 (by decide) (show f < 66 by omega)) (show e_ai T4 (cu + 7) f = nI (mc s.2.2.2.2.2.1 gl + mM s.2.2.2.2.2.1 f) from (by have := (hKa f hf _ (hV.up hf).1).2.1; rw [up_gl hV hf hg hWf, mc_k, mc_rev] at this; rw [this]; congr 1; omega)) kK) ?_
    obtain ⟨w, ws, q1, q2, q3⟩ := blk_hd (s := s) (pa := pa) (i := i) (x := y2) (lev := (mc s.2.2.2.2.2.1 gl + mM s.2.2.2.2.2.1 f)) (c := c0) (gl := gl ++ [f])
    have hd2 : (RR c0).drop (hFd s bits f (fun c => (blk s pa i y (gl ++ [f]) l0 c).length) h c0) = w :: (ws ++ (ys.flatMap (fun z => blk s pa i z (gl ++ [f]) (mc s.2.2.2.2.2.1 gl + mM s.2.2.2.2.2.1 f) c0) ++ B0)) := by rw [hdr, List.flatMap_cons, q1]; simp
    obtain ⟨hd3, hd4⟩ := drop_hd hd2
    have hhx : hlX (RR c0) (nI (hFd s bits f (fun c => (blk s pa i y (gl ++ [f]) l0 c).length) h c0)) (mc s.2.2.2.2.2.1 gl + mM s.2.2.2.2.2.1 f) = true := by unfold hlX; rw [ix_in hd3 (by omega)]; show decide ((rowAt (RR c0) _).1 = _) = true; rw [hd4, q2]; simp
    refine xe_callV (a := (4 + 5 * c0)) [.int (nI (hFd s bits f (fun c => (blk s pa i y (gl ++ [f]) l0 c).length) h c0)), .int (nI (mc s.2.2.2.2.2.1 gl + mM s.2.2.2.2.2.1 f))] dX6_writeField_173 ml_X6_107 mf_X3_hasLevel hTc.1 (by have := c_X3_hasLevel (E + 4) hTc hO (lv := (mc s.2.2.2.2.2.1 gl + mM s.2.2.2.2.2.1 f)) (by omega) (nI (hFd s bits f (fun c => (blk s pa i y (gl ++ [f]) l0 c).length) h c0)); rw [hhx] at this; exact this) rfl rfl (Nat.le_of_ble_eq_true rfl) (Nat.le_of_ble_eq_true rfl) ?_
    rintro _ T9 ⟨rfl, hTq9⟩
    refine xe_T hTq9 ?_
    refine xe (fun _ _ kK => x_if_eqF (tgt := 183) dX6_writeField_176 (by decide) (show ¬ bI true = 0 by decide) kK) ?_
    refine xe (fun _ _ kK => x_iconst dX6_writeField_179 (show _ = nI 1 by decide) kK) ?_
    refine xe (fun _ _ kK => x_goto (tgt := 184) dX6_writeField_180 (by decide) kK) ?_
    refine xe (fun _ _ kK => x_istore dX6_writeField_184 (by decide) (show _ = [(5, .int (nI 1)), (6, .int (nI tm)), (4, .ref (4 + 5 * c0)), (3, .int (nI c0)), (0, .ref wr), (1, .int (nI f)), (2, .int (nI gl.length))] from rfl) kK) ?_
    refine xe (fun _ _ kK => x_iinc dX6_writeField_186 1 rfl (show (nI tm) + Int32.ofInt 1 = nI (tm + 1) from nI_add tm 1) (by decide) (show _ = [(6, .int (nI (tm + 1))), (5, .int (nI 1)), (4, .ref (4 + 5 * c0)), (3, .int (nI c0)), (0, .ref wr), (1, .int (nI f)), (2, .int (nI gl.length))] from rfl) kK) ?_
    refine xe (fun _ _ kK => x_goto (tgt := 69) dX6_writeField_189 (by decide) kK) ?_
    have hnew : ∀ c, c < s.2.1 → bitOn bits c → f ∈ rdl s c → ∃ B, (RR c).drop (hFd s bits f (fun c => (blk s pa i y (gl ++ [f]) l0 c).length) h c) = fbk s pa i f gl (mc s.2.2.2.2.2.1 gl + mM s.2.2.2.2.2.1 f) (y2 :: ys) c ++ B ∧ HdLe B (mc s.2.2.2.2.2.1 gl) := fun c hc hb hfc => by
      obtain ⟨B, hB1, hB2⟩ := hBl c hc hb hfc
      rw [fbk_cons, List.append_assoc] at hB1
      refine ⟨B, ?_, hB2⟩
      rw [hFd_y hb hfc, drop_nx hB1, fbk_next]
    refine Xe.imp (xe_loc (by simp) (ih y2 ys (mc s.2.2.2.2.2.1 gl + mM s.2.2.2.2.2.1 f) (tm + 1) T4 _ (hFd s bits f (fun c => (blk s pa i y (gl ++ [f]) l0 c).length) h) rfl (pre ++ [y]) hW4 (by rw [hpre]; simp) (by simp at hTm ⊢; omega) hnew (by simp at hl ⊢; omega))) ?_
    rintro _ T5 ⟨rfl, hF5, hW5⟩
    refine ⟨rfl, FrG.tr hF04 hF5, hW5.hc (fun c hc hb => ?_)⟩
    by_cases hfc : f ∈ rdl s c
    · rw [hFd_y hb hfc, hFd_y hb hfc, hFd_y hb hfc, fbk_cons s pa i f gl l0 y, fbk_next, List.length_append]; omega
    · rw [hFd_n (fun z => hfc z.2), hFd_n (fun z => hfc z.2), hFd_n (fun z => hfc z.2)]

set_option maxHeartbeats 4000000 in
theorem l_X6_once {wr cu : Nat} {bits : Int32} {s : Sh} {en : Nat → Nat} {lo : Nat → Option Nat} {A : Nat → Nat → Nat} {cp : Nat → Nat} {RR : Nat → List Row} {pa : Pa} {i : Nat} {k E f x c0 : Nat} {gl : List Nat} {o : Option Nat} (hZ : WZ cu s en lo RR) (hPT : PTv s pa) (hIH : WPk wr cu bits s en lo A cp RR pa i k (E + 4)) (hf : f < s.1) (hWf : s.2.2.1 f = o) (hg : Chn s.2.2.1 o gl.reverse) (hlen : gl.length + 1 + k = 5) (hc0 : c0 < s.2.1) (hb0 : bitOn bits c0) (hf0 : f ∈ rdl s c0) {ys : List Nat} {y l0 tm : Nat} {T : TH} {R : List Nat} {h : Nat → Nat} {pre : List Nat} (hW : WSt T wr cu bits s en lo A cp RR R h) (hpre : ch pa x f (x + 1) = pre ++ y :: ys) (hTm : tm + (y :: ys).length ≤ 200) (hBl : (∀ c, c < s.2.1 → bitOn bits c → f ∈ rdl s c → ∃ B, (RR c).drop (h c) = fbk s pa i f gl l0 (y :: ys) c ++ B ∧ HdLe B (mc s.2.2.2.2.2.1 gl))) (hl : R.length + ((y :: ys).flatMap (ITk s pa (wnB s bits) k f)).length ≤ 400) (ih : ∀ (y2 : Nat) (ys2 : List Nat) (l1 tm2 : Nat) (T4 : TH) (R4 : List Nat) (h4 : Nat → Nat), ys = y2 :: ys2 → ∀ (pre2 : List Nat), WSt T4 wr cu bits s en lo A cp RR R4 h4 → ch pa x f (x + 1) = pre2 ++ y2 :: ys2 → tm2 + (y2 :: ys2).length ≤ 200 → (∀ c, c < s.2.1 → bitOn bits c → f ∈ rdl s c → ∃ B, (RR c).drop (h4 c) = fbk s pa i f gl l1 (y2 :: ys2) c ++ B ∧ HdLe B (mc s.2.2.2.2.2.1 gl)) → R4.length + ((y2 :: ys2).flatMap (ITk s pa (wnB s bits) k f)).length ≤ 400 → Xe m_X6_writeField (E + 6) 69 [(6, .int (nI tm2)), (5, .int (nI 1)), (4, .ref (4 + 5 * c0)), (3, .int (nI c0)), (0, .ref wr), (1, .int (nI f)), (2, .int (nI gl.length))] [] T4 (fun r T1 => r = none ∧ FrG [(321, 64)] [65, wr + 1] T4 T1 ∧ WSt T1 wr cu bits s en lo A cp RR (R4 ++ (y2 :: ys2).flatMap (ITk s pa (wnB s bits) k f)) (hFd s bits f (fun c => (fbk s pa i f gl l1 (y2 :: ys2) c).length) h4))) : Xe m_X6_writeField (E + 6) 69 [(6, .int (nI tm)), (5, .int (nI 1)), (4, .ref (4 + 5 * c0)), (3, .int (nI c0)), (0, .ref wr), (1, .int (nI f)), (2, .int (nI gl.length))] [] T (fun r T1 => r = none ∧ FrG [(321, 64)] [65, wr + 1] T T1 ∧ WSt T1 wr cu bits s en lo A cp RR (R ++ (y :: ys).flatMap (ITk s pa (wnB s bits) k f)) (hFd s bits f (fun c => (fbk s pa i f gl l0 (y :: ys) c).length) h)) := by
  obtain ⟨hC, hS, hK, hTW, hHD, hA, hTR, hX, hwr, hsep⟩ := id hW
  obtain ⟨hu, hV, ⟨hs60, h12⟩, hWl, hNb, hRO⟩ := id hZ
  have hTc := hW.tb h12 hc0
  obtain ⟨hO, hH⟩ := hRO c0 hc0
  have h6 := hO.1
  have hnp := (hV.2.2.2.2.2.2.2.2.2.2 f hf)
  have hN8 := hNb f hf
  have hKf := (hV.2.2.1 f hf).1
  have hMf := (hV.2.2.1 f hf).2.1
  obtain ⟨⟨z9, tv1, tv2, tv3, tv4, tv5⟩, tz0, tz1, tz2, tz3⟩ := id hPT
  have hych : y ∈ ch pa x f (x + 1) := by rw [hpre]; simp
  obtain ⟨y1, y2, y3, y4⟩ := mem_ch.mp hych
  have hll : (upF s.2.2.1 6 (some f)).length = gl.length + 1 := by rw [up_gl hV hf hg hWf]; simp
  have hfl : (y :: ys).flatMap (ITk s pa (wnB s bits) k f) = ITk s pa (wnB s bits) k f y ++ ys.flatMap (ITk s pa (wnB s bits) k f) := rfl
  rw [hfl] at hl ⊢
  have hit : ITk s pa (wnB s bits) k f y = wtx (s.2.2.2.1 f) ++ ([58] ++ ((if s.2.2.2.2.1 f = 2 then [91] ++ (txN s pa (wnB s bits) k y ++ [93]) else vtx (s.2.2.2.2.1 f) (pa.2.2.2 y)) ++ [59])) := rfl
  rw [hit] at hl ⊢
  obtain ⟨B0, hB0, hBl0⟩ := hBl c0 hc0 hb0 hf0
  rw [fbk_cons, List.append_assoc] at hB0
  refine xe (fun _ _ kK => x_iload dX6_writeField_69 0 rfl kK) ?_
  refine xe (fun _ _ kK => x_sipush dX6_writeField_71 (show _ = nI 400 by decide) kK) ?_
  refine xe (fun _ _ kK => x_icmp_geF (tgt := 192) dX6_writeField_74 (by decide) (fun z9 => by have := cv_le (by omega) (by omega) z9; omega) kK) ?_
  refine xe (fun _ _ kK => x_iload dX6_writeField_77 1 rfl kK) ?_
  refine xe (fun _ _ kK => x_if_eqF (tgt := 192) dX6_writeField_79 (by decide) (show ¬ nI 1 = 0 by decide) kK) ?_
  refine xe (fun _ _ kK => x_aload_n dX6_writeField_82 rfl 4 rfl kK) ?_
  refine xe (fun _ _ kK => x_get dX6_writeField_83 fl_X6_23 hTW.1 (gvl_r1 fz_6_3.2.2 (show e_r T 387 wr = some 64 from hTW.2.2.2.2.1)) kK) ?_
  refine xe (fun _ _ kK => x_aload_n dX6_writeField_86 rfl 4 rfl kK) ?_
  refine xe (fun _ _ kK => x_get dX6_writeField_87 fl_X6_9 hTW.1 (gvl_r1 fz_6_0.2.2 (show e_r T 384 wr = some cu from hTW.2.1)) kK) ?_
  refine xe (fun _ _ kK => x_get dX6_writeField_90 fl_X6_81 hS.1.1 (gvl_r1 fz_1_0.2.2 (show e_r T 64 cu = some (cu + 1) from (hS.1.2.1 0 (by decide)))) kK) ?_
  refine xe (fun _ _ kK => x_iload_n dX6_writeField_93 rfl 5 rfl kK) ?_
  refine xe (fun _ _ kK => x_lald dX6_writeField_94 (show e_K _ (cu + 1) = 23 from (hS.1.2.2.1 0 (by decide))) (show (nI f) = nI f from rfl) (shi_len hS.1 0 (by decide) (show f < 66 by omega)) (show e_al T (cu + 1) f = lN (s.2.2.2.1 f) from (hS.2.2.2.1 f hf).1) kK) ?_
  refine xe_callV (a := 64) [.long (lN (s.2.2.2.1 f))] dX6_writeField_95 ml_X6_85 mf_X5_putWord hC.2.2.2.2.2.2.2.2.2.2.2.1 (c_X5_putWord (E + 4) hC hX hnp.1 hnp.2 hN8 (by simp at hl; omega)) rfl rfl (Nat.le_of_ble_eq_true rfl) (Nat.le_of_ble_eq_true rfl) ?_
  rintro _ T1 ⟨rfl, hF1, hX1⟩
  have hW1 := hW.tx hZ hF1 hX1
  obtain ⟨hCa, hSa, hKa, hTWa, hHDa, hAa, hTRa, hXa, hwra, hsepa⟩ := id hW1
  refine xe (fun _ _ kK => x_aload_n dX6_writeField_98 rfl 4 rfl kK) ?_
  refine xe (fun _ _ kK => x_get dX6_writeField_99 fl_X6_23 hTWa.1 (gvl_r1 fz_6_3.2.2 (show e_r T1 387 wr = some 64 from hTWa.2.2.2.2.1)) kK) ?_
  refine xe (fun _ _ kK => x_bipush dX6_writeField_102 (show _ = nI 58 by decide) kK) ?_
  refine xe_callV (a := 64) [.int (nI 58)] dX6_writeField_104 ml_X6_89 mf_X5_put hCa.2.2.2.2.2.2.2.2.2.2.2.1 (c_X5_put (E + 5) hCa hXa (c := 58) (by simp at hl ⊢; omega) (by decide)) rfl rfl (Nat.le_of_ble_eq_true rfl) (Nat.le_of_ble_eq_true rfl) ?_
  rintro _ T2 ⟨rfl, hF2, hX2⟩
  have hW2 := hW1.tx hZ hF2 hX2
  obtain ⟨hCb, hSb, hKb, hTWb, hHDb, hAb, hTRb, hXb, hwrb, hsepb⟩ := id hW2
  have hF02 : FrG [(321, 64)] [65, wr + 1] T T2 := FrG.tr (hF1.mono (fun _ z => z) (by simp)) (hF2.mono (fun _ z => z) (by simp))
  refine xe (fun _ _ kK => x_aload_n dX6_writeField_107 rfl 4 rfl kK) ?_
  refine xe (fun _ _ kK => x_get dX6_writeField_108 fl_X6_9 hTWb.1 (gvl_r1 fz_6_0.2.2 (show e_r T2 384 wr = some cu from hTWb.2.1)) kK) ?_
  refine xe (fun _ _ kK => x_get dX6_writeField_111 fl_X6_92 hSb.1.1 (gvl_r1 fz_1_1.2.2 (show e_r T2 65 cu = some (cu + 2) from (hSb.1.2.1 1 (by decide)))) kK) ?_
  refine xe (fun _ _ kK => x_iload_n dX6_writeField_114 rfl 5 rfl kK) ?_
  refine xe (fun _ _ kK => x_iald dX6_writeField_115 (show e_K _ (cu + 2) = 20 from (hSb.1.2.2.1 1 (by decide))) (show (nI f) = nI f from rfl) (shi_len hSb.1 1 (by decide) (show f < 66 by omega)) (show e_ai T2 (cu + 2) f = nI (s.2.2.2.2.1 f + 1) from (hSb.2.2.2.1 f hf).2.1) kK) ?_
  refine xe (fun _ _ kK => x_iconst dX6_writeField_116 (show _ = nI 3 by decide) kK) ?_
  refine xe_icmp_ne (tgt := 129) dX6_writeField_117 (by decide) (fun h117 => ?_) (fun h117 => ?_)
  · -- pc 129
    have h117 := cv_ne (by omega) (by omega) h117
    have hk2 : ¬ s.2.2.2.2.1 f = 2 := by omega
    rw [if_neg hk2] at hl ⊢
    refine xe (fun _ _ kK => x_aload_n dX6_writeField_129 rfl 4 rfl kK) ?_
    refine xe (fun _ _ kK => x_iload_n dX6_writeField_130 rfl 3 rfl kK) ?_
    obtain ⟨hLF0, hdr0⟩ := below_leaf hV hc0 hf0 hk2 hg hWf
    have hbk0 : blk s pa i y (gl ++ [f]) l0 c0 = [(l0, dc s.2.2.2.2.2.1 (gl ++ [f]), true, pa.2.2.2 y, i)] := by unfold blk; rw [show (gl ++ [f]).length = gl.length + 1 by simp, hdr0]; rfl
    rw [hbk0] at hB0
    obtain ⟨hk0, hrow⟩ := drop_hd hB0
    refine xe_callV (a := wr) [.int (nI c0)] dX6_writeField_131 ml_X6_98 mf_X6_writeLeaf hTWb.1 (c_X6_writeLeaf (E + 3) hW2 hZ hc0 hb0 hk0 (by rw [hrow]) (by rw [hrow, hLF0]; exact tv4 y y2 f y4) (by rw [hrow, hLF0]; simp at hl ⊢; omega)) rfl rfl (Nat.le_of_ble_eq_true rfl) (Nat.le_of_ble_eq_true rfl) ?_
    rintro _ T3 ⟨rfl, hF3, hW3⟩
    rw [hrow, hLF0] at hW3
    have hW4 : WSt T3 wr cu bits s en lo A cp RR (R ++ wtx (s.2.2.2.1 f) ++ [58] ++ vtx (s.2.2.2.2.1 f) (pa.2.2.2 y)) (hFd s bits f (fun c => (blk s pa i y (gl ++ [f]) l0 c).length) h) := hW3.hc (fun c hc hb => by
      by_cases e9 : c = c0
      · subst e9; rw [hFd_y hb0 hf0, ups, hbk0]; rfl
      · rw [upn e9, hFd_n (fun z => e9 (by
          have q1 := (below_leaf hV hc z.2 hk2 hg hWf).1
          have q2 := (hV.2.2.2.2.2.2.1 c hc).2.2
          have q3 := (hV.2.2.2.2.2.2.1 c0 hc0).2.2
          rw [q1] at q2; rw [hLF0, q2] at q3; exact Option.some.inj q3))])
    have hl3 : (R ++ wtx (s.2.2.2.1 f) ++ [58] ++ vtx (s.2.2.2.2.1 f) (pa.2.2.2 y)).length + 1 + (ys.flatMap (ITk s pa (wnB s bits) k f)).length ≤ 400 := by simp at hl ⊢; omega
    have e9 : R ++ (wtx (s.2.2.2.1 f) ++ ([58] ++ (vtx (s.2.2.2.2.1 f) (pa.2.2.2 y) ++ [59])) ++ ys.flatMap (ITk s pa (wnB s bits) k f)) = R ++ wtx (s.2.2.2.1 f) ++ [58] ++ vtx (s.2.2.2.2.1 f) (pa.2.2.2 y) ++ [59] ++ ys.flatMap (ITk s pa (wnB s bits) k f) := by simp
    rw [e9]
    exact l_X6_more hW4 hZ hPT hf hWf hg hc0 hb0 hf0 hpre hTm (by omega) hBl hl3 (FrG.tr hF02 hF3) ih
  · -- pc 120
    have h117 := cv_eq (by omega) (by omega) h117
    have hk2 : s.2.2.2.2.1 f = 2 := by omega
    rw [if_pos hk2] at hl ⊢
    refine xe (fun _ _ kK => x_aload_n dX6_writeField_120 rfl 4 rfl kK) ?_
    refine xe (fun _ _ kK => x_iload_n dX6_writeField_121 rfl 5 rfl kK) ?_
    refine xe (fun _ _ kK => x_iload_n dX6_writeField_122 rfl 6 rfl kK) ?_
    have hl4 : gl.length + 1 ≤ 4 := by obtain ⟨l, q1, q2, q3, q4⟩ := hV.2.2.2.1 f hf; have := q3 hk2; rw [Chn.uniq q1 (hV.up hf).1] at this; omega
    have hBy : HBk s bits pa i RR y (gl ++ [f]) l0 (some f) h := fun c hc hb hbl => by
      have hfc := (below_some hV hWl hc hk2).mp hbl
      obtain ⟨B, hB1, hB2⟩ := hBl c hc hb hfc
      rw [fbk_cons, List.append_assoc] at hB1
      refine ⟨_, hB1, ?_⟩
      rw [mc_s]
      cases ys with
      | nil => intro r hr; have := hB2 r hr; omega
      | cons y2 ys2 =>
        intro r hr
        obtain ⟨w, ws, q1, q2, q3⟩ := blk_hd (s := s) (pa := pa) (i := i) (x := y2) (lev := (mc s.2.2.2.2.2.1 gl + mM s.2.2.2.2.2.1 f)) (c := c) (gl := gl ++ [f])
        rw [List.flatMap_cons, q1] at hr
        have : w = r := by simpa using hr
        rw [← this, q2]; exact Nat.le_refl _
    refine xe_callV (a := wr) [.int (nI f), .int (nI gl.length)] dX6_writeField_123 ml_X6_95 mf_X6_writeGroup hTWb.1 (c_X6_writeGroup hW2 hZ hIH hf hWf hg (by omega) hl4 y2 y4 hBy (by simp at hl ⊢; omega)) rfl rfl (Nat.le_of_ble_eq_true rfl) (Nat.le_of_ble_eq_true rfl) ?_
    rintro _ T3 ⟨rfl, hF3, hW3⟩
    refine xe (fun _ _ kK => x_goto (tgt := 134) dX6_writeField_126 (by decide) kK) ?_
    have hW4 : WSt T3 wr cu bits s en lo A cp RR (R ++ wtx (s.2.2.2.1 f) ++ [58] ++ ([91] ++ (txN s pa (wnB s bits) k y ++ [93]))) (hFd s bits f (fun c => (blk s pa i y (gl ++ [f]) l0 c).length) h) := hW3.hc (fun c hc hb => by
      unfold hFd hAv; rw [pB_c (show (bitOn bits c ∧ f ∈ rdl s c) ↔ (bitOn bits c ∧ below s (some f) c) from ⟨fun z => ⟨z.1, (below_some hV hWl hc hk2).mpr z.2⟩, fun z => ⟨z.1, (below_some hV hWl hc hk2).mp z.2⟩⟩)])
    have hl3 : (R ++ wtx (s.2.2.2.1 f) ++ [58] ++ ([91] ++ (txN s pa (wnB s bits) k y ++ [93]))).length + 1 + (ys.flatMap (ITk s pa (wnB s bits) k f)).length ≤ 400 := by simp at hl ⊢; omega
    have e9 : R ++ (wtx (s.2.2.2.1 f) ++ ([58] ++ (([91] ++ (txN s pa (wnB s bits) k y ++ [93])) ++ [59])) ++ ys.flatMap (ITk s pa (wnB s bits) k f)) = R ++ wtx (s.2.2.2.1 f) ++ [58] ++ ([91] ++ (txN s pa (wnB s bits) k y ++ [93])) ++ [59] ++ ys.flatMap (ITk s pa (wnB s bits) k f) := by simp
    rw [e9]
    exact l_X6_more hW4 hZ hPT hf hWf hg hc0 hb0 hf0 hpre hTm (by omega) hBl hl3 (FrG.tr hF02 hF3) ih

theorem l_X6_writeField {wr cu : Nat} {bits : Int32} {s : Sh} {en : Nat → Nat} {lo : Nat → Option Nat} {A : Nat → Nat → Nat} {cp : Nat → Nat} {RR : Nat → List Row} {pa : Pa} {i : Nat} {k E f x c0 : Nat} {gl : List Nat} {o : Option Nat} (hZ : WZ cu s en lo RR) (hPT : PTv s pa) (hIH : WPk wr cu bits s en lo A cp RR pa i k (E + 4)) (hf : f < s.1) (hWf : s.2.2.1 f = o) (hg : Chn s.2.2.1 o gl.reverse) (hlen : gl.length + 1 + k = 5) (hc0 : c0 < s.2.1) (hb0 : bitOn bits c0) (hf0 : f ∈ rdl s c0) : ∀ (ys : List Nat) (y l0 tm : Nat) (T : TH) (R : List Nat) (h : Nat → Nat) (pre : List Nat), WSt T wr cu bits s en lo A cp RR R h → ch pa x f (x + 1) = pre ++ y :: ys → tm + (y :: ys).length ≤ 200 → (∀ c, c < s.2.1 → bitOn bits c → f ∈ rdl s c → ∃ B, (RR c).drop (h c) = fbk s pa i f gl l0 (y :: ys) c ++ B ∧ HdLe B (mc s.2.2.2.2.2.1 gl)) → R.length + ((y :: ys).flatMap (ITk s pa (wnB s bits) k f)).length ≤ 400 → Xe m_X6_writeField (E + 6) 69 [(6, .int (nI tm)), (5, .int (nI 1)), (4, .ref (4 + 5 * c0)), (3, .int (nI c0)), (0, .ref wr), (1, .int (nI f)), (2, .int (nI gl.length))] [] T (fun r T1 => r = none ∧ FrG [(321, 64)] [65, wr + 1] T T1 ∧ WSt T1 wr cu bits s en lo A cp RR (R ++ (y :: ys).flatMap (ITk s pa (wnB s bits) k f)) (hFd s bits f (fun c => (fbk s pa i f gl l0 (y :: ys) c).length) h)) := by
  intro ys
  induction ys with
  | nil =>
    intro y l0 tm T R h pre hW hpre hTm hBl hl
    exact l_X6_once hZ hPT hIH hf hWf hg hlen hc0 hb0 hf0 hW hpre hTm hBl hl (fun y2 ys2 _ _ _ _ _ e => by cases e)
  | cons y2 ys ih =>
    intro y l0 tm T R h pre hW hpre hTm hBl hl
    exact l_X6_once hZ hPT hIH hf hWf hg hlen hc0 hb0 hf0 hW hpre hTm hBl hl (fun y3 ys3 l1 tm2 T4 R4 h4 e pre2 w1 w2 w3 w4 w5 => by obtain ⟨e1, e2⟩ := List.cons.inj e; subst e1; subst e2; exact ih _ l1 tm2 T4 R4 h4 pre2 w1 w2 w3 w4 w5)
