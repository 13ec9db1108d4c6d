theorem chF_len (pa : Pa) (x f : Nat) : ∀ (k lk : Nat), (chF pa x f k lk).length ≤ k := by
  intro k
  induction k with
  | zero => intro lk; exact Nat.le_refl _
  | succ k ih =>
    intro lk
    rw [chF]
    have := ih (lk + 1)
    split
    · simp; omega
    · omega
theorem ch_len (pa : Pa) (x f lk : Nat) : (ch pa x f lk).length ≤ pa.1 := by unfold ch; have := chF_len pa x f (pa.1 - lk) lk; omega

set_option maxHeartbeats 4000000 in
theorem c_X6_writeField {T : TH} {wr cu : Nat} {bits : Int32} {s : Sh} {en : Nat → Nat} {lo : Nat → Option Nat} {A : Nat → Nat → Nat} {cp : Nat → Nat} {RR : Nat → List Row} {R : List Nat} {h : Nat → Nat} (hW : WSt T wr cu bits s en lo A cp RR R h) (hZ : WZ cu s en lo RR) {pa : Pa} {i k E f x : Nat} {gl : List Nat} {lev : Nat} {o : Option Nat} (hPT : PTv s pa) (hIH : WPk wr cu bits s en lo A cp RR pa i k (E + 4)) (hf : f < s.1) (hWf : s.2.2.1 f = o) (hg : Chn s.2.2.1 o gl.reverse) (hlen : gl.length + 1 + k = 5) (hx1 : x < pa.1) (hx2 : pa.2.1 x = o) (hB : ∀ c, c < s.2.1 → bitOn bits c → f ∈ rdl s c → ∃ B, (RR c).drop (h c) = blk s pa i x gl lev c ++ B ∧ HdLe B (mc s.2.2.2.2.2.1 gl)) (hl : R.length + (seg s pa (wnB s bits) (ITk s pa (wnB s bits) k) x f (x + 1)).length ≤ 400) : Xe m_X6_writeField (E + 6) 0 [(0, .ref wr), (1, .int (nI f)), (2, .int (nI gl.length))] [] T (fun r T1 => r = none ∧ FrG [(321, 64)] [65, wr + 1] T T1 ∧ WSt T1 wr cu bits s en lo A cp RR (R ++ seg s pa (wnB s bits) (ITk s pa (wnB s bits) k) x f (x + 1)) (hFd s bits f (fun c => (blk s pa i x gl lev c).length) h)) := by
  obtain ⟨hC, hS, hK, hTW, hHD, hA, hTR, hX, hwr, hsep⟩ := id hW
  obtain ⟨hu, hV, ⟨hs60, h12⟩, hWl, hNb, hRO⟩ := id hZ
  obtain ⟨⟨z9, tv1, tv2, tv3, tv4, tv5⟩, tz0, tz1, tz2, tz3⟩ := id hPT
  refine xe (fun _ _ kK => x_aload_n dX6_writeField_0 rfl 0 rfl kK) ?_
  refine xe (fun _ _ kK => x_iload_n dX6_writeField_1 rfl 1 rfl kK) ?_
  refine xe_callV (a := wr) [.int (nI f)] dX6_writeField_2 ml_X6_64 mf_X6_firstWantedLeaf hTW.1 (c_X6_firstWantedLeaf (E + 2) hW hZ hf) rfl rfl (Nat.le_of_ble_eq_true rfl) (Nat.le_of_ble_eq_true rfl) ?_
  rintro _ T9 ⟨rfl, hTq9⟩
  refine xe_T hTq9 ?_
  refine xe (fun _ _ kK => x_istore_n dX6_writeField_5 rfl (by decide) (show _ = [(3, .int (oI (fnd (fun c => pB (bitOn bits c ∧ f ∈ rdl s c)) s.2.1 0))), (0, .ref wr), (1, .int (nI f)), (2, .int (nI gl.length))] from rfl) kK) ?_
  cases hfn : fnd (fun c => pB (bitOn bits c ∧ f ∈ rdl s c)) s.2.1 0 with
  | none =>
    show Xe m_X6_writeField (E + 5 + 1) 6 [(3, .int (-1)), (0, .ref wr), (1, .int (nI f)), (2, .int (nI gl.length))] [] T _
    refine xe (fun _ _ kK => x_aload_n dX6_writeField_6 rfl 1 rfl kK) ?_
    refine xe (fun _ _ kK => x_iload_n dX6_writeField_7 rfl 0 rfl kK) ?_
    refine xe_callV (a := wr) [.int (-1)] dX6_writeField_8 ml_X6_36 mf_X6_wantedTable hTW.1 (c_X6_wantedM (E + 5) hW hZ) rfl rfl (Nat.le_of_ble_eq_true rfl) (Nat.le_of_ble_eq_true rfl) ?_
    rintro _ T9 ⟨rfl, hTq9⟩
    refine xe_T hTq9 ?_
    refine xe (fun _ _ kK => x_astoreN dX6_writeField_11 (by decide) (show _ = [(4, .null), (3, .int (-1)), (0, .ref wr), (1, .int (nI f)), (2, .int (nI gl.length))] from rfl) kK) ?_
    refine xe (fun _ _ kK => x_aloadN dX6_writeField_13 0 rfl kK) ?_
    refine xe (fun _ _ kK => x_ifnullN (tgt := 32) dX6_writeField_15 (by decide) kK) ?_
    have hno : ∀ c, c < s.2.1 → ¬ (bitOn bits c ∧ f ∈ rdl s c) := fun c hc z => by have := fnd_no _ _ hfn c (Nat.zero_le _) (by omega); rw [pB_t z] at this; cases this
    have hsg : seg s pa (wnB s bits) (ITk s pa (wnB s bits) k) x f (x + 1) = [] := by unfold seg wnB; rw [if_neg (fun z => by obtain ⟨c, h1, h2, h3⟩ := pB_of z.1; exact hno c h1 ⟨h2, h3⟩)]
    rw [hsg, List.append_nil]
    exact xe_retv dX6_writeField_32 rfl (⟨rfl, FrG.rf, hW.hc (fun c hc hb => hFd_n (hno c hc))⟩)
  | some c0 =>
    obtain ⟨-, hc0, hp0⟩ := fnd_lt _ _ hfn
    rw [Nat.zero_add] at hc0
    obtain ⟨hb0, hf0⟩ := pB_of hp0
    show Xe m_X6_writeField (E + 5 + 1) 6 [(3, .int (nI c0)), (0, .ref wr), (1, .int (nI f)), (2, .int (nI gl.length))] [] T _
    have hT := hW.tb h12 hc0
    obtain ⟨hO, hH⟩ := hRO c0 hc0
    have h6 := hO.1
    have hbel : below s o c0 := ⟨f, hf, hWf, hf0⟩
    obtain ⟨B0, hB0, hBl0⟩ := hB c0 hc0 hb0 hf0
    obtain ⟨bw, bws, bq1, bq2, bq3⟩ := blk_hd (s := s) (pa := pa) (i := i) (x := x) (lev := lev) (c := c0) (gl := gl)
    have hB0c := hB0
    rw [bq1] at hB0c
    obtain ⟨hk0, hrow⟩ := drop_hd hB0c
    obtain ⟨bf1, bf2, bf3⟩ := blk_f (pa := pa) (i := i) (x := x) (lev := lev) hV hc0 hg hf0 hWf
    have hwn : wnB s bits f = true := pB_t ⟨c0, hc0, hb0, hf0⟩
    have hsg : seg s pa (wnB s bits) (ITk s pa (wnB s bits) k) x f (x + 1) = (ch pa x f (x + 1)).flatMap (ITk s pa (wnB s bits) k f) := by unfold seg; rw [if_pos ⟨hwn, by rw [hx2]; exact hWf⟩]
    rw [hsg] at hl ⊢
    have hrb := hO.2 (h c0) hk0
    have hdgf : dgo s (some f) = dc s.2.2.2.2.2.1 gl + dM s.2.2.2.2.2.1 f := by show dc _ (upF _ 6 (some f)) = _; rw [up_gl hV hf hg hWf, dc_k, dc_rev]; omega
    have hdl := dc_le s.2.2.2.2.2.1 gl
    have hdm : dM s.2.2.2.2.2.1 f ≤ 1 := by unfold dM; split <;> omega
    refine xe (fun _ _ kK => x_aload_n dX6_writeField_6 rfl 1 rfl kK) ?_
    refine xe (fun _ _ kK => x_iload_n dX6_writeField_7 rfl 0 rfl kK) ?_
    refine xe_callV (a := wr) [.int (nI c0)] dX6_writeField_8 ml_X6_36 mf_X6_wantedTable hTW.1 (c_X6_wantedY (E + 5) hW hZ hc0 hb0) rfl rfl (Nat.le_of_ble_eq_true rfl) (Nat.le_of_ble_eq_true rfl) ?_
    rintro _ T9 ⟨rfl, hTq9⟩
    refine xe_T hTq9 ?_
    refine xe (fun _ _ kK => x_astore dX6_writeField_11 (by decide) (show _ = [(4, .ref (4 + 5 * c0)), (3, .int (nI c0)), (0, .ref wr), (1, .int (nI f)), (2, .int (nI gl.length))] from rfl) kK) ?_
    refine xe (fun _ _ kK => x_aload dX6_writeField_13 0 rfl kK) ?_
    refine xe (fun _ _ kK => x_ifnull dX6_writeField_15 kK) ?_
    refine xe (fun _ _ kK => x_aload dX6_writeField_18 0 rfl kK) ?_
    refine xe (fun _ _ kK => x_aload_n dX6_writeField_20 rfl 2 rfl kK) ?_
    refine xe (fun _ _ kK => x_get dX6_writeField_21 fl_X6_27 hTW.1 (gvl_r1 fz_6_4.2.2 (show e_r T 388 wr = some (wr + 1) from hTW.2.2.2.2.2.1)) kK) ?_
    refine xe (fun _ _ kK => x_iload_n dX6_writeField_24 rfl 1 rfl kK) ?_
    refine xe (fun _ _ kK => x_iald dX6_writeField_25 hTW.2.2.2.2.2.2.1 (show (nI c0) = nI c0 from rfl) (by rw [hTW.2.2.2.2.2.2.2]; omega) (show e_ai T (wr + 1) c0 = nI (h c0) from (hHD c0 hc0 hb0)) kK) ?_
    refine xe_callV (a := (4 + 5 * c0)) [.int (nI (h c0))] dX6_writeField_26 ml_X6_67 mf_X3_isRow hT.1 (by have := c_X3_isRow (E + 5) hT hO (nI (h c0)); rw [ix_in hk0 (by omega)] at this; exact this) rfl rfl (Nat.le_of_ble_eq_true rfl) (Nat.le_of_ble_eq_true rfl) ?_
    rintro _ T9 ⟨rfl, hTq9⟩
    refine xe_T hTq9 ?_
    refine xe (fun _ _ kK => x_if_neT (tgt := 33) dX6_writeField_29 (by decide) (show ¬ bI true = 0 by decide) kK) ?_
    refine xe (fun _ _ kK => x_aload dX6_writeField_33 0 rfl kK) ?_
    refine xe (fun _ _ kK => x_get dX6_writeField_35 fl_X6_71 hT.1 (gvl_r1 fz_3_1.2.2 (show e_r T 193 (4 + 5 * c0) = some (A c0 1) from hT.2.1.2.1)) kK) ?_
    refine xe (fun _ _ kK => x_aload_n dX6_writeField_38 rfl 2 rfl kK) ?_
    refine xe (fun _ _ kK => x_get dX6_writeField_39 fl_X6_27 hTW.1 (gvl_r1 fz_6_4.2.2 (show e_r T 388 wr = some (wr + 1) from hTW.2.2.2.2.2.1)) kK) ?_
    refine xe (fun _ _ kK => x_iload_n dX6_writeField_42 rfl 1 rfl kK) ?_
    refine xe (fun _ _ kK => x_iald dX6_writeField_43 hTW.2.2.2.2.2.2.1 (show (nI c0) = nI c0 from rfl) (by rw [hTW.2.2.2.2.2.2.2]; omega) (show e_ai T (wr + 1) c0 = nI (h c0) from (hHD c0 hc0 hb0)) kK) ?_
    refine xe (fun _ _ kK => x_iald dX6_writeField_44 hT.2.2.1.2.1 (show (nI (h c0)) = nI (h c0) from rfl) ((hT.len hk0).2.1) (show e_ai T (A c0 1) (h c0) = nI (rowAt (RR c0) (h c0)).2.1 from (hT.2.2.2.2.2 (h c0) hk0).2.1) kK) ?_
    refine xe (fun _ _ kK => x_aload_n dX6_writeField_45 rfl 2 rfl kK) ?_
    refine xe (fun _ _ kK => x_get dX6_writeField_46 fl_X6_9 hTW.1 (gvl_r1 fz_6_0.2.2 (show e_r T 384 wr = some cu from hTW.2.1)) kK) ?_
    refine xe (fun _ _ kK => x_get dX6_writeField_49 fl_X6_74 hS.1.1 (gvl_r1 fz_1_5.2.2 (show e_r T 69 cu = some (cu + 6) from (hS.1.2.1 5 (by decide)))) kK) ?_
    refine xe (fun _ _ kK => x_iload_n dX6_writeField_52 rfl 3 rfl kK) ?_
    refine xe (fun _ _ kK => x_iald dX6_writeField_53 (show e_K _ (cu + 6) = 20 from (hS.1.2.2.1 5 (by decide))) (show (nI f) = nI f from rfl) (shi_len hS.1 5 (by decide) (show f < 66 by omega)) (show e_ai T (cu + 6) f = nI (dgo s (some f)) from (hK f hf _ (hV.up hf).1).1) kK) ?_
    refine xe_icmp_ge (tgt := 63) dX6_writeField_54 (by decide) (fun h54 => ?_) (fun h54 => ?_)
    · -- pc 63
      have h54 := cv_le (by omega) (by omega) h54
      refine xe (fun _ _ kK => x_iconst dX6_writeField_63 (show _ = nI 1 by decide) kK) ?_
      refine xe (fun _ _ kK => x_istore dX6_writeField_64 (by decide) (show _ = [(5, .int (nI 1)), (4, .ref (4 + 5 * c0)), (3, .int (nI c0)), (0, .ref wr), (1, .int (nI f)), (2, .int (nI gl.length))] from rfl) kK) ?_
      refine xe (fun _ _ kK => x_iconst dX6_writeField_66 (show _ = nI 0 by decide) kK) ?_
      refine xe (fun _ _ kK => x_istore dX6_writeField_67 (by decide) (show _ = [(6, .int (nI 0)), (5, .int (nI 1)), (4, .ref (4 + 5 * c0)), (3, .int (nI c0)), (0, .ref wr), (1, .int (nI f)), (2, .int (nI gl.length))] from rfl) kK) ?_
      have hne : ch pa x f (x + 1) ≠ [] := fun he => by
        have e9 := bf3 he
        rw [bq1] at e9
        have e8 : bw = (lev, dc s.2.2.2.2.2.1 gl, false, lN 0, i) := (List.cons.inj e9).1
        rw [hrow, e8, hdgf] at h54
        have hm : s.2.2.2.2.2.1 f ≠ 0 := fun hm => tv3 x hx1 List.not_mem_nil f hf (by rw [hx2]; exact hWf) hm he
        have : dM s.2.2.2.2.2.1 f = 1 := by unfold dM; rw [if_neg hm]
        have h54' : dc s.2.2.2.2.2.1 gl + dM s.2.2.2.2.2.1 f ≤ dc s.2.2.2.2.2.1 gl := h54
        omega
      obtain ⟨y0, ys, hch⟩ : ∃ y ys, ch pa x f (x + 1) = y :: ys := by cases hc9 : ch pa x f (x + 1) with | nil => exact absurd hc9 hne | cons a l => exact ⟨a, l, rfl⟩
      have hcl : (ch pa x f (x + 1)).length ≤ 110 := by have := ch_len pa x f (x + 1); omega
      rw [hch] at hl hcl ⊢
      have hBl : ∀ c, c < s.2.1 → bitOn bits c → f ∈ rdl s c → ∃ B, (RR c).drop (h c) = fbk s pa i f gl lev (y0 :: ys) c ++ B ∧ HdLe B (mc s.2.2.2.2.2.1 gl) := fun c hc hb hfc => by
        obtain ⟨B, b1, b2⟩ := hB c hc hb hfc
        rw [(blk_f (pa := pa) (i := i) (x := x) (lev := lev) hV hc hg hfc hWf).2.1 hne, hch] at b1
        exact ⟨B, b1, b2⟩
      refine Xe.imp (xe_loc (by simp) (l_X6_writeField hZ hPT hIH hf hWf hg hlen hc0 hb0 hf0 ys y0 lev 0 T R h [] hW hch (by omega) hBl hl)) ?_
      rintro _ T1 ⟨rfl, hF1, hW1⟩
      refine ⟨rfl, hF1, hW1.hc (fun c hc hb => ?_)⟩
      by_cases hfc : f ∈ rdl s c
      · rw [hFd_y hb hfc, hFd_y hb hfc, (blk_f (pa := pa) (i := i) (x := x) (lev := lev) hV hc hg hfc hWf).2.1 hne, hch]
      · rw [hFd_n (fun z => hfc z.2), hFd_n (fun z => hfc z.2)]
    · -- pc 57
      have h54 := cv_nle (by omega) (by omega) h54
      refine xe (fun _ _ kK => x_aload_n dX6_writeField_57 rfl 2 rfl kK) ?_
      refine xe (fun _ _ kK => x_iload_n dX6_writeField_58 rfl 3 rfl kK) ?_
      have he : ch pa x f (x + 1) = [] := Classical.byContradiction (fun hne => by
        have e9 := bf2 hne
        obtain ⟨y0, ys, hch⟩ : ∃ y ys, ch pa x f (x + 1) = y :: ys := by cases hc9 : ch pa x f (x + 1) with | nil => exact absurd hc9 hne | cons a l => exact ⟨a, l, rfl⟩
        rw [hch, fbk_cons] at e9
        obtain ⟨w2, ws2, p1, p2, p3⟩ := blk_hd (s := s) (pa := pa) (i := i) (x := y0) (lev := lev) (c := c0) (gl := gl ++ [f])
        rw [p1, bq1] at e9
        have e8 : bw = w2 := (List.cons.inj e9).1
        rw [dc_s] at p3
        rw [hrow, e8, hdgf] at h54; omega)
      rw [he] at hl ⊢
      refine xe_callV (a := wr) [.int (nI f)] dX6_writeField_59 ml_X6_77 mf_X6_passLacking hTW.1 (c_X6_passLacking (E + 2) hW hZ hf) rfl rfl (Nat.le_of_ble_eq_true rfl) (Nat.le_of_ble_eq_true rfl) ?_
      rintro _ T1 ⟨rfl, hF1, hW1⟩
      rw [List.flatMap_nil, List.append_nil]
      have hhc : ∀ c, c < s.2.1 → bitOn bits c → hFd s bits f (fun c => (blk s pa i x gl lev c).length) h c = hP s bits f h s.2.1 c := fun c hc hb => by
        by_cases hfc : f ∈ rdl s c
        · rw [hFd_y hb hfc, (blk_f (pa := pa) (i := i) (x := x) (lev := lev) hV hc hg hfc hWf).2.2 he]; unfold hP; rw [if_pos (pB_t ⟨hc, hb, hfc⟩)]; rfl
        · rw [hFd_n (fun z => hfc z.2)]; unfold hP; rw [if_neg (by rw [pB_f (fun z => hfc z.2.2)]; decide)]
      exact xe_retv dX6_writeField_62 rfl (⟨rfl, hF1, hW1.hc hhc⟩)

noncomputable def hPt (s : Sh) (bits : Int32) (o : Option Nat) (L : Nat → Nat) (h : Nat → Nat) (k : Nat) : Nat → Nat := fun c => if pB (bitOn bits c ∧ ∃ g, g < k ∧ s.2.2.1 g = o ∧ g ∈ rdl s c) = true then h c + L c else h c

set_option maxHeartbeats 4000000 in
theorem l_X6_writeParts {wr cu : Nat} {bits : Int32} {s : Sh} {en : Nat → Nat} {lo : Nat → Option Nat} {A : Nat → Nat → Nat} {cp : Nat → Nat} {RR : Nat → List Row} {pa : Pa} {i : Nat} {k E x : Nat} {gl : List Nat} {lev : Nat} {o : Option Nat} {T : TH} {RT : List Nat} {h : Nat → Nat} (hZ : WZ cu s en lo RR) (hPT : PTv s pa) (hIH : WPk wr cu bits s en lo A cp RR pa i k (E + 4)) (hg : Chn s.2.2.1 o gl.reverse) (hlen : gl.length + 1 + k = 5) (hx1 : x < pa.1) (hx2 : pa.2.1 x = o) (ho : ∀ g, o = some g → g < s.1) (hB : HBk s bits pa i RR x gl lev o h) (hl : RT.length ≤ 400) : ∀ (m f : Nat) (T1 : TH) (R1 : List Nat), s.1 - f = m → f ≤ s.1 → FrG [(321, 64)] [65, wr + 1] T T1 → WSt T1 wr cu bits s en lo A cp RR R1 (hPt s bits o (fun c => (blk s pa i x gl lev c).length) h f) → R1 ++ txFs s pa (wnB s bits) (ITk s pa (wnB s bits) k) x (s.1 - f) f = RT → Xe m_X6_writeParts (E + 7) 8 [(3, .int (nI f)), (0, .ref wr), (1, .int (oI o)), (2, .int (nI gl.length))] [] T1 (fun r T2 => r = none ∧ FrG [(321, 64)] [65, wr + 1] T T2 ∧ WSt T2 wr cu bits s en lo A cp RR RT (hPt s bits o (fun c => (blk s pa i x gl lev c).length) h s.1)) := by
  intro m
  induction m using Nat.strongRecOn with
  | ind m ih =>
    intro f T1 R1 hm hk hF0 hW hRt
    subst hm
    obtain ⟨hC, hS, hK, hTW, hHD, hA, hTR, hX, hwr, hsep⟩ := id hW
    obtain ⟨hu, hV, ⟨hs60, h12⟩, hWl, hNb, hRO⟩ := id hZ
    refine xe (fun _ _ kK => x_iload_n dX6_writeParts_8 rfl 0 rfl kK) ?_
    refine xe (fun _ _ kK => x_aload_n dX6_writeParts_9 rfl 1 rfl kK) ?_
    refine xe (fun _ _ kK => x_get dX6_writeParts_10 fl_X6_9 hTW.1 (gvl_r1 fz_6_0.2.2 (show e_r T1 384 wr = some cu from hTW.2.1)) kK) ?_
    refine xe (fun _ _ kK => x_get dX6_writeParts_13 fl_X6_55 hS.1.1 (gvl_i fz_1_10.2.2 (show e_i T1 74 cu = nI s.1 from hS.2.1)) kK) ?_
    refine xe_icmp_ge (tgt := 44) dX6_writeParts_16 (by decide) (fun h16 => ?_) (fun h16 => ?_)
    · -- pc 44
      have h16 := cv_le (by omega) (by omega) h16
      have ek : f = s.1 := by omega
      subst ek
      rw [Nat.sub_self] at hRt
      have hRt2 : R1 = RT := by simpa [txFs] using hRt
      subst hRt2
      exact xe_retv dX6_writeParts_44 rfl (⟨rfl, hF0, hW⟩)
    · -- pc 19
      have h16 := cv_nle (by omega) (by omega) h16
      have hWb : oB (s.2.2.1 f) := fun g hg => by have := hWl f g h16 hg; omega
      have hob : oB o := fun g hg => by have := ho g hg; omega
      have hstep : txFs s pa (wnB s bits) (ITk s pa (wnB s bits) k) x (s.1 - f) f = seg s pa (wnB s bits) (ITk s pa (wnB s bits) k) x f (x + 1) ++ txFs s pa (wnB s bits) (ITk s pa (wnB s bits) k) x (s.1 - (f + 1)) (f + 1) := by rw [show s.1 - f = (s.1 - (f + 1)) + 1 by omega]; rfl
      rw [hstep, ← List.append_assoc] at hRt
      refine xe (fun _ _ kK => x_aload_n dX6_writeParts_19 rfl 1 rfl kK) ?_
      refine xe (fun _ _ kK => x_get dX6_writeParts_20 fl_X6_9 hTW.1 (gvl_r1 fz_6_0.2.2 (show e_r T1 384 wr = some cu from hTW.2.1)) kK) ?_
      refine xe (fun _ _ kK => x_get dX6_writeParts_23 fl_X6_58 hS.1.1 (gvl_r1 fz_1_3.2.2 (show e_r T1 67 cu = some (cu + 4) from (hS.1.2.1 3 (by decide)))) kK) ?_
      refine xe (fun _ _ kK => x_iload_n dX6_writeParts_26 rfl 0 rfl kK) ?_
      refine xe (fun _ _ kK => x_iald dX6_writeParts_27 (show e_K _ (cu + 4) = 20 from (hS.1.2.2.1 3 (by decide))) (show (nI f) = nI f from rfl) (shi_len hS.1 3 (by decide) (show f < 66 by omega)) (show e_ai T1 (cu + 4) f = oI (s.2.2.1 f) from (hS.2.2.2.1 f h16).2.2.2.1) kK) ?_
      refine xe (fun _ _ kK => x_iload_n dX6_writeParts_28 rfl 2 rfl kK) ?_
      refine xe_icmp_ne (tgt := 38) dX6_writeParts_29 (by decide) (fun h29 => ?_) (fun h29 => ?_)
      · -- pc 38
        have h29 := cv_oon (by assumption) (by assumption) h29
        refine xe (fun _ _ kK => x_iinc dX6_writeParts_38 0 rfl (show (nI f) + Int32.ofInt 1 = nI (f + 1) from nI_add f 1) (by decide) (show _ = [(3, .int (nI (f + 1))), (0, .ref wr), (1, .int (oI o)), (2, .int (nI gl.length))] from rfl) kK) ?_
        refine xe (fun _ _ kK => x_goto (tgt := 8) dX6_writeParts_41 (by decide) kK) ?_
        have hsg : seg s pa (wnB s bits) (ITk s pa (wnB s bits) k) x f (x + 1) = [] := by unfold seg; rw [if_neg (fun z => h29 (by rw [z.2]; exact hx2))]
        rw [hsg, List.append_nil] at hRt
        have hhc : hPt s bits o (fun c => (blk s pa i x gl lev c).length) h (f + 1) = hPt s bits o (fun c => (blk s pa i x gl lev c).length) h f := by
          funext c; unfold hPt; rw [pB_c (show (bitOn bits c ∧ ∃ g, g < f + 1 ∧ s.2.2.1 g = o ∧ g ∈ rdl s c) ↔ (bitOn bits c ∧ ∃ g, g < f ∧ s.2.2.1 g = o ∧ g ∈ rdl s c) from ⟨fun ⟨z1, g, g1, g2, g3⟩ => ⟨z1, g, by by_cases e : g = f; subst e; exact absurd g2 h29; omega, g2, g3⟩, fun ⟨z1, g, g1, g2, g3⟩ => ⟨z1, g, by omega, g2, g3⟩⟩)]
        rw [← hhc] at hW
        exact xe_loc (by simp) (ih (s.1 - (f + 1)) (by omega) (f + 1) T1 R1 rfl (by omega) hF0 hW hRt)
      · -- pc 32
        have h29 := cv_oo (by assumption) (by assumption) h29
        refine xe (fun _ _ kK => x_aload_n dX6_writeParts_32 rfl 1 rfl kK) ?_
        refine xe (fun _ _ kK => x_iload_n dX6_writeParts_33 rfl 0 rfl kK) ?_
        refine xe (fun _ _ kK => x_iload_n dX6_writeParts_34 rfl 3 rfl kK) ?_
        have hsl : R1.length + (seg s pa (wnB s bits) (ITk s pa (wnB s bits) k) x f (x + 1)).length ≤ 400 := by have := congrArg List.length hRt; simp only [List.length_append] at this; omega
        have hBf : ∀ c, c < s.2.1 → bitOn bits c → f ∈ rdl s c → ∃ B, (RR c).drop (hPt s bits o (fun c => (blk s pa i x gl lev c).length) h f c) = blk s pa i x gl lev c ++ B ∧ HdLe B (mc s.2.2.2.2.2.1 gl) := fun c hc hb hfc => by
          have e9 : hPt s bits o (fun c => (blk s pa i x gl lev c).length) h f c = h c := by unfold hPt; rw [if_neg]; rw [pB_f (fun ⟨z1, g, g1, g2, g3⟩ => by have := rdl_u hV hc hg g3 g2 hfc h29; omega)]; decide
          rw [e9]; exact hB c hc hb ⟨f, h16, h29, hfc⟩
        refine xe_callV (a := wr) [.int (nI f), .int (nI gl.length)] dX6_writeParts_35 ml_X6_61 mf_X6_writeField hTW.1 (c_X6_writeField (h := hPt s bits o (fun c => (blk s pa i x gl lev c).length) h f) hW hZ hPT hIH h16 h29 hg hlen hx1 hx2 hBf hsl) rfl rfl (Nat.le_of_ble_eq_true rfl) (Nat.le_of_ble_eq_true rfl) ?_
        rintro _ T2 ⟨rfl, hF2, hW2⟩
        refine xe (fun _ _ kK => x_iinc dX6_writeParts_38 0 rfl (show (nI f) + Int32.ofInt 1 = nI (f + 1) from nI_add f 1) (by decide) (show _ = [(3, .int (nI (f + 1))), (0, .ref wr), (1, .int (oI o)), (2, .int (nI gl.length))] from rfl) kK) ?_
        refine xe (fun _ _ kK => x_goto (tgt := 8) dX6_writeParts_41 (by decide) kK) ?_
        have hW3 : WSt T2 wr cu bits s en lo A cp RR (R1 ++ seg s pa (wnB s bits) (ITk s pa (wnB s bits) k) x f (x + 1)) (hPt s bits o (fun c => (blk s pa i x gl lev c).length) h (f + 1)) := hW2.hc (fun c hc hb => by
          by_cases hfc : f ∈ rdl s c
          · have e8 : hPt s bits o (fun c => (blk s pa i x gl lev c).length) h f c = h c := by unfold hPt; rw [if_neg]; rw [pB_f (fun ⟨z1, g, g1, g2, g3⟩ => by have := rdl_u hV hc hg g3 g2 hfc h29; omega)]; decide
            rw [hFd_y hb hfc, e8]; unfold hPt; rw [if_pos (pB_t ⟨hb, f, by omega, h29, hfc⟩)]
          · rw [hFd_n (fun z => hfc z.2)]; unfold hPt; rw [pB_c (show (bitOn bits c ∧ ∃ g, g < f + 1 ∧ s.2.2.1 g = o ∧ g ∈ rdl s c) ↔ (bitOn bits c ∧ ∃ g, g < f ∧ s.2.2.1 g = o ∧ g ∈ rdl s c) from ⟨fun ⟨z1, g, g1, g2, g3⟩ => ⟨z1, g, by by_cases e : g = f; subst e; exact absurd g3 hfc; omega, g2, g3⟩, fun ⟨z1, g, g1, g2, g3⟩ => ⟨z1, g, by omega, g2, g3⟩⟩)])
        exact xe_loc (by simp) (ih (s.1 - (f + 1)) (by omega) (f + 1) T2 _ rfl (by omega) (FrG.tr hF0 hF2) hW3 hRt)

set_option maxHeartbeats 4000000 in
theorem c_X6_writeParts1 {T : TH} {wr cu : Nat} {bits : Int32} {s : Sh} {en : Nat → Nat} {lo : Nat → Option Nat} {A : Nat → Nat → Nat} {cp : Nat → Nat} {RR : Nat → List Row} {R : List Nat} {h : Nat → Nat} (hW : WSt T wr cu bits s en lo A cp RR R h) (hZ : WZ cu s en lo RR) {pa : Pa} {i k E x : Nat} {gl : List Nat} {lev : Nat} {o : Option Nat} (hPT : PTv s pa) (hIH : WPk wr cu bits s en lo A cp RR pa i k (E + 4)) (hg : Chn s.2.2.1 o gl.reverse) (hlen : gl.length + 1 + k = 5) (hx1 : x < pa.1) (hx2 : pa.2.1 x = o) (ho : ∀ g, o = some g → g < s.1) (hB : HBk s bits pa i RR x gl lev o h) (hl : (R ++ txN s pa (wnB s bits) (k + 1) x).length ≤ 400) : Xe m_X6_writeParts (E + 7) 0 [(0, .ref wr), (1, .int (oI o)), (2, .int (nI gl.length))] [] T (fun r T2 => r = none ∧ FrG [(321, 64)] [65, wr + 1] T T2 ∧ WSt T2 wr cu bits s en lo A cp RR (R ++ txN s pa (wnB s bits) (k + 1) x) (hPt s bits o (fun c => (blk s pa i x gl lev c).length) h s.1)) := by
  obtain ⟨hC, hS, hK, hTW, hHD, hA, hTR, hX, hwr, hsep⟩ := id hW
  obtain ⟨hu, hV, ⟨hs60, h12⟩, hWl, hNb, hRO⟩ := id hZ
  refine xe (fun _ _ kK => x_iload_n dX6_writeParts_0 rfl 2 rfl kK) ?_
  refine xe (fun _ _ kK => x_iconst dX6_writeParts_1 (show _ = nI 4 by decide) kK) ?_
  refine xe (fun _ _ kK => x_icmp_leT (tgt := 6) dX6_writeParts_2 (by decide) ((nI_leI (by omega) (by omega)).mpr (by omega)) kK) ?_
  refine xe (fun _ _ kK => x_iconst dX6_writeParts_6 (show _ = nI 0 by decide) kK) ?_
  refine xe (fun _ _ kK => x_istore_n dX6_writeParts_7 rfl (by decide) (show _ = [(3, .int (nI 0)), (0, .ref wr), (1, .int (oI o)), (2, .int (nI gl.length))] from rfl) kK) ?_
  have h0 : WSt T wr cu bits s en lo A cp RR R (hPt s bits o (fun c => (blk s pa i x gl lev c).length) h 0) := hW.hc (fun c hc hb => by unfold hPt; rw [if_neg]; rw [pB_f (fun ⟨z1, g, g1, z⟩ => absurd g1 (Nat.not_lt_zero _))]; decide)
  exact xe_loc (by simp) (l_X6_writeParts hZ hPT hIH hg hlen hx1 hx2 ho hB hl s.1 0 T R rfl (Nat.zero_le _) FrG.rf h0 rfl)

theorem c_X6_writeParts {wr cu : Nat} {bits : Int32} {s : Sh} {en : Nat → Nat} {lo : Nat → Option Nat} {A : Nat → Nat → Nat} {cp : Nat → Nat} {RR : Nat → List Row} {pa : Pa} {i : Nat} (hZ : WZ cu s en lo RR) (hPT : PTv s pa) : ∀ (k e : Nat), WPk wr cu bits s en lo A cp RR pa i k (e + 3 * k + 4) := by
  intro k
  induction k with
  | zero => intro e T R h x gl lev o hW hx1 hx2 hg hlen hl4; omega
  | succ k ih =>
    intro e T R h x gl lev o hW hx1 hx2 hg hlen hl4 ho hB hl
    have h1 := c_X6_writeParts1 (E := e + 3 * k) hW hZ hPT (ih e) hg (by omega) hx1 hx2 ho hB (by rw [List.length_append]; exact hl)
    rw [show e + 3 * (k + 1) + 4 = e + 3 * k + 7 by omega]
    exact h1
