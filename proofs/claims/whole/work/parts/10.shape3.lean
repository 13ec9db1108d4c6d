theorem RS.mv {T : TH} {s : Sh} {gs : List Nat} (h : RS T s gs) (p : Nat) : RS (mv T p) s gs := ⟨h.1, h.2.1, h.2.2.1, h.2.2.2.1, h.2.2.2.2.1, h.2.2.2.2.2.1, h.2.2.2.2.2.2.1.of (fun _ _ => rfl), h.2.2.2.2.2.2.2⟩
theorem RS_open {T T' : TH} {s : Sh} {gs : List Nat} {v : Nat} {c : Nat} (h : RS T s gs) (hc : e_ai T 101 gs.length = nI c) (hcb : c ≤ s.1) (hg : ∀ g ∈ gs, g < s.1)
    (r1 : e_i T' 533 88 = nI (s.1 + 1)) (r2 : e_i T' 534 88 = e_i T 534 88) (r3 : e_i T' 542 88 = nI (gs.length + 1)) (r4 : ∀ j, e_ai T' 95 j = if j = s.1 then oI gs.head? else e_ai T 95 j) (r5 : ∀ j, e_al T' 96 j = if j = s.1 then lN v else e_al T 96 j) (r6 : ∀ j, e_ai T' 97 j = if j = s.1 then nI 2 else e_ai T 97 j) (r7 : e_ai T' 98 = e_ai T 98) (r8 : e_ai T' 99 = e_ai T 99) (r9 : ∀ j, e_ai T' 100 j = if j = gs.length + 1 then nI s.1 else e_ai T 100 j) (r10 : ∀ j, e_ai T' 101 j = if j = gs.length + 1 then nI 0 else if j = gs.length then nI (c + 1) else e_ai T 101 j) :
    RS T' (s.1 + 1, s.2.1, va_up s.2.2.1 s.1 gs.head?, va_up s.2.2.2.1 s.1 v, va_up s.2.2.2.2.1 s.1 2, s.2.2.2.2.2.1, s.2.2.2.2.2.2) (s.1 :: gs) := by
  obtain ⟨h1, h2, h3, h4, h5, h6, h7, cn, h8, h9, h10⟩ := h
  refine ⟨r1, r2.trans h2, r3, fun f hf => ?_, fun f hf hn => ?_, fun c hc => by rw [r8]; exact h6 c hc, ⟨by rw [r9, if_pos rfl], h7.of (fun j hj => by rw [r9, if_neg (by omega)])⟩, fun i => if i = gs.length + 1 then 0 else if i = gs.length then c + 1 else cn i, fun i hi => ?_, ?_, fun i hi => ?_⟩
  · rw [r4, r5, r6]
    by_cases q : f = s.1
    · simp [va_up, q]
    · have := h4 f (by have : f < s.1 + 1 := hf; omega)
      simp only [va_up, q, if_false]; exact this
  · rw [r7]
    exact h5 f (by have : f < s.1 + 1 := hf; have : f ≠ s.1 := fun e => hn (by rw [e]; exact List.mem_cons_self); omega) (fun e => hn (List.mem_cons_of_mem _ e))
  · rw [r10]
    have hi' : i ≤ gs.length + 1 := hi
    dsimp only
    split
    · exact ⟨rfl, Nat.zero_le _⟩
    · split
      · exact ⟨rfl, by omega⟩
      · have := h8 i (by omega); exact ⟨this.1, by omega⟩
  · simp [emp]
  · have hi' : i < gs.length + 1 := hi
    dsimp only
    rw [if_neg (by omega)]
    split
    · omega
    · exact h10 i (by omega)
theorem RS_leaf {T T' : TH} {s : Sh} {gs : List Nat} {v m kd : Nat} {c : Nat} (h : RS T s gs) (hc : e_ai T 101 gs.length = nI c) (hcb : c ≤ s.1) (hg : ∀ g ∈ gs, g < s.1)
    (r1 : e_i T' 533 88 = nI (s.1 + 1)) (r2 : e_i T' 534 88 = nI (s.2.1 + 1)) (r3 : e_i T' 542 88 = e_i T 542 88) (r4 : ∀ j, e_ai T' 95 j = if j = s.1 then oI gs.head? else e_ai T 95 j) (r5 : ∀ j, e_al T' 96 j = if j = s.1 then lN v else e_al T 96 j) (r6 : ∀ j, e_ai T' 97 j = if j = s.1 then nI kd else e_ai T 97 j) (r7 : ∀ j, e_ai T' 98 j = if j = s.1 then nI m else e_ai T 98 j) (r8 : ∀ j, e_ai T' 99 j = if j = s.2.1 then nI s.1 else e_ai T 99 j) (r9 : e_ai T' 100 = e_ai T 100) (r10 : ∀ j, e_ai T' 101 j = if j = gs.length then nI (c + 1) else e_ai T 101 j) :
    RS T' (s.1 + 1, s.2.1 + 1, va_up s.2.2.1 s.1 gs.head?, va_up s.2.2.2.1 s.1 v, va_up s.2.2.2.2.1 s.1 kd, va_up s.2.2.2.2.2.1 s.1 m, va_up s.2.2.2.2.2.2 s.2.1 s.1) gs := by
  obtain ⟨h1, h2, h3, h4, h5, h6, h7, cn, h8, h9, h10⟩ := h
  refine ⟨r1, r2, r3.trans h3, fun f hf => ?_, fun f hf hn => ?_, fun c hc => ?_, h7.of (fun j _ => by rw [r9]), fun i => if i = gs.length then c + 1 else cn i, fun i hi => ?_, ?_, fun i hi => ?_⟩
  · rw [r4, r5, r6]
    by_cases q : f = s.1
    · simp [va_up, q]
    · have := h4 f (by have : f < s.1 + 1 := hf; omega)
      simp only [va_up, q, if_false]; exact this
  · rw [r7]
    by_cases q : f = s.1
    · simp [va_up, q]
    · simp only [va_up, q, if_false]
      exact h5 f (by have : f < s.1 + 1 := hf; omega) hn
  · rw [r8]
    by_cases q : c = s.2.1
    · simp [va_up, q]
    · simp only [va_up, q, if_false]
      exact h6 c (by have : c < s.2.1 + 1 := hc; omega)
  · rw [r10]
    dsimp only
    split
    · exact ⟨rfl, by show c + 1 ≤ s.1 + 1; omega⟩
    · have := h8 i hi; exact ⟨this.1, by show cn i ≤ s.1 + 1; omega⟩
  · simp only [if_true]
    refine ⟨fun e => by omega, fun e => ?_⟩
    cases gs with
    | nil => exact absurd e (by simp [emp])
    | cons g gs => have : s.1 + 1 = g + 1 := e; have := hg g List.mem_cons_self; omega
  · dsimp only
    rw [if_neg (by omega)]
    exact h10 i hi

set_option maxHeartbeats 4000000 in
theorem c_X8_field (d : Nat) {T : TH} {n q : Nat} {b : Nat → Nat} {s : Sh} {gs : List Nat} (h : LX T n b q) (hsk : sk b n q = q) (hr : RS T s gs) (hpi : PI n q s gs) : Xe m_X8_field (d + 3) 0 [(0, .ref 88)] [] T
    (fun r T1 => r = none ∧ FrM fsL asL T T1 ∧ match pField b n q s gs with
      | .inl (k, q') => EndL T1 k q'
      | .inr (p', s', gs') => LX T1 n b p' ∧ RS T1 s' gs' ∧ e_i T1 517 88 = e_i T 517 88) := by
  have hn4 := hpi.2.1
  have hp3 := hpi.2.2.1
  have hp4 := hpi.2.2.2.1
  have hp1 := hpi.1
  have hp5 := hpi.2.2.2.2.1
  have he0 := we_ge b n q
  have he1 := we_n (b := b) hp1
  obtain ⟨cn, hcn, -, -⟩ := hr.2.2.2.2.2.2.2
  obtain ⟨hc1, hc2⟩ := hcn gs.length (Nat.le_refl _)
  generalize hcD : cn gs.length = cD at hc1 hc2
  have hop : e_ai T 100 gs.length = oI gs.head? := hr.2.2.2.2.2.2.1.top
  refine xe (fun _ _ kK => x_aload_n dX8_field_0 rfl 0 rfl kK) ?_
  refine xe_callV (a := 88) [] dX8_field_1 ml_X8_144 mf_X8_next h.1.1 (by have := c_X8_next (d + 2) _ T q n b rfl h.1 h.2.1 h.2.2.1 h.2.2.2.1 h.2.2.2.2.1 h.2.2.2.2.2.1; rw [hsk, si_self h.2.2.1] at this; exact this) rfl rfl (Nat.le_of_ble_eq_true rfl) (Nat.le_of_ble_eq_true rfl) ?_
  rintro _ T9 ⟨rfl, h9⟩
  refine xe_T h9 ?_
  refine xe (fun _ _ kK => x_pop dX8_field_4 rfl kK) ?_
  refine xe (fun _ _ kK => x_aload_n dX8_field_5 rfl 0 rfl kK) ?_
  refine xe (fun _ _ kK => x_get dX8_field_6 fl_X8_138 h.1.1 (gvl_i fz_8_2.2.2 (show e_i T 514 88 = nI q from h.2.2.1)) kK) ?_
  refine xe (fun _ _ kK => x_istore_n dX8_field_9 rfl (by decide) (show _ = [(1, .int (nI q)), (0, .ref 88)] from rfl) kK) ?_
  refine xe (fun _ _ kK => x_aload_n dX8_field_10 rfl 1 rfl kK) ?_
  by_cases he : we b n q = q
  · -- pc 11
    refine xe_callV (a := 88) [] dX8_field_11 ml_X8_173 mf_X8_word h.1.1 (by have := c_X8_word (d + 1) h; rw [hsk, if_pos he, if_pos he] at this; exact this) rfl rfl (Nat.le_of_ble_eq_true rfl) (Nat.le_of_ble_eq_true rfl) ?_
    rintro _ _ ⟨rfl, rfl⟩
    refine xe (fun _ _ kK => x_lstore_n dX8_field_14 rfl (by decide) (show _ = [(2, .long (lN 0)), (1, .int (nI q)), (0, .ref 88)] from rfl) kK) ?_
    refine xe (fun _ _ kK => x_aload_n dX8_field_15 rfl 2 rfl kK) ?_
    refine xe (fun _ _ kK => x_get dX8_field_16 fl_X8_132 (wK_i (wK_i (wK_i h.1.1))) (gvl_i fz_8_4.2.2 (show e_i (flk (mv T q) 1 q) 516 88 = nI 1 from rfl)) kK) ?_
    refine xe (fun _ _ kK => x_if_neT (tgt := 36) dX8_field_19 (by decide) (by decide) kK) ?_
    refine xe (fun _ _ kK => x_aload_n dX8_field_36 rfl 2 rfl kK) ?_
    refine xe (fun _ _ kK => x_get dX8_field_37 fl_X8_68 (wK_i (wK_i (wK_i h.1.1))) (gvl_r1 fz_8_28.2.2 (show e_r (flk (mv T q) 1 q) 540 88 = some 100 from (wr_i (wr_i (wr_i (h.1.2.1 28)))))) kK) ?_
    refine xe (fun _ _ kK => x_aload_n dX8_field_40 rfl 2 rfl kK) ?_
    refine xe (fun _ _ kK => x_get dX8_field_41 fl_X8_180 (wK_i (wK_i (wK_i h.1.1))) (gvl_i fz_8_30.2.2 (show e_i (flk (mv T q) 1 q) 542 88 = nI gs.length from (wi_i (fun q => absurd q.1 (by decide)) (wi_i (fun q => absurd q.1 (by decide)) (wi_i (fun q => absurd q.1 (by decide)) hr.2.2.1))))) kK) ?_
    refine xe (fun _ _ kK => x_iald dX8_field_44 (wK_i (wK_i (wK_i (h.1.2.2.1 11 (by decide))))) (show (nI gs.length) = nI gs.length from rfl) (wN_i (wN_i (wN_i (mi_len h.1 11 (by decide) (show gs.length < 8 by omega))))) (show e_ai (flk (mv T q) 1 q) 100 gs.length = oI gs.head? from (wai_i (wai_i (wai_i hop)))) kK) ?_
    refine xe (fun _ _ kK => x_istore dX8_field_45 (by decide) (show _ = [(4, .int (oI gs.head?)), (2, .long (lN 0)), (1, .int (nI q)), (0, .ref 88)] from rfl) kK) ?_
    refine xe (fun _ _ kK => x_iconst dX8_field_47 (show _ = nI 0 by decide) kK) ?_
    refine xe (fun _ _ kK => x_istore dX8_field_48 (by decide) (show _ = [(5, .int (nI 0)), (4, .int (oI gs.head?)), (2, .long (lN 0)), (1, .int (nI q)), (0, .ref 88)] from rfl) kK) ?_
    refine xe (fun _ _ kK => x_iload dX8_field_50 0 rfl kK) ?_
    refine xe (fun _ _ kK => x_aload_n dX8_field_52 rfl 4 rfl kK) ?_
    refine xe (fun _ _ kK => x_get dX8_field_53 fl_X8_183 (wK_i (wK_i (wK_i h.1.1))) (gvl_i fz_8_21.2.2 (show e_i (flk (mv T q) 1 q) 533 88 = nI s.1 from (wi_i (fun q => absurd q.1 (by decide)) (wi_i (fun q => absurd q.1 (by decide)) (wi_i (fun q => absurd q.1 (by decide)) hr.1))))) kK) ?_
    refine xe_icmp_ge (tgt := 102) dX8_field_56 (by decide) (fun h56 => ?_) (fun h56 => ?_)
    · -- pc 102
      have h56 := cv_le (by omega) (by omega) h56
      refine xe (fun _ _ kK => x_aload_n dX8_field_102 rfl 4 rfl kK) ?_
      refine xe (fun _ _ kK => x_get dX8_field_103 fl_X8_132 (wK_i (wK_i (wK_i h.1.1))) (gvl_i fz_8_4.2.2 (show e_i (flk (mv T q) 1 q) 516 88 = nI 1 from rfl)) kK) ?_
      refine xe (fun _ _ kK => x_if_eqF (tgt := 110) dX8_field_106 (by decide) (by decide) kK) ?_
      exact xe_retv dX8_field_109 rfl (⟨rfl, (FrM.si (FrM.si (FrM.si FrM.rf (by decide) _) (by decide) _) (by decide) _), by rw [pField, if_pos he]; exact ⟨rfl, rfl, by decide, by decide, by omega⟩⟩)
    · -- pc 59
      have h56 := cv_nle (by omega) (by omega) h56
      refine xe (fun _ _ kK => x_aload_n dX8_field_59 rfl 4 rfl kK) ?_
      refine xe (fun _ _ kK => x_get dX8_field_60 fl_X8_132 (wK_i (wK_i (wK_i h.1.1))) (gvl_i fz_8_4.2.2 (show e_i (flk (mv T q) 1 q) 516 88 = nI 1 from rfl)) kK) ?_
      refine xe (fun _ _ kK => x_if_neT (tgt := 102) dX8_field_63 (by decide) (by decide) kK) ?_
      refine xe (fun _ _ kK => x_aload_n dX8_field_102 rfl 4 rfl kK) ?_
      refine xe (fun _ _ kK => x_get dX8_field_103 fl_X8_132 (wK_i (wK_i (wK_i h.1.1))) (gvl_i fz_8_4.2.2 (show e_i (flk (mv T q) 1 q) 516 88 = nI 1 from rfl)) kK) ?_
      refine xe (fun _ _ kK => x_if_eqF (tgt := 110) dX8_field_106 (by decide) (by decide) kK) ?_
      exact xe_retv dX8_field_109 rfl (⟨rfl, (FrM.si (FrM.si (FrM.si FrM.rf (by decide) _) (by decide) _) (by decide) _), by rw [pField, if_pos he]; exact ⟨rfl, rfl, by decide, by decide, by omega⟩⟩)
  · -- pc 11
    by_cases he8 : q + 8 < we b n q
    · -- pc 11
      refine xe_callV (a := 88) [] dX8_field_11 ml_X8_173 mf_X8_word h.1.1 (by have := c_X8_word (d + 1) h; rw [hsk, if_neg he, if_neg he, if_pos he8, if_pos he8] at this; exact this) rfl rfl (Nat.le_of_ble_eq_true rfl) (Nat.le_of_ble_eq_true rfl) ?_
      rintro _ _ ⟨rfl, rfl⟩
      refine xe (fun _ _ kK => x_lstore_n dX8_field_14 rfl (by decide) (show _ = [(2, .long (lN 0)), (1, .int (nI q)), (0, .ref 88)] from rfl) kK) ?_
      refine xe (fun _ _ kK => x_aload_n dX8_field_15 rfl 2 rfl kK) ?_
      refine xe (fun _ _ kK => x_get dX8_field_16 fl_X8_132 (wK_i (wK_i (wK_i h.1.1))) (gvl_i fz_8_4.2.2 (show e_i (flk (mv T (q + 8)) 1 (q + 8)) 516 88 = nI 1 from rfl)) kK) ?_
      refine xe (fun _ _ kK => x_if_neT (tgt := 36) dX8_field_19 (by decide) (by decide) kK) ?_
      refine xe (fun _ _ kK => x_aload_n dX8_field_36 rfl 2 rfl kK) ?_
      refine xe (fun _ _ kK => x_get dX8_field_37 fl_X8_68 (wK_i (wK_i (wK_i h.1.1))) (gvl_r1 fz_8_28.2.2 (show e_r (flk (mv T (q + 8)) 1 (q + 8)) 540 88 = some 100 from (wr_i (wr_i (wr_i (h.1.2.1 28)))))) kK) ?_
      refine xe (fun _ _ kK => x_aload_n dX8_field_40 rfl 2 rfl kK) ?_
      refine xe (fun _ _ kK => x_get dX8_field_41 fl_X8_180 (wK_i (wK_i (wK_i h.1.1))) (gvl_i fz_8_30.2.2 (show e_i (flk (mv T (q + 8)) 1 (q + 8)) 542 88 = nI gs.length from (wi_i (fun q => absurd q.1 (by decide)) (wi_i (fun q => absurd q.1 (by decide)) (wi_i (fun q => absurd q.1 (by decide)) hr.2.2.1))))) kK) ?_
      refine xe (fun _ _ kK => x_iald dX8_field_44 (wK_i (wK_i (wK_i (h.1.2.2.1 11 (by decide))))) (show (nI gs.length) = nI gs.length from rfl) (wN_i (wN_i (wN_i (mi_len h.1 11 (by decide) (show gs.length < 8 by omega))))) (show e_ai (flk (mv T (q + 8)) 1 (q + 8)) 100 gs.length = oI gs.head? from (wai_i (wai_i (wai_i hop)))) kK) ?_
      refine xe (fun _ _ kK => x_istore dX8_field_45 (by decide) (show _ = [(4, .int (oI gs.head?)), (2, .long (lN 0)), (1, .int (nI q)), (0, .ref 88)] from rfl) kK) ?_
      refine xe (fun _ _ kK => x_iconst dX8_field_47 (show _ = nI 0 by decide) kK) ?_
      refine xe (fun _ _ kK => x_istore dX8_field_48 (by decide) (show _ = [(5, .int (nI 0)), (4, .int (oI gs.head?)), (2, .long (lN 0)), (1, .int (nI q)), (0, .ref 88)] from rfl) kK) ?_
      refine xe (fun _ _ kK => x_iload dX8_field_50 0 rfl kK) ?_
      refine xe (fun _ _ kK => x_aload_n dX8_field_52 rfl 4 rfl kK) ?_
      refine xe (fun _ _ kK => x_get dX8_field_53 fl_X8_183 (wK_i (wK_i (wK_i h.1.1))) (gvl_i fz_8_21.2.2 (show e_i (flk (mv T (q + 8)) 1 (q + 8)) 533 88 = nI s.1 from (wi_i (fun q => absurd q.1 (by decide)) (wi_i (fun q => absurd q.1 (by decide)) (wi_i (fun q => absurd q.1 (by decide)) hr.1))))) kK) ?_
      refine xe_icmp_ge (tgt := 102) dX8_field_56 (by decide) (fun h56 => ?_) (fun h56 => ?_)
      · -- pc 102
        have h56 := cv_le (by omega) (by omega) h56
        refine xe (fun _ _ kK => x_aload_n dX8_field_102 rfl 4 rfl kK) ?_
        refine xe (fun _ _ kK => x_get dX8_field_103 fl_X8_132 (wK_i (wK_i (wK_i h.1.1))) (gvl_i fz_8_4.2.2 (show e_i (flk (mv T (q + 8)) 1 (q + 8)) 516 88 = nI 1 from rfl)) kK) ?_
        refine xe (fun _ _ kK => x_if_eqF (tgt := 110) dX8_field_106 (by decide) (by decide) kK) ?_
        exact xe_retv dX8_field_109 rfl (⟨rfl, (FrM.si (FrM.si (FrM.si FrM.rf (by decide) _) (by decide) _) (by decide) _), by rw [pField, if_neg he, if_pos he8]; exact ⟨rfl, rfl, by decide, by decide, by omega⟩⟩)
      · -- pc 59
        have h56 := cv_nle (by omega) (by omega) h56
        refine xe (fun _ _ kK => x_aload_n dX8_field_59 rfl 4 rfl kK) ?_
        refine xe (fun _ _ kK => x_get dX8_field_60 fl_X8_132 (wK_i (wK_i (wK_i h.1.1))) (gvl_i fz_8_4.2.2 (show e_i (flk (mv T (q + 8)) 1 (q + 8)) 516 88 = nI 1 from rfl)) kK) ?_
        refine xe (fun _ _ kK => x_if_neT (tgt := 102) dX8_field_63 (by decide) (by decide) kK) ?_
        refine xe (fun _ _ kK => x_aload_n dX8_field_102 rfl 4 rfl kK) ?_
        refine xe (fun _ _ kK => x_get dX8_field_103 fl_X8_132 (wK_i (wK_i (wK_i h.1.1))) (gvl_i fz_8_4.2.2 (show e_i (flk (mv T (q + 8)) 1 (q + 8)) 516 88 = nI 1 from rfl)) kK) ?_
        refine xe (fun _ _ kK => x_if_eqF (tgt := 110) dX8_field_106 (by decide) (by decide) kK) ?_
        exact xe_retv dX8_field_109 rfl (⟨rfl, (FrM.si (FrM.si (FrM.si FrM.rf (by decide) _) (by decide) _) (by decide) _), by rw [pField, if_neg he, if_pos he8]; exact ⟨rfl, rfl, by decide, by decide, by omega⟩⟩)
    · -- pc 11
      refine xe_callV (a := 88) [] dX8_field_11 ml_X8_173 mf_X8_word h.1.1 (by have := c_X8_word (d + 1) h; rw [hsk, if_neg he, if_neg he, if_neg he8, if_neg he8] at this; exact this) rfl rfl (Nat.le_of_ble_eq_true rfl) (Nat.le_of_ble_eq_true rfl) ?_
      rintro _ _ ⟨rfl, rfl⟩
      have hv := wc_lt8 (b := b) (n := n) (q := q) (by omega)
      have hv9 := hv
      rw [p278] at hv9
      have hL1 : LX (mv T (we b n q)) n b (we b n q) := h.mv he1
      have hr1 : RS (mv T (we b n q)) s gs := hr.mv _
      refine xe (fun _ _ kK => x_lstore_n dX8_field_14 rfl (by decide) (show _ = [(2, .long (lN (wc b q (we b n q)))), (1, .int (nI q)), (0, .ref 88)] from rfl) kK) ?_
      refine xe (fun _ _ kK => x_aload_n dX8_field_15 rfl 2 rfl kK) ?_
      refine xe (fun _ _ kK => x_get dX8_field_16 fl_X8_132 (wK_i h.1.1) (gvl_i fz_8_4.2.2 (show e_i (mv T (we b n q)) 516 88 = nI 0 from (wi_i (fun q => absurd q.1 (by decide)) h.2.2.2.2.2.2))) kK) ?_
      refine xe (fun _ _ kK => x_if_neF (tgt := 36) dX8_field_19 (by decide) nI_0 kK) ?_
      refine xe (fun _ _ kK => x_aload_n dX8_field_22 rfl 2 rfl kK) ?_
      refine xe (fun _ _ kK => x_lload_n dX8_field_23 rfl 0 rfl kK) ?_
      refine xe_callV (a := 88) [.long (lN (wc b q (we b n q)))] dX8_field_24 ml_X8_176 mf_X8_isOwn (wK_i h.1.1) (c_X8_isOwn (d + 2) (T := mv T (we b n q)) h.1 (v := wc b q (we b n q)) (by omega)) rfl rfl (Nat.le_of_ble_eq_true rfl) (Nat.le_of_ble_eq_true rfl) ?_
      rintro _ T9 ⟨rfl, h9⟩
      refine xe_T h9 ?_
      refine xe_if_eq (tgt := 36) dX8_field_27 (by decide) (fun hkw => ?_) (fun hkw => ?_)
      · -- pc 36
        have hkw := cv_b0 hkw
        refine xe (fun _ _ kK => x_aload_n dX8_field_36 rfl 2 rfl kK) ?_
        refine xe (fun _ _ kK => x_get dX8_field_37 fl_X8_68 (wK_i h.1.1) (gvl_r1 fz_8_28.2.2 (show e_r (mv T (we b n q)) 540 88 = some 100 from (wr_i (h.1.2.1 28)))) kK) ?_
        refine xe (fun _ _ kK => x_aload_n dX8_field_40 rfl 2 rfl kK) ?_
        refine xe (fun _ _ kK => x_get dX8_field_41 fl_X8_180 (wK_i h.1.1) (gvl_i fz_8_30.2.2 (show e_i (mv T (we b n q)) 542 88 = nI gs.length from (wi_i (fun q => absurd q.1 (by decide)) hr.2.2.1))) kK) ?_
        refine xe (fun _ _ kK => x_iald dX8_field_44 (wK_i (h.1.2.2.1 11 (by decide))) (show (nI gs.length) = nI gs.length from rfl) (wN_i (mi_len h.1 11 (by decide) (show gs.length < 8 by omega))) (show e_ai (mv T (we b n q)) 100 gs.length = oI gs.head? from (wai_i hop)) kK) ?_
        refine xe (fun _ _ kK => x_istore dX8_field_45 (by decide) (show _ = [(4, .int (oI gs.head?)), (2, .long (lN (wc b q (we b n q)))), (1, .int (nI q)), (0, .ref 88)] from rfl) kK) ?_
        refine xe (fun _ _ kK => x_iconst dX8_field_47 (show _ = nI 0 by decide) kK) ?_
        refine xe (fun _ _ kK => x_istore dX8_field_48 (by decide) (show _ = [(5, .int (nI 0)), (4, .int (oI gs.head?)), (2, .long (lN (wc b q (we b n q)))), (1, .int (nI q)), (0, .ref 88)] from rfl) kK) ?_
        refine xe_loc (L' := [(5, .int (nI 0)), (4, .int (oI gs.head?)), (2, .long (lN (wc b q (we b n q)))), (1, .int (nI q)), (0, .ref 88)]) (by simp) ?_
        refine l_X8_dup (d + 2) (q := q) (v := wc b q (we b n q)) hL1 hr1 hpi hv (fun hno => ?_) (fun hyes => ?_) s.1 0 rfl (Nat.zero_le _) rfl
        · -- pc 50
          refine xe (fun _ _ kK => x_aload_n dX8_field_102 rfl 4 rfl kK) ?_
          refine xe (fun _ _ kK => x_get dX8_field_103 fl_X8_132 (wK_i h.1.1) (gvl_i fz_8_4.2.2 (show e_i (mv T (we b n q)) 516 88 = nI 0 from (wi_i (fun q => absurd q.1 (by decide)) h.2.2.2.2.2.2))) kK) ?_
          refine xe (fun _ _ kK => x_if_eqT (tgt := 110) dX8_field_106 (by decide) nI_0 kK) ?_
          refine xe (fun _ _ kK => x_aload_n dX8_field_110 rfl 4 rfl kK) ?_
          refine xe (fun _ _ kK => x_get dX8_field_111 fl_X8_183 (wK_i h.1.1) (gvl_i fz_8_21.2.2 (show e_i (mv T (we b n q)) 533 88 = nI s.1 from (wi_i (fun q => absurd q.1 (by decide)) hr.1))) kK) ?_
          refine xe (fun _ _ kK => x_istore dX8_field_114 (by decide) (show _ = [(5, .int (nI s.1)), (4, .int (oI gs.head?)), (2, .long (lN (wc b q (we b n q)))), (1, .int (nI q)), (0, .ref 88)] from rfl) kK) ?_
          refine xe (fun _ _ kK => x_aload_n dX8_field_116 rfl 4 rfl kK) ?_
          refine xe (fun _ _ kK => x_dup dX8_field_117 rfl kK) ?_
          refine xe (fun _ _ kK => x_get dX8_field_118 fl_X8_183 (wK_i h.1.1) (gvl_i fz_8_21.2.2 (show e_i (mv T (we b n q)) 533 88 = nI s.1 from (wi_i (fun q => absurd q.1 (by decide)) hr.1))) kK) ?_
          refine xe (fun _ _ kK => x_iconst dX8_field_121 (show _ = nI 1 by decide) kK) ?_
          refine xe (fun _ _ kK => x_iadd dX8_field_122 kK) ?_
          refine xe_ti (show _ = nI (s.1 + 1) from nI_add s.1 1) ?_
          refine xe (fun _ _ kK => x_puti dX8_field_123 ⟨fl_X8_183, fz_8_21.1, fz_8_21.2.1⟩ (Or.inl fz_8_21.2.2) rfl rfl (wK_i h.1.1) kK) ?_
          refine xe (fun _ _ kK => x_aload_n dX8_field_126 rfl 4 rfl kK) ?_
          refine xe (fun _ _ kK => x_get dX8_field_127 fl_X8_71 (wK_i (wK_i h.1.1)) (gvl_r1 fz_8_29.2.2 (show e_r (s_i (mv T (we b n q)) 533 88 (nI (s.1 + 1))) 541 88 = some 101 from (wr_i (wr_i (h.1.2.1 29))))) kK) ?_
          refine xe (fun _ _ kK => x_aload_n dX8_field_130 rfl 4 rfl kK) ?_
          refine xe (fun _ _ kK => x_get dX8_field_131 fl_X8_180 (wK_i (wK_i h.1.1)) (gvl_i fz_8_30.2.2 (show e_i (s_i (mv T (we b n q)) 533 88 (nI (s.1 + 1))) 542 88 = nI gs.length from (wi_i (fun q => absurd q.1 (by decide)) (wi_i (fun q => absurd q.1 (by decide)) hr.2.2.1)))) kK) ?_
          refine xe (fun _ _ kK => x_dup2 dX8_field_134 rfl rfl kK) ?_
          refine xe (fun _ _ kK => x_iald dX8_field_135 (wK_i (wK_i (h.1.2.2.1 12 (by decide)))) (show (nI gs.length) = nI gs.length from rfl) (wN_i (wN_i (mi_len h.1 12 (by decide) (show gs.length < 8 by omega)))) (show e_ai (s_i (mv T (we b n q)) 533 88 (nI (s.1 + 1))) 101 gs.length = nI cD from (wai_i (wai_i hc1))) kK) ?_
          refine xe (fun _ _ kK => x_iconst dX8_field_136 (show _ = nI 1 by decide) kK) ?_
          refine xe (fun _ _ kK => x_iadd dX8_field_137 kK) ?_
          refine xe_ti (show _ = nI (cD + 1) from nI_add cD 1) ?_
          refine xe (fun _ _ kK => x_iast dX8_field_138 (wK_i (wK_i (h.1.2.2.1 12 (by decide)))) (show (nI gs.length) = nI gs.length from rfl) (wN_i (wN_i (mi_len h.1 12 (by decide) (show gs.length < 8 by omega)))) kK) ?_
          refine xe (fun _ _ kK => x_aload_n dX8_field_139 rfl 4 rfl kK) ?_
          refine xe (fun _ _ kK => x_get dX8_field_140 fl_X8_53 (wK_ai (wK_i (wK_i h.1.1))) (gvl_r1 fz_8_23.2.2 (show e_r (s_ai (s_i (mv T (we b n q)) 533 88 (nI (s.1 + 1))) 101 gs.length (nI (cD + 1))) 535 88 = some 95 from (wr_ai (wr_i (wr_i (h.1.2.1 23)))))) kK) ?_
          refine xe (fun _ _ kK => x_iload dX8_field_143 0 rfl kK) ?_
          refine xe (fun _ _ kK => x_iload dX8_field_145 1 rfl kK) ?_
          refine xe (fun _ _ kK => x_iast dX8_field_147 (wK_ai (wK_i (wK_i (h.1.2.2.1 6 (by decide))))) (show (nI s.1) = nI s.1 from rfl) (wN_ai (wN_i (wN_i (mi_len h.1 6 (by decide) (show s.1 < 80 by omega))))) kK) ?_
          refine xe (fun _ _ kK => x_aload_n dX8_field_148 rfl 4 rfl kK) ?_
          refine xe (fun _ _ kK => x_get dX8_field_149 fl_X8_56 (wK_ai (wK_ai (wK_i (wK_i h.1.1)))) (gvl_r1 fz_8_24.2.2 (show e_r (s_ai (s_ai (s_i (mv T (we b n q)) 533 88 (nI (s.1 + 1))) 101 gs.length (nI (cD + 1))) 95 s.1 (oI gs.head?)) 536 88 = some 96 from (wr_ai (wr_ai (wr_i (wr_i (h.1.2.1 24))))))) kK) ?_
          refine xe (fun _ _ kK => x_iload dX8_field_152 0 rfl kK) ?_
          refine xe (fun _ _ kK => x_lload_n dX8_field_154 rfl 2 rfl kK) ?_
          refine xe (fun _ _ kK => x_last dX8_field_155 (wK_ai (wK_ai (wK_i (wK_i (h.1.2.2.1 7 (by decide)))))) (show (nI s.1) = nI s.1 from rfl) (wN_ai (wN_ai (wN_i (wN_i (mi_len h.1 7 (by decide) (show s.1 < 80 by omega)))))) kK) ?_
          refine xe (fun _ _ kK => x_aload_n dX8_field_156 rfl 4 rfl kK) ?_
          have hL3 : LX (s_al (s_ai (s_ai (s_i (mv T (we b n q)) 533 88 (nI (s.1 + 1))) 101 gs.length (nI (cD + 1))) 95 s.1 (oI gs.head?)) 96 s.1 (lN (wc b q (we b n q)))) n b (we b n q) := (LX.of h (FrM.sal (FrM.sai (FrM.sai (FrM.si (FrM.si FrM.rf (by decide) _) (by decide) _) (by decide) _ _) (by decide) _ _) (by decide) _ _) rfl he1 (wi_al (wi_ai (wi_ai (wi_i (fun q => absurd q.1 (by decide)) (wi_i (fun q => absurd q.1 (by decide)) h.2.2.2.2.2.2))))))
          have hs0 := sk_ge b n (we b n q)
          have hs1 := sk_n (b := b) he1
          refine xe_callV (a := 88) [] dX8_field_157 ml_X8_144 mf_X8_next (wK_al (wK_ai (wK_ai (wK_i (wK_i h.1.1))))) (c_X8_next (d + 2) _ _ (we b n q) n b rfl hL3.1 hL3.2.1 hL3.2.2.1 hL3.2.2.2.1 hL3.2.2.2.2.1 hL3.2.2.2.2.2.1) rfl rfl (Nat.le_of_ble_eq_true rfl) (Nat.le_of_ble_eq_true rfl) ?_
          rintro _ _ ⟨rfl, rfl⟩
          refine xe (fun _ _ kK => x_istore dX8_field_160 (by decide) (show _ = [(6, .int (pk b n (sk b n (we b n q)))), (5, .int (nI s.1)), (4, .int (oI gs.head?)), (2, .long (lN (wc b q (we b n q)))), (1, .int (nI q)), (0, .ref 88)] from rfl) kK) ?_
          refine xe (fun _ _ kK => x_aload_n dX8_field_162 rfl 5 rfl kK) ?_
          refine xe (fun _ _ kK => x_get dX8_field_163 fl_X8_138 (wK_i (wK_al (wK_ai (wK_ai (wK_i (wK_i h.1.1)))))) (gvl_i fz_8_2.2.2 (show e_i (mv (s_al (s_ai (s_ai (s_i (mv T (we b n q)) 533 88 (nI (s.1 + 1))) 101 gs.length (nI (cD + 1))) 95 s.1 (oI gs.head?)) 96 s.1 (lN (wc b q (we b n q)))) (sk b n (we b n q))) 514 88 = nI (sk b n (we b n q)) from rfl)) kK) ?_
          refine xe (fun _ _ kK => x_istore_n dX8_field_166 rfl (by decide) (show _ = [(1, .int (nI (sk b n (we b n q)))), (6, .int (pk b n (sk b n (we b n q)))), (5, .int (nI s.1)), (4, .int (oI gs.head?)), (2, .long (lN (wc b q (we b n q)))), (0, .ref 88)] from rfl) kK) ?_
          refine xe (fun _ _ kK => x_iload dX8_field_167 1 rfl kK) ?_
          refine xe (fun _ _ kK => x_bipush dX8_field_169 (show _ = nI 91 by decide) kK) ?_
          by_cases hbr : sk b n (we b n q) < n ∧ b (sk b n (we b n q)) = 91
          · -- pc 171
            refine xe (fun _ _ kK => x_icmp_neF (tgt := 249) dX8_field_171 (by decide) (show pk b n (sk b n (we b n q)) = nI 91 by rw [pk, if_pos hbr.1, hbr.2]) kK) ?_
            refine xe (fun _ _ kK => x_aload_n dX8_field_174 rfl 5 rfl kK) ?_
            refine xe (fun _ _ kK => x_get dX8_field_175 fl_X8_180 (wK_i (wK_al (wK_ai (wK_ai (wK_i (wK_i h.1.1)))))) (gvl_i fz_8_30.2.2 (show e_i (mv (s_al (s_ai (s_ai (s_i (mv T (we b n q)) 533 88 (nI (s.1 + 1))) 101 gs.length (nI (cD + 1))) 95 s.1 (oI gs.head?)) 96 s.1 (lN (wc b q (we b n q)))) (sk b n (we b n q))) 542 88 = nI gs.length from (wi_i (fun q => absurd q.1 (by decide)) (wi_al (wi_ai (wi_ai (wi_i (fun q => absurd q.1 (by decide)) (wi_i (fun q => absurd q.1 (by decide)) hr.2.2.1)))))))) kK) ?_
            refine xe (fun _ _ kK => x_iconst dX8_field_178 (show _ = nI 4 by decide) kK) ?_
            refine xe_icmp_ne (tgt := 191) dX8_field_179 (by decide) (fun h179 => ?_) (fun h179 => ?_)
            · -- pc 191
              have h179 := cv_ne (by omega) (by omega) h179
              refine xe (fun _ _ kK => x_aload_n dX8_field_191 rfl 5 rfl kK) ?_
              refine xe (fun _ _ kK => x_get dX8_field_192 fl_X8_132 (wK_i (wK_al (wK_ai (wK_ai (wK_i (wK_i h.1.1)))))) (gvl_i fz_8_4.2.2 (show e_i (mv (s_al (s_ai (s_ai (s_i (mv T (we b n q)) 533 88 (nI (s.1 + 1))) 101 gs.length (nI (cD + 1))) 95 s.1 (oI gs.head?)) 96 s.1 (lN (wc b q (we b n q)))) (sk b n (we b n q))) 516 88 = nI 0 from (wi_i (fun q => absurd q.1 (by decide)) (wi_al (wi_ai (wi_ai (wi_i (fun q => absurd q.1 (by decide)) (wi_i (fun q => absurd q.1 (by decide)) h.2.2.2.2.2.2)))))))) kK) ?_
              refine xe (fun _ _ kK => x_if_eqT (tgt := 199) dX8_field_195 (by decide) nI_0 kK) ?_
              refine xe (fun _ _ kK => x_aload_n dX8_field_199 rfl 5 rfl kK) ?_
              refine xe (fun _ _ kK => x_dup dX8_field_200 rfl kK) ?_
              refine xe (fun _ _ kK => x_get dX8_field_201 fl_X8_138 (wK_i (wK_al (wK_ai (wK_ai (wK_i (wK_i h.1.1)))))) (gvl_i fz_8_2.2.2 (show e_i (mv (s_al (s_ai (s_ai (s_i (mv T (we b n q)) 533 88 (nI (s.1 + 1))) 101 gs.length (nI (cD + 1))) 95 s.1 (oI gs.head?)) 96 s.1 (lN (wc b q (we b n q)))) (sk b n (we b n q))) 514 88 = nI (sk b n (we b n q)) from rfl)) kK) ?_
              refine xe (fun _ _ kK => x_iconst dX8_field_204 (show _ = nI 1 by decide) kK) ?_
              refine xe (fun _ _ kK => x_iadd dX8_field_205 kK) ?_
              refine xe_ti (show _ = nI ((sk b n (we b n q)) + 1) from nI_add (sk b n (we b n q)) 1) ?_
              refine xe (fun _ _ kK => x_puti dX8_field_206 ⟨fl_X8_138, fz_8_2.1, fz_8_2.2.1⟩ (Or.inl fz_8_2.2.2) rfl rfl (wK_i (wK_al (wK_ai (wK_ai (wK_i (wK_i h.1.1)))))) kK) ?_
              refine xe (fun _ _ kK => x_aload_n dX8_field_209 rfl 5 rfl kK) ?_
              refine xe (fun _ _ kK => x_get dX8_field_210 fl_X8_59 (wK_i (wK_i (wK_al (wK_ai (wK_ai (wK_i (wK_i h.1.1))))))) (gvl_r1 fz_8_25.2.2 (show e_r (s_i (mv (s_al (s_ai (s_ai (s_i (mv T (we b n q)) 533 88 (nI (s.1 + 1))) 101 gs.length (nI (cD + 1))) 95 s.1 (oI gs.head?)) 96 s.1 (lN (wc b q (we b n q)))) (sk b n (we b n q))) 514 88 (nI ((sk b n (we b n q)) + 1))) 537 88 = some 97 from (wr_i (wr_i (wr_al (wr_ai (wr_ai (wr_i (wr_i (h.1.2.1 25)))))))))) kK) ?_
              refine xe (fun _ _ kK => x_iload dX8_field_213 2 rfl kK) ?_
              refine xe (fun _ _ kK => x_iconst dX8_field_215 (show _ = nI 2 by decide) kK) ?_
              refine xe (fun _ _ kK => x_iast dX8_field_216 (wK_i (wK_i (wK_al (wK_ai (wK_ai (wK_i (wK_i (h.1.2.2.1 8 (by decide))))))))) (show (nI s.1) = nI s.1 from rfl) (wN_i (wN_i (wN_al (wN_ai (wN_ai (wN_i (wN_i (mi_len h.1 8 (by decide) (show s.1 < 80 by omega))))))))) kK) ?_
              refine xe (fun _ _ kK => x_aload_n dX8_field_217 rfl 5 rfl kK) ?_
              refine xe (fun _ _ kK => x_dup dX8_field_218 rfl kK) ?_
              refine xe (fun _ _ kK => x_get dX8_field_219 fl_X8_180 (wK_ai (wK_i (wK_i (wK_al (wK_ai (wK_ai (wK_i (wK_i h.1.1)))))))) (gvl_i fz_8_30.2.2 (show e_i (s_ai (s_i (mv (s_al (s_ai (s_ai (s_i (mv T (we b n q)) 533 88 (nI (s.1 + 1))) 101 gs.length (nI (cD + 1))) 95 s.1 (oI gs.head?)) 96 s.1 (lN (wc b q (we b n q)))) (sk b n (we b n q))) 514 88 (nI ((sk b n (we b n q)) + 1))) 97 s.1 (nI 2)) 542 88 = nI gs.length from (wi_ai (wi_i (fun q => absurd q.1 (by decide)) (wi_i (fun q => absurd q.1 (by decide)) (wi_al (wi_ai (wi_ai (wi_i (fun q => absurd q.1 (by decide)) (wi_i (fun q => absurd q.1 (by decide)) hr.2.2.1)))))))))) kK) ?_
              refine xe (fun _ _ kK => x_iconst dX8_field_222 (show _ = nI 1 by decide) kK) ?_
              refine xe (fun _ _ kK => x_iadd dX8_field_223 kK) ?_
              refine xe_ti (show _ = nI (gs.length + 1) from nI_add gs.length 1) ?_
              refine xe (fun _ _ kK => x_puti dX8_field_224 ⟨fl_X8_180, fz_8_30.1, fz_8_30.2.1⟩ (Or.inl fz_8_30.2.2) rfl rfl (wK_ai (wK_i (wK_i (wK_al (wK_ai (wK_ai (wK_i (wK_i h.1.1)))))))) kK) ?_
              refine xe (fun _ _ kK => x_aload_n dX8_field_227 rfl 5 rfl kK) ?_
              refine xe (fun _ _ kK => x_get dX8_field_228 fl_X8_68 (wK_i (wK_ai (wK_i (wK_i (wK_al (wK_ai (wK_ai (wK_i (wK_i h.1.1))))))))) (gvl_r1 fz_8_28.2.2 (show e_r (s_i (s_ai (s_i (mv (s_al (s_ai (s_ai (s_i (mv T (we b n q)) 533 88 (nI (s.1 + 1))) 101 gs.length (nI (cD + 1))) 95 s.1 (oI gs.head?)) 96 s.1 (lN (wc b q (we b n q)))) (sk b n (we b n q))) 514 88 (nI ((sk b n (we b n q)) + 1))) 97 s.1 (nI 2)) 542 88 (nI (gs.length + 1))) 540 88 = some 100 from (wr_i (wr_ai (wr_i (wr_i (wr_al (wr_ai (wr_ai (wr_i (wr_i (h.1.2.1 28)))))))))))) kK) ?_
              refine xe (fun _ _ kK => x_aload_n dX8_field_231 rfl 5 rfl kK) ?_
              refine xe (fun _ _ kK => x_get dX8_field_232 fl_X8_180 (wK_i (wK_ai (wK_i (wK_i (wK_al (wK_ai (wK_ai (wK_i (wK_i h.1.1))))))))) (gvl_i fz_8_30.2.2 (show e_i (s_i (s_ai (s_i (mv (s_al (s_ai (s_ai (s_i (mv T (we b n q)) 533 88 (nI (s.1 + 1))) 101 gs.length (nI (cD + 1))) 95 s.1 (oI gs.head?)) 96 s.1 (lN (wc b q (we b n q)))) (sk b n (we b n q))) 514 88 (nI ((sk b n (we b n q)) + 1))) 97 s.1 (nI 2)) 542 88 (nI (gs.length + 1))) 542 88 = nI (gs.length + 1) from rfl)) kK) ?_
              refine xe (fun _ _ kK => x_iload dX8_field_235 2 rfl kK) ?_
              refine xe (fun _ _ kK => x_iast dX8_field_237 (wK_i (wK_ai (wK_i (wK_i (wK_al (wK_ai (wK_ai (wK_i (wK_i (h.1.2.2.1 11 (by decide))))))))))) (show (nI (gs.length + 1)) = nI (gs.length + 1) from rfl) (wN_i (wN_ai (wN_i (wN_i (wN_al (wN_ai (wN_ai (wN_i (wN_i (mi_len h.1 11 (by decide) (show gs.length + 1 < 8 by omega))))))))))) kK) ?_
              refine xe (fun _ _ kK => x_aload_n dX8_field_238 rfl 5 rfl kK) ?_
              refine xe (fun _ _ kK => x_get dX8_field_239 fl_X8_71 (wK_ai (wK_i (wK_ai (wK_i (wK_i (wK_al (wK_ai (wK_ai (wK_i (wK_i h.1.1)))))))))) (gvl_r1 fz_8_29.2.2 (show e_r (s_ai (s_i (s_ai (s_i (mv (s_al (s_ai (s_ai (s_i (mv T (we b n q)) 533 88 (nI (s.1 + 1))) 101 gs.length (nI (cD + 1))) 95 s.1 (oI gs.head?)) 96 s.1 (lN (wc b q (we b n q)))) (sk b n (we b n q))) 514 88 (nI ((sk b n (we b n q)) + 1))) 97 s.1 (nI 2)) 542 88 (nI (gs.length + 1))) 100 (gs.length + 1) (nI s.1)) 541 88 = some 101 from (wr_ai (wr_i (wr_ai (wr_i (wr_i (wr_al (wr_ai (wr_ai (wr_i (wr_i (h.1.2.1 29))))))))))))) kK) ?_
              refine xe (fun _ _ kK => x_aload_n dX8_field_242 rfl 5 rfl kK) ?_
              refine xe (fun _ _ kK => x_get dX8_field_243 fl_X8_180 (wK_ai (wK_i (wK_ai (wK_i (wK_i (wK_al (wK_ai (wK_ai (wK_i (wK_i h.1.1)))))))))) (gvl_i fz_8_30.2.2 (show e_i (s_ai (s_i (s_ai (s_i (mv (s_al (s_ai (s_ai (s_i (mv T (we b n q)) 533 88 (nI (s.1 + 1))) 101 gs.length (nI (cD + 1))) 95 s.1 (oI gs.head?)) 96 s.1 (lN (wc b q (we b n q)))) (sk b n (we b n q))) 514 88 (nI ((sk b n (we b n q)) + 1))) 97 s.1 (nI 2)) 542 88 (nI (gs.length + 1))) 100 (gs.length + 1) (nI s.1)) 542 88 = nI (gs.length + 1) from rfl)) kK) ?_
              refine xe (fun _ _ kK => x_iconst dX8_field_246 (show _ = nI 0 by decide) kK) ?_
              refine xe (fun _ _ kK => x_iast dX8_field_247 (wK_ai (wK_i (wK_ai (wK_i (wK_i (wK_al (wK_ai (wK_ai (wK_i (wK_i (h.1.2.2.1 12 (by decide)))))))))))) (show (nI (gs.length + 1)) = nI (gs.length + 1) from rfl) (wN_ai (wN_i (wN_ai (wN_i (wN_i (wN_al (wN_ai (wN_ai (wN_i (wN_i (mi_len h.1 12 (by decide) (show gs.length + 1 < 8 by omega)))))))))))) kK) ?_
              exact xe_retv dX8_field_248 rfl (⟨rfl, (FrM.sai (FrM.sai (FrM.si (FrM.sai (FrM.si (FrM.si (FrM.sal (FrM.sai (FrM.sai (FrM.si (FrM.si FrM.rf (by decide) _) (by decide) _) (by decide) _ _) (by decide) _ _) (by decide) _ _) (by decide) _) (by decide) _) (by decide) _ _) (by decide) _) (by decide) _ _) (by decide) _ _), by rw [pField, if_neg he, if_neg he8, if_neg (by rw [hkw]; decide), if_neg (by rw [hno]; decide), if_pos hbr, if_neg h179]; exact ⟨(LX.of h (FrM.sai (FrM.sai (FrM.si (FrM.sai (FrM.si (FrM.si (FrM.sal (FrM.sai (FrM.sai (FrM.si (FrM.si FrM.rf (by decide) _) (by decide) _) (by decide) _ _) (by decide) _ _) (by decide) _ _) (by decide) _) (by decide) _) (by decide) _ _) (by decide) _) (by decide) _ _) (by decide) _ _) rfl (by omega) (wi_ai (wi_ai (wi_i (fun q => absurd q.1 (by decide)) (wi_ai (wi_i (fun q => absurd q.1 (by decide)) (wi_i (fun q => absurd q.1 (by decide)) (wi_al (wi_ai (wi_ai (wi_i (fun q => absurd q.1 (by decide)) (wi_i (fun q => absurd q.1 (by decide)) h.2.2.2.2.2.2)))))))))))), RS_open hr hc1 hc2 hpi.2.2.2.2.2.1 rfl rfl rfl (fun j => by simp [q_i_i, q_i_ai, q_i_al, q_ai_ai, q_ai_i, q_ai_al, q_al_al, q_al_i, q_al_ai]) (fun j => by simp [q_i_i, q_i_ai, q_i_al, q_ai_ai, q_ai_i, q_ai_al, q_al_al, q_al_i, q_al_ai]) (fun j => by simp [q_i_i, q_i_ai, q_i_al, q_ai_ai, q_ai_i, q_ai_al, q_al_al, q_al_i, q_al_ai]) rfl rfl (fun j => by simp [q_i_i, q_i_ai, q_i_al, q_ai_ai, q_ai_i, q_ai_al, q_al_al, q_al_i, q_al_ai]) (fun j => by simp [q_i_i, q_i_ai, q_i_al, q_ai_ai, q_ai_i, q_ai_al, q_al_al, q_al_i, q_al_ai]), (wi_ai (wi_ai (wi_i (fun q => absurd q.1 (by decide)) (wi_ai (wi_i (fun q => absurd q.1 (by decide)) (wi_i (fun q => absurd q.1 (by decide)) (wi_al (wi_ai (wi_ai (wi_i (fun q => absurd q.1 (by decide)) (wi_i (fun q => absurd q.1 (by decide)) rfl)))))))))))⟩⟩)
            · -- pc 182
              have h179 := cv_eq (by omega) (by omega) h179
              refine xe (fun _ _ kK => x_aload_n dX8_field_182 rfl 5 rfl kK) ?_
              refine xe (fun _ _ kK => x_iconst dX8_field_183 (show _ = nI 3 by decide) kK) ?_
              refine xe (fun _ _ kK => x_aload_n dX8_field_184 rfl 5 rfl kK) ?_
              refine xe (fun _ _ kK => x_get dX8_field_185 fl_X8_138 (wK_i (wK_al (wK_ai (wK_ai (wK_i (wK_i h.1.1)))))) (gvl_i fz_8_2.2.2 (show e_i (mv (s_al (s_ai (s_ai (s_i (mv T (we b n q)) 533 88 (nI (s.1 + 1))) 101 gs.length (nI (cD + 1))) 95 s.1 (oI gs.head?)) 96 s.1 (lN (wc b q (we b n q)))) (sk b n (we b n q))) 514 88 = nI (sk b n (we b n q)) from rfl)) kK) ?_
              refine xe_callV (a := 88) [.int (nI 3), .int (nI (sk b n (we b n q)))] dX8_field_188 ml_X8_148 mf_X8_fail (wK_i (wK_al (wK_ai (wK_ai (wK_i (wK_i h.1.1)))))) (c_X8_fail (d + 2) (T := (mv (s_al (s_ai (s_ai (s_i (mv T (we b n q)) 533 88 (nI (s.1 + 1))) 101 gs.length (nI (cD + 1))) 95 s.1 (oI gs.head?)) 96 s.1 (lN (wc b q (we b n q)))) (sk b n (we b n q)))) ((show FrM fsL asL T (mv (s_al (s_ai (s_ai (s_i (mv T (we b n q)) 533 88 (nI (s.1 + 1))) 101 gs.length (nI (cD + 1))) 95 s.1 (oI gs.head?)) 96 s.1 (lN (wc b q (we b n q)))) (sk b n (we b n q))) from (FrM.si (FrM.sal (FrM.sai (FrM.sai (FrM.si (FrM.si FrM.rf (by decide) _) (by decide) _) (by decide) _ _) (by decide) _ _) (by decide) _ _) (by decide) _)).mi h.1) (wi_i (fun q => absurd q.1 (by decide)) (wi_al (wi_ai (wi_ai (wi_i (fun q => absurd q.1 (by decide)) (wi_i (fun q => absurd q.1 (by decide)) h.2.2.2.2.2.2)))))) (nI 3) (nI (sk b n (we b n q)))) rfl rfl (Nat.le_of_ble_eq_true rfl) (Nat.le_of_ble_eq_true rfl) ?_
              rintro _ _ ⟨rfl, rfl⟩
              refine xe (fun _ _ kK => x_aload_n dX8_field_191 rfl 5 rfl kK) ?_
              refine xe (fun _ _ kK => x_get dX8_field_192 fl_X8_132 (wK_i (wK_i (wK_i (wK_al (wK_ai (wK_ai (wK_i (wK_i h.1.1)))))))) (gvl_i fz_8_4.2.2 (show e_i (flk (mv (s_al (s_ai (s_ai (s_i (mv T (we b n q)) 533 88 (nI (s.1 + 1))) 101 gs.length (nI (cD + 1))) 95 s.1 (oI gs.head?)) 96 s.1 (lN (wc b q (we b n q)))) (sk b n (we b n q))) 3 (sk b n (we b n q))) 516 88 = nI 3 from rfl)) kK) ?_
              refine xe (fun _ _ kK => x_if_eqF (tgt := 199) dX8_field_195 (by decide) (by decide) kK) ?_
              exact xe_retv dX8_field_198 rfl (⟨rfl, (FrM.si (FrM.si (FrM.si (FrM.sal (FrM.sai (FrM.sai (FrM.si (FrM.si FrM.rf (by decide) _) (by decide) _) (by decide) _ _) (by decide) _ _) (by decide) _ _) (by decide) _) (by decide) _) (by decide) _), by rw [pField, if_neg he, if_neg he8, if_neg (by rw [hkw]; decide), if_neg (by rw [hno]; decide), if_pos hbr, if_pos h179]; exact ⟨rfl, rfl, by decide, by decide, by omega⟩⟩)
          · -- pc 171
            have hne : ¬ pk b n (sk b n (we b n q)) = nI 91 := by
              intro e9
              unfold pk at e9
              split at e9
              · rename_i z9; have := (h.2.1 _ z9).2; exact hbr ⟨z9, cv_eq (by omega) (by omega) e9⟩
              · exact nI_m1 (by omega) e9.symm
            refine xe (fun _ _ kK => x_icmp_neT (tgt := 249) dX8_field_171 (by decide) hne kK) ?_
            refine xe (fun _ _ kK => x_aload_n dX8_field_249 rfl 5 rfl kK) ?_
            have hL4 : LX (mv (s_al (s_ai (s_ai (s_i (mv T (we b n q)) 533 88 (nI (s.1 + 1))) 101 gs.length (nI (cD + 1))) 95 s.1 (oI gs.head?)) 96 s.1 (lN (wc b q (we b n q)))) (sk b n (we b n q))) n b (sk b n (we b n q)) := (LX.of h (FrM.si (FrM.sal (FrM.sai (FrM.sai (FrM.si (FrM.si FrM.rf (by decide) _) (by decide) _) (by decide) _ _) (by decide) _ _) (by decide) _ _) (by decide) _) rfl hs1 (wi_i (fun q => absurd q.1 (by decide)) (wi_al (wi_ai (wi_ai (wi_i (fun q => absurd q.1 (by decide)) (wi_i (fun q => absurd q.1 (by decide)) h.2.2.2.2.2.2)))))))
            have hsk2 := sk_sk b n (we b n q)
            have hw0 := we_ge b n (sk b n (we b n q))
            have hw1 := we_n (b := b) hs1
            by_cases he2 : we b n (sk b n (we b n q)) = sk b n (we b n q)
            · -- pc 250
              refine xe_callV (a := 88) [] dX8_field_250 ml_X8_165 mf_X8_whole (wK_i (wK_al (wK_ai (wK_ai (wK_i (wK_i h.1.1)))))) (by have := c_X8_whole (d + 1) hL4; rw [hsk2, if_pos he2, if_pos he2] at this; exact this) rfl rfl (Nat.le_of_ble_eq_true rfl) (Nat.le_of_ble_eq_true rfl) ?_
              rintro _ _ ⟨rfl, rfl⟩
              refine xe (fun _ _ kK => x_lstore_n dX8_field_253 rfl (by decide) (show _ = [(2, .long (lN 0)), (1, .int (nI (sk b n (we b n q)))), (6, .int (pk b n (sk b n (we b n q)))), (5, .int (nI s.1)), (4, .int (oI gs.head?)), (0, .ref 88)] from rfl) kK) ?_
              refine xe (fun _ _ kK => x_aload_n dX8_field_254 rfl 5 rfl kK) ?_
              refine xe (fun _ _ kK => x_get dX8_field_255 fl_X8_132 (wK_i (wK_i (wK_i (wK_i (wK_al (wK_ai (wK_ai (wK_i (wK_i h.1.1))))))))) (gvl_i fz_8_4.2.2 (show e_i (flk (mv (mv (s_al (s_ai (s_ai (s_i (mv T (we b n q)) 533 88 (nI (s.1 + 1))) 101 gs.length (nI (cD + 1))) 95 s.1 (oI gs.head?)) 96 s.1 (lN (wc b q (we b n q)))) (sk b n (we b n q))) (sk b n (we b n q))) 1 (sk b n (we b n q))) 516 88 = nI 1 from rfl)) kK) ?_
              refine xe (fun _ _ kK => x_if_neT (tgt := 285) dX8_field_258 (by decide) (by decide) kK) ?_
              refine xe (fun _ _ kK => x_aload_n dX8_field_285 rfl 5 rfl kK) ?_
              refine xe (fun _ _ kK => x_get dX8_field_286 fl_X8_132 (wK_i (wK_i (wK_i (wK_i (wK_al (wK_ai (wK_ai (wK_i (wK_i h.1.1))))))))) (gvl_i fz_8_4.2.2 (show e_i (flk (mv (mv (s_al (s_ai (s_ai (s_i (mv T (we b n q)) 533 88 (nI (s.1 + 1))) 101 gs.length (nI (cD + 1))) 95 s.1 (oI gs.head?)) 96 s.1 (lN (wc b q (we b n q)))) (sk b n (we b n q))) (sk b n (we b n q))) 1 (sk b n (we b n q))) 516 88 = nI 1 from rfl)) kK) ?_
              refine xe (fun _ _ kK => x_if_neT (tgt := 307) dX8_field_289 (by decide) (by decide) kK) ?_
              refine xe (fun _ _ kK => x_aload_n dX8_field_307 rfl 5 rfl kK) ?_
              refine xe (fun _ _ kK => x_get dX8_field_308 fl_X8_132 (wK_i (wK_i (wK_i (wK_i (wK_al (wK_ai (wK_ai (wK_i (wK_i h.1.1))))))))) (gvl_i fz_8_4.2.2 (show e_i (flk (mv (mv (s_al (s_ai (s_ai (s_i (mv T (we b n q)) 533 88 (nI (s.1 + 1))) 101 gs.length (nI (cD + 1))) 95 s.1 (oI gs.head?)) 96 s.1 (lN (wc b q (we b n q)))) (sk b n (we b n q))) (sk b n (we b n q))) 1 (sk b n (we b n q))) 516 88 = nI 1 from rfl)) kK) ?_
              refine xe (fun _ _ kK => x_if_eqF (tgt := 315) dX8_field_311 (by decide) (by decide) kK) ?_
              exact xe_retv dX8_field_314 rfl (⟨rfl, (FrM.si (FrM.si (FrM.si (FrM.si (FrM.sal (FrM.sai (FrM.sai (FrM.si (FrM.si FrM.rf (by decide) _) (by decide) _) (by decide) _ _) (by decide) _ _) (by decide) _ _) (by decide) _) (by decide) _) (by decide) _) (by decide) _), by rw [pField, if_neg he, if_neg he8, if_neg (by rw [hkw]; decide), if_neg (by rw [hno]; decide), if_neg hbr, if_pos he2]; exact ⟨rfl, rfl, by decide, by decide, by omega⟩⟩)
            · -- pc 250
              refine xe_callV (a := 88) [] dX8_field_250 ml_X8_165 mf_X8_whole (wK_i (wK_al (wK_ai (wK_ai (wK_i (wK_i h.1.1)))))) (by have := c_X8_whole (d + 1) hL4; rw [hsk2, if_neg he2, if_neg he2] at this; exact this) rfl rfl (Nat.le_of_ble_eq_true rfl) (Nat.le_of_ble_eq_true rfl) ?_
              rintro _ _ ⟨rfl, rfl⟩
              refine xe (fun _ _ kK => x_lstore_n dX8_field_253 rfl (by decide) (show _ = [(2, .long (wv b (sk b n (we b n q)) (we b n (sk b n (we b n q))))), (1, .int (nI (sk b n (we b n q)))), (6, .int (pk b n (sk b n (we b n q)))), (5, .int (nI s.1)), (4, .int (oI gs.head?)), (0, .ref 88)] from rfl) kK) ?_
              refine xe (fun _ _ kK => x_aload_n dX8_field_254 rfl 5 rfl kK) ?_
              refine xe (fun _ _ kK => x_get dX8_field_255 fl_X8_132 (wK_i (wK_i (wK_al (wK_ai (wK_ai (wK_i (wK_i h.1.1))))))) (gvl_i fz_8_4.2.2 (show e_i (mv (mv (s_al (s_ai (s_ai (s_i (mv T (we b n q)) 533 88 (nI (s.1 + 1))) 101 gs.length (nI (cD + 1))) 95 s.1 (oI gs.head?)) 96 s.1 (lN (wc b q (we b n q)))) (sk b n (we b n q))) (we b n (sk b n (we b n q)))) 516 88 = nI 0 from (wi_i (fun q => absurd q.1 (by decide)) (wi_i (fun q => absurd q.1 (by decide)) (wi_al (wi_ai (wi_ai (wi_i (fun q => absurd q.1 (by decide)) (wi_i (fun q => absurd q.1 (by decide)) h.2.2.2.2.2.2))))))))) kK) ?_
              refine xe (fun _ _ kK => x_if_neF (tgt := 285) dX8_field_258 (by decide) nI_0 kK) ?_
              refine xe (fun _ _ kK => x_lload_n dX8_field_261 rfl 0 rfl kK) ?_
              refine xe (fun _ _ kK => x_aload_n dX8_field_262 rfl 5 rfl kK) ?_
              refine xe (fun _ _ kK => x_get dX8_field_263 fl_X8_21 (wK_i (wK_i (wK_al (wK_ai (wK_ai (wK_i (wK_i h.1.1))))))) (gvl_l fz_8_8.2.2 (show e_l (mv (mv (s_al (s_ai (s_ai (s_i (mv T (we b n q)) 533 88 (nI (s.1 + 1))) 101 gs.length (nI (cD + 1))) 95 s.1 (oI gs.head?)) 96 s.1 (lN (wc b q (we b n q)))) (sk b n (we b n q))) (we b n (sk b n (we b n q)))) 520 88 = lN w_num from (wl_i (wl_i (wl_al (wl_ai (wl_ai (wl_i (wl_i (h.1.2.2.2.2 8 (by decide) (by decide))))))))))) kK) ?_
              refine xe (fun _ _ kK => x_lcmp dX8_field_266 kK) ?_
              refine xe_if_eq (tgt := 285) dX8_field_267 (by decide) (fun h267 => ?_) (fun h267 => ?_)
              · -- pc 285
                have h267 := lc_eq h267
                have hwn9 : wd b (sk b n (we b n q)) (we b n (sk b n (we b n q))) = some w_num := (wv_iff (by decide)).mp h267
                have hkd : kdOf (wd b (sk b n (we b n q)) (we b n (sk b n (we b n q)))) = some 0 := by rw [hwn9]; decide
                refine xe (fun _ _ kK => x_aload_n dX8_field_285 rfl 5 rfl kK) ?_
                refine xe (fun _ _ kK => x_get dX8_field_286 fl_X8_132 (wK_i (wK_i (wK_al (wK_ai (wK_ai (wK_i (wK_i h.1.1))))))) (gvl_i fz_8_4.2.2 (show e_i (mv (mv (s_al (s_ai (s_ai (s_i (mv T (we b n q)) 533 88 (nI (s.1 + 1))) 101 gs.length (nI (cD + 1))) 95 s.1 (oI gs.head?)) 96 s.1 (lN (wc b q (we b n q)))) (sk b n (we b n q))) (we b n (sk b n (we b n q)))) 516 88 = nI 0 from (wi_i (fun q => absurd q.1 (by decide)) (wi_i (fun q => absurd q.1 (by decide)) (wi_al (wi_ai (wi_ai (wi_i (fun q => absurd q.1 (by decide)) (wi_i (fun q => absurd q.1 (by decide)) h.2.2.2.2.2.2))))))))) kK) ?_
                refine xe (fun _ _ kK => x_if_neF (tgt := 307) dX8_field_289 (by decide) nI_0 kK) ?_
                refine xe (fun _ _ kK => x_aload_n dX8_field_292 rfl 5 rfl kK) ?_
                refine xe (fun _ _ kK => x_get dX8_field_293 fl_X8_186 (wK_i (wK_i (wK_al (wK_ai (wK_ai (wK_i (wK_i h.1.1))))))) (gvl_i fz_8_22.2.2 (show e_i (mv (mv (s_al (s_ai (s_ai (s_i (mv T (we b n q)) 533 88 (nI (s.1 + 1))) 101 gs.length (nI (cD + 1))) 95 s.1 (oI gs.head?)) 96 s.1 (lN (wc b q (we b n q)))) (sk b n (we b n q))) (we b n (sk b n (we b n q)))) 534 88 = nI s.2.1 from (wi_i (fun q => absurd q.1 (by decide)) (wi_i (fun q => absurd q.1 (by decide)) (wi_al (wi_ai (wi_ai (wi_i (fun q => absurd q.1 (by decide)) (wi_i (fun q => absurd q.1 (by decide)) hr.2.1))))))))) kK) ?_
                refine xe (fun _ _ kK => x_bipush dX8_field_296 (show _ = nI 12 by decide) kK) ?_
                refine xe_icmp_ne (tgt := 307) dX8_field_298 (by decide) (fun h298 => ?_) (fun h298 => ?_)
                · -- pc 307
                  have h298 := cv_ne (by omega) (by omega) h298
                  refine xe (fun _ _ kK => x_aload_n dX8_field_307 rfl 5 rfl kK) ?_
                  refine xe (fun _ _ kK => x_get dX8_field_308 fl_X8_132 (wK_i (wK_i (wK_al (wK_ai (wK_ai (wK_i (wK_i h.1.1))))))) (gvl_i fz_8_4.2.2 (show e_i (mv (mv (s_al (s_ai (s_ai (s_i (mv T (we b n q)) 533 88 (nI (s.1 + 1))) 101 gs.length (nI (cD + 1))) 95 s.1 (oI gs.head?)) 96 s.1 (lN (wc b q (we b n q)))) (sk b n (we b n q))) (we b n (sk b n (we b n q)))) 516 88 = nI 0 from (wi_i (fun q => absurd q.1 (by decide)) (wi_i (fun q => absurd q.1 (by decide)) (wi_al (wi_ai (wi_ai (wi_i (fun q => absurd q.1 (by decide)) (wi_i (fun q => absurd q.1 (by decide)) h.2.2.2.2.2.2))))))))) kK) ?_
                  refine xe (fun _ _ kK => x_if_eqT (tgt := 315) dX8_field_311 (by decide) nI_0 kK) ?_
                  refine xe (fun _ _ kK => x_aload_n dX8_field_315 rfl 5 rfl kK) ?_
                  refine xe (fun _ _ kK => x_get dX8_field_316 fl_X8_59 (wK_i (wK_i (wK_al (wK_ai (wK_ai (wK_i (wK_i h.1.1))))))) (gvl_r1 fz_8_25.2.2 (show e_r (mv (mv (s_al (s_ai (s_ai (s_i (mv T (we b n q)) 533 88 (nI (s.1 + 1))) 101 gs.length (nI (cD + 1))) 95 s.1 (oI gs.head?)) 96 s.1 (lN (wc b q (we b n q)))) (sk b n (we b n q))) (we b n (sk b n (we b n q)))) 537 88 = some 97 from (wr_i (wr_i (wr_al (wr_ai (wr_ai (wr_i (wr_i (h.1.2.1 25)))))))))) kK) ?_
                  refine xe (fun _ _ kK => x_iload dX8_field_319 3 rfl kK) ?_
                  refine xe (fun _ _ kK => x_lload_n dX8_field_321 rfl 0 rfl kK) ?_
                  refine xe (fun _ _ kK => x_aload_n dX8_field_322 rfl 5 rfl kK) ?_
                  refine xe (fun _ _ kK => x_get dX8_field_323 fl_X8_21 (wK_i (wK_i (wK_al (wK_ai (wK_ai (wK_i (wK_i h.1.1))))))) (gvl_l fz_8_8.2.2 (show e_l (mv (mv (s_al (s_ai (s_ai (s_i (mv T (we b n q)) 533 88 (nI (s.1 + 1))) 101 gs.length (nI (cD + 1))) 95 s.1 (oI gs.head?)) 96 s.1 (lN (wc b q (we b n q)))) (sk b n (we b n q))) (we b n (sk b n (we b n q)))) 520 88 = lN w_num from (wl_i (wl_i (wl_al (wl_ai (wl_ai (wl_i (wl_i (h.1.2.2.2.2 8 (by decide) (by decide))))))))))) kK) ?_
                  refine xe (fun _ _ kK => x_lcmp dX8_field_326 kK) ?_
                  refine xe (fun _ _ kK => x_if_neF (tgt := 334) dX8_field_327 (by decide) (show lg_cmp _ _ = 0 from (lcA _ _).1.mpr ((wv_iff (by decide)).mpr hwn9)) kK) ?_
                  refine xe (fun _ _ kK => x_iconst dX8_field_330 (show _ = nI 0 by decide) kK) ?_
                  refine xe (fun _ _ kK => x_goto (tgt := 335) dX8_field_331 (by decide) kK) ?_
                  refine xe (fun _ _ kK => x_iast dX8_field_335 (wK_i (wK_i (wK_al (wK_ai (wK_ai (wK_i (wK_i (h.1.2.2.1 8 (by decide))))))))) (show (nI s.1) = nI s.1 from rfl) (wN_i (wN_i (wN_al (wN_ai (wN_ai (wN_i (wN_i (mi_len h.1 8 (by decide) (show s.1 < 80 by omega))))))))) kK) ?_
                  refine xe (fun _ _ kK => x_aload_n dX8_field_336 rfl 5 rfl kK) ?_
                  refine xe (fun _ _ kK => x_get dX8_field_337 fl_X8_65 (wK_ai (wK_i (wK_i (wK_al (wK_ai (wK_ai (wK_i (wK_i h.1.1)))))))) (gvl_r1 fz_8_27.2.2 (show e_r (s_ai (mv (mv (s_al (s_ai (s_ai (s_i (mv T (we b n q)) 533 88 (nI (s.1 + 1))) 101 gs.length (nI (cD + 1))) 95 s.1 (oI gs.head?)) 96 s.1 (lN (wc b q (we b n q)))) (sk b n (we b n q))) (we b n (sk b n (we b n q)))) 97 s.1 (nI 0)) 539 88 = some 99 from (wr_ai (wr_i (wr_i (wr_al (wr_ai (wr_ai (wr_i (wr_i (h.1.2.1 27))))))))))) kK) ?_
                  refine xe (fun _ _ kK => x_aload_n dX8_field_340 rfl 5 rfl kK) ?_
                  refine xe (fun _ _ kK => x_get dX8_field_341 fl_X8_186 (wK_ai (wK_i (wK_i (wK_al (wK_ai (wK_ai (wK_i (wK_i h.1.1)))))))) (gvl_i fz_8_22.2.2 (show e_i (s_ai (mv (mv (s_al (s_ai (s_ai (s_i (mv T (we b n q)) 533 88 (nI (s.1 + 1))) 101 gs.length (nI (cD + 1))) 95 s.1 (oI gs.head?)) 96 s.1 (lN (wc b q (we b n q)))) (sk b n (we b n q))) (we b n (sk b n (we b n q)))) 97 s.1 (nI 0)) 534 88 = nI s.2.1 from (wi_ai (wi_i (fun q => absurd q.1 (by decide)) (wi_i (fun q => absurd q.1 (by decide)) (wi_al (wi_ai (wi_ai (wi_i (fun q => absurd q.1 (by decide)) (wi_i (fun q => absurd q.1 (by decide)) hr.2.1)))))))))) kK) ?_
                  refine xe (fun _ _ kK => x_iload dX8_field_344 3 rfl kK) ?_
                  refine xe (fun _ _ kK => x_iast dX8_field_346 (wK_ai (wK_i (wK_i (wK_al (wK_ai (wK_ai (wK_i (wK_i (h.1.2.2.1 10 (by decide)))))))))) (show (nI s.2.1) = nI s.2.1 from rfl) (wN_ai (wN_i (wN_i (wN_al (wN_ai (wN_ai (wN_i (wN_i (mi_len h.1 10 (by decide) (show s.2.1 < 12 by omega)))))))))) kK) ?_
                  refine xe (fun _ _ kK => x_aload_n dX8_field_347 rfl 5 rfl kK) ?_
                  refine xe (fun _ _ kK => x_dup dX8_field_348 rfl kK) ?_
                  refine xe (fun _ _ kK => x_get dX8_field_349 fl_X8_186 (wK_ai (wK_ai (wK_i (wK_i (wK_al (wK_ai (wK_ai (wK_i (wK_i h.1.1))))))))) (gvl_i fz_8_22.2.2 (show e_i (s_ai (s_ai (mv (mv (s_al (s_ai (s_ai (s_i (mv T (we b n q)) 533 88 (nI (s.1 + 1))) 101 gs.length (nI (cD + 1))) 95 s.1 (oI gs.head?)) 96 s.1 (lN (wc b q (we b n q)))) (sk b n (we b n q))) (we b n (sk b n (we b n q)))) 97 s.1 (nI 0)) 99 s.2.1 (nI s.1)) 534 88 = nI s.2.1 from (wi_ai (wi_ai (wi_i (fun q => absurd q.1 (by decide)) (wi_i (fun q => absurd q.1 (by decide)) (wi_al (wi_ai (wi_ai (wi_i (fun q => absurd q.1 (by decide)) (wi_i (fun q => absurd q.1 (by decide)) hr.2.1))))))))))) kK) ?_
                  refine xe (fun _ _ kK => x_iconst dX8_field_352 (show _ = nI 1 by decide) kK) ?_
                  refine xe (fun _ _ kK => x_iadd dX8_field_353 kK) ?_
                  refine xe_ti (show _ = nI (s.2.1 + 1) from nI_add s.2.1 1) ?_
                  refine xe (fun _ _ kK => x_puti dX8_field_354 ⟨fl_X8_186, fz_8_22.1, fz_8_22.2.1⟩ (Or.inl fz_8_22.2.2) rfl rfl (wK_ai (wK_ai (wK_i (wK_i (wK_al (wK_ai (wK_ai (wK_i (wK_i h.1.1))))))))) kK) ?_
                  refine xe (fun _ _ kK => x_aload_n dX8_field_357 rfl 5 rfl kK) ?_
                  refine xe (fun _ _ kK => x_iload dX8_field_358 3 rfl kK) ?_
                  have hL5 : LX (s_i (s_ai (s_ai (mv (mv (s_al (s_ai (s_ai (s_i (mv T (we b n q)) 533 88 (nI (s.1 + 1))) 101 gs.length (nI (cD + 1))) 95 s.1 (oI gs.head?)) 96 s.1 (lN (wc b q (we b n q)))) (sk b n (we b n q))) (we b n (sk b n (we b n q)))) 97 s.1 (nI 0)) 99 s.2.1 (nI s.1)) 534 88 (nI (s.2.1 + 1))) n b (we b n (sk b n (we b n q))) := (LX.of h (FrM.si (FrM.sai (FrM.sai (FrM.si (FrM.si (FrM.sal (FrM.sai (FrM.sai (FrM.si (FrM.si FrM.rf (by decide) _) (by decide) _) (by decide) _ _) (by decide) _ _) (by decide) _ _) (by decide) _) (by decide) _) (by decide) _ _) (by decide) _ _) (by decide) _) rfl hw1 (wi_i (fun q => absurd q.1 (by decide)) (wi_ai (wi_ai (wi_i (fun q => absurd q.1 (by decide)) (wi_i (fun q => absurd q.1 (by decide)) (wi_al (wi_ai (wi_ai (wi_i (fun q => absurd q.1 (by decide)) (wi_i (fun q => absurd q.1 (by decide)) h.2.2.2.2.2.2)))))))))))
                  refine xe_callV (a := 88) [.int (nI s.1)] dX8_field_360 ml_X8_189 mf_X8_marks (wK_i (wK_ai (wK_ai (wK_i (wK_i (wK_al (wK_ai (wK_ai (wK_i (wK_i h.1.1)))))))))) (c_X8_marks d hL5 (f := s.1) (by omega)) rfl rfl (Nat.le_of_ble_eq_true rfl) (Nat.le_of_ble_eq_true rfl) ?_
                  rintro _ T9 ⟨rfl, hF9, hP9⟩
                  cases hpm : pMark b n (we b n (sk b n (we b n q))) with
                  | inl x9 =>
                    obtain ⟨k9, q9⟩ := x9
                    rw [hpm] at hP9
                    exact xe_retv dX8_field_363 rfl (⟨rfl, FrM.tr (FrM.si (FrM.sai (FrM.sai (FrM.si (FrM.si (FrM.sal (FrM.sai (FrM.sai (FrM.si (FrM.si FrM.rf (by decide) _) (by decide) _) (by decide) _ _) (by decide) _ _) (by decide) _ _) (by decide) _) (by decide) _) (by decide) _ _) (by decide) _ _) (by decide) _) hF9, by rw [pField, if_neg he, if_neg he8, if_neg (by rw [hkw]; decide), if_neg (by rw [hno]; decide), if_neg hbr, if_neg he2, hkd]; dsimp only; rw [if_neg h298, hpm]; exact hP9⟩)
                  | inr y9 =>
                    obtain ⟨m9, p9⟩ := y9
                    rw [hpm] at hP9
                    obtain ⟨rfl, hP8⟩ := hP9
                    exact xe_retv dX8_field_363 rfl (⟨rfl, FrM.tr (FrM.si (FrM.sai (FrM.sai (FrM.si (FrM.si (FrM.sal (FrM.sai (FrM.sai (FrM.si (FrM.si FrM.rf (by decide) _) (by decide) _) (by decide) _ _) (by decide) _ _) (by decide) _ _) (by decide) _) (by decide) _) (by decide) _ _) (by decide) _ _) (by decide) _) hF9, by rw [pField, if_neg he, if_neg he8, if_neg (by rw [hkw]; decide), if_neg (by rw [hno]; decide), if_neg hbr, if_neg he2, hkd]; dsimp only; rw [if_neg h298, hpm]; exact ⟨(LX.mv (LX.of hL5 (FrM.sai FrM.rf (by decide) _ _) (wi_ai hL5.2.2.1) hw1 (wi_ai hL5.2.2.2.2.2.2)) hP8), RS_leaf hr hc1 hc2 hpi.2.2.2.2.2.1 rfl rfl rfl (fun j => by simp [q_i_i, q_i_ai, q_i_al, q_ai_ai, q_ai_i, q_ai_al, q_al_al, q_al_i, q_al_ai]) (fun j => by simp [q_i_i, q_i_ai, q_i_al, q_ai_ai, q_ai_i, q_ai_al, q_al_al, q_al_i, q_al_ai]) (fun j => by simp [q_i_i, q_i_ai, q_i_al, q_ai_ai, q_ai_i, q_ai_al, q_al_al, q_al_i, q_al_ai]) (fun j => by simp [q_i_i, q_i_ai, q_i_al, q_ai_ai, q_ai_i, q_ai_al, q_al_al, q_al_i, q_al_ai]) (fun j => by simp [q_i_i, q_i_ai, q_i_al, q_ai_ai, q_ai_i, q_ai_al, q_al_al, q_al_i, q_al_ai]) rfl (fun j => by simp [q_i_i, q_i_ai, q_i_al, q_ai_ai, q_ai_i, q_ai_al, q_al_al, q_al_i, q_al_ai]), (wi_i (fun q => absurd q.1 (by decide)) (wi_ai (wi_i (fun q => absurd q.1 (by decide)) (wi_ai (wi_ai (wi_i (fun q => absurd q.1 (by decide)) (wi_i (fun q => absurd q.1 (by decide)) (wi_al (wi_ai (wi_ai (wi_i (fun q => absurd q.1 (by decide)) (wi_i (fun q => absurd q.1 (by decide)) rfl))))))))))))⟩⟩)
                · -- pc 301
                  have h298 := cv_eq (by omega) (by omega) h298
                  refine xe (fun _ _ kK => x_aload_n dX8_field_301 rfl 5 rfl kK) ?_
                  refine xe (fun _ _ kK => x_iconst dX8_field_302 (show _ = nI 3 by decide) kK) ?_
                  refine xe (fun _ _ kK => x_iload_n dX8_field_303 rfl 1 rfl kK) ?_
                  refine xe_callV (a := 88) [.int (nI 3), .int (nI (sk b n (we b n q)))] dX8_field_304 ml_X8_148 mf_X8_fail (wK_i (wK_i (wK_al (wK_ai (wK_ai (wK_i (wK_i h.1.1))))))) (c_X8_fail (d + 2) (T := (mv (mv (s_al (s_ai (s_ai (s_i (mv T (we b n q)) 533 88 (nI (s.1 + 1))) 101 gs.length (nI (cD + 1))) 95 s.1 (oI gs.head?)) 96 s.1 (lN (wc b q (we b n q)))) (sk b n (we b n q))) (we b n (sk b n (we b n q))))) ((show FrM fsL asL T (mv (mv (s_al (s_ai (s_ai (s_i (mv T (we b n q)) 533 88 (nI (s.1 + 1))) 101 gs.length (nI (cD + 1))) 95 s.1 (oI gs.head?)) 96 s.1 (lN (wc b q (we b n q)))) (sk b n (we b n q))) (we b n (sk b n (we b n q)))) from (FrM.si (FrM.si (FrM.sal (FrM.sai (FrM.sai (FrM.si (FrM.si FrM.rf (by decide) _) (by decide) _) (by decide) _ _) (by decide) _ _) (by decide) _ _) (by decide) _) (by decide) _)).mi h.1) (wi_i (fun q => absurd q.1 (by decide)) (wi_i (fun q => absurd q.1 (by decide)) (wi_al (wi_ai (wi_ai (wi_i (fun q => absurd q.1 (by decide)) (wi_i (fun q => absurd q.1 (by decide)) h.2.2.2.2.2.2))))))) (nI 3) (nI (sk b n (we b n q)))) rfl rfl (Nat.le_of_ble_eq_true rfl) (Nat.le_of_ble_eq_true rfl) ?_
                  rintro _ _ ⟨rfl, rfl⟩
                  refine xe (fun _ _ kK => x_aload_n dX8_field_307 rfl 5 rfl kK) ?_
                  refine xe (fun _ _ kK => x_get dX8_field_308 fl_X8_132 (wK_i (wK_i (wK_i (wK_i (wK_al (wK_ai (wK_ai (wK_i (wK_i h.1.1))))))))) (gvl_i fz_8_4.2.2 (show e_i (flk (mv (mv (s_al (s_ai (s_ai (s_i (mv T (we b n q)) 533 88 (nI (s.1 + 1))) 101 gs.length (nI (cD + 1))) 95 s.1 (oI gs.head?)) 96 s.1 (lN (wc b q (we b n q)))) (sk b n (we b n q))) (we b n (sk b n (we b n q)))) 3 (sk b n (we b n q))) 516 88 = nI 3 from rfl)) kK) ?_
                  refine xe (fun _ _ kK => x_if_eqF (tgt := 315) dX8_field_311 (by decide) (by decide) kK) ?_
                  exact xe_retv dX8_field_314 rfl (⟨rfl, (FrM.si (FrM.si (FrM.si (FrM.si (FrM.sal (FrM.sai (FrM.sai (FrM.si (FrM.si FrM.rf (by decide) _) (by decide) _) (by decide) _ _) (by decide) _ _) (by decide) _ _) (by decide) _) (by decide) _) (by decide) _) (by decide) _), by rw [pField, if_neg he, if_neg he8, if_neg (by rw [hkw]; decide), if_neg (by rw [hno]; decide), if_neg hbr, if_neg he2, hkd]; dsimp only; rw [if_pos h298]; exact ⟨rfl, rfl, by decide, by decide, by omega⟩⟩)
              · -- pc 270
                have h267 := lc_nen h267
                refine xe (fun _ _ kK => x_lload_n dX8_field_270 rfl 0 rfl kK) ?_
                refine xe (fun _ _ kK => x_aload_n dX8_field_271 rfl 5 rfl kK) ?_
                refine xe (fun _ _ kK => x_get dX8_field_272 fl_X8_25 (wK_i (wK_i (wK_al (wK_ai (wK_ai (wK_i (wK_i h.1.1))))))) (gvl_l fz_8_9.2.2 (show e_l (mv (mv (s_al (s_ai (s_ai (s_i (mv T (we b n q)) 533 88 (nI (s.1 + 1))) 101 gs.length (nI (cD + 1))) 95 s.1 (oI gs.head?)) 96 s.1 (lN (wc b q (we b n q)))) (sk b n (we b n q))) (we b n (sk b n (we b n q)))) 521 88 = lN w_word from (wl_i (wl_i (wl_al (wl_ai (wl_ai (wl_i (wl_i (h.1.2.2.2.2 9 (by decide) (by decide))))))))))) kK) ?_
                refine xe (fun _ _ kK => x_lcmp dX8_field_275 kK) ?_
                refine xe_if_eq (tgt := 285) dX8_field_276 (by decide) (fun h276 => ?_) (fun h276 => ?_)
                · -- pc 285
                  have h276 := lc_eq h276
                  have hwn9 : wd b (sk b n (we b n q)) (we b n (sk b n (we b n q))) = some w_word := (wv_iff (by decide)).mp h276
                  have hkd : kdOf (wd b (sk b n (we b n q)) (we b n (sk b n (we b n q)))) = some 1 := by rw [hwn9]; decide
                  refine xe (fun _ _ kK => x_aload_n dX8_field_285 rfl 5 rfl kK) ?_
                  refine xe (fun _ _ kK => x_get dX8_field_286 fl_X8_132 (wK_i (wK_i (wK_al (wK_ai (wK_ai (wK_i (wK_i h.1.1))))))) (gvl_i fz_8_4.2.2 (show e_i (mv (mv (s_al (s_ai (s_ai (s_i (mv T (we b n q)) 533 88 (nI (s.1 + 1))) 101 gs.length (nI (cD + 1))) 95 s.1 (oI gs.head?)) 96 s.1 (lN (wc b q (we b n q)))) (sk b n (we b n q))) (we b n (sk b n (we b n q)))) 516 88 = nI 0 from (wi_i (fun q => absurd q.1 (by decide)) (wi_i (fun q => absurd q.1 (by decide)) (wi_al (wi_ai (wi_ai (wi_i (fun q => absurd q.1 (by decide)) (wi_i (fun q => absurd q.1 (by decide)) h.2.2.2.2.2.2))))))))) kK) ?_
                  refine xe (fun _ _ kK => x_if_neF (tgt := 307) dX8_field_289 (by decide) nI_0 kK) ?_
                  refine xe (fun _ _ kK => x_aload_n dX8_field_292 rfl 5 rfl kK) ?_
                  refine xe (fun _ _ kK => x_get dX8_field_293 fl_X8_186 (wK_i (wK_i (wK_al (wK_ai (wK_ai (wK_i (wK_i h.1.1))))))) (gvl_i fz_8_22.2.2 (show e_i (mv (mv (s_al (s_ai (s_ai (s_i (mv T (we b n q)) 533 88 (nI (s.1 + 1))) 101 gs.length (nI (cD + 1))) 95 s.1 (oI gs.head?)) 96 s.1 (lN (wc b q (we b n q)))) (sk b n (we b n q))) (we b n (sk b n (we b n q)))) 534 88 = nI s.2.1 from (wi_i (fun q => absurd q.1 (by decide)) (wi_i (fun q => absurd q.1 (by decide)) (wi_al (wi_ai (wi_ai (wi_i (fun q => absurd q.1 (by decide)) (wi_i (fun q => absurd q.1 (by decide)) hr.2.1))))))))) kK) ?_
                  refine xe (fun _ _ kK => x_bipush dX8_field_296 (show _ = nI 12 by decide) kK) ?_
                  refine xe_icmp_ne (tgt := 307) dX8_field_298 (by decide) (fun h298 => ?_) (fun h298 => ?_)
                  · -- pc 307
                    have h298 := cv_ne (by omega) (by omega) h298
                    refine xe (fun _ _ kK => x_aload_n dX8_field_307 rfl 5 rfl kK) ?_
                    refine xe (fun _ _ kK => x_get dX8_field_308 fl_X8_132 (wK_i (wK_i (wK_al (wK_ai (wK_ai (wK_i (wK_i h.1.1))))))) (gvl_i fz_8_4.2.2 (show e_i (mv (mv (s_al (s_ai (s_ai (s_i (mv T (we b n q)) 533 88 (nI (s.1 + 1))) 101 gs.length (nI (cD + 1))) 95 s.1 (oI gs.head?)) 96 s.1 (lN (wc b q (we b n q)))) (sk b n (we b n q))) (we b n (sk b n (we b n q)))) 516 88 = nI 0 from (wi_i (fun q => absurd q.1 (by decide)) (wi_i (fun q => absurd q.1 (by decide)) (wi_al (wi_ai (wi_ai (wi_i (fun q => absurd q.1 (by decide)) (wi_i (fun q => absurd q.1 (by decide)) h.2.2.2.2.2.2))))))))) kK) ?_
                    refine xe (fun _ _ kK => x_if_eqT (tgt := 315) dX8_field_311 (by decide) nI_0 kK) ?_
                    refine xe (fun _ _ kK => x_aload_n dX8_field_315 rfl 5 rfl kK) ?_
                    refine xe (fun _ _ kK => x_get dX8_field_316 fl_X8_59 (wK_i (wK_i (wK_al (wK_ai (wK_ai (wK_i (wK_i h.1.1))))))) (gvl_r1 fz_8_25.2.2 (show e_r (mv (mv (s_al (s_ai (s_ai (s_i (mv T (we b n q)) 533 88 (nI (s.1 + 1))) 101 gs.length (nI (cD + 1))) 95 s.1 (oI gs.head?)) 96 s.1 (lN (wc b q (we b n q)))) (sk b n (we b n q))) (we b n (sk b n (we b n q)))) 537 88 = some 97 from (wr_i (wr_i (wr_al (wr_ai (wr_ai (wr_i (wr_i (h.1.2.1 25)))))))))) kK) ?_
                    refine xe (fun _ _ kK => x_iload dX8_field_319 3 rfl kK) ?_
                    refine xe (fun _ _ kK => x_lload_n dX8_field_321 rfl 0 rfl kK) ?_
                    refine xe (fun _ _ kK => x_aload_n dX8_field_322 rfl 5 rfl kK) ?_
                    refine xe (fun _ _ kK => x_get dX8_field_323 fl_X8_21 (wK_i (wK_i (wK_al (wK_ai (wK_ai (wK_i (wK_i h.1.1))))))) (gvl_l fz_8_8.2.2 (show e_l (mv (mv (s_al (s_ai (s_ai (s_i (mv T (we b n q)) 533 88 (nI (s.1 + 1))) 101 gs.length (nI (cD + 1))) 95 s.1 (oI gs.head?)) 96 s.1 (lN (wc b q (we b n q)))) (sk b n (we b n q))) (we b n (sk b n (we b n q)))) 520 88 = lN w_num from (wl_i (wl_i (wl_al (wl_ai (wl_ai (wl_i (wl_i (h.1.2.2.2.2 8 (by decide) (by decide))))))))))) kK) ?_
                    refine xe (fun _ _ kK => x_lcmp dX8_field_326 kK) ?_
                    refine xe (fun _ _ kK => x_if_neT (tgt := 334) dX8_field_327 (by decide) (show ¬ lg_cmp _ _ = 0 from fun z9 => absurd (hwn9.symm.trans ((wv_iff (by decide)).mp ((lcA _ _).1.mp z9))) (by decide)) kK) ?_
                    refine xe (fun _ _ kK => x_iconst dX8_field_334 (show _ = nI 1 by decide) kK) ?_
                    refine xe (fun _ _ kK => x_iast dX8_field_335 (wK_i (wK_i (wK_al (wK_ai (wK_ai (wK_i (wK_i (h.1.2.2.1 8 (by decide))))))))) (show (nI s.1) = nI s.1 from rfl) (wN_i (wN_i (wN_al (wN_ai (wN_ai (wN_i (wN_i (mi_len h.1 8 (by decide) (show s.1 < 80 by omega))))))))) kK) ?_
                    refine xe (fun _ _ kK => x_aload_n dX8_field_336 rfl 5 rfl kK) ?_
                    refine xe (fun _ _ kK => x_get dX8_field_337 fl_X8_65 (wK_ai (wK_i (wK_i (wK_al (wK_ai (wK_ai (wK_i (wK_i h.1.1)))))))) (gvl_r1 fz_8_27.2.2 (show e_r (s_ai (mv (mv (s_al (s_ai (s_ai (s_i (mv T (we b n q)) 533 88 (nI (s.1 + 1))) 101 gs.length (nI (cD + 1))) 95 s.1 (oI gs.head?)) 96 s.1 (lN (wc b q (we b n q)))) (sk b n (we b n q))) (we b n (sk b n (we b n q)))) 97 s.1 (nI 1)) 539 88 = some 99 from (wr_ai (wr_i (wr_i (wr_al (wr_ai (wr_ai (wr_i (wr_i (h.1.2.1 27))))))))))) kK) ?_
                    refine xe (fun _ _ kK => x_aload_n dX8_field_340 rfl 5 rfl kK) ?_
                    refine xe (fun _ _ kK => x_get dX8_field_341 fl_X8_186 (wK_ai (wK_i (wK_i (wK_al (wK_ai (wK_ai (wK_i (wK_i h.1.1)))))))) (gvl_i fz_8_22.2.2 (show e_i (s_ai (mv (mv (s_al (s_ai (s_ai (s_i (mv T (we b n q)) 533 88 (nI (s.1 + 1))) 101 gs.length (nI (cD + 1))) 95 s.1 (oI gs.head?)) 96 s.1 (lN (wc b q (we b n q)))) (sk b n (we b n q))) (we b n (sk b n (we b n q)))) 97 s.1 (nI 1)) 534 88 = nI s.2.1 from (wi_ai (wi_i (fun q => absurd q.1 (by decide)) (wi_i (fun q => absurd q.1 (by decide)) (wi_al (wi_ai (wi_ai (wi_i (fun q => absurd q.1 (by decide)) (wi_i (fun q => absurd q.1 (by decide)) hr.2.1)))))))))) kK) ?_
                    refine xe (fun _ _ kK => x_iload dX8_field_344 3 rfl kK) ?_
                    refine xe (fun _ _ kK => x_iast dX8_field_346 (wK_ai (wK_i (wK_i (wK_al (wK_ai (wK_ai (wK_i (wK_i (h.1.2.2.1 10 (by decide)))))))))) (show (nI s.2.1) = nI s.2.1 from rfl) (wN_ai (wN_i (wN_i (wN_al (wN_ai (wN_ai (wN_i (wN_i (mi_len h.1 10 (by decide) (show s.2.1 < 12 by omega)))))))))) kK) ?_
                    refine xe (fun _ _ kK => x_aload_n dX8_field_347 rfl 5 rfl kK) ?_
                    refine xe (fun _ _ kK => x_dup dX8_field_348 rfl kK) ?_
                    refine xe (fun _ _ kK => x_get dX8_field_349 fl_X8_186 (wK_ai (wK_ai (wK_i (wK_i (wK_al (wK_ai (wK_ai (wK_i (wK_i h.1.1))))))))) (gvl_i fz_8_22.2.2 (show e_i (s_ai (s_ai (mv (mv (s_al (s_ai (s_ai (s_i (mv T (we b n q)) 533 88 (nI (s.1 + 1))) 101 gs.length (nI (cD + 1))) 95 s.1 (oI gs.head?)) 96 s.1 (lN (wc b q (we b n q)))) (sk b n (we b n q))) (we b n (sk b n (we b n q)))) 97 s.1 (nI 1)) 99 s.2.1 (nI s.1)) 534 88 = nI s.2.1 from (wi_ai (wi_ai (wi_i (fun q => absurd q.1 (by decide)) (wi_i (fun q => absurd q.1 (by decide)) (wi_al (wi_ai (wi_ai (wi_i (fun q => absurd q.1 (by decide)) (wi_i (fun q => absurd q.1 (by decide)) hr.2.1))))))))))) kK) ?_
                    refine xe (fun _ _ kK => x_iconst dX8_field_352 (show _ = nI 1 by decide) kK) ?_
                    refine xe (fun _ _ kK => x_iadd dX8_field_353 kK) ?_
                    refine xe_ti (show _ = nI (s.2.1 + 1) from nI_add s.2.1 1) ?_
                    refine xe (fun _ _ kK => x_puti dX8_field_354 ⟨fl_X8_186, fz_8_22.1, fz_8_22.2.1⟩ (Or.inl fz_8_22.2.2) rfl rfl (wK_ai (wK_ai (wK_i (wK_i (wK_al (wK_ai (wK_ai (wK_i (wK_i h.1.1))))))))) kK) ?_
                    refine xe (fun _ _ kK => x_aload_n dX8_field_357 rfl 5 rfl kK) ?_
                    refine xe (fun _ _ kK => x_iload dX8_field_358 3 rfl kK) ?_
                    have hL5 : LX (s_i (s_ai (s_ai (mv (mv (s_al (s_ai (s_ai (s_i (mv T (we b n q)) 533 88 (nI (s.1 + 1))) 101 gs.length (nI (cD + 1))) 95 s.1 (oI gs.head?)) 96 s.1 (lN (wc b q (we b n q)))) (sk b n (we b n q))) (we b n (sk b n (we b n q)))) 97 s.1 (nI 1)) 99 s.2.1 (nI s.1)) 534 88 (nI (s.2.1 + 1))) n b (we b n (sk b n (we b n q))) := (LX.of h (FrM.si (FrM.sai (FrM.sai (FrM.si (FrM.si (FrM.sal (FrM.sai (FrM.sai (FrM.si (FrM.si FrM.rf (by decide) _) (by decide) _) (by decide) _ _) (by decide) _ _) (by decide) _ _) (by decide) _) (by decide) _) (by decide) _ _) (by decide) _ _) (by decide) _) rfl hw1 (wi_i (fun q => absurd q.1 (by decide)) (wi_ai (wi_ai (wi_i (fun q => absurd q.1 (by decide)) (wi_i (fun q => absurd q.1 (by decide)) (wi_al (wi_ai (wi_ai (wi_i (fun q => absurd q.1 (by decide)) (wi_i (fun q => absurd q.1 (by decide)) h.2.2.2.2.2.2)))))))))))
                    refine xe_callV (a := 88) [.int (nI s.1)] dX8_field_360 ml_X8_189 mf_X8_marks (wK_i (wK_ai (wK_ai (wK_i (wK_i (wK_al (wK_ai (wK_ai (wK_i (wK_i h.1.1)))))))))) (c_X8_marks d hL5 (f := s.1) (by omega)) rfl rfl (Nat.le_of_ble_eq_true rfl) (Nat.le_of_ble_eq_true rfl) ?_
                    rintro _ T9 ⟨rfl, hF9, hP9⟩
                    cases hpm : pMark b n (we b n (sk b n (we b n q))) with
                    | inl x9 =>
                      obtain ⟨k9, q9⟩ := x9
                      rw [hpm] at hP9
                      exact xe_retv dX8_field_363 rfl (⟨rfl, FrM.tr (FrM.si (FrM.sai (FrM.sai (FrM.si (FrM.si (FrM.sal (FrM.sai (FrM.sai (FrM.si (FrM.si FrM.rf (by decide) _) (by decide) _) (by decide) _ _) (by decide) _ _) (by decide) _ _) (by decide) _) (by decide) _) (by decide) _ _) (by decide) _ _) (by decide) _) hF9, by rw [pField, if_neg he, if_neg he8, if_neg (by rw [hkw]; decide), if_neg (by rw [hno]; decide), if_neg hbr, if_neg he2, hkd]; dsimp only; rw [if_neg h298, hpm]; exact hP9⟩)
                    | inr y9 =>
                      obtain ⟨m9, p9⟩ := y9
                      rw [hpm] at hP9
                      obtain ⟨rfl, hP8⟩ := hP9
                      exact xe_retv dX8_field_363 rfl (⟨rfl, FrM.tr (FrM.si (FrM.sai (FrM.sai (FrM.si (FrM.si (FrM.sal (FrM.sai (FrM.sai (FrM.si (FrM.si FrM.rf (by decide) _) (by decide) _) (by decide) _ _) (by decide) _ _) (by decide) _ _) (by decide) _) (by decide) _) (by decide) _ _) (by decide) _ _) (by decide) _) hF9, by rw [pField, if_neg he, if_neg he8, if_neg (by rw [hkw]; decide), if_neg (by rw [hno]; decide), if_neg hbr, if_neg he2, hkd]; dsimp only; rw [if_neg h298, hpm]; exact ⟨(LX.mv (LX.of hL5 (FrM.sai FrM.rf (by decide) _ _) (wi_ai hL5.2.2.1) hw1 (wi_ai hL5.2.2.2.2.2.2)) hP8), RS_leaf hr hc1 hc2 hpi.2.2.2.2.2.1 rfl rfl rfl (fun j => by simp [q_i_i, q_i_ai, q_i_al, q_ai_ai, q_ai_i, q_ai_al, q_al_al, q_al_i, q_al_ai]) (fun j => by simp [q_i_i, q_i_ai, q_i_al, q_ai_ai, q_ai_i, q_ai_al, q_al_al, q_al_i, q_al_ai]) (fun j => by simp [q_i_i, q_i_ai, q_i_al, q_ai_ai, q_ai_i, q_ai_al, q_al_al, q_al_i, q_al_ai]) (fun j => by simp [q_i_i, q_i_ai, q_i_al, q_ai_ai, q_ai_i, q_ai_al, q_al_al, q_al_i, q_al_ai]) (fun j => by simp [q_i_i, q_i_ai, q_i_al, q_ai_ai, q_ai_i, q_ai_al, q_al_al, q_al_i, q_al_ai]) rfl (fun j => by simp [q_i_i, q_i_ai, q_i_al, q_ai_ai, q_ai_i, q_ai_al, q_al_al, q_al_i, q_al_ai]), (wi_i (fun q => absurd q.1 (by decide)) (wi_ai (wi_i (fun q => absurd q.1 (by decide)) (wi_ai (wi_ai (wi_i (fun q => absurd q.1 (by decide)) (wi_i (fun q => absurd q.1 (by decide)) (wi_al (wi_ai (wi_ai (wi_i (fun q => absurd q.1 (by decide)) (wi_i (fun q => absurd q.1 (by decide)) rfl))))))))))))⟩⟩)
                  · -- pc 301
                    have h298 := cv_eq (by omega) (by omega) h298
                    refine xe (fun _ _ kK => x_aload_n dX8_field_301 rfl 5 rfl kK) ?_
                    refine xe (fun _ _ kK => x_iconst dX8_field_302 (show _ = nI 3 by decide) kK) ?_
                    refine xe (fun _ _ kK => x_iload_n dX8_field_303 rfl 1 rfl kK) ?_
                    refine xe_callV (a := 88) [.int (nI 3), .int (nI (sk b n (we b n q)))] dX8_field_304 ml_X8_148 mf_X8_fail (wK_i (wK_i (wK_al (wK_ai (wK_ai (wK_i (wK_i h.1.1))))))) (c_X8_fail (d + 2) (T := (mv (mv (s_al (s_ai (s_ai (s_i (mv T (we b n q)) 533 88 (nI (s.1 + 1))) 101 gs.length (nI (cD + 1))) 95 s.1 (oI gs.head?)) 96 s.1 (lN (wc b q (we b n q)))) (sk b n (we b n q))) (we b n (sk b n (we b n q))))) ((show FrM fsL asL T (mv (mv (s_al (s_ai (s_ai (s_i (mv T (we b n q)) 533 88 (nI (s.1 + 1))) 101 gs.length (nI (cD + 1))) 95 s.1 (oI gs.head?)) 96 s.1 (lN (wc b q (we b n q)))) (sk b n (we b n q))) (we b n (sk b n (we b n q)))) from (FrM.si (FrM.si (FrM.sal (FrM.sai (FrM.sai (FrM.si (FrM.si FrM.rf (by decide) _) (by decide) _) (by decide) _ _) (by decide) _ _) (by decide) _ _) (by decide) _) (by decide) _)).mi h.1) (wi_i (fun q => absurd q.1 (by decide)) (wi_i (fun q => absurd q.1 (by decide)) (wi_al (wi_ai (wi_ai (wi_i (fun q => absurd q.1 (by decide)) (wi_i (fun q => absurd q.1 (by decide)) h.2.2.2.2.2.2))))))) (nI 3) (nI (sk b n (we b n q)))) rfl rfl (Nat.le_of_ble_eq_true rfl) (Nat.le_of_ble_eq_true rfl) ?_
                    rintro _ _ ⟨rfl, rfl⟩
                    refine xe (fun _ _ kK => x_aload_n dX8_field_307 rfl 5 rfl kK) ?_
                    refine xe (fun _ _ kK => x_get dX8_field_308 fl_X8_132 (wK_i (wK_i (wK_i (wK_i (wK_al (wK_ai (wK_ai (wK_i (wK_i h.1.1))))))))) (gvl_i fz_8_4.2.2 (show e_i (flk (mv (mv (s_al (s_ai (s_ai (s_i (mv T (we b n q)) 533 88 (nI (s.1 + 1))) 101 gs.length (nI (cD + 1))) 95 s.1 (oI gs.head?)) 96 s.1 (lN (wc b q (we b n q)))) (sk b n (we b n q))) (we b n (sk b n (we b n q)))) 3 (sk b n (we b n q))) 516 88 = nI 3 from rfl)) kK) ?_
                    refine xe (fun _ _ kK => x_if_eqF (tgt := 315) dX8_field_311 (by decide) (by decide) kK) ?_
                    exact xe_retv dX8_field_314 rfl (⟨rfl, (FrM.si (FrM.si (FrM.si (FrM.si (FrM.sal (FrM.sai (FrM.sai (FrM.si (FrM.si FrM.rf (by decide) _) (by decide) _) (by decide) _ _) (by decide) _ _) (by decide) _ _) (by decide) _) (by decide) _) (by decide) _) (by decide) _), by rw [pField, if_neg he, if_neg he8, if_neg (by rw [hkw]; decide), if_neg (by rw [hno]; decide), if_neg hbr, if_neg he2, hkd]; dsimp only; rw [if_pos h298]; exact ⟨rfl, rfl, by decide, by decide, by omega⟩⟩)
                · -- pc 279
                  have h276 := lc_nen h276
                  refine xe (fun _ _ kK => x_aload_n dX8_field_279 rfl 5 rfl kK) ?_
                  refine xe (fun _ _ kK => x_iconst dX8_field_280 (show _ = nI 1 by decide) kK) ?_
                  refine xe (fun _ _ kK => x_iload_n dX8_field_281 rfl 1 rfl kK) ?_
                  have hkd : kdOf (wd b (sk b n (we b n q)) (we b n (sk b n (we b n q)))) = none := by rw [kdOf, if_neg (fun z9 => h267 ((wv_iff (by decide)).mpr z9)), if_neg (fun z9 => h276 ((wv_iff (by decide)).mpr z9))]
                  refine xe_callV (a := 88) [.int (nI 1), .int (nI (sk b n (we b n q)))] dX8_field_282 ml_X8_148 mf_X8_fail (wK_i (wK_i (wK_al (wK_ai (wK_ai (wK_i (wK_i h.1.1))))))) (c_X8_fail (d + 2) (T := (mv (mv (s_al (s_ai (s_ai (s_i (mv T (we b n q)) 533 88 (nI (s.1 + 1))) 101 gs.length (nI (cD + 1))) 95 s.1 (oI gs.head?)) 96 s.1 (lN (wc b q (we b n q)))) (sk b n (we b n q))) (we b n (sk b n (we b n q))))) ((show FrM fsL asL T (mv (mv (s_al (s_ai (s_ai (s_i (mv T (we b n q)) 533 88 (nI (s.1 + 1))) 101 gs.length (nI (cD + 1))) 95 s.1 (oI gs.head?)) 96 s.1 (lN (wc b q (we b n q)))) (sk b n (we b n q))) (we b n (sk b n (we b n q)))) from (FrM.si (FrM.si (FrM.sal (FrM.sai (FrM.sai (FrM.si (FrM.si FrM.rf (by decide) _) (by decide) _) (by decide) _ _) (by decide) _ _) (by decide) _ _) (by decide) _) (by decide) _)).mi h.1) (wi_i (fun q => absurd q.1 (by decide)) (wi_i (fun q => absurd q.1 (by decide)) (wi_al (wi_ai (wi_ai (wi_i (fun q => absurd q.1 (by decide)) (wi_i (fun q => absurd q.1 (by decide)) h.2.2.2.2.2.2))))))) (nI 1) (nI (sk b n (we b n q)))) rfl rfl (Nat.le_of_ble_eq_true rfl) (Nat.le_of_ble_eq_true rfl) ?_
                  rintro _ _ ⟨rfl, rfl⟩
                  refine xe (fun _ _ kK => x_aload_n dX8_field_285 rfl 5 rfl kK) ?_
                  refine xe (fun _ _ kK => x_get dX8_field_286 fl_X8_132 (wK_i (wK_i (wK_i (wK_i (wK_al (wK_ai (wK_ai (wK_i (wK_i h.1.1))))))))) (gvl_i fz_8_4.2.2 (show e_i (flk (mv (mv (s_al (s_ai (s_ai (s_i (mv T (we b n q)) 533 88 (nI (s.1 + 1))) 101 gs.length (nI (cD + 1))) 95 s.1 (oI gs.head?)) 96 s.1 (lN (wc b q (we b n q)))) (sk b n (we b n q))) (we b n (sk b n (we b n q)))) 1 (sk b n (we b n q))) 516 88 = nI 1 from rfl)) kK) ?_
                  refine xe (fun _ _ kK => x_if_neT (tgt := 307) dX8_field_289 (by decide) (by decide) kK) ?_
                  refine xe (fun _ _ kK => x_aload_n dX8_field_307 rfl 5 rfl kK) ?_
                  refine xe (fun _ _ kK => x_get dX8_field_308 fl_X8_132 (wK_i (wK_i (wK_i (wK_i (wK_al (wK_ai (wK_ai (wK_i (wK_i h.1.1))))))))) (gvl_i fz_8_4.2.2 (show e_i (flk (mv (mv (s_al (s_ai (s_ai (s_i (mv T (we b n q)) 533 88 (nI (s.1 + 1))) 101 gs.length (nI (cD + 1))) 95 s.1 (oI gs.head?)) 96 s.1 (lN (wc b q (we b n q)))) (sk b n (we b n q))) (we b n (sk b n (we b n q)))) 1 (sk b n (we b n q))) 516 88 = nI 1 from rfl)) kK) ?_
                  refine xe (fun _ _ kK => x_if_eqF (tgt := 315) dX8_field_311 (by decide) (by decide) kK) ?_
                  exact xe_retv dX8_field_314 rfl (⟨rfl, (FrM.si (FrM.si (FrM.si (FrM.si (FrM.sal (FrM.sai (FrM.sai (FrM.si (FrM.si FrM.rf (by decide) _) (by decide) _) (by decide) _ _) (by decide) _ _) (by decide) _ _) (by decide) _) (by decide) _) (by decide) _) (by decide) _), by rw [pField, if_neg he, if_neg he8, if_neg (by rw [hkw]; decide), if_neg (by rw [hno]; decide), if_neg hbr, if_neg he2, hkd]; exact ⟨rfl, rfl, by decide, by decide, by omega⟩⟩)
        · -- pc 50
          exact ⟨rfl, (FrM.si (FrM.si (FrM.si FrM.rf (by decide) _) (by decide) _) (by decide) _), by rw [pField, if_neg he, if_neg he8, if_neg (by rw [hkw]; decide), if_pos hyes]; exact ⟨rfl, rfl, by decide, by decide, by omega⟩⟩
      · -- pc 30
        have hkw := cv_b1 hkw
        refine xe (fun _ _ kK => x_aload_n dX8_field_30 rfl 2 rfl kK) ?_
        refine xe (fun _ _ kK => x_iconst dX8_field_31 (show _ = nI 1 by decide) kK) ?_
        refine xe (fun _ _ kK => x_iload_n dX8_field_32 rfl 1 rfl kK) ?_
        refine xe_callV (a := 88) [.int (nI 1), .int (nI q)] dX8_field_33 ml_X8_148 mf_X8_fail (wK_i h.1.1) (c_X8_fail (d + 2) (T := (mv T (we b n q))) ((show FrM fsL asL T (mv T (we b n q)) from (FrM.si FrM.rf (by decide) _)).mi h.1) (wi_i (fun q => absurd q.1 (by decide)) h.2.2.2.2.2.2) (nI 1) (nI q)) rfl rfl (Nat.le_of_ble_eq_true rfl) (Nat.le_of_ble_eq_true rfl) ?_
        rintro _ _ ⟨rfl, rfl⟩
        refine xe (fun _ _ kK => x_aload_n dX8_field_36 rfl 2 rfl kK) ?_
        refine xe (fun _ _ kK => x_get dX8_field_37 fl_X8_68 (wK_i (wK_i (wK_i h.1.1))) (gvl_r1 fz_8_28.2.2 (show e_r (flk (mv T (we b n q)) 1 q) 540 88 = some 100 from (wr_i (wr_i (wr_i (h.1.2.1 28)))))) kK) ?_
        refine xe (fun _ _ kK => x_aload_n dX8_field_40 rfl 2 rfl kK) ?_
        refine xe (fun _ _ kK => x_get dX8_field_41 fl_X8_180 (wK_i (wK_i (wK_i h.1.1))) (gvl_i fz_8_30.2.2 (show e_i (flk (mv T (we b n q)) 1 q) 542 88 = nI gs.length from (wi_i (fun q => absurd q.1 (by decide)) (wi_i (fun q => absurd q.1 (by decide)) (wi_i (fun q => absurd q.1 (by decide)) hr.2.2.1))))) kK) ?_
        refine xe (fun _ _ kK => x_iald dX8_field_44 (wK_i (wK_i (wK_i (h.1.2.2.1 11 (by decide))))) (show (nI gs.length) = nI gs.length from rfl) (wN_i (wN_i (wN_i (mi_len h.1 11 (by decide) (show gs.length < 8 by omega))))) (show e_ai (flk (mv T (we b n q)) 1 q) 100 gs.length = oI gs.head? from (wai_i (wai_i (wai_i hop)))) kK) ?_
        refine xe (fun _ _ kK => x_istore dX8_field_45 (by decide) (show _ = [(4, .int (oI gs.head?)), (2, .long (lN (wc b q (we b n q)))), (1, .int (nI q)), (0, .ref 88)] from rfl) kK) ?_
        refine xe (fun _ _ kK => x_iconst dX8_field_47 (show _ = nI 0 by decide) kK) ?_
        refine xe (fun _ _ kK => x_istore dX8_field_48 (by decide) (show _ = [(5, .int (nI 0)), (4, .int (oI gs.head?)), (2, .long (lN (wc b q (we b n q)))), (1, .int (nI q)), (0, .ref 88)] from rfl) kK) ?_
        refine xe (fun _ _ kK => x_iload dX8_field_50 0 rfl kK) ?_
        refine xe (fun _ _ kK => x_aload_n dX8_field_52 rfl 4 rfl kK) ?_
        refine xe (fun _ _ kK => x_get dX8_field_53 fl_X8_183 (wK_i (wK_i (wK_i h.1.1))) (gvl_i fz_8_21.2.2 (show e_i (flk (mv T (we b n q)) 1 q) 533 88 = nI s.1 from (wi_i (fun q => absurd q.1 (by decide)) (wi_i (fun q => absurd q.1 (by decide)) (wi_i (fun q => absurd q.1 (by decide)) hr.1))))) kK) ?_
        refine xe_icmp_ge (tgt := 102) dX8_field_56 (by decide) (fun h56 => ?_) (fun h56 => ?_)
        · -- pc 102
          have h56 := cv_le (by omega) (by omega) h56
          refine xe (fun _ _ kK => x_aload_n dX8_field_102 rfl 4 rfl kK) ?_
          refine xe (fun _ _ kK => x_get dX8_field_103 fl_X8_132 (wK_i (wK_i (wK_i h.1.1))) (gvl_i fz_8_4.2.2 (show e_i (flk (mv T (we b n q)) 1 q) 516 88 = nI 1 from rfl)) kK) ?_
          refine xe (fun _ _ kK => x_if_eqF (tgt := 110) dX8_field_106 (by decide) (by decide) kK) ?_
          exact xe_retv dX8_field_109 rfl (⟨rfl, (FrM.si (FrM.si (FrM.si FrM.rf (by decide) _) (by decide) _) (by decide) _), by rw [pField, if_neg he, if_neg he8, if_pos hkw]; exact ⟨rfl, rfl, by decide, by decide, by omega⟩⟩)
        · -- pc 59
          have h56 := cv_nle (by omega) (by omega) h56
          refine xe (fun _ _ kK => x_aload_n dX8_field_59 rfl 4 rfl kK) ?_
          refine xe (fun _ _ kK => x_get dX8_field_60 fl_X8_132 (wK_i (wK_i (wK_i h.1.1))) (gvl_i fz_8_4.2.2 (show e_i (flk (mv T (we b n q)) 1 q) 516 88 = nI 1 from rfl)) kK) ?_
          refine xe (fun _ _ kK => x_if_neT (tgt := 102) dX8_field_63 (by decide) (by decide) kK) ?_
          refine xe (fun _ _ kK => x_aload_n dX8_field_102 rfl 4 rfl kK) ?_
          refine xe (fun _ _ kK => x_get dX8_field_103 fl_X8_132 (wK_i (wK_i (wK_i h.1.1))) (gvl_i fz_8_4.2.2 (show e_i (flk (mv T (we b n q)) 1 q) 516 88 = nI 1 from rfl)) kK) ?_
          refine xe (fun _ _ kK => x_if_eqF (tgt := 110) dX8_field_106 (by decide) (by decide) kK) ?_
          exact xe_retv dX8_field_109 rfl (⟨rfl, (FrM.si (FrM.si (FrM.si FrM.rf (by decide) _) (by decide) _) (by decide) _), by rw [pField, if_neg he, if_neg he8, if_pos hkw]; exact ⟨rfl, rfl, by decide, by decide, by omega⟩⟩)
