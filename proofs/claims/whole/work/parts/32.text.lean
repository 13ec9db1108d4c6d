/-! TEXT -/
def ntv (v : Int64) : List Nat := (if v < 0 then [45] else []) ++ ntx v.toInt.natAbs
def vtx (kd : Nat) (v : Int64) : List Nat := if kd = 0 then ntv v else wtx v.toInt.natAbs
def itm (s : Sh) (pa : Pa) (f y : Nat) (inner : List Nat) : List Nat := wtx (s.2.2.2.1 f) ++ ([58] ++ ((if s.2.2.2.2.1 f = 2 then [91] ++ (inner ++ [93]) else vtx (s.2.2.2.2.1 f) (pa.2.2.2 y)) ++ [59]))
def seg (s : Sh) (pa : Pa) (wn : Nat → Bool) (IT : Nat → Nat → List Nat) (x f lk : Nat) : List Nat := if wn f = true ∧ s.2.2.1 f = pa.2.1 x then (ch pa x f lk).flatMap (IT f) else []
def txFs (s : Sh) (pa : Pa) (wn : Nat → Bool) (IT : Nat → Nat → List Nat) (x : Nat) : Nat → Nat → List Nat
  | 0, _ => []
  | m + 1, f => seg s pa wn IT x f (x + 1) ++ txFs s pa wn IT x m (f + 1)
def txN (s : Sh) (pa : Pa) (wn : Nat → Bool) : Nat → Nat → List Nat
  | 0, _ => []
  | k + 1, x => txFs s pa wn (fun f y => itm s pa f y (txN s pa wn k y)) x s.1 0
abbrev ITk (s : Sh) (pa : Pa) (wn : Nat → Bool) (k : Nat) : Nat → Nat → List Nat := fun f y => itm s pa f y (txN s pa wn k y)
def rsF (s : Sh) (pa : Pa) (wn : Nat → Bool) (IT : Nat → Nat → List Nat) (x f lk : Nat) : List Nat := if f < s.1 then seg s pa wn IT x f lk ++ txFs s pa wn IT x (s.1 - (f + 1)) (f + 1) else []
theorem rsF_0 {s : Sh} {pa : Pa} {wn : Nat → Bool} {IT : Nat → Nat → List Nat} {x f : Nat} (h : f ≤ s.1) : rsF s pa wn IT x f (x + 1) = txFs s pa wn IT x (s.1 - f) f := by
  unfold rsF
  rcases Nat.lt_or_ge f s.1 with z | z
  · rw [if_pos z, show s.1 - f = (s.1 - (f + 1)) + 1 by omega]; rfl
  · rw [if_neg (by omega), show s.1 - f = 0 by omega]; rfl
theorem chF_sp {pa : Pa} {x f : Nat} : ∀ {k lk y : Nat}, y ∈ chF pa x f k lk → pa.2.2.1 y = some x ∧ pa.2.1 y = some f := by
  intro k
  induction k with
  | zero => intro lk y h; cases h
  | succ k ih =>
    intro lk y h
    unfold chF at h
    split at h
    · rename_i z
      rcases List.mem_cons.mp h with e | e
      · subst e; exact z
      · exact ih e
    · exact ih h
theorem ch_sp {pa : Pa} {x f lk y : Nat} {ys : List Nat} (h : ch pa x f lk = y :: ys) : pa.2.2.1 y = some x ∧ pa.2.1 y = some f := chF_sp (k := pa.1 - lk) (lk := lk) (by show y ∈ ch pa x f lk; rw [h]; exact List.mem_cons_self)
/-- values are what a paper's text can tell -/
def VOk (s : Sh) (pa : Pa) : Prop := ∀ y, y < pa.1 → ∀ f, pa.2.1 y = some f → (s.2.2.2.2.1 f = 0 → ∃ w, w < 10 ^ 6 ∧ ((pa.2.2.2 y = lN w) ∨ (-(pa.2.2.2 y) = lN w ∧ pa.2.2.2 y < 0))) ∧ (s.2.2.2.2.1 f = 1 → ∃ w, w < 27 ^ 8 ∧ pa.2.2.2 y = lN w)
theorem lN_na {w : Nat} (h : w < 2 ^ 63) : (lN w).toInt.natAbs = w := by rw [pk_lT h]; rfl
theorem lN_nn {w : Nat} (h : w < 2 ^ 63) : ¬ lN w < 0 := fun q => by
  have := (pk_lLT h (show 0 < 2 ^ 63 by decide)).mp q
  omega
theorem neg_na {v : Int64} {w : Nat} (hw : w < 2 ^ 62) (h : -v = lN w) (h0 : v < 0) : v.toInt.natAbs = w := by
  have h1 := congrArg Int64.toInt h
  rw [pk_lT (by omega), Int64.toInt_neg] at h1
  have h2 : v.toInt < 0 := Int64.lt_iff_toInt_lt.mp h0
  have h3 := Int64.le_toInt v
  have e : (-v.toInt).bmod (2 ^ 64) = if (-v.toInt) < 2 ^ 63 then -v.toInt else -v.toInt - 2 ^ 64 := by
    split
    · rw [Int.bmod_eq_of_le (by omega) (by omega)]
    · have : -v.toInt = 2 ^ 63 := by have h4 : -2 ^ 63 ≤ v.toInt := h3; omega
      rw [this]; rfl
  rw [e] at h1
  split at h1 <;> omega
/-- a node's place in the tree -/
def DpN (s : Sh) (dp : Nat → Nat) (pa : Pa) (x d : Nat) : Prop := match pa.2.1 x with
  | none => d = 0
  | some g => g < s.1 ∧ d = dp g + 1
theorem DpN.fld {s : Sh} {dp : Nat → Nat} {pa : Pa} {x d f : Nat} (h : DpN s dp pa x d) (hD : ShD s dp) (hf : f < s.1) (hw : s.2.2.1 f = pa.2.1 x) : dp f = d := by
  unfold DpN at h
  cases hx : pa.2.1 x with
  | none => rw [hx] at h hw; rw [(hD f hf).1 hw]; exact h.symm
  | some g => rw [hx] at h hw; rw [((hD f hf).2.1 g hw).2]; exact h.2.symm
def TCt (T : TH) (s : Sh) (wn : Nat → Bool) (o i : Nat) (pa : Pa) : Prop := MI T ∧ MSh T s ∧ PN T o pa ∧ e_ai T 102 (i + 1) = nI (o + pa.1) ∧ ∀ f, f < s.1 → e_ai T 118 f = bI (wn f)
abbrev fsX : List Nat := [562]
abbrev asX : List Nat := [112, 113, 117, 119]
theorem TCt.of {T T1 : TH} {s : Sh} {wn : Nat → Bool} {o i : Nat} {pa : Pa} (h : TCt T s wn o i pa) (hF : FrM fsX asX T T1) : TCt T1 s wn o i pa :=
  ⟨hF.mi h.1, h.2.1.of hF (by decide) (by decide) (by decide), h.2.2.1.ofF hF (by decide) (by decide) (by decide), by rw [hF.ai (by decide)]; exact h.2.2.2.1, fun f hf => by rw [hF.ai (by decide)]; exact h.2.2.2.2 f hf⟩
def Fx (T : TH) (d o x f lk : Nat) : Prop := e_ai T 112 d = nI (o + x) ∧ e_ai T 119 d = nI f ∧ e_ai T 113 d = nI (o + lk)
def FxLow (T T' : TH) (d : Nat) : Prop := ∀ j, j < d → e_ai T' 112 j = e_ai T 112 j ∧ e_ai T' 119 j = e_ai T 119 j ∧ e_ai T' 113 j = e_ai T 113 j
theorem FxLow.tr {T T1 T2 : TH} {d : Nat} (h : FxLow T T1 d) (k : FxLow T1 T2 d) : FxLow T T2 d := fun j hj => ⟨(k j hj).1.trans (h j hj).1, (k j hj).2.1.trans (h j hj).2.1, (k j hj).2.2.trans (h j hj).2.2⟩
theorem FxLow.rf {T : TH} {d : Nat} : FxLow T T d := fun _ _ => ⟨rfl, rfl, rfl⟩
theorem FxLow.x {T T1 : TH} {d : Nat} (hF : FrM [562] [117] T T1) : FxLow T T1 d := fun j _ => ⟨by rw [hF.ai (by decide)], by rw [hF.ai (by decide)], by rw [hF.ai (by decide)]⟩
theorem Fx.x {T T1 : TH} {d o x f lk : Nat} (h : Fx T d o x f lk) (hF : FrM [562] [117] T T1) : Fx T1 d o x f lk := ⟨by rw [hF.ai (by decide)]; exact h.1, by rw [hF.ai (by decide)]; exact h.2.1, by rw [hF.ai (by decide)]; exact h.2.2⟩

set_option maxHeartbeats 4000000 in
theorem l_X8_tskip (d : Nat) {T : TH} {s : Sh} {wn : Nat → Bool} {o i dd f : Nat} {pa : Pa} {bits : Int32} {P : Option Value → TH → Prop} (hC : TCt T s wn o i pa) (hb : o + pa.1 ≤ 6200) (hi : i < 30) : ∀ (m lk : Nat), pa.1 - lk = m → lk ≤ pa.1 → Xe m_X8_text d 276 [(6, .int (nI 0)), (5, .int (nI (o + pa.1))), (4, .int (nI f)), (3, .int (nI dd)), (0, .ref 88), (1, .int (nI i)), (2, .int bits)] [] T P → Xe m_X8_text d 224 [(6, .int (nI 0)), (5, .int (nI (o + lk))), (4, .int (nI f)), (3, .int (nI dd)), (0, .ref 88), (1, .int (nI i)), (2, .int bits)] [] T P := by
  intro m
  induction m using Nat.strongRecOn with
  | ind m ih =>
    intro lk hm hlk0 hnone
    subst hm
    refine xe (fun _ _ kK => x_iload dX8_text_224 1 rfl kK) ?_
    refine xe (fun _ _ kK => x_aload_n dX8_text_226 rfl 4 rfl kK) ?_
    refine xe (fun _ _ kK => x_get dX8_text_227 fl_X8_74 hC.1.1 (gvl_r1 fz_8_32.2.2 (show e_r T 544 88 = some 102 from (hC.1.2.1 32))) kK) ?_
    refine xe (fun _ _ kK => x_iload_n dX8_text_230 rfl 5 rfl kK) ?_
    refine xe (fun _ _ kK => x_iconst dX8_text_231 (show _ = nI 1 by decide) kK) ?_
    refine xe (fun _ _ kK => x_iadd dX8_text_232 kK) ?_
    refine xe_ti (show _ = nI (i + 1) from nI_add i 1) ?_
    refine xe (fun _ _ kK => x_iald dX8_text_233 (hC.1.2.2.1 13 (by decide)) (show (nI (i + 1)) = nI (i + 1) from rfl) (mi_len hC.1 13 (by decide) (show i + 1 < 31 by omega)) (show e_ai T 102 (i + 1) = nI (o + pa.1) from hC.2.2.2.1) kK) ?_
    refine xe_icmp_ge (tgt := 276) dX8_text_234 (by decide) (fun h234 => ?_) (fun h234 => ?_)
    · -- pc 276
      have h234 := cv_le (by omega) (by omega) h234
      have e9 : lk = pa.1 := by omega
      subst e9
      exact hnone
    · -- pc 237
      have h234 := cv_nle (by omega) (by omega) h234
      refine xe (fun _ _ kK => x_iload dX8_text_237 0 rfl kK) ?_
      refine xe (fun _ _ kK => x_if_eqT (tgt := 270) dX8_text_239 (by decide) (by decide) kK) ?_
      refine xe (fun _ _ kK => x_iinc dX8_text_270 1 rfl (show (nI (o + lk)) + Int32.ofInt 1 = nI ((o + lk) + 1) from nI_add (o + lk) 1) (by decide) (show _ = [(5, .int (nI ((o + lk) + 1))), (6, .int (nI 0)), (4, .int (nI f)), (3, .int (nI dd)), (0, .ref 88), (1, .int (nI i)), (2, .int bits)] from rfl) kK) ?_
      refine xe (fun _ _ kK => x_goto (tgt := 224) dX8_text_273 (by decide) kK) ?_
      exact xe_loc (by simp [Nat.add_assoc]) (ih (pa.1 - (lk + 1)) (by omega) (lk + 1) rfl (by omega) hnone)

set_option maxHeartbeats 4000000 in
theorem l_X8_tsearch (d : Nat) {T : TH} {s : Sh} {wn : Nat → Bool} {o i dd x f : Nat} {pa : Pa} {bits : Int32} {P : Option Value → TH → Prop} (hC : TCt T s wn o i pa) (hok : PaOk s.1 pa) (hs : s.1 ≤ 60) (hb : o + pa.1 ≤ 6200) (hi : i < 30) (hd : dd < 8) (hf60 : f < 60) (hx : x < pa.1) (hin : e_ai T 112 dd = nI (o + x)) : ∀ (m lk : Nat), pa.1 - lk = m → lk ≤ pa.1 → (ch pa x f lk = [] → Xe m_X8_text d 276 [(6, .int (nI 1)), (5, .int (nI (o + pa.1))), (4, .int (nI f)), (3, .int (nI dd)), (0, .ref 88), (1, .int (nI i)), (2, .int bits)] [] T P) → (∀ y ys, ch pa x f lk = y :: ys → lk ≤ y → y < pa.1 → ys = ch pa x f (y + 1) → Xe m_X8_text d 276 [(6, .int (nI 1)), (5, .int (nI (o + y))), (4, .int (nI f)), (3, .int (nI dd)), (0, .ref 88), (1, .int (nI i)), (2, .int bits)] [] T P) → Xe m_X8_text d 224 [(6, .int (nI 1)), (5, .int (nI (o + lk))), (4, .int (nI f)), (3, .int (nI dd)), (0, .ref 88), (1, .int (nI i)), (2, .int bits)] [] T P := by
  intro m
  induction m using Nat.strongRecOn with
  | ind m ih =>
    intro lk hm hlk0 hnone hsome
    subst hm
    refine xe (fun _ _ kK => x_iload dX8_text_224 1 rfl kK) ?_
    refine xe (fun _ _ kK => x_aload_n dX8_text_226 rfl 4 rfl kK) ?_
    refine xe (fun _ _ kK => x_get dX8_text_227 fl_X8_74 hC.1.1 (gvl_r1 fz_8_32.2.2 (show e_r T 544 88 = some 102 from (hC.1.2.1 32))) kK) ?_
    refine xe (fun _ _ kK => x_iload_n dX8_text_230 rfl 5 rfl kK) ?_
    refine xe (fun _ _ kK => x_iconst dX8_text_231 (show _ = nI 1 by decide) kK) ?_
    refine xe (fun _ _ kK => x_iadd dX8_text_232 kK) ?_
    refine xe_ti (show _ = nI (i + 1) from nI_add i 1) ?_
    refine xe (fun _ _ kK => x_iald dX8_text_233 (hC.1.2.2.1 13 (by decide)) (show (nI (i + 1)) = nI (i + 1) from rfl) (mi_len hC.1 13 (by decide) (show i + 1 < 31 by omega)) (show e_ai T 102 (i + 1) = nI (o + pa.1) from hC.2.2.2.1) kK) ?_
    refine xe_icmp_ge (tgt := 276) dX8_text_234 (by decide) (fun h234 => ?_) (fun h234 => ?_)
    · -- pc 276
      have h234 := cv_le (by omega) (by omega) h234
      have e9 : lk = pa.1 := by omega
      subst e9
      exact hnone (ch_end (Nat.le_refl _))
    · -- pc 237
      have h234 := cv_nle (by omega) (by omega) h234
      have hlk : lk < pa.1 := by omega
      refine xe (fun _ _ kK => x_iload dX8_text_237 0 rfl kK) ?_
      refine xe (fun _ _ kK => x_if_eqF (tgt := 270) dX8_text_239 (by decide) (by decide) kK) ?_
      refine xe (fun _ _ kK => x_aload_n dX8_text_242 rfl 4 rfl kK) ?_
      refine xe (fun _ _ kK => x_get dX8_text_243 fl_X8_80 hC.1.1 (gvl_r1 fz_8_34.2.2 (show e_r T 546 88 = some 104 from (hC.1.2.1 34))) kK) ?_
      refine xe (fun _ _ kK => x_iload dX8_text_246 1 rfl kK) ?_
      refine xe (fun _ _ kK => x_iald dX8_text_248 (hC.1.2.2.1 15 (by decide)) (show (nI (o + lk)) = nI (o + lk) from rfl) (mi_len hC.1 15 (by decide) (show o + lk < 6200 by omega)) (show e_ai T 104 (o + lk) = oI ((pa.2.2.1 lk).map (o + ·)) from (hC.2.2.1 lk hlk).2.1) kK) ?_
      refine xe (fun _ _ kK => x_aload_n dX8_text_249 rfl 4 rfl kK) ?_
      refine xe (fun _ _ kK => x_get dX8_text_250 fl_X8_105 hC.1.1 (gvl_r1 fz_8_45.2.2 (show e_r T 557 88 = some 112 from (hC.1.2.1 45))) kK) ?_
      refine xe (fun _ _ kK => x_iload_n dX8_text_253 rfl 3 rfl kK) ?_
      refine xe (fun _ _ kK => x_iald dX8_text_254 (hC.1.2.2.1 23 (by decide)) (show (nI dd) = nI dd from rfl) (mi_len hC.1 23 (by decide) (show dd < 8 by omega)) (show e_ai T 112 dd = nI (o + x) from hin) kK) ?_
      have hb1 : oB ((pa.2.2.1 lk).map (o + ·)) := fun z hz => by cases h7 : pa.2.2.1 lk with | none => (rw [h7] at hz; cases hz) | some y => (rw [h7] at hz; simp at hz; have := (hok lk hlk).1 y h7; omega)
      have hb2 : oB (pa.2.1 lk) := fun z hz => by have := (hok lk hlk).2 z hz; omega
      by_cases h73 : pa.2.2.1 lk = some x
      · -- pc 255
        refine xe (fun _ _ kK => x_icmp_neF (tgt := 270) dX8_text_255 (by decide) (show oI ((pa.2.2.1 lk).map (o + ·)) = nI (o + x) by rw [h73]; rfl) kK) ?_
        refine xe (fun _ _ kK => x_aload_n dX8_text_258 rfl 4 rfl kK) ?_
        refine xe (fun _ _ kK => x_get dX8_text_259 fl_X8_77 hC.1.1 (gvl_r1 fz_8_33.2.2 (show e_r T 545 88 = some 103 from (hC.1.2.1 33))) kK) ?_
        refine xe (fun _ _ kK => x_iload dX8_text_262 1 rfl kK) ?_
        refine xe (fun _ _ kK => x_iald dX8_text_264 (hC.1.2.2.1 14 (by decide)) (show (nI (o + lk)) = nI (o + lk) from rfl) (mi_len hC.1 14 (by decide) (show o + lk < 6200 by omega)) (show e_ai T 103 (o + lk) = oI (pa.2.1 lk) from (hC.2.2.1 lk hlk).1) kK) ?_
        refine xe (fun _ _ kK => x_iload dX8_text_265 2 rfl kK) ?_
        by_cases h89 : pa.2.1 lk = some f
        · -- pc 267
          refine xe (fun _ _ kK => x_icmp_eqT (tgt := 276) dX8_text_267 (by decide) (show oI (pa.2.1 lk) = nI f by rw [h89]; rfl) kK) ?_
          exact hsome lk _ (ch_hit hlk ⟨h73, h89⟩) (Nat.le_refl _) hlk rfl
        · -- pc 267
          refine xe (fun _ _ kK => x_icmp_eqF (tgt := 276) dX8_text_267 (by decide) (fun z => h89 (oI_some hb2 (by omega) z)) kK) ?_
          refine xe (fun _ _ kK => x_iinc dX8_text_270 1 rfl (show (nI (o + lk)) + Int32.ofInt 1 = nI ((o + lk) + 1) from nI_add (o + lk) 1) (by decide) (show _ = [(5, .int (nI ((o + lk) + 1))), (6, .int (nI 1)), (4, .int (nI f)), (3, .int (nI dd)), (0, .ref 88), (1, .int (nI i)), (2, .int bits)] from rfl) kK) ?_
          refine xe (fun _ _ kK => x_goto (tgt := 224) dX8_text_273 (by decide) kK) ?_
          have hms := ch_miss (x := x) (f := f) hlk (fun z9 => h89 z9.2)
          refine xe_loc (by simp [Nat.add_assoc]) (ih (pa.1 - (lk + 1)) (by omega) (lk + 1) rfl (by omega) (fun h9 => hnone (hms.trans h9)) (fun y ys h9 h8 h7 h6 => hsome y ys (hms.trans h9) (by omega) h7 h6))
      · -- pc 255
        refine xe (fun _ _ kK => x_icmp_neT (tgt := 270) dX8_text_255 (by decide) (fun z => h73 (map_some (oI_some hb1 (by omega) z))) kK) ?_
        refine xe (fun _ _ kK => x_iinc dX8_text_270 1 rfl (show (nI (o + lk)) + Int32.ofInt 1 = nI ((o + lk) + 1) from nI_add (o + lk) 1) (by decide) (show _ = [(5, .int (nI ((o + lk) + 1))), (6, .int (nI 1)), (4, .int (nI f)), (3, .int (nI dd)), (0, .ref 88), (1, .int (nI i)), (2, .int bits)] from rfl) kK) ?_
        refine xe (fun _ _ kK => x_goto (tgt := 224) dX8_text_273 (by decide) kK) ?_
        have hms := ch_miss (x := x) (f := f) hlk (fun z9 => h73 z9.1)
        refine xe_loc (by simp [Nat.add_assoc]) (ih (pa.1 - (lk + 1)) (by omega) (lk + 1) rfl (by omega) (fun h9 => hnone (hms.trans h9)) (fun y ys h9 h8 h7 h6 => hsome y ys (hms.trans h9) (by omega) h7 h6))

set_option maxHeartbeats 8000000 in
theorem l_X8_textN (dep : Nat) {s : Sh} {dp : Nat → Nat} {wn : Nat → Bool} {o i : Nat} {pa : Pa} {bits : Int32} {P : Option Value → TH → Prop} (hB : ShB s) (hD : ShD s dp) (hok : PaOk s.1 pa) (hV : VOk s pa) (hb : o + pa.1 ≤ 6200) (hi : i < 30) : ∀ (k dd x : Nat), k + dd = 4 → x < pa.1 → DpN s dp pa x dd → ∀ (m1 f : Nat), s.1 - f = m1 → f ≤ s.1 → ∀ (m2 lk : Nat) (T : TH) (R : List Nat), pa.1 - lk = m2 → x < lk → lk ≤ pa.1 → TCt T s wn o i pa → Fx T dd o x f lk → TXs T R → R.length + (rsF s pa wn (ITk s pa wn k) x f lk).length ≤ 1000 → (∀ T', FrM fsX asX T T' → FxLow T T' dd → TXs T' (R ++ (rsF s pa wn (ITk s pa wn k) x f lk)) → Xe m_X8_text (dep + 2) 156 [(3, .int (nI dd + Int32.ofInt (-1))), (0, .ref 88), (1, .int (nI i)), (2, .int bits)] [] T' P) → Xe m_X8_text (dep + 2) 132 [(3, .int (nI dd)), (0, .ref 88), (1, .int (nI i)), (2, .int bits)] [] T P := by
  intro k
  have hs60 := hB.1
  induction k using Nat.strongRecOn with
  | ind k ihk0 =>
    intro dd x hkd hx hDx m1
    induction m1 using Nat.strongRecOn with
    | ind m1 ihf =>
      intro f hm1 hf0 m2
      subst hm1
      induction m2 using Nat.strongRecOn with
      | ind m2 ih =>
        intro lk T R hm2 hlk1 hlk2 hC hFx hX hlen hpop
        subst hm2
        have hin := hFx.1
        refine xe (fun _ _ kK => x_iload_n dX8_text_132 rfl 0 rfl kK) ?_
        refine xe (fun _ _ kK => x_if_ltF (tgt := 435) dX8_text_133 (by decide) (nI_pos (by omega)) kK) ?_
        refine xe (fun _ _ kK => x_aload_n dX8_text_136 rfl 1 rfl kK) ?_
        refine xe (fun _ _ kK => x_get dX8_text_137 fl_X8_126 hC.1.1 (gvl_r1 fz_8_53.2.2 (show e_r T 565 88 = some 119 from (hC.1.2.1 53))) kK) ?_
        refine xe (fun _ _ kK => x_iload_n dX8_text_140 rfl 0 rfl kK) ?_
        refine xe (fun _ _ kK => x_iald dX8_text_141 (hC.1.2.2.1 30 (by decide)) (show (nI dd) = nI dd from rfl) (mi_len hC.1 30 (by decide) (show dd < 8 by omega)) (show e_ai T 119 dd = nI f from hFx.2.1) kK) ?_
        refine xe (fun _ _ kK => x_istore dX8_text_142 (by decide) (show _ = [(4, .int (nI f)), (3, .int (nI dd)), (0, .ref 88), (1, .int (nI i)), (2, .int bits)] from rfl) kK) ?_
        refine xe (fun _ _ kK => x_iload dX8_text_144 0 rfl kK) ?_
        refine xe (fun _ _ kK => x_aload_n dX8_text_146 rfl 2 rfl kK) ?_
        refine xe (fun _ _ kK => x_get dX8_text_147 fl_X8_208 hC.1.1 (gvl_i fz_8_14.2.2 (show e_i T 526 88 = nI s.1 from hC.2.1.1)) kK) ?_
        refine xe_icmp_ne (tgt := 178) dX8_text_150 (by decide) (fun h150 => ?_) (fun h150 => ?_)
        · -- pc 178
          have h150 := cv_ne (by omega) (by omega) h150
          have hfs : f < s.1 := by omega
          refine xe (fun _ _ kK => x_aload_n dX8_text_178 rfl 2 rfl kK) ?_
          refine xe (fun _ _ kK => x_get dX8_text_179 fl_X8_108 hC.1.1 (gvl_r1 fz_8_46.2.2 (show e_r T 558 88 = some 113 from (hC.1.2.1 46))) kK) ?_
          refine xe (fun _ _ kK => x_iload_n dX8_text_182 rfl 1 rfl kK) ?_
          refine xe (fun _ _ kK => x_iald dX8_text_183 (hC.1.2.2.1 24 (by decide)) (show (nI dd) = nI dd from rfl) (mi_len hC.1 24 (by decide) (show dd < 8 by omega)) (show e_ai T 113 dd = nI (o + lk) from hFx.2.2) kK) ?_
          refine xe (fun _ _ kK => x_istore dX8_text_184 (by decide) (show _ = [(5, .int (nI (o + lk))), (4, .int (nI f)), (3, .int (nI dd)), (0, .ref 88), (1, .int (nI i)), (2, .int bits)] from rfl) kK) ?_
          refine xe (fun _ _ kK => x_aload_n dX8_text_186 rfl 3 rfl kK) ?_
          refine xe (fun _ _ kK => x_get dX8_text_187 fl_X8_123 hC.1.1 (gvl_r1 fz_8_52.2.2 (show e_r T 564 88 = some 118 from (hC.1.2.1 52))) kK) ?_
          refine xe (fun _ _ kK => x_iload dX8_text_190 1 rfl kK) ?_
          refine xe (fun _ _ kK => x_zald dX8_text_192 (hC.1.2.2.1 29 (by decide)) (show (nI f) = nI f from rfl) (mi_len hC.1 29 (by decide) (show f < 80 by omega)) (show e_ai T 118 f = bI (wn f) from (hC.2.2.2.2 f hfs)) kK) ?_
          refine xe_if_eq (tgt := 221) dX8_text_193 (by decide) (fun h193 => ?_) (fun h193 => ?_)
          · -- pc 221
            have h193 := cv_b0 h193
            refine xe (fun _ _ kK => x_iconst dX8_text_221 (show _ = nI 0 by decide) kK) ?_
            refine xe (fun _ _ kK => x_istore dX8_text_222 (by decide) (show _ = [(6, .int (nI 0)), (5, .int (nI (o + lk))), (4, .int (nI f)), (3, .int (nI dd)), (0, .ref 88), (1, .int (nI i)), (2, .int bits)] from rfl) kK) ?_
            refine xe_loc (L' := [(6, .int (nI 0)), (5, .int (nI (o + lk))), (4, .int (nI f)), (3, .int (nI dd)), (0, .ref 88), (1, .int (nI i)), (2, .int bits)]) (by simp) ?_
            refine l_X8_tskip (dep + 2) hC hb hi (pa.1 - lk) lk rfl hlk2 ?_
            have hsg : seg s pa wn (ITk s pa wn k) x f lk = [] := by unfold seg; rw [if_neg (fun z9 => by rw [h193] at z9; cases z9.1)]
            refine xe (fun _ _ kK => x_iload dX8_text_276 1 rfl kK) ?_
            refine xe (fun _ _ kK => x_aload_n dX8_text_278 rfl 4 rfl kK) ?_
            refine xe (fun _ _ kK => x_get dX8_text_279 fl_X8_74 hC.1.1 (gvl_r1 fz_8_32.2.2 (show e_r T 544 88 = some 102 from (hC.1.2.1 32))) kK) ?_
            refine xe (fun _ _ kK => x_iload_n dX8_text_282 rfl 5 rfl kK) ?_
            refine xe (fun _ _ kK => x_iconst dX8_text_283 (show _ = nI 1 by decide) kK) ?_
            refine xe (fun _ _ kK => x_iadd dX8_text_284 kK) ?_
            refine xe_ti (show _ = nI (i + 1) from nI_add i 1) ?_
            refine xe (fun _ _ kK => x_iald dX8_text_285 (hC.1.2.2.1 13 (by decide)) (show (nI (i + 1)) = nI (i + 1) from rfl) (mi_len hC.1 13 (by decide) (show i + 1 < 31 by omega)) (show e_ai T 102 (i + 1) = nI (o + pa.1) from hC.2.2.2.1) kK) ?_
            refine xe (fun _ _ kK => x_icmp_neF (tgt := 316) dX8_text_286 (by decide) rfl kK) ?_
            refine xe (fun _ _ kK => x_aload_n dX8_text_289 rfl 4 rfl kK) ?_
            refine xe (fun _ _ kK => x_get dX8_text_290 fl_X8_126 hC.1.1 (gvl_r1 fz_8_53.2.2 (show e_r T 565 88 = some 119 from (hC.1.2.1 53))) kK) ?_
            refine xe (fun _ _ kK => x_iload_n dX8_text_293 rfl 3 rfl kK) ?_
            refine xe (fun _ _ kK => x_dup2 dX8_text_294 rfl rfl kK) ?_
            refine xe (fun _ _ kK => x_iald dX8_text_295 (hC.1.2.2.1 30 (by decide)) (show (nI dd) = nI dd from rfl) (mi_len hC.1 30 (by decide) (show dd < 8 by omega)) (show e_ai T 119 dd = nI f from hFx.2.1) kK) ?_
            refine xe (fun _ _ kK => x_iconst dX8_text_296 (show _ = nI 1 by decide) kK) ?_
            refine xe (fun _ _ kK => x_iadd dX8_text_297 kK) ?_
            refine xe_ti (show _ = nI (f + 1) from nI_add f 1) ?_
            refine xe (fun _ _ kK => x_iast dX8_text_298 (hC.1.2.2.1 30 (by decide)) (show (nI dd) = nI dd from rfl) (mi_len hC.1 30 (by decide) (show dd < 8 by omega)) kK) ?_
            refine xe (fun _ _ kK => x_aload_n dX8_text_299 rfl 4 rfl kK) ?_
            refine xe (fun _ _ kK => x_get dX8_text_300 fl_X8_108 (wK_ai hC.1.1) (gvl_r1 fz_8_46.2.2 (show e_r (s_ai T 119 dd (nI (f + 1))) 558 88 = some 113 from (wr_ai (hC.1.2.1 46)))) kK) ?_
            refine xe (fun _ _ kK => x_iload_n dX8_text_303 rfl 3 rfl kK) ?_
            refine xe (fun _ _ kK => x_aload_n dX8_text_304 rfl 4 rfl kK) ?_
            refine xe (fun _ _ kK => x_get dX8_text_305 fl_X8_105 (wK_ai hC.1.1) (gvl_r1 fz_8_45.2.2 (show e_r (s_ai T 119 dd (nI (f + 1))) 557 88 = some 112 from (wr_ai (hC.1.2.1 45)))) kK) ?_
            refine xe (fun _ _ kK => x_iload_n dX8_text_308 rfl 3 rfl kK) ?_
            refine xe (fun _ _ kK => x_iald dX8_text_309 (wK_ai (hC.1.2.2.1 23 (by decide))) (show (nI dd) = nI dd from rfl) (wN_ai (mi_len hC.1 23 (by decide) (show dd < 8 by omega))) (show e_ai (s_ai T 119 dd (nI (f + 1))) 112 dd = nI (o + x) from (wai_ai (fun q => absurd q.1 (by decide)) hFx.1)) kK) ?_
            refine xe (fun _ _ kK => x_iconst dX8_text_310 (show _ = nI 1 by decide) kK) ?_
            refine xe (fun _ _ kK => x_iadd dX8_text_311 kK) ?_
            refine xe_ti (show _ = nI ((o + x) + 1) from nI_add (o + x) 1) ?_
            refine xe (fun _ _ kK => x_iast dX8_text_312 (wK_ai (hC.1.2.2.1 24 (by decide))) (show (nI dd) = nI dd from rfl) (wN_ai (mi_len hC.1 24 (by decide) (show dd < 8 by omega))) kK) ?_
            refine xe (fun _ _ kK => x_goto (tgt := 132) dX8_text_313 (by decide) kK) ?_
            have hF1 : FrM fsX asX T (s_ai (s_ai T 119 dd (nI (f + 1))) 113 dd (nI ((o + x) + 1))) := (FrM.sai (FrM.sai FrM.rf (by decide) _ _) (by decide) _ _)
            have hrs : (rsF s pa wn (ITk s pa wn k) x f lk) = (rsF s pa wn (ITk s pa wn k) x (f + 1) (x + 1)) := by rw [rsF_0 (by omega), rsF, if_pos hfs, hsg, List.nil_append]
            rw [hrs] at hlen hpop
            have hFx1 : Fx (s_ai (s_ai T 119 dd (nI (f + 1))) 113 dd (nI ((o + x) + 1))) dd o x (f + 1) (x + 1) := ⟨(wai_ai (fun q => absurd q.1 (by decide)) (wai_ai (fun q => absurd q.1 (by decide)) hFx.1)), by simp [q_i_i, q_i_ai, q_i_al, q_ai_ai, q_ai_i, q_ai_al, q_al_al, q_al_i, q_al_ai], by simp [q_i_i, q_i_ai, q_i_al, q_ai_ai, q_ai_i, q_ai_al, q_al_al, q_al_i, q_al_ai]; rw [Nat.add_assoc]⟩
            have hLo : FxLow T (s_ai (s_ai T 119 dd (nI (f + 1))) 113 dd (nI ((o + x) + 1))) dd := fun j hj => ⟨(wai_ai (fun q => absurd q.1 (by decide)) (wai_ai (fun q => absurd q.1 (by decide)) rfl)), (wai_ai (fun q => absurd q.1 (by decide)) (wai_ai (by omega) rfl)), (wai_ai (by omega) (wai_ai (fun q => absurd q.1 (by decide)) rfl))⟩
            exact xe_loc (by simp) (ihf (s.1 - (f + 1)) (by omega) (f + 1) rfl (by omega) (pa.1 - (x + 1)) (x + 1) (s_ai (s_ai T 119 dd (nI (f + 1))) 113 dd (nI ((o + x) + 1))) R rfl (by omega) (by omega) (hC.of hF1) hFx1 (⟨(wi_ai (wi_ai hX.1)), fun q9 c9 h9 => (wai_ai (fun q => absurd q.1 (by decide)) (wai_ai (fun q => absurd q.1 (by decide)) (hX.2 q9 c9 h9)))⟩) hlen (fun T9 h1 h2 h3 => hpop T9 (FrM.tr hF1 h1) (hLo.tr h2) h3))
          · -- pc 196
            have h193 := cv_b1 h193
            have hb1 : oB (s.2.2.1 f) := hB.2.2.1 f hfs
            have hb2 : oB (pa.2.1 x) := fun z hz => by have := (hok x hx).2 z hz; omega
            refine xe (fun _ _ kK => x_aload_n dX8_text_196 rfl 3 rfl kK) ?_
            refine xe (fun _ _ kK => x_get dX8_text_197 fl_X8_37 hC.1.1 (gvl_r1 fz_8_16.2.2 (show e_r T 528 88 = some 90 from (hC.1.2.1 16))) kK) ?_
            refine xe (fun _ _ kK => x_iload dX8_text_200 1 rfl kK) ?_
            refine xe (fun _ _ kK => x_iald dX8_text_202 (hC.1.2.2.1 1 (by decide)) (show (nI f) = nI f from rfl) (mi_len hC.1 1 (by decide) (show f < 80 by omega)) (show e_ai T 90 f = oI (s.2.2.1 f) from (hC.2.1.2.2.1 f hfs).1) kK) ?_
            refine xe (fun _ _ kK => x_aload_n dX8_text_203 rfl 3 rfl kK) ?_
            refine xe (fun _ _ kK => x_get dX8_text_204 fl_X8_77 hC.1.1 (gvl_r1 fz_8_33.2.2 (show e_r T 545 88 = some 103 from (hC.1.2.1 33))) kK) ?_
            refine xe (fun _ _ kK => x_aload_n dX8_text_207 rfl 3 rfl kK) ?_
            refine xe (fun _ _ kK => x_get dX8_text_208 fl_X8_105 hC.1.1 (gvl_r1 fz_8_45.2.2 (show e_r T 557 88 = some 112 from (hC.1.2.1 45))) kK) ?_
            refine xe (fun _ _ kK => x_iload_n dX8_text_211 rfl 2 rfl kK) ?_
            refine xe (fun _ _ kK => x_iald dX8_text_212 (hC.1.2.2.1 23 (by decide)) (show (nI dd) = nI dd from rfl) (mi_len hC.1 23 (by decide) (show dd < 8 by omega)) (show e_ai T 112 dd = nI (o + x) from hFx.1) kK) ?_
            refine xe (fun _ _ kK => x_iald dX8_text_213 (hC.1.2.2.1 14 (by decide)) (show (nI (o + x)) = nI (o + x) from rfl) (mi_len hC.1 14 (by decide) (show o + x < 6200 by omega)) (show e_ai T 103 (o + x) = oI (pa.2.1 x) from (hC.2.2.1 x hx).1) kK) ?_
            refine xe_icmp_ne (tgt := 221) dX8_text_214 (by decide) (fun h214 => ?_) (fun h214 => ?_)
            · -- pc 221
              have h214 := cv_oon (by assumption) (by assumption) h214
              refine xe (fun _ _ kK => x_iconst dX8_text_221 (show _ = nI 0 by decide) kK) ?_
              refine xe (fun _ _ kK => x_istore dX8_text_222 (by decide) (show _ = [(6, .int (nI 0)), (5, .int (nI (o + lk))), (4, .int (nI f)), (3, .int (nI dd)), (0, .ref 88), (1, .int (nI i)), (2, .int bits)] from rfl) kK) ?_
              refine xe_loc (L' := [(6, .int (nI 0)), (5, .int (nI (o + lk))), (4, .int (nI f)), (3, .int (nI dd)), (0, .ref 88), (1, .int (nI i)), (2, .int bits)]) (by simp) ?_
              refine l_X8_tskip (dep + 2) hC hb hi (pa.1 - lk) lk rfl hlk2 ?_
              have hsg : seg s pa wn (ITk s pa wn k) x f lk = [] := by unfold seg; rw [if_neg (fun z9 => h214 z9.2)]
              refine xe (fun _ _ kK => x_iload dX8_text_276 1 rfl kK) ?_
              refine xe (fun _ _ kK => x_aload_n dX8_text_278 rfl 4 rfl kK) ?_
              refine xe (fun _ _ kK => x_get dX8_text_279 fl_X8_74 hC.1.1 (gvl_r1 fz_8_32.2.2 (show e_r T 544 88 = some 102 from (hC.1.2.1 32))) kK) ?_
              refine xe (fun _ _ kK => x_iload_n dX8_text_282 rfl 5 rfl kK) ?_
              refine xe (fun _ _ kK => x_iconst dX8_text_283 (show _ = nI 1 by decide) kK) ?_
              refine xe (fun _ _ kK => x_iadd dX8_text_284 kK) ?_
              refine xe_ti (show _ = nI (i + 1) from nI_add i 1) ?_
              refine xe (fun _ _ kK => x_iald dX8_text_285 (hC.1.2.2.1 13 (by decide)) (show (nI (i + 1)) = nI (i + 1) from rfl) (mi_len hC.1 13 (by decide) (show i + 1 < 31 by omega)) (show e_ai T 102 (i + 1) = nI (o + pa.1) from hC.2.2.2.1) kK) ?_
              refine xe (fun _ _ kK => x_icmp_neF (tgt := 316) dX8_text_286 (by decide) rfl kK) ?_
              refine xe (fun _ _ kK => x_aload_n dX8_text_289 rfl 4 rfl kK) ?_
              refine xe (fun _ _ kK => x_get dX8_text_290 fl_X8_126 hC.1.1 (gvl_r1 fz_8_53.2.2 (show e_r T 565 88 = some 119 from (hC.1.2.1 53))) kK) ?_
              refine xe (fun _ _ kK => x_iload_n dX8_text_293 rfl 3 rfl kK) ?_
              refine xe (fun _ _ kK => x_dup2 dX8_text_294 rfl rfl kK) ?_
              refine xe (fun _ _ kK => x_iald dX8_text_295 (hC.1.2.2.1 30 (by decide)) (show (nI dd) = nI dd from rfl) (mi_len hC.1 30 (by decide) (show dd < 8 by omega)) (show e_ai T 119 dd = nI f from hFx.2.1) kK) ?_
              refine xe (fun _ _ kK => x_iconst dX8_text_296 (show _ = nI 1 by decide) kK) ?_
              refine xe (fun _ _ kK => x_iadd dX8_text_297 kK) ?_
              refine xe_ti (show _ = nI (f + 1) from nI_add f 1) ?_
              refine xe (fun _ _ kK => x_iast dX8_text_298 (hC.1.2.2.1 30 (by decide)) (show (nI dd) = nI dd from rfl) (mi_len hC.1 30 (by decide) (show dd < 8 by omega)) kK) ?_
              refine xe (fun _ _ kK => x_aload_n dX8_text_299 rfl 4 rfl kK) ?_
              refine xe (fun _ _ kK => x_get dX8_text_300 fl_X8_108 (wK_ai hC.1.1) (gvl_r1 fz_8_46.2.2 (show e_r (s_ai T 119 dd (nI (f + 1))) 558 88 = some 113 from (wr_ai (hC.1.2.1 46)))) kK) ?_
              refine xe (fun _ _ kK => x_iload_n dX8_text_303 rfl 3 rfl kK) ?_
              refine xe (fun _ _ kK => x_aload_n dX8_text_304 rfl 4 rfl kK) ?_
              refine xe (fun _ _ kK => x_get dX8_text_305 fl_X8_105 (wK_ai hC.1.1) (gvl_r1 fz_8_45.2.2 (show e_r (s_ai T 119 dd (nI (f + 1))) 557 88 = some 112 from (wr_ai (hC.1.2.1 45)))) kK) ?_
              refine xe (fun _ _ kK => x_iload_n dX8_text_308 rfl 3 rfl kK) ?_
              refine xe (fun _ _ kK => x_iald dX8_text_309 (wK_ai (hC.1.2.2.1 23 (by decide))) (show (nI dd) = nI dd from rfl) (wN_ai (mi_len hC.1 23 (by decide) (show dd < 8 by omega))) (show e_ai (s_ai T 119 dd (nI (f + 1))) 112 dd = nI (o + x) from (wai_ai (fun q => absurd q.1 (by decide)) hFx.1)) kK) ?_
              refine xe (fun _ _ kK => x_iconst dX8_text_310 (show _ = nI 1 by decide) kK) ?_
              refine xe (fun _ _ kK => x_iadd dX8_text_311 kK) ?_
              refine xe_ti (show _ = nI ((o + x) + 1) from nI_add (o + x) 1) ?_
              refine xe (fun _ _ kK => x_iast dX8_text_312 (wK_ai (hC.1.2.2.1 24 (by decide))) (show (nI dd) = nI dd from rfl) (wN_ai (mi_len hC.1 24 (by decide) (show dd < 8 by omega))) kK) ?_
              refine xe (fun _ _ kK => x_goto (tgt := 132) dX8_text_313 (by decide) kK) ?_
              have hF1 : FrM fsX asX T (s_ai (s_ai T 119 dd (nI (f + 1))) 113 dd (nI ((o + x) + 1))) := (FrM.sai (FrM.sai FrM.rf (by decide) _ _) (by decide) _ _)
              have hrs : (rsF s pa wn (ITk s pa wn k) x f lk) = (rsF s pa wn (ITk s pa wn k) x (f + 1) (x + 1)) := by rw [rsF_0 (by omega), rsF, if_pos hfs, hsg, List.nil_append]
              rw [hrs] at hlen hpop
              have hFx1 : Fx (s_ai (s_ai T 119 dd (nI (f + 1))) 113 dd (nI ((o + x) + 1))) dd o x (f + 1) (x + 1) := ⟨(wai_ai (fun q => absurd q.1 (by decide)) (wai_ai (fun q => absurd q.1 (by decide)) hFx.1)), by simp [q_i_i, q_i_ai, q_i_al, q_ai_ai, q_ai_i, q_ai_al, q_al_al, q_al_i, q_al_ai], by simp [q_i_i, q_i_ai, q_i_al, q_ai_ai, q_ai_i, q_ai_al, q_al_al, q_al_i, q_al_ai]; rw [Nat.add_assoc]⟩
              have hLo : FxLow T (s_ai (s_ai T 119 dd (nI (f + 1))) 113 dd (nI ((o + x) + 1))) dd := fun j hj => ⟨(wai_ai (fun q => absurd q.1 (by decide)) (wai_ai (fun q => absurd q.1 (by decide)) rfl)), (wai_ai (fun q => absurd q.1 (by decide)) (wai_ai (by omega) rfl)), (wai_ai (by omega) (wai_ai (fun q => absurd q.1 (by decide)) rfl))⟩
              exact xe_loc (by simp) (ihf (s.1 - (f + 1)) (by omega) (f + 1) rfl (by omega) (pa.1 - (x + 1)) (x + 1) (s_ai (s_ai T 119 dd (nI (f + 1))) 113 dd (nI ((o + x) + 1))) R rfl (by omega) (by omega) (hC.of hF1) hFx1 (⟨(wi_ai (wi_ai hX.1)), fun q9 c9 h9 => (wai_ai (fun q => absurd q.1 (by decide)) (wai_ai (fun q => absurd q.1 (by decide)) (hX.2 q9 c9 h9)))⟩) hlen (fun T9 h1 h2 h3 => hpop T9 (FrM.tr hF1 h1) (hLo.tr h2) h3))
            · -- pc 217
              have h214 := cv_oo (by assumption) (by assumption) h214
              have hmay : wn f = true ∧ s.2.2.1 f = pa.2.1 x := ⟨h193, h214⟩
              refine xe (fun _ _ kK => x_iconst dX8_text_217 (show _ = nI 1 by decide) kK) ?_
              refine xe (fun _ _ kK => x_goto (tgt := 222) dX8_text_218 (by decide) kK) ?_
              refine xe (fun _ _ kK => x_istore dX8_text_222 (by decide) (show _ = [(6, .int (nI 1)), (5, .int (nI (o + lk))), (4, .int (nI f)), (3, .int (nI dd)), (0, .ref 88), (1, .int (nI i)), (2, .int bits)] from rfl) kK) ?_
              refine xe_loc (L' := [(6, .int (nI 1)), (5, .int (nI (o + lk))), (4, .int (nI f)), (3, .int (nI dd)), (0, .ref 88), (1, .int (nI i)), (2, .int bits)]) (by simp) ?_
              refine l_X8_tsearch (dep + 2) hC hok hs60 hb hi (by omega) (by omega) hx hFx.1 (pa.1 - lk) lk rfl hlk2 (fun hch => ?_) (fun y ys hch hy1 hy2 hys => ?_)
              · -- pc 224
                have hsg : seg s pa wn (ITk s pa wn k) x f lk = [] := by unfold seg; rw [if_pos hmay, hch]; rfl
                refine xe (fun _ _ kK => x_iload dX8_text_276 1 rfl kK) ?_
                refine xe (fun _ _ kK => x_aload_n dX8_text_278 rfl 4 rfl kK) ?_
                refine xe (fun _ _ kK => x_get dX8_text_279 fl_X8_74 hC.1.1 (gvl_r1 fz_8_32.2.2 (show e_r T 544 88 = some 102 from (hC.1.2.1 32))) kK) ?_
                refine xe (fun _ _ kK => x_iload_n dX8_text_282 rfl 5 rfl kK) ?_
                refine xe (fun _ _ kK => x_iconst dX8_text_283 (show _ = nI 1 by decide) kK) ?_
                refine xe (fun _ _ kK => x_iadd dX8_text_284 kK) ?_
                refine xe_ti (show _ = nI (i + 1) from nI_add i 1) ?_
                refine xe (fun _ _ kK => x_iald dX8_text_285 (hC.1.2.2.1 13 (by decide)) (show (nI (i + 1)) = nI (i + 1) from rfl) (mi_len hC.1 13 (by decide) (show i + 1 < 31 by omega)) (show e_ai T 102 (i + 1) = nI (o + pa.1) from hC.2.2.2.1) kK) ?_
                refine xe (fun _ _ kK => x_icmp_neF (tgt := 316) dX8_text_286 (by decide) rfl kK) ?_
                refine xe (fun _ _ kK => x_aload_n dX8_text_289 rfl 4 rfl kK) ?_
                refine xe (fun _ _ kK => x_get dX8_text_290 fl_X8_126 hC.1.1 (gvl_r1 fz_8_53.2.2 (show e_r T 565 88 = some 119 from (hC.1.2.1 53))) kK) ?_
                refine xe (fun _ _ kK => x_iload_n dX8_text_293 rfl 3 rfl kK) ?_
                refine xe (fun _ _ kK => x_dup2 dX8_text_294 rfl rfl kK) ?_
                refine xe (fun _ _ kK => x_iald dX8_text_295 (hC.1.2.2.1 30 (by decide)) (show (nI dd) = nI dd from rfl) (mi_len hC.1 30 (by decide) (show dd < 8 by omega)) (show e_ai T 119 dd = nI f from hFx.2.1) kK) ?_
                refine xe (fun _ _ kK => x_iconst dX8_text_296 (show _ = nI 1 by decide) kK) ?_
                refine xe (fun _ _ kK => x_iadd dX8_text_297 kK) ?_
                refine xe_ti (show _ = nI (f + 1) from nI_add f 1) ?_
                refine xe (fun _ _ kK => x_iast dX8_text_298 (hC.1.2.2.1 30 (by decide)) (show (nI dd) = nI dd from rfl) (mi_len hC.1 30 (by decide) (show dd < 8 by omega)) kK) ?_
                refine xe (fun _ _ kK => x_aload_n dX8_text_299 rfl 4 rfl kK) ?_
                refine xe (fun _ _ kK => x_get dX8_text_300 fl_X8_108 (wK_ai hC.1.1) (gvl_r1 fz_8_46.2.2 (show e_r (s_ai T 119 dd (nI (f + 1))) 558 88 = some 113 from (wr_ai (hC.1.2.1 46)))) kK) ?_
                refine xe (fun _ _ kK => x_iload_n dX8_text_303 rfl 3 rfl kK) ?_
                refine xe (fun _ _ kK => x_aload_n dX8_text_304 rfl 4 rfl kK) ?_
                refine xe (fun _ _ kK => x_get dX8_text_305 fl_X8_105 (wK_ai hC.1.1) (gvl_r1 fz_8_45.2.2 (show e_r (s_ai T 119 dd (nI (f + 1))) 557 88 = some 112 from (wr_ai (hC.1.2.1 45)))) kK) ?_
                refine xe (fun _ _ kK => x_iload_n dX8_text_308 rfl 3 rfl kK) ?_
                refine xe (fun _ _ kK => x_iald dX8_text_309 (wK_ai (hC.1.2.2.1 23 (by decide))) (show (nI dd) = nI dd from rfl) (wN_ai (mi_len hC.1 23 (by decide) (show dd < 8 by omega))) (show e_ai (s_ai T 119 dd (nI (f + 1))) 112 dd = nI (o + x) from (wai_ai (fun q => absurd q.1 (by decide)) hFx.1)) kK) ?_
                refine xe (fun _ _ kK => x_iconst dX8_text_310 (show _ = nI 1 by decide) kK) ?_
                refine xe (fun _ _ kK => x_iadd dX8_text_311 kK) ?_
                refine xe_ti (show _ = nI ((o + x) + 1) from nI_add (o + x) 1) ?_
                refine xe (fun _ _ kK => x_iast dX8_text_312 (wK_ai (hC.1.2.2.1 24 (by decide))) (show (nI dd) = nI dd from rfl) (wN_ai (mi_len hC.1 24 (by decide) (show dd < 8 by omega))) kK) ?_
                refine xe (fun _ _ kK => x_goto (tgt := 132) dX8_text_313 (by decide) kK) ?_
                have hF1 : FrM fsX asX T (s_ai (s_ai T 119 dd (nI (f + 1))) 113 dd (nI ((o + x) + 1))) := (FrM.sai (FrM.sai FrM.rf (by decide) _ _) (by decide) _ _)
                have hrs : (rsF s pa wn (ITk s pa wn k) x f lk) = (rsF s pa wn (ITk s pa wn k) x (f + 1) (x + 1)) := by rw [rsF_0 (by omega), rsF, if_pos hfs, hsg, List.nil_append]
                rw [hrs] at hlen hpop
                have hFx1 : Fx (s_ai (s_ai T 119 dd (nI (f + 1))) 113 dd (nI ((o + x) + 1))) dd o x (f + 1) (x + 1) := ⟨(wai_ai (fun q => absurd q.1 (by decide)) (wai_ai (fun q => absurd q.1 (by decide)) hFx.1)), by simp [q_i_i, q_i_ai, q_i_al, q_ai_ai, q_ai_i, q_ai_al, q_al_al, q_al_i, q_al_ai], by simp [q_i_i, q_i_ai, q_i_al, q_ai_ai, q_ai_i, q_ai_al, q_al_al, q_al_i, q_al_ai]; rw [Nat.add_assoc]⟩
                have hLo : FxLow T (s_ai (s_ai T 119 dd (nI (f + 1))) 113 dd (nI ((o + x) + 1))) dd := fun j hj => ⟨(wai_ai (fun q => absurd q.1 (by decide)) (wai_ai (fun q => absurd q.1 (by decide)) rfl)), (wai_ai (fun q => absurd q.1 (by decide)) (wai_ai (by omega) rfl)), (wai_ai (by omega) (wai_ai (fun q => absurd q.1 (by decide)) rfl))⟩
                exact xe_loc (by simp) (ihf (s.1 - (f + 1)) (by omega) (f + 1) rfl (by omega) (pa.1 - (x + 1)) (x + 1) (s_ai (s_ai T 119 dd (nI (f + 1))) 113 dd (nI ((o + x) + 1))) R rfl (by omega) (by omega) (hC.of hF1) hFx1 (⟨(wi_ai (wi_ai hX.1)), fun q9 c9 h9 => (wai_ai (fun q => absurd q.1 (by decide)) (wai_ai (fun q => absurd q.1 (by decide)) (hX.2 q9 c9 h9)))⟩) hlen (fun T9 h1 h2 h3 => hpop T9 (FrM.tr hF1 h1) (hLo.tr h2) h3))
              · -- pc 224
                refine xe (fun _ _ kK => x_iload dX8_text_276 1 rfl kK) ?_
                refine xe (fun _ _ kK => x_aload_n dX8_text_278 rfl 4 rfl kK) ?_
                refine xe (fun _ _ kK => x_get dX8_text_279 fl_X8_74 hC.1.1 (gvl_r1 fz_8_32.2.2 (show e_r T 544 88 = some 102 from (hC.1.2.1 32))) kK) ?_
                refine xe (fun _ _ kK => x_iload_n dX8_text_282 rfl 5 rfl kK) ?_
                refine xe (fun _ _ kK => x_iconst dX8_text_283 (show _ = nI 1 by decide) kK) ?_
                refine xe (fun _ _ kK => x_iadd dX8_text_284 kK) ?_
                refine xe_ti (show _ = nI (i + 1) from nI_add i 1) ?_
                refine xe (fun _ _ kK => x_iald dX8_text_285 (hC.1.2.2.1 13 (by decide)) (show (nI (i + 1)) = nI (i + 1) from rfl) (mi_len hC.1 13 (by decide) (show i + 1 < 31 by omega)) (show e_ai T 102 (i + 1) = nI (o + pa.1) from hC.2.2.2.1) kK) ?_
                refine xe (fun _ _ kK => x_icmp_neT (tgt := 316) dX8_text_286 (by decide) (fun z9 => by have := cv_eq (by omega) (by omega) z9; omega) kK) ?_
                refine xe (fun _ _ kK => x_aload_n dX8_text_316 rfl 4 rfl kK) ?_
                refine xe (fun _ _ kK => x_get dX8_text_317 fl_X8_108 hC.1.1 (gvl_r1 fz_8_46.2.2 (show e_r T 558 88 = some 113 from (hC.1.2.1 46))) kK) ?_
                refine xe (fun _ _ kK => x_iload_n dX8_text_320 rfl 3 rfl kK) ?_
                refine xe (fun _ _ kK => x_iload dX8_text_321 1 rfl kK) ?_
                refine xe (fun _ _ kK => x_iconst dX8_text_323 (show _ = nI 1 by decide) kK) ?_
                refine xe (fun _ _ kK => x_iadd dX8_text_324 kK) ?_
                refine xe_ti (show _ = nI ((o + y) + 1) from nI_add (o + y) 1) ?_
                refine xe (fun _ _ kK => x_iast dX8_text_325 (hC.1.2.2.1 24 (by decide)) (show (nI dd) = nI dd from rfl) (mi_len hC.1 24 (by decide) (show dd < 8 by omega)) kK) ?_
                refine xe (fun _ _ kK => x_aload_n dX8_text_326 rfl 4 rfl kK) ?_
                refine xe (fun _ _ kK => x_aload_n dX8_text_327 rfl 4 rfl kK) ?_
                refine xe (fun _ _ kK => x_get dX8_text_328 fl_X8_40 (wK_ai hC.1.1) (gvl_r1 fz_8_17.2.2 (show e_r (s_ai T 113 dd (nI ((o + y) + 1))) 529 88 = some 91 from (wr_ai (hC.1.2.1 17)))) kK) ?_
                refine xe (fun _ _ kK => x_iload dX8_text_331 2 rfl kK) ?_
                refine xe (fun _ _ kK => x_lald dX8_text_333 (wK_ai (hC.1.2.2.1 2 (by decide))) (show (nI f) = nI f from rfl) (wN_ai (mi_len hC.1 2 (by decide) (show f < 80 by omega))) (show e_al (s_ai T 113 dd (nI ((o + y) + 1))) 91 f = lN (s.2.2.2.1 f) from (wal_ai (hC.2.1.2.2.1 f hfs).2.1)) kK) ?_
                obtain ⟨hyp, hyf⟩ := ch_sp hch
                have hrs : (rsF s pa wn (ITk s pa wn k) x f lk) = ITk s pa wn k f y ++ (rsF s pa wn (ITk s pa wn k) x f (y + 1)) := by unfold rsF; rw [if_pos hfs, if_pos hfs]; unfold seg; rw [if_pos hmay, if_pos hmay, hch, hys, List.flatMap_cons, List.append_assoc]
                rw [hrs] at hlen hpop
                rw [List.length_append] at hlen
                have hF0 : FrM fsX asX T (s_ai T 113 dd (nI ((o + y) + 1))) := (FrM.sai FrM.rf (by decide) _ _)
                have hX0 : TXs (s_ai T 113 dd (nI ((o + y) + 1))) R := ⟨(wi_ai hX.1), fun q9 c9 h9 => (wai_ai (fun q => absurd q.1 (by decide)) (hX.2 q9 c9 h9))⟩
                have hC0 := hC.of hF0
                have hFx0 : Fx (s_ai T 113 dd (nI ((o + y) + 1))) dd o x f (y + 1) := ⟨(wai_ai (fun q => absurd q.1 (by decide)) hFx.1), (wai_ai (fun q => absurd q.1 (by decide)) hFx.2.1), by simp [q_i_i, q_i_ai, q_i_al, q_ai_ai, q_ai_i, q_ai_al, q_al_al, q_al_i, q_al_ai]; rw [Nat.add_assoc]⟩
                have hLo0 : FxLow T (s_ai T 113 dd (nI ((o + y) + 1))) dd := fun j hj => ⟨(wai_ai (fun q => absurd q.1 (by decide)) rfl), (wai_ai (fun q => absurd q.1 (by decide)) rfl), (wai_ai (by omega) rfl)⟩
                have hN8 := hB.2.1 f hfs
                have hit : ITk s pa wn k f y = itm s pa f y (txN s pa wn k y) := rfl
                rw [hit] at hlen hpop
                unfold itm at hlen hpop
                have hKf := (hB.2.2.2 f hfs).1
                generalize hT0 : (s_ai T 113 dd (nI ((o + y) + 1))) = T0 at hF0 hX0 hC0 hFx0 hLo0 ⊢
                refine xe_callV (a := 88) [.long (lN (s.2.2.2.1 f))] dX8_text_334 ml_X8_307 mf_X8_laysWord hC0.1.1 (c_X8_laysWord dep (R := R) hC0.1 hX0 hN8 (by simp only [List.length_append] at hlen; omega)) rfl rfl (Nat.le_of_ble_eq_true rfl) (Nat.le_of_ble_eq_true rfl) ?_
                rintro _ T1 ⟨rfl, hF1, hX1⟩
                have hG1 : FrM fsX asX T0 T1 := hF1.mono (by decide) (by decide)
                have hC1 := hC0.of hG1
                have hFx1 := hFx0.x hF1
                have hLo1 : FxLow T T1 dd := hLo0.tr (FxLow.x hF1)
                have hA1 : FrM fsX asX T T1 := FrM.tr hF0 hG1
                refine xe (fun _ _ kK => x_aload_n dX8_text_337 rfl 4 rfl kK) ?_
                refine xe (fun _ _ kK => x_bipush dX8_text_338 (show _ = nI 58 by decide) kK) ?_
                refine xe_callV (a := 88) [.int (nI 58)] dX8_text_340 ml_X8_304 mf_X8_lays hC1.1.1 (c_X8_lays (dep + 1) hC1.1 hX1 (by simp only [List.length_append, List.length_cons] at hlen ⊢; omega) 58) rfl rfl (Nat.le_of_ble_eq_true rfl) (Nat.le_of_ble_eq_true rfl) ?_
                rintro _ T2 ⟨rfl, hF2, hX2⟩
                have hG2 : FrM fsX asX T1 T2 := hF2.mono (by decide) (by decide)
                have hC2 := hC1.of hG2
                have hFx2 := hFx1.x hF2
                have hLo2 : FxLow T T2 dd := hLo1.tr (FxLow.x hF2)
                have hA2 : FrM fsX asX T T2 := FrM.tr hA1 hG2
                refine xe (fun _ _ kK => x_aload_n dX8_text_343 rfl 4 rfl kK) ?_
                refine xe (fun _ _ kK => x_get dX8_text_344 fl_X8_44 hC2.1.1 (gvl_r1 fz_8_18.2.2 (show e_r T2 530 88 = some 92 from (hC2.1.2.1 18))) kK) ?_
                refine xe (fun _ _ kK => x_iload dX8_text_347 2 rfl kK) ?_
                refine xe (fun _ _ kK => x_iald dX8_text_349 (hC2.1.2.2.1 3 (by decide)) (show (nI f) = nI f from rfl) (mi_len hC2.1 3 (by decide) (show f < 80 by omega)) (show e_ai T2 92 f = nI (s.2.2.2.2.1 f) from (hC2.2.1.2.2.1 f hfs).2.2.1) kK) ?_
                refine xe (fun _ _ kK => x_iconst dX8_text_350 (show _ = nI 2 by decide) kK) ?_
                refine xe_icmp_ne (tgt := 391) dX8_text_351 (by decide) (fun h351 => ?_) (fun h351 => ?_)
                · -- pc 391
                  have h351 := cv_ne (by omega) (by omega) h351
                  rw [if_neg h351] at hlen hpop
                  refine xe (fun _ _ kK => x_aload_n dX8_text_391 rfl 4 rfl kK) ?_
                  refine xe (fun _ _ kK => x_get dX8_text_392 fl_X8_44 hC2.1.1 (gvl_r1 fz_8_18.2.2 (show e_r T2 530 88 = some 92 from (hC2.1.2.1 18))) kK) ?_
                  refine xe (fun _ _ kK => x_iload dX8_text_395 2 rfl kK) ?_
                  refine xe (fun _ _ kK => x_iald dX8_text_397 (hC2.1.2.2.1 3 (by decide)) (show (nI f) = nI f from rfl) (mi_len hC2.1 3 (by decide) (show f < 80 by omega)) (show e_ai T2 92 f = nI (s.2.2.2.2.1 f) from (hC2.2.1.2.2.1 f hfs).2.2.1) kK) ?_
                  refine xe_if_ne (tgt := 415) dX8_text_398 (by decide) (fun h398 => ?_) (fun h398 => ?_)
                  · -- pc 415
                    have h398 := cv_nz (by omega) h398
                    obtain ⟨w, hw, hwv⟩ := (hV y hy2 f hyf).2 (by omega)
                    have hvt : vtx (s.2.2.2.2.1 f) (pa.2.2.2 y) = wtx w := by unfold vtx; rw [if_neg h398, hwv, lN_na (Nat.lt_trans hw (by decide))]
                    rw [hvt] at hlen hpop
                    refine xe (fun _ _ kK => x_aload_n dX8_text_415 rfl 4 rfl kK) ?_
                    refine xe (fun _ _ kK => x_aload_n dX8_text_416 rfl 4 rfl kK) ?_
                    refine xe (fun _ _ kK => x_get dX8_text_417 fl_X8_83 hC2.1.1 (gvl_r1 fz_8_35.2.2 (show e_r T2 547 88 = some 105 from (hC2.1.2.1 35))) kK) ?_
                    refine xe (fun _ _ kK => x_iload dX8_text_420 1 rfl kK) ?_
                    refine xe (fun _ _ kK => x_lald dX8_text_422 (hC2.1.2.2.1 16 (by decide)) (show (nI (o + y)) = nI (o + y) from rfl) (mi_len hC2.1 16 (by decide) (show o + y < 6200 by omega)) (show e_al T2 105 (o + y) = pa.2.2.2 y from (hC2.2.2.1 y hy2).2.2) kK) ?_
                    refine xe_tl hwv ?_
                    refine xe_callV (a := 88) [.long (lN w)] dX8_text_423 ml_X8_307 mf_X8_laysWord hC2.1.1 (c_X8_laysWord dep hC2.1 hX2 hw (by simp only [List.length_append, List.length_cons] at hlen ⊢; omega)) rfl rfl (Nat.le_of_ble_eq_true rfl) (Nat.le_of_ble_eq_true rfl) ?_
                    rintro _ T3 ⟨rfl, hF3, hX3⟩
                    have hG3 : FrM fsX asX T2 T3 := hF3.mono (by decide) (by decide)
                    have hC3 := hC2.of hG3
                    have hFx3 := hFx2.x hF3
                    have hLo3 : FxLow T T3 dd := hLo2.tr (FxLow.x hF3)
                    have hA3 : FrM fsX asX T T3 := FrM.tr hA2 hG3
                    refine xe (fun _ _ kK => x_aload_n dX8_text_426 rfl 4 rfl kK) ?_
                    refine xe (fun _ _ kK => x_bipush dX8_text_427 (show _ = nI 59 by decide) kK) ?_
                    refine xe_callV (a := 88) [.int (nI 59)] dX8_text_429 ml_X8_304 mf_X8_lays hC3.1.1 (c_X8_lays (dep + 1) hC3.1 hX3 (by simp only [List.length_append, List.length_cons] at hlen ⊢; omega) 59) rfl rfl (Nat.le_of_ble_eq_true rfl) (Nat.le_of_ble_eq_true rfl) ?_
                    rintro _ T4 ⟨rfl, hF4, hX4⟩
                    have hG4 : FrM fsX asX T3 T4 := hF4.mono (by decide) (by decide)
                    have hC4 := hC3.of hG4
                    have hFx4 := hFx3.x hF4
                    have hLo4 : FxLow T T4 dd := hLo3.tr (FxLow.x hF4)
                    have hA4 : FrM fsX asX T T4 := FrM.tr hA3 hG4
                    refine xe (fun _ _ kK => x_goto (tgt := 132) dX8_text_432 (by decide) kK) ?_
                    refine xe_loc (by simp) (ih (pa.1 - (y + 1)) (by omega) (y + 1) T4 _ rfl (by omega) (by omega) hC4 hFx4 hX4 (by simp only [List.length_append, List.length_cons] at hlen ⊢; omega) (fun T9 h1 h2 h3 => hpop T9 (FrM.tr hA4 h1) (hLo4.tr h2) (by simp only [List.append_assoc] at h3 ⊢; exact h3)))
                  · -- pc 401
                    have h398 := cv_z (by omega) h398
                    obtain ⟨w, hw, hwv⟩ := (hV y hy2 f hyf).1 h398
                    refine xe (fun _ _ kK => x_aload_n dX8_text_401 rfl 4 rfl kK) ?_
                    refine xe (fun _ _ kK => x_aload_n dX8_text_402 rfl 4 rfl kK) ?_
                    refine xe (fun _ _ kK => x_get dX8_text_403 fl_X8_83 hC2.1.1 (gvl_r1 fz_8_35.2.2 (show e_r T2 547 88 = some 105 from (hC2.1.2.1 35))) kK) ?_
                    refine xe (fun _ _ kK => x_iload dX8_text_406 1 rfl kK) ?_
                    refine xe (fun _ _ kK => x_lald dX8_text_408 (hC2.1.2.2.1 16 (by decide)) (show (nI (o + y)) = nI (o + y) from rfl) (mi_len hC2.1 16 (by decide) (show o + y < 6200 by omega)) (show e_al T2 105 (o + y) = pa.2.2.2 y from (hC2.2.2.1 y hy2).2.2) kK) ?_
                    rcases hwv with hwv | ⟨hwv, hv0⟩
                    · -- pc 409
                      have hw63 : w < 2 ^ 63 := Nat.lt_trans hw (by decide)
                      have hv0 : ¬ pa.2.2.2 y < 0 := by rw [hwv]; exact lN_nn hw63
                      have hvt : vtx (s.2.2.2.2.1 f) (pa.2.2.2 y) = ntx w := by unfold vtx; rw [if_pos h398]; unfold ntv; rw [if_neg hv0, hwv, lN_na hw63]; rfl
                      rw [hvt] at hlen hpop
                      refine xe_callV (a := 88) [.long (pa.2.2.2 y)] dX8_text_409 ml_X8_311 mf_X8_laysNumber hC2.1.1 (c_X8_laysNumberP dep hC2.1 hX2 hw hwv hv0 (by simp only [List.length_append, List.length_cons] at hlen ⊢; omega)) rfl rfl (Nat.le_of_ble_eq_true rfl) (Nat.le_of_ble_eq_true rfl) ?_
                      rintro _ T3 ⟨rfl, hF3, hX3⟩
                      have hG3 : FrM fsX asX T2 T3 := hF3.mono (by decide) (by decide)
                      have hC3 := hC2.of hG3
                      have hFx3 := hFx2.x hF3
                      have hLo3 : FxLow T T3 dd := hLo2.tr (FxLow.x hF3)
                      have hA3 : FrM fsX asX T T3 := FrM.tr hA2 hG3
                      refine xe (fun _ _ kK => x_goto (tgt := 426) dX8_text_412 (by decide) kK) ?_
                      refine xe (fun _ _ kK => x_aload_n dX8_text_426 rfl 4 rfl kK) ?_
                      refine xe (fun _ _ kK => x_bipush dX8_text_427 (show _ = nI 59 by decide) kK) ?_
                      refine xe_callV (a := 88) [.int (nI 59)] dX8_text_429 ml_X8_304 mf_X8_lays hC3.1.1 (c_X8_lays (dep + 1) hC3.1 hX3 (by simp only [List.length_append, List.length_cons] at hlen ⊢; omega) 59) rfl rfl (Nat.le_of_ble_eq_true rfl) (Nat.le_of_ble_eq_true rfl) ?_
                      rintro _ T4 ⟨rfl, hF4, hX4⟩
                      have hG4 : FrM fsX asX T3 T4 := hF4.mono (by decide) (by decide)
                      have hC4 := hC3.of hG4
                      have hFx4 := hFx3.x hF4
                      have hLo4 : FxLow T T4 dd := hLo3.tr (FxLow.x hF4)
                      have hA4 : FrM fsX asX T T4 := FrM.tr hA3 hG4
                      refine xe (fun _ _ kK => x_goto (tgt := 132) dX8_text_432 (by decide) kK) ?_
                      refine xe_loc (by simp) (ih (pa.1 - (y + 1)) (by omega) (y + 1) T4 _ rfl (by omega) (by omega) hC4 hFx4 hX4 (by simp only [List.length_append, List.length_cons] at hlen ⊢; omega) (fun T9 h1 h2 h3 => hpop T9 (FrM.tr hA4 h1) (hLo4.tr h2) (by simp only [List.append_assoc] at h3 ⊢; exact h3)))
                    · -- pc 409
                      have hvt : vtx (s.2.2.2.2.1 f) (pa.2.2.2 y) = 45 :: ntx w := by unfold vtx; rw [if_pos h398]; unfold ntv; rw [if_pos hv0, neg_na (Nat.lt_trans hw (by decide)) hwv hv0]; rfl
                      rw [hvt] at hlen hpop
                      refine xe_callV (a := 88) [.long (pa.2.2.2 y)] dX8_text_409 ml_X8_311 mf_X8_laysNumber hC2.1.1 (c_X8_laysNumberM dep hC2.1 hX2 hw hwv hv0 (by simp only [List.length_append, List.length_cons] at hlen ⊢; omega)) rfl rfl (Nat.le_of_ble_eq_true rfl) (Nat.le_of_ble_eq_true rfl) ?_
                      rintro _ T3 ⟨rfl, hF3, hX3⟩
                      have hG3 : FrM fsX asX T2 T3 := hF3.mono (by decide) (by decide)
                      have hC3 := hC2.of hG3
                      have hFx3 := hFx2.x hF3
                      have hLo3 : FxLow T T3 dd := hLo2.tr (FxLow.x hF3)
                      have hA3 : FrM fsX asX T T3 := FrM.tr hA2 hG3
                      refine xe (fun _ _ kK => x_goto (tgt := 426) dX8_text_412 (by decide) kK) ?_
                      refine xe (fun _ _ kK => x_aload_n dX8_text_426 rfl 4 rfl kK) ?_
                      refine xe (fun _ _ kK => x_bipush dX8_text_427 (show _ = nI 59 by decide) kK) ?_
                      refine xe_callV (a := 88) [.int (nI 59)] dX8_text_429 ml_X8_304 mf_X8_lays hC3.1.1 (c_X8_lays (dep + 1) hC3.1 hX3 (by simp only [List.length_append, List.length_cons] at hlen ⊢; omega) 59) rfl rfl (Nat.le_of_ble_eq_true rfl) (Nat.le_of_ble_eq_true rfl) ?_
                      rintro _ T4 ⟨rfl, hF4, hX4⟩
                      have hG4 : FrM fsX asX T3 T4 := hF4.mono (by decide) (by decide)
                      have hC4 := hC3.of hG4
                      have hFx4 := hFx3.x hF4
                      have hLo4 : FxLow T T4 dd := hLo3.tr (FxLow.x hF4)
                      have hA4 : FrM fsX asX T T4 := FrM.tr hA3 hG4
                      refine xe (fun _ _ kK => x_goto (tgt := 132) dX8_text_432 (by decide) kK) ?_
                      refine xe_loc (by simp) (ih (pa.1 - (y + 1)) (by omega) (y + 1) T4 _ rfl (by omega) (by omega) hC4 hFx4 hX4 (by simp only [List.length_append, List.length_cons] at hlen ⊢; omega) (fun T9 h1 h2 h3 => hpop T9 (FrM.tr hA4 h1) (hLo4.tr h2) (by simp only [List.append_assoc] at h3 ⊢; exact h3)))
                · -- pc 354
                  have h351 := cv_eq (by omega) (by omega) h351
                  rw [if_pos h351] at hlen hpop
                  have hdpf := hDx.fld hD hfs hmay.2
                  have hd3 := (hD f hfs).2.2 h351
                  cases k with
                  | zero => exact absurd hkd (by omega)
                  | succ k =>
                    have hin : txN s pa wn (k + 1) y = rsF s pa wn (ITk s pa wn k) y 0 (y + 1) := by rw [rsF_0 (Nat.zero_le _)]; rfl
                    rw [hin] at hlen hpop
                    refine xe (fun _ _ kK => x_aload_n dX8_text_354 rfl 4 rfl kK) ?_
                    refine xe (fun _ _ kK => x_bipush dX8_text_355 (show _ = nI 91 by decide) kK) ?_
                    refine xe_callV (a := 88) [.int (nI 91)] dX8_text_357 ml_X8_304 mf_X8_lays hC2.1.1 (c_X8_lays (dep + 1) hC2.1 hX2 (by simp only [List.length_append, List.length_cons] at hlen ⊢; omega) 91) rfl rfl (Nat.le_of_ble_eq_true rfl) (Nat.le_of_ble_eq_true rfl) ?_
                    rintro _ T3 ⟨rfl, hF3, hX3⟩
                    have hG3 : FrM fsX asX T2 T3 := hF3.mono (by decide) (by decide)
                    have hC3 := hC2.of hG3
                    have hFx3 := hFx2.x hF3
                    have hLo3 : FxLow T T3 dd := hLo2.tr (FxLow.x hF3)
                    have hA3 : FrM fsX asX T T3 := FrM.tr hA2 hG3
                    refine xe (fun _ _ kK => x_iinc dX8_text_360 3 rfl (show (nI dd) + Int32.ofInt 1 = nI (dd + 1) from nI_add dd 1) (by decide) (show _ = [(3, .int (nI (dd + 1))), (6, .int (nI 1)), (5, .int (nI (o + y))), (4, .int (nI f)), (0, .ref 88), (1, .int (nI i)), (2, .int bits)] from rfl) kK) ?_
                    refine xe (fun _ _ kK => x_aload_n dX8_text_363 rfl 4 rfl kK) ?_
                    refine xe (fun _ _ kK => x_get dX8_text_364 fl_X8_105 hC3.1.1 (gvl_r1 fz_8_45.2.2 (show e_r T3 557 88 = some 112 from (hC3.1.2.1 45))) kK) ?_
                    refine xe (fun _ _ kK => x_iload_n dX8_text_367 rfl 0 rfl kK) ?_
                    refine xe (fun _ _ kK => x_iload dX8_text_368 2 rfl kK) ?_
                    refine xe (fun _ _ kK => x_iast dX8_text_370 (hC3.1.2.2.1 23 (by decide)) (show (nI (dd + 1)) = nI (dd + 1) from rfl) (mi_len hC3.1 23 (by decide) (show dd + 1 < 8 by omega)) kK) ?_
                    refine xe (fun _ _ kK => x_aload_n dX8_text_371 rfl 4 rfl kK) ?_
                    refine xe (fun _ _ kK => x_get dX8_text_372 fl_X8_126 (wK_ai hC3.1.1) (gvl_r1 fz_8_53.2.2 (show e_r (s_ai T3 112 (dd + 1) (nI (o + y))) 565 88 = some 119 from (wr_ai (hC3.1.2.1 53)))) kK) ?_
                    refine xe (fun _ _ kK => x_iload_n dX8_text_375 rfl 0 rfl kK) ?_
                    refine xe (fun _ _ kK => x_iconst dX8_text_376 (show _ = nI 0 by decide) kK) ?_
                    refine xe (fun _ _ kK => x_iast dX8_text_377 (wK_ai (hC3.1.2.2.1 30 (by decide))) (show (nI (dd + 1)) = nI (dd + 1) from rfl) (wN_ai (mi_len hC3.1 30 (by decide) (show dd + 1 < 8 by omega))) kK) ?_
                    refine xe (fun _ _ kK => x_aload_n dX8_text_378 rfl 4 rfl kK) ?_
                    refine xe (fun _ _ kK => x_get dX8_text_379 fl_X8_108 (wK_ai (wK_ai hC3.1.1)) (gvl_r1 fz_8_46.2.2 (show e_r (s_ai (s_ai T3 112 (dd + 1) (nI (o + y))) 119 (dd + 1) (nI 0)) 558 88 = some 113 from (wr_ai (wr_ai (hC3.1.2.1 46))))) kK) ?_
                    refine xe (fun _ _ kK => x_iload_n dX8_text_382 rfl 0 rfl kK) ?_
                    refine xe (fun _ _ kK => x_iload dX8_text_383 2 rfl kK) ?_
                    refine xe (fun _ _ kK => x_iconst dX8_text_385 (show _ = nI 1 by decide) kK) ?_
                    refine xe (fun _ _ kK => x_iadd dX8_text_386 kK) ?_
                    refine xe_ti (show _ = nI ((o + y) + 1) from nI_add (o + y) 1) ?_
                    refine xe (fun _ _ kK => x_iast dX8_text_387 (wK_ai (wK_ai (hC3.1.2.2.1 24 (by decide)))) (show (nI (dd + 1)) = nI (dd + 1) from rfl) (wN_ai (wN_ai (mi_len hC3.1 24 (by decide) (show dd + 1 < 8 by omega)))) kK) ?_
                    refine xe (fun _ _ kK => x_goto (tgt := 132) dX8_text_388 (by decide) kK) ?_
                    have hG4 : FrM fsX asX T3 (s_ai (s_ai (s_ai T3 112 (dd + 1) (nI (o + y))) 119 (dd + 1) (nI 0)) 113 (dd + 1) (nI ((o + y) + 1))) := (FrM.sai (FrM.sai (FrM.sai FrM.rf (by decide) _ _) (by decide) _ _) (by decide) _ _)
                    have hFx4 : Fx (s_ai (s_ai (s_ai T3 112 (dd + 1) (nI (o + y))) 119 (dd + 1) (nI 0)) 113 (dd + 1) (nI ((o + y) + 1))) (dd + 1) o y 0 (y + 1) := ⟨by simp [q_i_i, q_i_ai, q_i_al, q_ai_ai, q_ai_i, q_ai_al, q_al_al, q_al_i, q_al_ai], by simp [q_i_i, q_i_ai, q_i_al, q_ai_ai, q_ai_i, q_ai_al, q_al_al, q_al_i, q_al_ai], by simp [q_i_i, q_i_ai, q_i_al, q_ai_ai, q_ai_i, q_ai_al, q_al_al, q_al_i, q_al_ai]; rw [Nat.add_assoc]⟩
                    have hLo4 : FxLow T3 (s_ai (s_ai (s_ai T3 112 (dd + 1) (nI (o + y))) 119 (dd + 1) (nI 0)) 113 (dd + 1) (nI ((o + y) + 1))) (dd + 1) := fun j hj => ⟨(wai_ai (fun q => absurd q.1 (by decide)) (wai_ai (fun q => absurd q.1 (by decide)) (wai_ai (by omega) rfl))), (wai_ai (fun q => absurd q.1 (by decide)) (wai_ai (by omega) (wai_ai (fun q => absurd q.1 (by decide)) rfl))), (wai_ai (by omega) (wai_ai (fun q => absurd q.1 (by decide)) (wai_ai (fun q => absurd q.1 (by decide)) rfl)))⟩
                    have hX4 : TXs (s_ai (s_ai (s_ai T3 112 (dd + 1) (nI (o + y))) 119 (dd + 1) (nI 0)) 113 (dd + 1) (nI ((o + y) + 1))) (R ++ wtx (s.2.2.2.1 f) ++ [58] ++ [91]) := ⟨(wi_ai (wi_ai (wi_ai hX3.1))), fun q9 c9 h9 => (wai_ai (fun q => absurd q.1 (by decide)) (wai_ai (fun q => absurd q.1 (by decide)) (wai_ai (fun q => absurd q.1 (by decide)) (hX3.2 q9 c9 h9))))⟩
                    have hC4 := hC3.of hG4
                    generalize hT4 : (s_ai (s_ai (s_ai T3 112 (dd + 1) (nI (o + y))) 119 (dd + 1) (nI 0)) 113 (dd + 1) (nI ((o + y) + 1))) = T4 at hG4 hX4 hC4 hFx4 hLo4 ⊢
                    refine xe_loc (by simp) (ihk0 k (Nat.lt_succ_self _) (dd + 1) y (by omega) hy2 (by unfold DpN; rw [hyf]; exact ⟨hfs, by omega⟩) s.1 0 rfl (Nat.zero_le _) (pa.1 - (y + 1)) (y + 1) T4 _ rfl (by omega) (by omega) hC4 hFx4 hX4 (by simp only [List.length_append, List.length_cons] at hlen ⊢; omega) (fun T5 hF5 hL5 hX5 => ?_))
                    refine xe_loc (L' := [(3, .int (nI dd)), (0, .ref 88), (1, .int (nI i)), (2, .int bits)]) (by rw [show nI (dd + 1) + Int32.ofInt (-1) = nI dd from pk_m1 dd]; simp) ?_
                    have hC5 := hC4.of hF5
                    have hA5 : FrM fsX asX T T5 := FrM.tr hA3 (FrM.tr hG4 hF5)
                    have hl5 := hL5 dd (Nat.lt_succ_self _)
                    have hl4 := hLo4 dd (Nat.lt_succ_self _)
                    have hFx5 : Fx T5 dd o x f (y + 1) := ⟨(hl5.1.trans hl4.1).trans hFx3.1, (hl5.2.1.trans hl4.2.1).trans hFx3.2.1, (hl5.2.2.trans hl4.2.2).trans hFx3.2.2⟩
                    have hLo5 : FxLow T T5 dd := hLo3.tr (FxLow.tr (fun j hj => hLo4 j (Nat.lt_succ_of_lt hj)) (fun j hj => hL5 j (Nat.lt_succ_of_lt hj)))
                    refine xe (fun _ _ kK => x_iload_n dX8_text_156 rfl 0 rfl kK) ?_
                    refine xe (fun _ _ kK => x_if_geT (tgt := 163) dX8_text_157 (by decide) (Int32.not_lt.mp (nI_pos (by omega))) kK) ?_
                    refine xe (fun _ _ kK => x_aload_n dX8_text_163 rfl 1 rfl kK) ?_
                    refine xe (fun _ _ kK => x_bipush dX8_text_164 (show _ = nI 93 by decide) kK) ?_
                    refine xe_callV (a := 88) [.int (nI 93)] dX8_text_166 ml_X8_304 mf_X8_lays hC5.1.1 (c_X8_lays (dep + 1) hC5.1 hX5 (by simp only [List.length_append, List.length_cons] at hlen ⊢; omega) 93) rfl rfl (Nat.le_of_ble_eq_true rfl) (Nat.le_of_ble_eq_true rfl) ?_
                    rintro _ T6 ⟨rfl, hF6, hX6⟩
                    have hG6 : FrM fsX asX T5 T6 := hF6.mono (by decide) (by decide)
                    have hC6 := hC5.of hG6
                    have hFx6 := hFx5.x hF6
                    have hLo6 : FxLow T T6 dd := hLo5.tr (FxLow.x hF6)
                    have hA6 : FrM fsX asX T T6 := FrM.tr hA5 hG6
                    refine xe (fun _ _ kK => x_aload_n dX8_text_169 rfl 1 rfl kK) ?_
                    refine xe (fun _ _ kK => x_bipush dX8_text_170 (show _ = nI 59 by decide) kK) ?_
                    refine xe_callV (a := 88) [.int (nI 59)] dX8_text_172 ml_X8_304 mf_X8_lays hC6.1.1 (c_X8_lays (dep + 1) hC6.1 hX6 (by simp only [List.length_append, List.length_cons] at hlen ⊢; omega) 59) rfl rfl (Nat.le_of_ble_eq_true rfl) (Nat.le_of_ble_eq_true rfl) ?_
                    rintro _ T7 ⟨rfl, hF7, hX7⟩
                    have hG7 : FrM fsX asX T6 T7 := hF7.mono (by decide) (by decide)
                    have hC7 := hC6.of hG7
                    have hFx7 := hFx6.x hF7
                    have hLo7 : FxLow T T7 dd := hLo6.tr (FxLow.x hF7)
                    have hA7 : FrM fsX asX T T7 := FrM.tr hA6 hG7
                    refine xe (fun _ _ kK => x_goto (tgt := 132) dX8_text_175 (by decide) kK) ?_
                    refine xe_loc (by simp) (ih (pa.1 - (y + 1)) (by omega) (y + 1) T7 _ rfl (by omega) (by omega) hC7 hFx7 hX7 (by simp only [List.length_append, List.length_cons] at hlen ⊢; omega) (fun T9 h1 h2 h3 => hpop T9 (FrM.tr hA7 h1) (hLo7.tr h2) (by simp only [List.append_assoc] at h3 ⊢; exact h3)))
        · -- pc 153
          have h150 := cv_eq (by omega) (by omega) h150
          have hfe : f = s.1 := by omega
          have hrs : (rsF s pa wn (ITk s pa wn k) x f lk) = [] := by unfold rsF; rw [if_neg (by omega)]
          rw [hrs, List.append_nil] at hpop
          refine xe (fun _ _ kK => x_iinc dX8_text_153 1 rfl rfl (by decide) (show _ = [(3, .int ((nI dd) + Int32.ofInt (-1))), (4, .int (nI f)), (0, .ref 88), (1, .int (nI i)), (2, .int bits)] from rfl) kK) ?_
          exact xe_loc (by simp) (hpop T FrM.rf FxLow.rf hX)
