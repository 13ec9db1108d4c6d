/-! ROWS of a leaf for a PAPER: level, told, whether there is a value, the value, the PAPER -/
abbrev Row : Type := Nat × Nat × Bool × Int64 × Nat
def chF (pa : Pa) (x f : Nat) : Nat → Nat → List Nat
  | 0, _ => []
  | k + 1, y => if pa.2.2.1 y = some x ∧ pa.2.1 y = some f then y :: chF pa x f k (y + 1) else chF pa x f k (y + 1)
/-- the parts f of node x, from lk on -/
def ch (pa : Pa) (x f lk : Nat) : List Nat := chF pa x f (pa.1 - lk) lk
theorem ch_end {pa : Pa} {x f lk : Nat} (h : pa.1 ≤ lk) : ch pa x f lk = [] := by unfold ch; rw [show pa.1 - lk = 0 by omega]; rfl
theorem ch_hit {pa : Pa} {x f lk : Nat} (h : lk < pa.1) (h1 : pa.2.2.1 lk = some x ∧ pa.2.1 lk = some f) : ch pa x f lk = lk :: ch pa x f (lk + 1) := by
  unfold ch; rw [show pa.1 - lk = (pa.1 - (lk + 1)) + 1 by omega, chF, if_pos h1]
theorem ch_miss {pa : Pa} {x f lk : Nat} (h : lk < pa.1) (h1 : ¬ (pa.2.2.1 lk = some x ∧ pa.2.1 lk = some f)) : ch pa x f lk = ch pa x f (lk + 1) := by
  unfold ch; rw [show pa.1 - lk = (pa.1 - (lk + 1)) + 1 by omega, chF, if_neg h1]
/-- what the parts ys give, each by body: the first with level lev if none was seen -/
def rst (body : Nat → Nat → List Row) (lack : Row) (lev ag sn : Nat) (ys : List Nat) : List Row :=
  if sn = 0 then (match ys with
    | [] => [lack]
    | y :: ys => body y lev ++ ys.flatMap (fun z => body z ag))
  else ys.flatMap (fun z => body z ag)
def rwG (M : Nat → Nat) (pa : Pa) (i : Nat) : List Nat → Nat → Nat → Nat → Nat → List Row
  | [], _, _, _, _ => []
  | f :: fs, x, t, lev, ag => rst (fun y lv => match fs with
      | [] => [(lv, t + (if M f = 0 then 0 else 1), true, pa.2.2.2 y, i)]
      | _ :: _ => rwG M pa i fs y (t + (if M f = 0 then 0 else 1)) lv (ag + (if M f = 2 then 1 else 0))) (lev, t, false, lN 0, i) lev (ag + (if M f = 2 then 1 else 0)) 0 (ch pa x f (x + 1))
def MRw (T : TH) (R : List Row) : Prop := e_i T 551 88 = nI R.length ∧ ∀ k r, R[k]? = some r → e_ai T 107 k = nI r.1 ∧ e_ai T 108 k = nI r.2.1 ∧ e_ai T 109 k = bI r.2.2.1 ∧ e_al T 110 k = r.2.2.2.1 ∧ e_ai T 111 k = nI r.2.2.2.2
theorem nar_bI (b : Bool) : vp_nar .boolean (bI b) = bI b := by cases b <;> rfl
theorem MRw_add {T T' : TH} {R : List Row} {r : Row} (h : MRw T R) (r0 : e_i T' 551 88 = nI (R.length + 1)) (r1 : ∀ j, e_ai T' 107 j = if j = R.length then nI r.1 else e_ai T 107 j) (r2 : ∀ j, e_ai T' 108 j = if j = R.length then nI r.2.1 else e_ai T 108 j) (r3 : ∀ j, e_ai T' 109 j = if j = R.length then bI r.2.2.1 else e_ai T 109 j) (r4 : ∀ j, e_al T' 110 j = if j = R.length then r.2.2.2.1 else e_al T 110 j) (r5 : ∀ j, e_ai T' 111 j = if j = R.length then nI r.2.2.2.2 else e_ai T 111 j) : MRw T' (R ++ [r]) := by
  refine ⟨by rw [List.length_append]; exact r0, fun k q hq => ?_⟩
  rw [r1, r2, r3, r4, r5]
  rcases Nat.lt_or_ge k R.length with z | z
  · rw [List.getElem?_append_left z] at hq
    have := h.2 k q hq
    simp only [show ¬ k = R.length by omega, if_false]
    exact this
  · rw [List.getElem?_append_right z] at hq
    have hz : k - R.length < 1 := (List.getElem?_eq_some_iff.mp hq).1
    have hk : k = R.length := by omega
    subst hk
    simp at hq
    subst hq
    simp
theorem MRw.of {T T' : TH} {R : List Row} (h : MRw T R) (r0 : e_i T' 551 88 = e_i T 551 88) (r1 : ∀ a, a ∈ [107, 108, 109, 111] → e_ai T' a = e_ai T a) (r4 : e_al T' 110 = e_al T 110) : MRw T' R :=
  ⟨r0.trans h.1, fun k r hk => by rw [r1 107 (by decide), r1 108 (by decide), r1 109 (by decide), r4, r1 111 (by decide)]; exact h.2 k r hk⟩
abbrev fsB : List Nat := [551]
abbrev asB : List Nat := [107, 108, 109, 110, 111, 112, 113, 114, 115, 116]
theorem RD.of {fs as : List Nat} {T T1 : TH} {r : List Nat} (h : RD T r) (hF : FrM fs as T T1) (h1 : 549 ∉ fs) (h2 : 106 ∉ as) : RD T1 r := ⟨(hF.i (fun q => h1 q.2)).trans h.1, fun k f hk => by rw [hF.ai h2]; exact h.2 k f hk⟩
theorem PN.ofF {fs as : List Nat} {T T1 : TH} {o : Nat} {pa : Pa} (h : PN T o pa) (hF : FrM fs as T T1) (h1 : 103 ∉ as) (h2 : 104 ∉ as) (h3 : 105 ∉ as) : PN T1 o pa := h.of (hF.ai h1) (hF.ai h2) (hF.al h3)
/-- the frame at depth d of the reference's walk -/
def Fm (T : TH) (d o x lk sn t lev : Nat) : Prop := e_ai T 112 d = nI (o + x) ∧ e_ai T 113 d = nI (o + lk) ∧ e_ai T 114 d = nI sn ∧ e_ai T 115 d = nI t ∧ e_ai T 116 d = nI lev
/-- the frames below d are the same -/
def FmLow (T T' : TH) (d : Nat) : Prop := ∀ j, j < d → ∀ a, a ∈ [112, 113, 114, 115, 116] → e_ai T' a j = e_ai T a j
theorem FmLow.tr {T T1 T2 : TH} {d : Nat} (h : FmLow T T1 d) (k : FmLow T1 T2 d) : FmLow T T2 d := fun j hj a ha => (k j hj a ha).trans (h j hj a ha)
theorem Fm.of {T T' : TH} {d o x lk sn t lev : Nat} (h : Fm T d o x lk sn t lev) (k : ∀ a, a ∈ [112, 113, 114, 115, 116] → e_ai T' a d = e_ai T a d) : Fm T' d o x lk sn t lev := ⟨(k 112 (by decide)).trans h.1, (k 113 (by decide)).trans h.2.1, (k 114 (by decide)).trans h.2.2.1, (k 115 (by decide)).trans h.2.2.2.1, (k 116 (by decide)).trans h.2.2.2.2⟩
/-- what stays while a PAPER's rows are laid -/
def TC (T : TH) (s : Sh) (r : List Nat) (o i : Nat) (pa : Pa) : Prop := MI T ∧ MSh T s ∧ RD T r ∧ PN T o pa ∧ e_ai T 102 (i + 1) = nI (o + pa.1)
theorem TC.of {T T1 : TH} {s : Sh} {r : List Nat} {o i : Nat} {pa : Pa} (h : TC T s r o i pa) (hF : FrM fsB asB T T1) : TC T1 s r o i pa :=
  ⟨hF.mi h.1, h.2.1.of hF (by decide) (by decide) (by decide), h.2.2.1.of hF (by decide) (by decide), h.2.2.2.1.ofF hF (by decide) (by decide) (by decide), by rw [hF.ai (by decide)]; exact h.2.2.2.2⟩

set_option maxHeartbeats 4000000 in
theorem l_X8_search (d : Nat) {T : TH} {s : Sh} {r : List Nat} {o i dd x f c : Nat} {pa : Pa} {P : Option Value → TH → Prop} (hC : TC T s r o i pa) (hok : PaOk s.1 pa) (hs : s.1 ≤ 60) (hb : o + pa.1 ≤ 6200) (hi : i < 30) (hd : dd < 8) (hf : r[dd]? = some f) (hf60 : f < 60) (hx : x < pa.1) (hin : e_ai T 112 dd = nI (o + x)) : ∀ (m lk : Nat), pa.1 - lk = m → lk ≤ pa.1 → (ch pa x f lk = [] → Xe m_X8_table d 98 [(4, .int (nI (o + pa.1))), (3, .int (nI dd)), (2, .int (nI i)), (0, .ref 88), (1, .int (nI c))] [] T P) → (∀ y ys, ch pa x f lk = y :: ys → lk ≤ y → y < pa.1 → ys = ch pa x f (y + 1) → Xe m_X8_table d 98 [(4, .int (nI (o + y))), (3, .int (nI dd)), (2, .int (nI i)), (0, .ref 88), (1, .int (nI c))] [] T P) → Xe m_X8_table d 47 [(4, .int (nI (o + lk))), (3, .int (nI dd)), (2, .int (nI i)), (0, .ref 88), (1, .int (nI c))] [] T P := by
  intro m
  induction m using Nat.strongRecOn with
  | ind m ih =>
    intro lk hm hlk0 hnone hsome
    subst hm
    refine xe (fun _ _ kK => x_iload dX8_table_47 0 rfl kK) ?_
    refine xe (fun _ _ kK => x_aload_n dX8_table_49 rfl 3 rfl kK) ?_
    refine xe (fun _ _ kK => x_get dX8_table_50 fl_X8_74 hC.1.1 (gvl_r1 fz_8_32.2.2 (show e_r T 544 88 = some 102 from (hC.1.2.1 32))) kK) ?_
    refine xe (fun _ _ kK => x_iload_n dX8_table_53 rfl 2 rfl kK) ?_
    refine xe (fun _ _ kK => x_iconst dX8_table_54 (show _ = nI 1 by decide) kK) ?_
    refine xe (fun _ _ kK => x_iadd dX8_table_55 kK) ?_
    refine xe_ti (show _ = nI (i + 1) from nI_add i 1) ?_
    refine xe (fun _ _ kK => x_iald dX8_table_56 (hC.1.2.2.1 13 (by decide)) (show (nI (i + 1)) = nI (i + 1) from rfl) (mi_len hC.1 13 (by decide) (show i + 1 < 31 by omega)) (show e_ai T 102 (i + 1) = nI (o + pa.1) from hC.2.2.2.2) kK) ?_
    refine xe_icmp_ge (tgt := 98) dX8_table_57 (by decide) (fun h57 => ?_) (fun h57 => ?_)
    · -- pc 98
      have h57 := cv_le (by omega) (by omega) h57
      have e9 : lk = pa.1 := by omega
      subst e9
      exact hnone (ch_end (Nat.le_refl _))
    · -- pc 60
      have h57 := cv_nle (by omega) (by omega) h57
      have hlk : lk < pa.1 := by omega
      refine xe (fun _ _ kK => x_aload_n dX8_table_60 rfl 3 rfl kK) ?_
      refine xe (fun _ _ kK => x_get dX8_table_61 fl_X8_80 hC.1.1 (gvl_r1 fz_8_34.2.2 (show e_r T 546 88 = some 104 from (hC.1.2.1 34))) kK) ?_
      refine xe (fun _ _ kK => x_iload dX8_table_64 0 rfl kK) ?_
      refine xe (fun _ _ kK => x_iald dX8_table_66 (hC.1.2.2.1 15 (by decide)) (show (nI (o + lk)) = nI (o + lk) from rfl) (mi_len hC.1 15 (by decide) (show o + lk < 6200 by omega)) (show e_ai T 104 (o + lk) = oI ((pa.2.2.1 lk).map (o + ·)) from (hC.2.2.2.1 lk hlk).2.1) kK) ?_
      refine xe (fun _ _ kK => x_aload_n dX8_table_67 rfl 3 rfl kK) ?_
      refine xe (fun _ _ kK => x_get dX8_table_68 fl_X8_105 hC.1.1 (gvl_r1 fz_8_45.2.2 (show e_r T 557 88 = some 112 from (hC.1.2.1 45))) kK) ?_
      refine xe (fun _ _ kK => x_iload_n dX8_table_71 rfl 1 rfl kK) ?_
      refine xe (fun _ _ kK => x_iald dX8_table_72 (hC.1.2.2.1 23 (by decide)) (show (nI dd) = nI dd from rfl) (mi_len hC.1 23 (by decide) (show dd < 8 by omega)) (show e_ai T 112 dd = nI (o + x) from hin) kK) ?_
      have hb1 : oB ((pa.2.2.1 lk).map (o + ·)) := fun z hz => by cases h7 : pa.2.2.1 lk with | none => (rw [h7] at hz; cases hz) | some y => (rw [h7] at hz; simp at hz; have := (hok lk hlk).1 y h7; omega)
      have hb2 : oB (pa.2.1 lk) := fun z hz => by have := (hok lk hlk).2 z hz; omega
      by_cases h73 : pa.2.2.1 lk = some x
      · -- pc 73
        refine xe (fun _ _ kK => x_icmp_neF (tgt := 92) dX8_table_73 (by decide) (show oI ((pa.2.2.1 lk).map (o + ·)) = nI (o + x) by rw [h73]; rfl) kK) ?_
        refine xe (fun _ _ kK => x_aload_n dX8_table_76 rfl 3 rfl kK) ?_
        refine xe (fun _ _ kK => x_get dX8_table_77 fl_X8_77 hC.1.1 (gvl_r1 fz_8_33.2.2 (show e_r T 545 88 = some 103 from (hC.1.2.1 33))) kK) ?_
        refine xe (fun _ _ kK => x_iload dX8_table_80 0 rfl kK) ?_
        refine xe (fun _ _ kK => x_iald dX8_table_82 (hC.1.2.2.1 14 (by decide)) (show (nI (o + lk)) = nI (o + lk) from rfl) (mi_len hC.1 14 (by decide) (show o + lk < 6200 by omega)) (show e_ai T 103 (o + lk) = oI (pa.2.1 lk) from (hC.2.2.2.1 lk hlk).1) kK) ?_
        refine xe (fun _ _ kK => x_aload_n dX8_table_83 rfl 3 rfl kK) ?_
        refine xe (fun _ _ kK => x_get dX8_table_84 fl_X8_86 hC.1.1 (gvl_r1 fz_8_38.2.2 (show e_r T 550 88 = some 106 from (hC.1.2.1 38))) kK) ?_
        refine xe (fun _ _ kK => x_iload_n dX8_table_87 rfl 1 rfl kK) ?_
        refine xe (fun _ _ kK => x_iald dX8_table_88 (hC.1.2.2.1 17 (by decide)) (show (nI dd) = nI dd from rfl) (mi_len hC.1 17 (by decide) (show dd < 8 by omega)) (show e_ai T 106 dd = nI f from (hC.2.2.1.2 dd f hf)) kK) ?_
        by_cases h89 : pa.2.1 lk = some f
        · -- pc 89
          refine xe (fun _ _ kK => x_icmp_eqT (tgt := 98) dX8_table_89 (by decide) (show oI (pa.2.1 lk) = nI f by rw [h89]; rfl) kK) ?_
          exact hsome lk _ (ch_hit hlk ⟨h73, h89⟩) (Nat.le_refl _) hlk rfl
        · -- pc 89
          refine xe (fun _ _ kK => x_icmp_eqF (tgt := 98) dX8_table_89 (by decide) (fun z => h89 (oI_some hb2 (by omega) z)) kK) ?_
          refine xe (fun _ _ kK => x_iinc dX8_table_92 0 rfl (show (nI (o + lk)) + Int32.ofInt 1 = nI ((o + lk) + 1) from nI_add (o + lk) 1) (by decide) (show _ = [(4, .int (nI ((o + lk) + 1))), (3, .int (nI dd)), (2, .int (nI i)), (0, .ref 88), (1, .int (nI c))] from rfl) kK) ?_
          refine xe (fun _ _ kK => x_goto (tgt := 47) dX8_table_95 (by decide) kK) ?_
          have hms := ch_miss (x := x) (f := f) hlk (fun z9 => h89 z9.2)
          refine xe_loc (by simp [Nat.add_assoc]) (ih (pa.1 - (lk + 1)) (by omega) (lk + 1) rfl (by omega) (fun h9 => hnone (hms.trans h9)) (fun y ys h9 h8 h7 h6 => hsome y ys (hms.trans h9) (by omega) h7 h6))
      · -- pc 73
        refine xe (fun _ _ kK => x_icmp_neT (tgt := 92) dX8_table_73 (by decide) (fun z => h73 (map_some (oI_some hb1 (by omega) z))) kK) ?_
        refine xe (fun _ _ kK => x_iinc dX8_table_92 0 rfl (show (nI (o + lk)) + Int32.ofInt 1 = nI ((o + lk) + 1) from nI_add (o + lk) 1) (by decide) (show _ = [(4, .int (nI ((o + lk) + 1))), (3, .int (nI dd)), (2, .int (nI i)), (0, .ref 88), (1, .int (nI c))] from rfl) kK) ?_
        refine xe (fun _ _ kK => x_goto (tgt := 47) dX8_table_95 (by decide) kK) ?_
        have hms := ch_miss (x := x) (f := f) hlk (fun z9 => h73 z9.1)
        refine xe_loc (by simp [Nat.add_assoc]) (ih (pa.1 - (lk + 1)) (by omega) (lk + 1) rfl (by omega) (fun h9 => hnone (hms.trans h9)) (fun y ys h9 h8 h7 h6 => hsome y ys (hms.trans h9) (by omega) h7 h6))
