theorem rst_cons (body : Nat → Nat → List Row) (lack : Row) (lev ag sn y : Nat) (ys : List Nat) : rst body lack lev ag sn (y :: ys) = body y (if sn = 0 then lev else ag) ++ rst body lack lev ag (sn + 1) ys := by
  unfold rst
  by_cases h : sn = 0
  · simp [h]
  · simp [h]
def bdy (M : Nat → Nat) (pa : Pa) (i f : Nat) (fs : List Nat) (t ag : Nat) : Nat → Nat → List Row := fun y lv => match fs with
  | [] => [(lv, t + (if M f = 0 then 0 else 1), true, pa.2.2.2 y, i)]
  | _ :: _ => rwG M pa i fs y (t + (if M f = 0 then 0 else 1)) lv ag
theorem rwG_eq (M : Nat → Nat) (pa : Pa) (i f : Nat) (fs : List Nat) (x t lev ag : Nat) : rwG M pa i (f :: fs) x t lev ag = rst (bdy M pa i f fs t (ag + (if M f = 2 then 1 else 0))) (lev, t, false, lN 0, i) lev (ag + (if M f = 2 then 1 else 0)) 0 (ch pa x f (x + 1)) := rfl
theorem FmLow.rf {T : TH} {d : Nat} : FmLow T T d := fun _ _ _ _ => rfl
theorem mem5 {P : Nat → Prop} (h1 : P 112) (h2 : P 113) (h3 : P 114) (h4 : P 115) (h5 : P 116) : ∀ a, a ∈ [112, 113, 114, 115, 116] → P a := by
  intro a ha
  simp only [List.mem_cons, List.not_mem_nil, or_false] at ha
  rcases ha with rfl | rfl | rfl | rfl | rfl <;> assumption

set_option maxHeartbeats 8000000 in
theorem l_X8_walk (d : Nat) {s : Sh} {r : List Nat} {o i c : Nat} {pa : Pa} {P : Option Value → TH → Prop} (hB : ShB s) (hok : PaOk s.1 pa) (hb : o + pa.1 ≤ 6200) (hpa : pa.1 ≤ 200) (hi : i < 30) (hr5 : r.length ≤ 5) (hlt : ∀ f ∈ r, f < s.1) : ∀ (fs pr : List Nat) (f dd : Nat), r = pr ++ f :: fs → pr.length = dd → ∀ (ag : Nat), ag = mc s.2.2.2.2.2.1 (pr ++ [f]) → ∀ (x t lev : Nat), x < pa.1 → t ≤ dd → lev ≤ 5 → ∀ (m lk sn : Nat) (T : TH) (R : List Row), pa.1 - lk = m → lk ≤ pa.1 → sn ≤ lk → TC T s r o i pa → Fm T dd o x lk sn t lev → MRw T R → R.length + (rst (bdy s.2.2.2.2.2.1 pa i f fs t ag) (lev, t, false, lN 0, i) lev ag sn (ch pa x f lk)).length ≤ 6300 → (∀ T', FrM fsB asB T T' → FmLow T T' dd → MRw T' (R ++ rst (bdy s.2.2.2.2.2.1 pa i f fs t ag) (lev, t, false, lN 0, i) lev ag sn (ch pa x f lk)) → Xe m_X8_table (d + 1) 35 [(3, .int (nI dd + Int32.ofInt (-1))), (2, .int (nI i)), (0, .ref 88), (1, .int (nI c))] [] T' P) → Xe m_X8_table (d + 1) 35 [(3, .int (nI dd)), (2, .int (nI i)), (0, .ref 88), (1, .int (nI c))] [] T P := by
  intro fs
  induction fs with
  | nil =>
    intro pr f dd hr hdd ag hag x t lev hx ht hlev m
    have hs60 := hB.1
    have hrl : r.length = dd + 1 + 0 := by rw [hr]; simp; omega
    have hf : r[dd]? = some f := by rw [hr, ← hdd]; simp
    have hf1 := hlt f (List.mem_of_getElem? hf)
    have hMf := (hB.2.2.2 f hf1).2
    have hagl : ag ≤ 5 := by rw [hag]; have := mc_le s.2.2.2.2.2.1 (pr ++ [f]); simp at this; omega
    induction m using Nat.strongRecOn with
    | ind m ih =>
      intro lk sn T R hm hlk hsn hC hFm hR hlen hpop
      subst hm
      refine xe (fun _ _ kK => x_iload_n dX8_table_35 rfl 0 rfl kK) ?_
      refine xe (fun _ _ kK => x_if_ltF (tgt := 265) dX8_table_36 (by decide) (nI_pos (by omega)) kK) ?_
      refine xe (fun _ _ kK => x_aload_n dX8_table_39 rfl 2 rfl kK) ?_
      refine xe (fun _ _ kK => x_get dX8_table_40 fl_X8_108 hC.1.1 (gvl_r1 fz_8_46.2.2 (show e_r T 558 88 = some 113 from (hC.1.2.1 46))) kK) ?_
      refine xe (fun _ _ kK => x_iload_n dX8_table_43 rfl 0 rfl kK) ?_
      refine xe (fun _ _ kK => x_iald dX8_table_44 (hC.1.2.2.1 24 (by decide)) (show (nI dd) = nI dd from rfl) (mi_len hC.1 24 (by decide) (show dd < 8 by omega)) (show e_ai T 113 dd = nI (o + lk) from hFm.2.1) kK) ?_
      refine xe (fun _ _ kK => x_istore dX8_table_45 (by decide) (show _ = [(4, .int (nI (o + lk))), (3, .int (nI dd)), (2, .int (nI i)), (0, .ref 88), (1, .int (nI c))] from rfl) kK) ?_
      refine xe_loc (L' := [(4, .int (nI (o + lk))), (3, .int (nI dd)), (2, .int (nI i)), (0, .ref 88), (1, .int (nI c))]) (by simp) ?_
      refine l_X8_search (d + 1) hC hok hs60 hb hi (by omega) hf (by omega) hx hFm.1 (pa.1 - lk) lk rfl hlk (fun hch => ?_) (fun y ys hch hy1 hy2 hys => ?_)
      · -- pc 98
        refine xe (fun _ _ kK => x_iload dX8_table_98 0 rfl kK) ?_
        refine xe (fun _ _ kK => x_aload_n dX8_table_100 rfl 3 rfl kK) ?_
        refine xe (fun _ _ kK => x_get dX8_table_101 fl_X8_74 hC.1.1 (gvl_r1 fz_8_32.2.2 (show e_r T 544 88 = some 102 from (hC.1.2.1 32))) kK) ?_
        refine xe (fun _ _ kK => x_iload_n dX8_table_104 rfl 2 rfl kK) ?_
        refine xe (fun _ _ kK => x_iconst dX8_table_105 (show _ = nI 1 by decide) kK) ?_
        refine xe (fun _ _ kK => x_iadd dX8_table_106 kK) ?_
        refine xe_ti (show _ = nI (i + 1) from nI_add i 1) ?_
        refine xe (fun _ _ kK => x_iald dX8_table_107 (hC.1.2.2.1 13 (by decide)) (show (nI (i + 1)) = nI (i + 1) from rfl) (mi_len hC.1 13 (by decide) (show i + 1 < 31 by omega)) (show e_ai T 102 (i + 1) = nI (o + pa.1) from hC.2.2.2.2) kK) ?_
        refine xe (fun _ _ kK => x_icmp_neF (tgt := 145) dX8_table_108 (by decide) rfl kK) ?_
        refine xe (fun _ _ kK => x_aload_n dX8_table_111 rfl 3 rfl kK) ?_
        refine xe (fun _ _ kK => x_get dX8_table_112 fl_X8_111 hC.1.1 (gvl_r1 fz_8_47.2.2 (show e_r T 559 88 = some 114 from (hC.1.2.1 47))) kK) ?_
        refine xe (fun _ _ kK => x_iload_n dX8_table_115 rfl 1 rfl kK) ?_
        refine xe (fun _ _ kK => x_iald dX8_table_116 (hC.1.2.2.1 25 (by decide)) (show (nI dd) = nI dd from rfl) (mi_len hC.1 25 (by decide) (show dd < 8 by omega)) (show e_ai T 114 dd = nI sn from hFm.2.2.1) kK) ?_
        refine xe_if_ne (tgt := 139) dX8_table_117 (by decide) (fun h117 => ?_) (fun h117 => ?_)
        · -- pc 139
          have h117 := cv_nz (by omega) h117
          refine xe (fun _ _ kK => x_iinc dX8_table_139 1 rfl rfl (by decide) (show _ = [(3, .int ((nI dd) + Int32.ofInt (-1))), (4, .int (nI (o + pa.1))), (2, .int (nI i)), (0, .ref 88), (1, .int (nI c))] from rfl) kK) ?_
          refine xe (fun _ _ kK => x_goto (tgt := 35) dX8_table_142 (by decide) kK) ?_
          have hrst : rst (bdy s.2.2.2.2.2.1 pa i f [] t ag) (lev, t, false, lN 0, i) lev ag sn (ch pa x f lk) = [] := by rw [hch, rst, if_neg h117]; rfl
          rw [hrst, List.append_nil] at hpop
          exact xe_loc (by simp) (hpop T FrM.rf FmLow.rf hR)
        · -- pc 120
          have h117 := cv_z (by omega) h117
          have hrst : rst (bdy s.2.2.2.2.2.1 pa i f [] t ag) (lev, t, false, lN 0, i) lev ag sn (ch pa x f lk) = [(lev, t, false, lN 0, i)] := by rw [hch, rst, if_pos h117]
          rw [hrst] at hpop hlen
          have hlen' : R.length + 1 ≤ 6300 := hlen
          refine xe (fun _ _ kK => x_aload_n dX8_table_120 rfl 3 rfl kK) ?_
          refine xe (fun _ _ kK => x_aload_n dX8_table_121 rfl 3 rfl kK) ?_
          refine xe (fun _ _ kK => x_get dX8_table_122 fl_X8_117 hC.1.1 (gvl_r1 fz_8_49.2.2 (show e_r T 561 88 = some 116 from (hC.1.2.1 49))) kK) ?_
          refine xe (fun _ _ kK => x_iload_n dX8_table_125 rfl 1 rfl kK) ?_
          refine xe (fun _ _ kK => x_iald dX8_table_126 (hC.1.2.2.1 27 (by decide)) (show (nI dd) = nI dd from rfl) (mi_len hC.1 27 (by decide) (show dd < 8 by omega)) (show e_ai T 116 dd = nI lev from hFm.2.2.2.2) kK) ?_
          refine xe (fun _ _ kK => x_aload_n dX8_table_127 rfl 3 rfl kK) ?_
          refine xe (fun _ _ kK => x_get dX8_table_128 fl_X8_114 hC.1.1 (gvl_r1 fz_8_48.2.2 (show e_r T 560 88 = some 115 from (hC.1.2.1 48))) kK) ?_
          refine xe (fun _ _ kK => x_iload_n dX8_table_131 rfl 1 rfl kK) ?_
          refine xe (fun _ _ kK => x_iald dX8_table_132 (hC.1.2.2.1 26 (by decide)) (show (nI dd) = nI dd from rfl) (mi_len hC.1 26 (by decide) (show dd < 8 by omega)) (show e_ai T 115 dd = nI t from hFm.2.2.2.1) kK) ?_
          refine xe (fun _ _ kK => x_iconst dX8_table_133 (show _ = nI 0 by decide) kK) ?_
          refine xe (fun _ _ kK => x_lconst dX8_table_134 (show _ = lN 0 by decide) kK) ?_
          refine xe (fun _ _ kK => x_iload_n dX8_table_135 rfl 2 rfl kK) ?_
          refine xe_callV (a := 88) [.int (nI lev), .int (nI t), .int (nI 0), .long (lN 0), .int (nI i)] dX8_table_136 ml_X8_267 mf_X8_putsRow hC.1.1 (c_X8_putsRow d hC.1 hR.1 (by omega) (nI lev) (nI t) (nI 0) (nI i) (lN 0)) rfl rfl (Nat.le_of_ble_eq_true rfl) (Nat.le_of_ble_eq_true rfl) ?_
          rintro _ _ ⟨rfl, rfl⟩
          refine xe (fun _ _ kK => x_iinc dX8_table_139 1 rfl rfl (by decide) (show _ = [(3, .int ((nI dd) + Int32.ofInt (-1))), (4, .int (nI (o + pa.1))), (2, .int (nI i)), (0, .ref 88), (1, .int (nI c))] from rfl) kK) ?_
          refine xe (fun _ _ kK => x_goto (tgt := 35) dX8_table_142 (by decide) kK) ?_
          refine xe_loc (by simp) (hpop _ (FrM.si (FrM.sai (FrM.sal (FrM.sai (FrM.sai (FrM.sai FrM.rf (by decide) _ _) (by decide) _ _) (by decide) _ _) (by decide) _ _) (by decide) _ _) (by decide) _) (fun j hj a ha => mem5 (P := fun a => e_ai _ a j = e_ai T a j) (wai_i (wai_ai (fun q => absurd q.1 (by decide)) (wai_al (wai_ai (fun q => absurd q.1 (by decide)) (wai_ai (fun q => absurd q.1 (by decide)) (wai_ai (fun q => absurd q.1 (by decide)) rfl)))))) (wai_i (wai_ai (fun q => absurd q.1 (by decide)) (wai_al (wai_ai (fun q => absurd q.1 (by decide)) (wai_ai (fun q => absurd q.1 (by decide)) (wai_ai (fun q => absurd q.1 (by decide)) rfl)))))) (wai_i (wai_ai (fun q => absurd q.1 (by decide)) (wai_al (wai_ai (fun q => absurd q.1 (by decide)) (wai_ai (fun q => absurd q.1 (by decide)) (wai_ai (fun q => absurd q.1 (by decide)) rfl)))))) (wai_i (wai_ai (fun q => absurd q.1 (by decide)) (wai_al (wai_ai (fun q => absurd q.1 (by decide)) (wai_ai (fun q => absurd q.1 (by decide)) (wai_ai (fun q => absurd q.1 (by decide)) rfl)))))) (wai_i (wai_ai (fun q => absurd q.1 (by decide)) (wai_al (wai_ai (fun q => absurd q.1 (by decide)) (wai_ai (fun q => absurd q.1 (by decide)) (wai_ai (fun q => absurd q.1 (by decide)) rfl)))))) a ha) (MRw_add hR rfl (fun j => by simp [q_i_i, q_i_ai, q_i_al, q_ai_ai, q_ai_i, q_ai_al, q_al_al, q_al_i, q_al_ai]) (fun j => by simp [q_i_i, q_i_ai, q_i_al, q_ai_ai, q_ai_i, q_ai_al, q_al_al, q_al_i, q_al_ai]) (fun j => by simp [q_i_i, q_i_ai, q_i_al, q_ai_ai, q_ai_i, q_ai_al, q_al_al, q_al_i, q_al_ai]; rfl) (fun j => by simp [q_i_i, q_i_ai, q_i_al, q_ai_ai, q_ai_i, q_ai_al, q_al_al, q_al_i, q_al_ai]) (fun j => by simp [q_i_i, q_i_ai, q_i_al, q_ai_ai, q_ai_i, q_ai_al, q_al_al, q_al_i, q_al_ai])))
      · -- pc 98
        refine xe (fun _ _ kK => x_iload dX8_table_98 0 rfl kK) ?_
        refine xe (fun _ _ kK => x_aload_n dX8_table_100 rfl 3 rfl kK) ?_
        refine xe (fun _ _ kK => x_get dX8_table_101 fl_X8_74 hC.1.1 (gvl_r1 fz_8_32.2.2 (show e_r T 544 88 = some 102 from (hC.1.2.1 32))) kK) ?_
        refine xe (fun _ _ kK => x_iload_n dX8_table_104 rfl 2 rfl kK) ?_
        refine xe (fun _ _ kK => x_iconst dX8_table_105 (show _ = nI 1 by decide) kK) ?_
        refine xe (fun _ _ kK => x_iadd dX8_table_106 kK) ?_
        refine xe_ti (show _ = nI (i + 1) from nI_add i 1) ?_
        refine xe (fun _ _ kK => x_iald dX8_table_107 (hC.1.2.2.1 13 (by decide)) (show (nI (i + 1)) = nI (i + 1) from rfl) (mi_len hC.1 13 (by decide) (show i + 1 < 31 by omega)) (show e_ai T 102 (i + 1) = nI (o + pa.1) from hC.2.2.2.2) kK) ?_
        refine xe (fun _ _ kK => x_icmp_neT (tgt := 145) dX8_table_108 (by decide) (fun z => by have := cv_eq (by omega) (by omega) z; omega) kK) ?_
        refine xe (fun _ _ kK => x_aload_n dX8_table_145 rfl 3 rfl kK) ?_
        refine xe (fun _ _ kK => x_get dX8_table_146 fl_X8_108 hC.1.1 (gvl_r1 fz_8_46.2.2 (show e_r T 558 88 = some 113 from (hC.1.2.1 46))) kK) ?_
        refine xe (fun _ _ kK => x_iload_n dX8_table_149 rfl 1 rfl kK) ?_
        refine xe (fun _ _ kK => x_iload dX8_table_150 0 rfl kK) ?_
        refine xe (fun _ _ kK => x_iconst dX8_table_152 (show _ = nI 1 by decide) kK) ?_
        refine xe (fun _ _ kK => x_iadd dX8_table_153 kK) ?_
        refine xe_ti (show _ = nI ((o + y) + 1) from nI_add (o + y) 1) ?_
        refine xe (fun _ _ kK => x_iast dX8_table_154 (hC.1.2.2.1 24 (by decide)) (show (nI dd) = nI dd from rfl) (mi_len hC.1 24 (by decide) (show dd < 8 by omega)) kK) ?_
        refine xe (fun _ _ kK => x_aload_n dX8_table_155 rfl 3 rfl kK) ?_
        refine xe (fun _ _ kK => x_get dX8_table_156 fl_X8_111 (wK_ai hC.1.1) (gvl_r1 fz_8_47.2.2 (show e_r (s_ai T 113 dd (nI ((o + y) + 1))) 559 88 = some 114 from (wr_ai (hC.1.2.1 47)))) kK) ?_
        refine xe (fun _ _ kK => x_iload_n dX8_table_159 rfl 1 rfl kK) ?_
        refine xe (fun _ _ kK => x_iald dX8_table_160 (wK_ai (hC.1.2.2.1 25 (by decide))) (show (nI dd) = nI dd from rfl) (wN_ai (mi_len hC.1 25 (by decide) (show dd < 8 by omega))) (show e_ai (s_ai T 113 dd (nI ((o + y) + 1))) 114 dd = nI sn from (wai_ai (fun q => absurd q.1 (by decide)) hFm.2.2.1)) kK) ?_
        have hsn4 : sn < 500 := by omega
        refine xe_if_ne (tgt := 173) dX8_table_161 (by decide) (fun h161 => ?_) (fun h161 => ?_)
        · -- pc 173
          have h161 := cv_nz (by omega) h161
          refine xe (fun _ _ kK => x_aload_n dX8_table_173 rfl 3 rfl kK) ?_
          refine xe (fun _ _ kK => x_iload_n dX8_table_174 rfl 1 rfl kK) ?_
          have hag2 : mc s.2.2.2.2.2.1 (r.take (dd + 1)) = ag := by rw [take_s hf, show r.take dd = pr by rw [hr, ← hdd]; simp, hag]
          have hCt : TC (s_ai T 113 dd (nI ((o + y) + 1))) s r o i pa := hC.of (FrM.sai FrM.rf (by decide) _ _)
          refine xe_callV (a := 88) [.int (nI dd)] dX8_table_175 ml_X8_271 mf_X8_manyUpTo (wK_ai hC.1.1) (by have := c_X8_manyUpTo d (T := (s_ai T 113 dd (nI ((o + y) + 1)))) (dd := dd) hCt.1 hCt.2.1 hB hCt.2.2.1 hlt (by omega) hr5; rw [hag2] at this; exact this) rfl rfl (Nat.le_of_ble_eq_true rfl) (Nat.le_of_ble_eq_true rfl) ?_
          rintro _ T9 ⟨rfl, h9⟩
          refine xe_T h9 ?_
          have hlv9 : (if sn = 0 then lev else ag) = ag := if_neg h161
          refine xe (fun _ _ kK => x_istore dX8_table_178 (by decide) (show _ = [(5, .int (nI ag)), (4, .int (nI (o + y))), (3, .int (nI dd)), (2, .int (nI i)), (0, .ref 88), (1, .int (nI c))] from rfl) kK) ?_
          refine xe (fun _ _ kK => x_aload_n dX8_table_180 rfl 4 rfl kK) ?_
          refine xe (fun _ _ kK => x_get dX8_table_181 fl_X8_111 (wK_ai hC.1.1) (gvl_r1 fz_8_47.2.2 (show e_r (s_ai T 113 dd (nI ((o + y) + 1))) 559 88 = some 114 from (wr_ai (hC.1.2.1 47)))) kK) ?_
          refine xe (fun _ _ kK => x_iload_n dX8_table_184 rfl 2 rfl kK) ?_
          refine xe (fun _ _ kK => x_dup2 dX8_table_185 rfl rfl kK) ?_
          refine xe (fun _ _ kK => x_iald dX8_table_186 (wK_ai (hC.1.2.2.1 25 (by decide))) (show (nI dd) = nI dd from rfl) (wN_ai (mi_len hC.1 25 (by decide) (show dd < 8 by omega))) (show e_ai (s_ai T 113 dd (nI ((o + y) + 1))) 114 dd = nI sn from (wai_ai (fun q => absurd q.1 (by decide)) hFm.2.2.1)) kK) ?_
          refine xe (fun _ _ kK => x_iconst dX8_table_187 (show _ = nI 1 by decide) kK) ?_
          refine xe (fun _ _ kK => x_iadd dX8_table_188 kK) ?_
          refine xe_ti (show _ = nI (sn + 1) from nI_add sn 1) ?_
          refine xe (fun _ _ kK => x_iast dX8_table_189 (wK_ai (hC.1.2.2.1 25 (by decide))) (show (nI dd) = nI dd from rfl) (wN_ai (mi_len hC.1 25 (by decide) (show dd < 8 by omega))) kK) ?_
          refine xe (fun _ _ kK => x_aload_n dX8_table_190 rfl 4 rfl kK) ?_
          refine xe (fun _ _ kK => x_get dX8_table_191 fl_X8_114 (wK_ai (wK_ai hC.1.1)) (gvl_r1 fz_8_48.2.2 (show e_r (s_ai (s_ai T 113 dd (nI ((o + y) + 1))) 114 dd (nI (sn + 1))) 560 88 = some 115 from (wr_ai (wr_ai (hC.1.2.1 48))))) kK) ?_
          refine xe (fun _ _ kK => x_iload_n dX8_table_194 rfl 2 rfl kK) ?_
          refine xe (fun _ _ kK => x_iald dX8_table_195 (wK_ai (wK_ai (hC.1.2.2.1 26 (by decide)))) (show (nI dd) = nI dd from rfl) (wN_ai (wN_ai (mi_len hC.1 26 (by decide) (show dd < 8 by omega)))) (show e_ai (s_ai (s_ai T 113 dd (nI ((o + y) + 1))) 114 dd (nI (sn + 1))) 115 dd = nI t from (wai_ai (fun q => absurd q.1 (by decide)) (wai_ai (fun q => absurd q.1 (by decide)) hFm.2.2.2.1))) kK) ?_
          refine xe (fun _ _ kK => x_aload_n dX8_table_196 rfl 4 rfl kK) ?_
          refine xe (fun _ _ kK => x_get dX8_table_197 fl_X8_47 (wK_ai (wK_ai hC.1.1)) (gvl_r1 fz_8_19.2.2 (show e_r (s_ai (s_ai T 113 dd (nI ((o + y) + 1))) 114 dd (nI (sn + 1))) 531 88 = some 93 from (wr_ai (wr_ai (hC.1.2.1 19))))) kK) ?_
          refine xe (fun _ _ kK => x_aload_n dX8_table_200 rfl 4 rfl kK) ?_
          refine xe (fun _ _ kK => x_get dX8_table_201 fl_X8_86 (wK_ai (wK_ai hC.1.1)) (gvl_r1 fz_8_38.2.2 (show e_r (s_ai (s_ai T 113 dd (nI ((o + y) + 1))) 114 dd (nI (sn + 1))) 550 88 = some 106 from (wr_ai (wr_ai (hC.1.2.1 38))))) kK) ?_
          refine xe (fun _ _ kK => x_iload_n dX8_table_204 rfl 2 rfl kK) ?_
          refine xe (fun _ _ kK => x_iald dX8_table_205 (wK_ai (wK_ai (hC.1.2.2.1 17 (by decide)))) (show (nI dd) = nI dd from rfl) (wN_ai (wN_ai (mi_len hC.1 17 (by decide) (show dd < 8 by omega)))) (show e_ai (s_ai (s_ai T 113 dd (nI ((o + y) + 1))) 114 dd (nI (sn + 1))) 106 dd = nI f from (wai_ai (fun q => absurd q.1 (by decide)) (wai_ai (fun q => absurd q.1 (by decide)) (hC.2.2.1.2 dd f hf)))) kK) ?_
          refine xe (fun _ _ kK => x_iald dX8_table_206 (wK_ai (wK_ai (hC.1.2.2.1 4 (by decide)))) (show (nI f) = nI f from rfl) (wN_ai (wN_ai (mi_len hC.1 4 (by decide) (show f < 80 by omega)))) (show e_ai (s_ai (s_ai T 113 dd (nI ((o + y) + 1))) 114 dd (nI (sn + 1))) 93 f = nI (s.2.2.2.2.2.1 f) from (wai_ai (fun q => absurd q.1 (by decide)) (wai_ai (fun q => absurd q.1 (by decide)) (hC.2.1.2.2.1 f hf1).2.2.2))) kK) ?_
          refine xe_if_ne (tgt := 214) dX8_table_207 (by decide) (fun h207 => ?_) (fun h207 => ?_)
          · -- pc 214
            have h207 := cv_nz (by omega) h207
            refine xe (fun _ _ kK => x_iconst dX8_table_214 (show _ = nI 1 by decide) kK) ?_
            refine xe (fun _ _ kK => x_iadd dX8_table_215 kK) ?_
            refine xe_ti (show _ = nI (t + 1) from nI_add t 1) ?_
            refine xe (fun _ _ kK => x_istore dX8_table_216 (by decide) (show _ = [(6, .int (nI (t + 1))), (5, .int (nI ag)), (4, .int (nI (o + y))), (3, .int (nI dd)), (2, .int (nI i)), (0, .ref 88), (1, .int (nI c))] from rfl) kK) ?_
            refine xe (fun _ _ kK => x_iload_n dX8_table_218 rfl 3 rfl kK) ?_
            refine xe (fun _ _ kK => x_aload_n dX8_table_219 rfl 5 rfl kK) ?_
            refine xe (fun _ _ kK => x_get dX8_table_220 fl_X8_254 (wK_ai (wK_ai hC.1.1)) (gvl_i fz_8_37.2.2 (show e_i (s_ai (s_ai T 113 dd (nI ((o + y) + 1))) 114 dd (nI (sn + 1))) 549 88 = nI r.length from (wi_ai (wi_ai hC.2.2.1.1)))) kK) ?_
            refine xe (fun _ _ kK => x_iconst dX8_table_223 (show _ = nI 1 by decide) kK) ?_
            refine xe (fun _ _ kK => x_isub dX8_table_224 kK) ?_
            refine xe_ti (show _ = nI (r.length - 1) from pk_sub (by omega)) ?_
            have htt : t + (if s.2.2.2.2.2.1 f = 0 then 0 else 1) = t + 1 := by rw [if_neg h207]
            have hrst : rst (bdy s.2.2.2.2.2.1 pa i f [] t ag) (lev, t, false, lN 0, i) lev ag sn (ch pa x f lk) = bdy s.2.2.2.2.2.1 pa i f [] t ag y (ag) ++ rst (bdy s.2.2.2.2.2.1 pa i f [] t ag) (lev, t, false, lN 0, i) lev ag (sn + 1) (ch pa x f (y + 1)) := by rw [hch, rst_cons, hys, hlv9]
            rw [hrst] at hpop hlen
            rw [List.length_append] at hlen
            refine xe (fun _ _ kK => x_icmp_neF (tgt := 248) dX8_table_225 (by decide) (by rw [show r.length - 1 = dd by omega]) kK) ?_
            have hbd : bdy s.2.2.2.2.2.1 pa i f [] t ag y (ag) = [(ag, t + 1, true, pa.2.2.2 y, i)] := by show [_] = _; rw [htt]
            rw [hbd] at hpop hlen
            have hlen' : R.length + (1 + (rst (bdy s.2.2.2.2.2.1 pa i f [] t ag) (lev, t, false, lN 0, i) lev ag (sn + 1) (ch pa x f (y + 1))).length) ≤ 6300 := hlen
            refine xe (fun _ _ kK => x_aload_n dX8_table_228 rfl 5 rfl kK) ?_
            refine xe (fun _ _ kK => x_iload dX8_table_229 1 rfl kK) ?_
            refine xe (fun _ _ kK => x_iload dX8_table_231 0 rfl kK) ?_
            refine xe (fun _ _ kK => x_iconst dX8_table_233 (show _ = nI 1 by decide) kK) ?_
            refine xe (fun _ _ kK => x_aload_n dX8_table_234 rfl 5 rfl kK) ?_
            refine xe (fun _ _ kK => x_get dX8_table_235 fl_X8_83 (wK_ai (wK_ai hC.1.1)) (gvl_r1 fz_8_35.2.2 (show e_r (s_ai (s_ai T 113 dd (nI ((o + y) + 1))) 114 dd (nI (sn + 1))) 547 88 = some 105 from (wr_ai (wr_ai (hC.1.2.1 35))))) kK) ?_
            refine xe (fun _ _ kK => x_iload dX8_table_238 2 rfl kK) ?_
            refine xe (fun _ _ kK => x_lald dX8_table_240 (wK_ai (wK_ai (hC.1.2.2.1 16 (by decide)))) (show (nI (o + y)) = nI (o + y) from rfl) (wN_ai (wN_ai (mi_len hC.1 16 (by decide) (show o + y < 6200 by omega)))) (show e_al (s_ai (s_ai T 113 dd (nI ((o + y) + 1))) 114 dd (nI (sn + 1))) 105 (o + y) = pa.2.2.2 y from (wal_ai (wal_ai (hC.2.2.2.1 y hy2).2.2))) kK) ?_
            refine xe (fun _ _ kK => x_iload_n dX8_table_241 rfl 4 rfl kK) ?_
            have hF0 : FrM fsB asB T (s_ai (s_ai T 113 dd (nI ((o + y) + 1))) 114 dd (nI (sn + 1))) := (FrM.sai (FrM.sai FrM.rf (by decide) _ _) (by decide) _ _)
            refine xe_callV (a := 88) [.int (nI ag), .int (nI (t + 1)), .int (nI 1), .long (pa.2.2.2 y), .int (nI i)] dX8_table_242 ml_X8_267 mf_X8_putsRow (wK_ai (wK_ai hC.1.1)) (c_X8_putsRow d (T := (s_ai (s_ai T 113 dd (nI ((o + y) + 1))) 114 dd (nI (sn + 1)))) (hF0.mi hC.1) (wi_ai (wi_ai hR.1)) (by omega) (nI (ag)) (nI (t + 1)) (nI 1) (nI i) (pa.2.2.2 y)) rfl rfl (Nat.le_of_ble_eq_true rfl) (Nat.le_of_ble_eq_true rfl) ?_
            rintro _ _ ⟨rfl, rfl⟩
            refine xe (fun _ _ kK => x_goto (tgt := 262) dX8_table_245 (by decide) kK) ?_
            refine xe (fun _ _ kK => x_goto (tgt := 35) dX8_table_262 (by decide) kK) ?_
            have hF1 : FrM fsB asB T (s_i (s_ai (s_al (s_ai (s_ai (s_ai (s_ai (s_ai T 113 dd (nI ((o + y) + 1))) 114 dd (nI (sn + 1))) 107 R.length (nI (ag))) 108 R.length (nI (t + 1))) 109 R.length (vp_nar .boolean (nI 1))) 110 R.length (pa.2.2.2 y)) 111 R.length (nI i)) 551 88 (nI (R.length + 1))) := (FrM.si (FrM.sai (FrM.sal (FrM.sai (FrM.sai (FrM.sai (FrM.sai (FrM.sai FrM.rf (by decide) _ _) (by decide) _ _) (by decide) _ _) (by decide) _ _) (by decide) _ _) (by decide) _ _) (by decide) _ _) (by decide) _)
            have hR1 : MRw (s_i (s_ai (s_al (s_ai (s_ai (s_ai (s_ai (s_ai T 113 dd (nI ((o + y) + 1))) 114 dd (nI (sn + 1))) 107 R.length (nI (ag))) 108 R.length (nI (t + 1))) 109 R.length (vp_nar .boolean (nI 1))) 110 R.length (pa.2.2.2 y)) 111 R.length (nI i)) 551 88 (nI (R.length + 1))) (R ++ [(ag, t + 1, true, pa.2.2.2 y, i)]) := MRw_add hR rfl (fun j => by simp [q_i_i, q_i_ai, q_i_al, q_ai_ai, q_ai_i, q_ai_al, q_al_al, q_al_i, q_al_ai]) (fun j => by simp [q_i_i, q_i_ai, q_i_al, q_ai_ai, q_ai_i, q_ai_al, q_al_al, q_al_i, q_al_ai]) (fun j => by simp [q_i_i, q_i_ai, q_i_al, q_ai_ai, q_ai_i, q_ai_al, q_al_al, q_al_i, q_al_ai]; rfl) (fun j => by simp [q_i_i, q_i_ai, q_i_al, q_ai_ai, q_ai_i, q_ai_al, q_al_al, q_al_i, q_al_ai]) (fun j => by simp [q_i_i, q_i_ai, q_i_al, q_ai_ai, q_ai_i, q_ai_al, q_al_al, q_al_i, q_al_ai])
            have hFm1 : Fm (s_i (s_ai (s_al (s_ai (s_ai (s_ai (s_ai (s_ai T 113 dd (nI ((o + y) + 1))) 114 dd (nI (sn + 1))) 107 R.length (nI (ag))) 108 R.length (nI (t + 1))) 109 R.length (vp_nar .boolean (nI 1))) 110 R.length (pa.2.2.2 y)) 111 R.length (nI i)) 551 88 (nI (R.length + 1))) dd o x (y + 1) (sn + 1) t lev := ⟨(wai_i (wai_ai (fun q => absurd q.1 (by decide)) (wai_al (wai_ai (fun q => absurd q.1 (by decide)) (wai_ai (fun q => absurd q.1 (by decide)) (wai_ai (fun q => absurd q.1 (by decide)) (wai_ai (fun q => absurd q.1 (by decide)) (wai_ai (fun q => absurd q.1 (by decide)) hFm.1)))))))), by simp [q_i_i, q_i_ai, q_i_al, q_ai_ai, q_ai_i, q_ai_al, q_al_al, q_al_i, q_al_ai]; rw [Nat.add_assoc], by simp [q_i_i, q_i_ai, q_i_al, q_ai_ai, q_ai_i, q_ai_al, q_al_al, q_al_i, q_al_ai], (wai_i (wai_ai (fun q => absurd q.1 (by decide)) (wai_al (wai_ai (fun q => absurd q.1 (by decide)) (wai_ai (fun q => absurd q.1 (by decide)) (wai_ai (fun q => absurd q.1 (by decide)) (wai_ai (fun q => absurd q.1 (by decide)) (wai_ai (fun q => absurd q.1 (by decide)) hFm.2.2.2.1)))))))), (wai_i (wai_ai (fun q => absurd q.1 (by decide)) (wai_al (wai_ai (fun q => absurd q.1 (by decide)) (wai_ai (fun q => absurd q.1 (by decide)) (wai_ai (fun q => absurd q.1 (by decide)) (wai_ai (fun q => absurd q.1 (by decide)) (wai_ai (fun q => absurd q.1 (by decide)) hFm.2.2.2.2))))))))⟩
            have hLo : FmLow T (s_i (s_ai (s_al (s_ai (s_ai (s_ai (s_ai (s_ai T 113 dd (nI ((o + y) + 1))) 114 dd (nI (sn + 1))) 107 R.length (nI (ag))) 108 R.length (nI (t + 1))) 109 R.length (vp_nar .boolean (nI 1))) 110 R.length (pa.2.2.2 y)) 111 R.length (nI i)) 551 88 (nI (R.length + 1))) dd := fun j hj a ha => mem5 (P := fun a => e_ai _ a j = e_ai T a j) (wai_i (wai_ai (fun q => absurd q.1 (by decide)) (wai_al (wai_ai (fun q => absurd q.1 (by decide)) (wai_ai (fun q => absurd q.1 (by decide)) (wai_ai (fun q => absurd q.1 (by decide)) (wai_ai (fun q => absurd q.1 (by decide)) (wai_ai (fun q => absurd q.1 (by decide)) rfl)))))))) (wai_i (wai_ai (fun q => absurd q.1 (by decide)) (wai_al (wai_ai (fun q => absurd q.1 (by decide)) (wai_ai (fun q => absurd q.1 (by decide)) (wai_ai (fun q => absurd q.1 (by decide)) (wai_ai (fun q => absurd q.1 (by decide)) (wai_ai (by omega) rfl)))))))) (wai_i (wai_ai (fun q => absurd q.1 (by decide)) (wai_al (wai_ai (fun q => absurd q.1 (by decide)) (wai_ai (fun q => absurd q.1 (by decide)) (wai_ai (fun q => absurd q.1 (by decide)) (wai_ai (by omega) (wai_ai (fun q => absurd q.1 (by decide)) rfl)))))))) (wai_i (wai_ai (fun q => absurd q.1 (by decide)) (wai_al (wai_ai (fun q => absurd q.1 (by decide)) (wai_ai (fun q => absurd q.1 (by decide)) (wai_ai (fun q => absurd q.1 (by decide)) (wai_ai (fun q => absurd q.1 (by decide)) (wai_ai (fun q => absurd q.1 (by decide)) rfl)))))))) (wai_i (wai_ai (fun q => absurd q.1 (by decide)) (wai_al (wai_ai (fun q => absurd q.1 (by decide)) (wai_ai (fun q => absurd q.1 (by decide)) (wai_ai (fun q => absurd q.1 (by decide)) (wai_ai (fun q => absurd q.1 (by decide)) (wai_ai (fun q => absurd q.1 (by decide)) rfl)))))))) a ha
            refine xe_loc (by simp) (ih (pa.1 - (y + 1)) (by omega) (y + 1) (sn + 1) (s_i (s_ai (s_al (s_ai (s_ai (s_ai (s_ai (s_ai T 113 dd (nI ((o + y) + 1))) 114 dd (nI (sn + 1))) 107 R.length (nI (ag))) 108 R.length (nI (t + 1))) 109 R.length (vp_nar .boolean (nI 1))) 110 R.length (pa.2.2.2 y)) 111 R.length (nI i)) 551 88 (nI (R.length + 1))) _ rfl (by omega) (by omega) (hC.of hF1) hFm1 hR1 (by rw [List.length_append]; show R.length + 1 + _ ≤ _; omega) (fun T9 hF9 hL9 hR9 => hpop T9 (FrM.tr hF1 hF9) (hLo.tr hL9) (by rw [← List.append_assoc]; exact hR9)))
          · -- pc 210
            have h207 := cv_z (by omega) h207
            refine xe (fun _ _ kK => x_iconst dX8_table_210 (show _ = nI 0 by decide) kK) ?_
            refine xe (fun _ _ kK => x_goto (tgt := 215) dX8_table_211 (by decide) kK) ?_
            refine xe (fun _ _ kK => x_iadd dX8_table_215 kK) ?_
            refine xe_ti (show _ = nI (t + 0) from nI_add t 0) ?_
            refine xe (fun _ _ kK => x_istore dX8_table_216 (by decide) (show _ = [(6, .int (nI (t + 0))), (5, .int (nI ag)), (4, .int (nI (o + y))), (3, .int (nI dd)), (2, .int (nI i)), (0, .ref 88), (1, .int (nI c))] from rfl) kK) ?_
            refine xe (fun _ _ kK => x_iload_n dX8_table_218 rfl 3 rfl kK) ?_
            refine xe (fun _ _ kK => x_aload_n dX8_table_219 rfl 5 rfl kK) ?_
            refine xe (fun _ _ kK => x_get dX8_table_220 fl_X8_254 (wK_ai (wK_ai hC.1.1)) (gvl_i fz_8_37.2.2 (show e_i (s_ai (s_ai T 113 dd (nI ((o + y) + 1))) 114 dd (nI (sn + 1))) 549 88 = nI r.length from (wi_ai (wi_ai hC.2.2.1.1)))) kK) ?_
            refine xe (fun _ _ kK => x_iconst dX8_table_223 (show _ = nI 1 by decide) kK) ?_
            refine xe (fun _ _ kK => x_isub dX8_table_224 kK) ?_
            refine xe_ti (show _ = nI (r.length - 1) from pk_sub (by omega)) ?_
            have htt : t + (if s.2.2.2.2.2.1 f = 0 then 0 else 1) = t + 0 := by rw [if_pos h207]
            have hrst : rst (bdy s.2.2.2.2.2.1 pa i f [] t ag) (lev, t, false, lN 0, i) lev ag sn (ch pa x f lk) = bdy s.2.2.2.2.2.1 pa i f [] t ag y (ag) ++ rst (bdy s.2.2.2.2.2.1 pa i f [] t ag) (lev, t, false, lN 0, i) lev ag (sn + 1) (ch pa x f (y + 1)) := by rw [hch, rst_cons, hys, hlv9]
            rw [hrst] at hpop hlen
            rw [List.length_append] at hlen
            refine xe (fun _ _ kK => x_icmp_neF (tgt := 248) dX8_table_225 (by decide) (by rw [show r.length - 1 = dd by omega]) kK) ?_
            have hbd : bdy s.2.2.2.2.2.1 pa i f [] t ag y (ag) = [(ag, t + 0, true, pa.2.2.2 y, i)] := by show [_] = _; rw [htt]
            rw [hbd] at hpop hlen
            have hlen' : R.length + (1 + (rst (bdy s.2.2.2.2.2.1 pa i f [] t ag) (lev, t, false, lN 0, i) lev ag (sn + 1) (ch pa x f (y + 1))).length) ≤ 6300 := hlen
            refine xe (fun _ _ kK => x_aload_n dX8_table_228 rfl 5 rfl kK) ?_
            refine xe (fun _ _ kK => x_iload dX8_table_229 1 rfl kK) ?_
            refine xe (fun _ _ kK => x_iload dX8_table_231 0 rfl kK) ?_
            refine xe (fun _ _ kK => x_iconst dX8_table_233 (show _ = nI 1 by decide) kK) ?_
            refine xe (fun _ _ kK => x_aload_n dX8_table_234 rfl 5 rfl kK) ?_
            refine xe (fun _ _ kK => x_get dX8_table_235 fl_X8_83 (wK_ai (wK_ai hC.1.1)) (gvl_r1 fz_8_35.2.2 (show e_r (s_ai (s_ai T 113 dd (nI ((o + y) + 1))) 114 dd (nI (sn + 1))) 547 88 = some 105 from (wr_ai (wr_ai (hC.1.2.1 35))))) kK) ?_
            refine xe (fun _ _ kK => x_iload dX8_table_238 2 rfl kK) ?_
            refine xe (fun _ _ kK => x_lald dX8_table_240 (wK_ai (wK_ai (hC.1.2.2.1 16 (by decide)))) (show (nI (o + y)) = nI (o + y) from rfl) (wN_ai (wN_ai (mi_len hC.1 16 (by decide) (show o + y < 6200 by omega)))) (show e_al (s_ai (s_ai T 113 dd (nI ((o + y) + 1))) 114 dd (nI (sn + 1))) 105 (o + y) = pa.2.2.2 y from (wal_ai (wal_ai (hC.2.2.2.1 y hy2).2.2))) kK) ?_
            refine xe (fun _ _ kK => x_iload_n dX8_table_241 rfl 4 rfl kK) ?_
            have hF0 : FrM fsB asB T (s_ai (s_ai T 113 dd (nI ((o + y) + 1))) 114 dd (nI (sn + 1))) := (FrM.sai (FrM.sai FrM.rf (by decide) _ _) (by decide) _ _)
            refine xe_callV (a := 88) [.int (nI ag), .int (nI (t + 0)), .int (nI 1), .long (pa.2.2.2 y), .int (nI i)] dX8_table_242 ml_X8_267 mf_X8_putsRow (wK_ai (wK_ai hC.1.1)) (c_X8_putsRow d (T := (s_ai (s_ai T 113 dd (nI ((o + y) + 1))) 114 dd (nI (sn + 1)))) (hF0.mi hC.1) (wi_ai (wi_ai hR.1)) (by omega) (nI (ag)) (nI (t + 0)) (nI 1) (nI i) (pa.2.2.2 y)) rfl rfl (Nat.le_of_ble_eq_true rfl) (Nat.le_of_ble_eq_true rfl) ?_
            rintro _ _ ⟨rfl, rfl⟩
            refine xe (fun _ _ kK => x_goto (tgt := 262) dX8_table_245 (by decide) kK) ?_
            refine xe (fun _ _ kK => x_goto (tgt := 35) dX8_table_262 (by decide) kK) ?_
            have hF1 : FrM fsB asB T (s_i (s_ai (s_al (s_ai (s_ai (s_ai (s_ai (s_ai T 113 dd (nI ((o + y) + 1))) 114 dd (nI (sn + 1))) 107 R.length (nI (ag))) 108 R.length (nI (t + 0))) 109 R.length (vp_nar .boolean (nI 1))) 110 R.length (pa.2.2.2 y)) 111 R.length (nI i)) 551 88 (nI (R.length + 1))) := (FrM.si (FrM.sai (FrM.sal (FrM.sai (FrM.sai (FrM.sai (FrM.sai (FrM.sai FrM.rf (by decide) _ _) (by decide) _ _) (by decide) _ _) (by decide) _ _) (by decide) _ _) (by decide) _ _) (by decide) _ _) (by decide) _)
            have hR1 : MRw (s_i (s_ai (s_al (s_ai (s_ai (s_ai (s_ai (s_ai T 113 dd (nI ((o + y) + 1))) 114 dd (nI (sn + 1))) 107 R.length (nI (ag))) 108 R.length (nI (t + 0))) 109 R.length (vp_nar .boolean (nI 1))) 110 R.length (pa.2.2.2 y)) 111 R.length (nI i)) 551 88 (nI (R.length + 1))) (R ++ [(ag, t + 0, true, pa.2.2.2 y, i)]) := MRw_add hR rfl (fun j => by simp [q_i_i, q_i_ai, q_i_al, q_ai_ai, q_ai_i, q_ai_al, q_al_al, q_al_i, q_al_ai]) (fun j => by simp [q_i_i, q_i_ai, q_i_al, q_ai_ai, q_ai_i, q_ai_al, q_al_al, q_al_i, q_al_ai]) (fun j => by simp [q_i_i, q_i_ai, q_i_al, q_ai_ai, q_ai_i, q_ai_al, q_al_al, q_al_i, q_al_ai]; rfl) (fun j => by simp [q_i_i, q_i_ai, q_i_al, q_ai_ai, q_ai_i, q_ai_al, q_al_al, q_al_i, q_al_ai]) (fun j => by simp [q_i_i, q_i_ai, q_i_al, q_ai_ai, q_ai_i, q_ai_al, q_al_al, q_al_i, q_al_ai])
            have hFm1 : Fm (s_i (s_ai (s_al (s_ai (s_ai (s_ai (s_ai (s_ai T 113 dd (nI ((o + y) + 1))) 114 dd (nI (sn + 1))) 107 R.length (nI (ag))) 108 R.length (nI (t + 0))) 109 R.length (vp_nar .boolean (nI 1))) 110 R.length (pa.2.2.2 y)) 111 R.length (nI i)) 551 88 (nI (R.length + 1))) dd o x (y + 1) (sn + 1) t lev := ⟨(wai_i (wai_ai (fun q => absurd q.1 (by decide)) (wai_al (wai_ai (fun q => absurd q.1 (by decide)) (wai_ai (fun q => absurd q.1 (by decide)) (wai_ai (fun q => absurd q.1 (by decide)) (wai_ai (fun q => absurd q.1 (by decide)) (wai_ai (fun q => absurd q.1 (by decide)) hFm.1)))))))), by simp [q_i_i, q_i_ai, q_i_al, q_ai_ai, q_ai_i, q_ai_al, q_al_al, q_al_i, q_al_ai]; rw [Nat.add_assoc], by simp [q_i_i, q_i_ai, q_i_al, q_ai_ai, q_ai_i, q_ai_al, q_al_al, q_al_i, q_al_ai], (wai_i (wai_ai (fun q => absurd q.1 (by decide)) (wai_al (wai_ai (fun q => absurd q.1 (by decide)) (wai_ai (fun q => absurd q.1 (by decide)) (wai_ai (fun q => absurd q.1 (by decide)) (wai_ai (fun q => absurd q.1 (by decide)) (wai_ai (fun q => absurd q.1 (by decide)) hFm.2.2.2.1)))))))), (wai_i (wai_ai (fun q => absurd q.1 (by decide)) (wai_al (wai_ai (fun q => absurd q.1 (by decide)) (wai_ai (fun q => absurd q.1 (by decide)) (wai_ai (fun q => absurd q.1 (by decide)) (wai_ai (fun q => absurd q.1 (by decide)) (wai_ai (fun q => absurd q.1 (by decide)) hFm.2.2.2.2))))))))⟩
            have hLo : FmLow T (s_i (s_ai (s_al (s_ai (s_ai (s_ai (s_ai (s_ai T 113 dd (nI ((o + y) + 1))) 114 dd (nI (sn + 1))) 107 R.length (nI (ag))) 108 R.length (nI (t + 0))) 109 R.length (vp_nar .boolean (nI 1))) 110 R.length (pa.2.2.2 y)) 111 R.length (nI i)) 551 88 (nI (R.length + 1))) dd := fun j hj a ha => mem5 (P := fun a => e_ai _ a j = e_ai T a j) (wai_i (wai_ai (fun q => absurd q.1 (by decide)) (wai_al (wai_ai (fun q => absurd q.1 (by decide)) (wai_ai (fun q => absurd q.1 (by decide)) (wai_ai (fun q => absurd q.1 (by decide)) (wai_ai (fun q => absurd q.1 (by decide)) (wai_ai (fun q => absurd q.1 (by decide)) rfl)))))))) (wai_i (wai_ai (fun q => absurd q.1 (by decide)) (wai_al (wai_ai (fun q => absurd q.1 (by decide)) (wai_ai (fun q => absurd q.1 (by decide)) (wai_ai (fun q => absurd q.1 (by decide)) (wai_ai (fun q => absurd q.1 (by decide)) (wai_ai (by omega) rfl)))))))) (wai_i (wai_ai (fun q => absurd q.1 (by decide)) (wai_al (wai_ai (fun q => absurd q.1 (by decide)) (wai_ai (fun q => absurd q.1 (by decide)) (wai_ai (fun q => absurd q.1 (by decide)) (wai_ai (by omega) (wai_ai (fun q => absurd q.1 (by decide)) rfl)))))))) (wai_i (wai_ai (fun q => absurd q.1 (by decide)) (wai_al (wai_ai (fun q => absurd q.1 (by decide)) (wai_ai (fun q => absurd q.1 (by decide)) (wai_ai (fun q => absurd q.1 (by decide)) (wai_ai (fun q => absurd q.1 (by decide)) (wai_ai (fun q => absurd q.1 (by decide)) rfl)))))))) (wai_i (wai_ai (fun q => absurd q.1 (by decide)) (wai_al (wai_ai (fun q => absurd q.1 (by decide)) (wai_ai (fun q => absurd q.1 (by decide)) (wai_ai (fun q => absurd q.1 (by decide)) (wai_ai (fun q => absurd q.1 (by decide)) (wai_ai (fun q => absurd q.1 (by decide)) rfl)))))))) a ha
            refine xe_loc (by simp) (ih (pa.1 - (y + 1)) (by omega) (y + 1) (sn + 1) (s_i (s_ai (s_al (s_ai (s_ai (s_ai (s_ai (s_ai T 113 dd (nI ((o + y) + 1))) 114 dd (nI (sn + 1))) 107 R.length (nI (ag))) 108 R.length (nI (t + 0))) 109 R.length (vp_nar .boolean (nI 1))) 110 R.length (pa.2.2.2 y)) 111 R.length (nI i)) 551 88 (nI (R.length + 1))) _ rfl (by omega) (by omega) (hC.of hF1) hFm1 hR1 (by rw [List.length_append]; show R.length + 1 + _ ≤ _; omega) (fun T9 hF9 hL9 hR9 => hpop T9 (FrM.tr hF1 hF9) (hLo.tr hL9) (by rw [← List.append_assoc]; exact hR9)))
        · -- pc 164
          have h161 := cv_z (by omega) h161
          have hlv9 : (if sn = 0 then lev else ag) = lev := if_pos h161
          refine xe (fun _ _ kK => x_aload_n dX8_table_164 rfl 3 rfl kK) ?_
          refine xe (fun _ _ kK => x_get dX8_table_165 fl_X8_117 (wK_ai hC.1.1) (gvl_r1 fz_8_49.2.2 (show e_r (s_ai T 113 dd (nI ((o + y) + 1))) 561 88 = some 116 from (wr_ai (hC.1.2.1 49)))) kK) ?_
          refine xe (fun _ _ kK => x_iload_n dX8_table_168 rfl 1 rfl kK) ?_
          refine xe (fun _ _ kK => x_iald dX8_table_169 (wK_ai (hC.1.2.2.1 27 (by decide))) (show (nI dd) = nI dd from rfl) (wN_ai (mi_len hC.1 27 (by decide) (show dd < 8 by omega))) (show e_ai (s_ai T 113 dd (nI ((o + y) + 1))) 116 dd = nI lev from (wai_ai (fun q => absurd q.1 (by decide)) hFm.2.2.2.2)) kK) ?_
          refine xe (fun _ _ kK => x_goto (tgt := 178) dX8_table_170 (by decide) kK) ?_
          refine xe (fun _ _ kK => x_istore dX8_table_178 (by decide) (show _ = [(5, .int (nI lev)), (4, .int (nI (o + y))), (3, .int (nI dd)), (2, .int (nI i)), (0, .ref 88), (1, .int (nI c))] from rfl) kK) ?_
          refine xe (fun _ _ kK => x_aload_n dX8_table_180 rfl 4 rfl kK) ?_
          refine xe (fun _ _ kK => x_get dX8_table_181 fl_X8_111 (wK_ai hC.1.1) (gvl_r1 fz_8_47.2.2 (show e_r (s_ai T 113 dd (nI ((o + y) + 1))) 559 88 = some 114 from (wr_ai (hC.1.2.1 47)))) kK) ?_
          refine xe (fun _ _ kK => x_iload_n dX8_table_184 rfl 2 rfl kK) ?_
          refine xe (fun _ _ kK => x_dup2 dX8_table_185 rfl rfl kK) ?_
          refine xe (fun _ _ kK => x_iald dX8_table_186 (wK_ai (hC.1.2.2.1 25 (by decide))) (show (nI dd) = nI dd from rfl) (wN_ai (mi_len hC.1 25 (by decide) (show dd < 8 by omega))) (show e_ai (s_ai T 113 dd (nI ((o + y) + 1))) 114 dd = nI sn from (wai_ai (fun q => absurd q.1 (by decide)) hFm.2.2.1)) kK) ?_
          refine xe (fun _ _ kK => x_iconst dX8_table_187 (show _ = nI 1 by decide) kK) ?_
          refine xe (fun _ _ kK => x_iadd dX8_table_188 kK) ?_
          refine xe_ti (show _ = nI (sn + 1) from nI_add sn 1) ?_
          refine xe (fun _ _ kK => x_iast dX8_table_189 (wK_ai (hC.1.2.2.1 25 (by decide))) (show (nI dd) = nI dd from rfl) (wN_ai (mi_len hC.1 25 (by decide) (show dd < 8 by omega))) kK) ?_
          refine xe (fun _ _ kK => x_aload_n dX8_table_190 rfl 4 rfl kK) ?_
          refine xe (fun _ _ kK => x_get dX8_table_191 fl_X8_114 (wK_ai (wK_ai hC.1.1)) (gvl_r1 fz_8_48.2.2 (show e_r (s_ai (s_ai T 113 dd (nI ((o + y) + 1))) 114 dd (nI (sn + 1))) 560 88 = some 115 from (wr_ai (wr_ai (hC.1.2.1 48))))) kK) ?_
          refine xe (fun _ _ kK => x_iload_n dX8_table_194 rfl 2 rfl kK) ?_
          refine xe (fun _ _ kK => x_iald dX8_table_195 (wK_ai (wK_ai (hC.1.2.2.1 26 (by decide)))) (show (nI dd) = nI dd from rfl) (wN_ai (wN_ai (mi_len hC.1 26 (by decide) (show dd < 8 by omega)))) (show e_ai (s_ai (s_ai T 113 dd (nI ((o + y) + 1))) 114 dd (nI (sn + 1))) 115 dd = nI t from (wai_ai (fun q => absurd q.1 (by decide)) (wai_ai (fun q => absurd q.1 (by decide)) hFm.2.2.2.1))) kK) ?_
          refine xe (fun _ _ kK => x_aload_n dX8_table_196 rfl 4 rfl kK) ?_
          refine xe (fun _ _ kK => x_get dX8_table_197 fl_X8_47 (wK_ai (wK_ai hC.1.1)) (gvl_r1 fz_8_19.2.2 (show e_r (s_ai (s_ai T 113 dd (nI ((o + y) + 1))) 114 dd (nI (sn + 1))) 531 88 = some 93 from (wr_ai (wr_ai (hC.1.2.1 19))))) kK) ?_
          refine xe (fun _ _ kK => x_aload_n dX8_table_200 rfl 4 rfl kK) ?_
          refine xe (fun _ _ kK => x_get dX8_table_201 fl_X8_86 (wK_ai (wK_ai hC.1.1)) (gvl_r1 fz_8_38.2.2 (show e_r (s_ai (s_ai T 113 dd (nI ((o + y) + 1))) 114 dd (nI (sn + 1))) 550 88 = some 106 from (wr_ai (wr_ai (hC.1.2.1 38))))) kK) ?_
          refine xe (fun _ _ kK => x_iload_n dX8_table_204 rfl 2 rfl kK) ?_
          refine xe (fun _ _ kK => x_iald dX8_table_205 (wK_ai (wK_ai (hC.1.2.2.1 17 (by decide)))) (show (nI dd) = nI dd from rfl) (wN_ai (wN_ai (mi_len hC.1 17 (by decide) (show dd < 8 by omega)))) (show e_ai (s_ai (s_ai T 113 dd (nI ((o + y) + 1))) 114 dd (nI (sn + 1))) 106 dd = nI f from (wai_ai (fun q => absurd q.1 (by decide)) (wai_ai (fun q => absurd q.1 (by decide)) (hC.2.2.1.2 dd f hf)))) kK) ?_
          refine xe (fun _ _ kK => x_iald dX8_table_206 (wK_ai (wK_ai (hC.1.2.2.1 4 (by decide)))) (show (nI f) = nI f from rfl) (wN_ai (wN_ai (mi_len hC.1 4 (by decide) (show f < 80 by omega)))) (show e_ai (s_ai (s_ai T 113 dd (nI ((o + y) + 1))) 114 dd (nI (sn + 1))) 93 f = nI (s.2.2.2.2.2.1 f) from (wai_ai (fun q => absurd q.1 (by decide)) (wai_ai (fun q => absurd q.1 (by decide)) (hC.2.1.2.2.1 f hf1).2.2.2))) kK) ?_
          refine xe_if_ne (tgt := 214) dX8_table_207 (by decide) (fun h207 => ?_) (fun h207 => ?_)
          · -- pc 214
            have h207 := cv_nz (by omega) h207
            refine xe (fun _ _ kK => x_iconst dX8_table_214 (show _ = nI 1 by decide) kK) ?_
            refine xe (fun _ _ kK => x_iadd dX8_table_215 kK) ?_
            refine xe_ti (show _ = nI (t + 1) from nI_add t 1) ?_
            refine xe (fun _ _ kK => x_istore dX8_table_216 (by decide) (show _ = [(6, .int (nI (t + 1))), (5, .int (nI lev)), (4, .int (nI (o + y))), (3, .int (nI dd)), (2, .int (nI i)), (0, .ref 88), (1, .int (nI c))] from rfl) kK) ?_
            refine xe (fun _ _ kK => x_iload_n dX8_table_218 rfl 3 rfl kK) ?_
            refine xe (fun _ _ kK => x_aload_n dX8_table_219 rfl 5 rfl kK) ?_
            refine xe (fun _ _ kK => x_get dX8_table_220 fl_X8_254 (wK_ai (wK_ai hC.1.1)) (gvl_i fz_8_37.2.2 (show e_i (s_ai (s_ai T 113 dd (nI ((o + y) + 1))) 114 dd (nI (sn + 1))) 549 88 = nI r.length from (wi_ai (wi_ai hC.2.2.1.1)))) kK) ?_
            refine xe (fun _ _ kK => x_iconst dX8_table_223 (show _ = nI 1 by decide) kK) ?_
            refine xe (fun _ _ kK => x_isub dX8_table_224 kK) ?_
            refine xe_ti (show _ = nI (r.length - 1) from pk_sub (by omega)) ?_
            have htt : t + (if s.2.2.2.2.2.1 f = 0 then 0 else 1) = t + 1 := by rw [if_neg h207]
            have hrst : rst (bdy s.2.2.2.2.2.1 pa i f [] t ag) (lev, t, false, lN 0, i) lev ag sn (ch pa x f lk) = bdy s.2.2.2.2.2.1 pa i f [] t ag y (lev) ++ rst (bdy s.2.2.2.2.2.1 pa i f [] t ag) (lev, t, false, lN 0, i) lev ag (sn + 1) (ch pa x f (y + 1)) := by rw [hch, rst_cons, hys, hlv9]
            rw [hrst] at hpop hlen
            rw [List.length_append] at hlen
            refine xe (fun _ _ kK => x_icmp_neF (tgt := 248) dX8_table_225 (by decide) (by rw [show r.length - 1 = dd by omega]) kK) ?_
            have hbd : bdy s.2.2.2.2.2.1 pa i f [] t ag y (lev) = [(lev, t + 1, true, pa.2.2.2 y, i)] := by show [_] = _; rw [htt]
            rw [hbd] at hpop hlen
            have hlen' : R.length + (1 + (rst (bdy s.2.2.2.2.2.1 pa i f [] t ag) (lev, t, false, lN 0, i) lev ag (sn + 1) (ch pa x f (y + 1))).length) ≤ 6300 := hlen
            refine xe (fun _ _ kK => x_aload_n dX8_table_228 rfl 5 rfl kK) ?_
            refine xe (fun _ _ kK => x_iload dX8_table_229 1 rfl kK) ?_
            refine xe (fun _ _ kK => x_iload dX8_table_231 0 rfl kK) ?_
            refine xe (fun _ _ kK => x_iconst dX8_table_233 (show _ = nI 1 by decide) kK) ?_
            refine xe (fun _ _ kK => x_aload_n dX8_table_234 rfl 5 rfl kK) ?_
            refine xe (fun _ _ kK => x_get dX8_table_235 fl_X8_83 (wK_ai (wK_ai hC.1.1)) (gvl_r1 fz_8_35.2.2 (show e_r (s_ai (s_ai T 113 dd (nI ((o + y) + 1))) 114 dd (nI (sn + 1))) 547 88 = some 105 from (wr_ai (wr_ai (hC.1.2.1 35))))) kK) ?_
            refine xe (fun _ _ kK => x_iload dX8_table_238 2 rfl kK) ?_
            refine xe (fun _ _ kK => x_lald dX8_table_240 (wK_ai (wK_ai (hC.1.2.2.1 16 (by decide)))) (show (nI (o + y)) = nI (o + y) from rfl) (wN_ai (wN_ai (mi_len hC.1 16 (by decide) (show o + y < 6200 by omega)))) (show e_al (s_ai (s_ai T 113 dd (nI ((o + y) + 1))) 114 dd (nI (sn + 1))) 105 (o + y) = pa.2.2.2 y from (wal_ai (wal_ai (hC.2.2.2.1 y hy2).2.2))) kK) ?_
            refine xe (fun _ _ kK => x_iload_n dX8_table_241 rfl 4 rfl kK) ?_
            have hF0 : FrM fsB asB T (s_ai (s_ai T 113 dd (nI ((o + y) + 1))) 114 dd (nI (sn + 1))) := (FrM.sai (FrM.sai FrM.rf (by decide) _ _) (by decide) _ _)
            refine xe_callV (a := 88) [.int (nI lev), .int (nI (t + 1)), .int (nI 1), .long (pa.2.2.2 y), .int (nI i)] dX8_table_242 ml_X8_267 mf_X8_putsRow (wK_ai (wK_ai hC.1.1)) (c_X8_putsRow d (T := (s_ai (s_ai T 113 dd (nI ((o + y) + 1))) 114 dd (nI (sn + 1)))) (hF0.mi hC.1) (wi_ai (wi_ai hR.1)) (by omega) (nI (lev)) (nI (t + 1)) (nI 1) (nI i) (pa.2.2.2 y)) rfl rfl (Nat.le_of_ble_eq_true rfl) (Nat.le_of_ble_eq_true rfl) ?_
            rintro _ _ ⟨rfl, rfl⟩
            refine xe (fun _ _ kK => x_goto (tgt := 262) dX8_table_245 (by decide) kK) ?_
            refine xe (fun _ _ kK => x_goto (tgt := 35) dX8_table_262 (by decide) kK) ?_
            have hF1 : FrM fsB asB T (s_i (s_ai (s_al (s_ai (s_ai (s_ai (s_ai (s_ai T 113 dd (nI ((o + y) + 1))) 114 dd (nI (sn + 1))) 107 R.length (nI (lev))) 108 R.length (nI (t + 1))) 109 R.length (vp_nar .boolean (nI 1))) 110 R.length (pa.2.2.2 y)) 111 R.length (nI i)) 551 88 (nI (R.length + 1))) := (FrM.si (FrM.sai (FrM.sal (FrM.sai (FrM.sai (FrM.sai (FrM.sai (FrM.sai FrM.rf (by decide) _ _) (by decide) _ _) (by decide) _ _) (by decide) _ _) (by decide) _ _) (by decide) _ _) (by decide) _ _) (by decide) _)
            have hR1 : MRw (s_i (s_ai (s_al (s_ai (s_ai (s_ai (s_ai (s_ai T 113 dd (nI ((o + y) + 1))) 114 dd (nI (sn + 1))) 107 R.length (nI (lev))) 108 R.length (nI (t + 1))) 109 R.length (vp_nar .boolean (nI 1))) 110 R.length (pa.2.2.2 y)) 111 R.length (nI i)) 551 88 (nI (R.length + 1))) (R ++ [(lev, t + 1, true, pa.2.2.2 y, i)]) := MRw_add hR rfl (fun j => by simp [q_i_i, q_i_ai, q_i_al, q_ai_ai, q_ai_i, q_ai_al, q_al_al, q_al_i, q_al_ai]) (fun j => by simp [q_i_i, q_i_ai, q_i_al, q_ai_ai, q_ai_i, q_ai_al, q_al_al, q_al_i, q_al_ai]) (fun j => by simp [q_i_i, q_i_ai, q_i_al, q_ai_ai, q_ai_i, q_ai_al, q_al_al, q_al_i, q_al_ai]; rfl) (fun j => by simp [q_i_i, q_i_ai, q_i_al, q_ai_ai, q_ai_i, q_ai_al, q_al_al, q_al_i, q_al_ai]) (fun j => by simp [q_i_i, q_i_ai, q_i_al, q_ai_ai, q_ai_i, q_ai_al, q_al_al, q_al_i, q_al_ai])
            have hFm1 : Fm (s_i (s_ai (s_al (s_ai (s_ai (s_ai (s_ai (s_ai T 113 dd (nI ((o + y) + 1))) 114 dd (nI (sn + 1))) 107 R.length (nI (lev))) 108 R.length (nI (t + 1))) 109 R.length (vp_nar .boolean (nI 1))) 110 R.length (pa.2.2.2 y)) 111 R.length (nI i)) 551 88 (nI (R.length + 1))) dd o x (y + 1) (sn + 1) t lev := ⟨(wai_i (wai_ai (fun q => absurd q.1 (by decide)) (wai_al (wai_ai (fun q => absurd q.1 (by decide)) (wai_ai (fun q => absurd q.1 (by decide)) (wai_ai (fun q => absurd q.1 (by decide)) (wai_ai (fun q => absurd q.1 (by decide)) (wai_ai (fun q => absurd q.1 (by decide)) hFm.1)))))))), by simp [q_i_i, q_i_ai, q_i_al, q_ai_ai, q_ai_i, q_ai_al, q_al_al, q_al_i, q_al_ai]; rw [Nat.add_assoc], by simp [q_i_i, q_i_ai, q_i_al, q_ai_ai, q_ai_i, q_ai_al, q_al_al, q_al_i, q_al_ai], (wai_i (wai_ai (fun q => absurd q.1 (by decide)) (wai_al (wai_ai (fun q => absurd q.1 (by decide)) (wai_ai (fun q => absurd q.1 (by decide)) (wai_ai (fun q => absurd q.1 (by decide)) (wai_ai (fun q => absurd q.1 (by decide)) (wai_ai (fun q => absurd q.1 (by decide)) hFm.2.2.2.1)))))))), (wai_i (wai_ai (fun q => absurd q.1 (by decide)) (wai_al (wai_ai (fun q => absurd q.1 (by decide)) (wai_ai (fun q => absurd q.1 (by decide)) (wai_ai (fun q => absurd q.1 (by decide)) (wai_ai (fun q => absurd q.1 (by decide)) (wai_ai (fun q => absurd q.1 (by decide)) hFm.2.2.2.2))))))))⟩
            have hLo : FmLow T (s_i (s_ai (s_al (s_ai (s_ai (s_ai (s_ai (s_ai T 113 dd (nI ((o + y) + 1))) 114 dd (nI (sn + 1))) 107 R.length (nI (lev))) 108 R.length (nI (t + 1))) 109 R.length (vp_nar .boolean (nI 1))) 110 R.length (pa.2.2.2 y)) 111 R.length (nI i)) 551 88 (nI (R.length + 1))) dd := fun j hj a ha => mem5 (P := fun a => e_ai _ a j = e_ai T a j) (wai_i (wai_ai (fun q => absurd q.1 (by decide)) (wai_al (wai_ai (fun q => absurd q.1 (by decide)) (wai_ai (fun q => absurd q.1 (by decide)) (wai_ai (fun q => absurd q.1 (by decide)) (wai_ai (fun q => absurd q.1 (by decide)) (wai_ai (fun q => absurd q.1 (by decide)) rfl)))))))) (wai_i (wai_ai (fun q => absurd q.1 (by decide)) (wai_al (wai_ai (fun q => absurd q.1 (by decide)) (wai_ai (fun q => absurd q.1 (by decide)) (wai_ai (fun q => absurd q.1 (by decide)) (wai_ai (fun q => absurd q.1 (by decide)) (wai_ai (by omega) rfl)))))))) (wai_i (wai_ai (fun q => absurd q.1 (by decide)) (wai_al (wai_ai (fun q => absurd q.1 (by decide)) (wai_ai (fun q => absurd q.1 (by decide)) (wai_ai (fun q => absurd q.1 (by decide)) (wai_ai (by omega) (wai_ai (fun q => absurd q.1 (by decide)) rfl)))))))) (wai_i (wai_ai (fun q => absurd q.1 (by decide)) (wai_al (wai_ai (fun q => absurd q.1 (by decide)) (wai_ai (fun q => absurd q.1 (by decide)) (wai_ai (fun q => absurd q.1 (by decide)) (wai_ai (fun q => absurd q.1 (by decide)) (wai_ai (fun q => absurd q.1 (by decide)) rfl)))))))) (wai_i (wai_ai (fun q => absurd q.1 (by decide)) (wai_al (wai_ai (fun q => absurd q.1 (by decide)) (wai_ai (fun q => absurd q.1 (by decide)) (wai_ai (fun q => absurd q.1 (by decide)) (wai_ai (fun q => absurd q.1 (by decide)) (wai_ai (fun q => absurd q.1 (by decide)) rfl)))))))) a ha
            refine xe_loc (by simp) (ih (pa.1 - (y + 1)) (by omega) (y + 1) (sn + 1) (s_i (s_ai (s_al (s_ai (s_ai (s_ai (s_ai (s_ai T 113 dd (nI ((o + y) + 1))) 114 dd (nI (sn + 1))) 107 R.length (nI (lev))) 108 R.length (nI (t + 1))) 109 R.length (vp_nar .boolean (nI 1))) 110 R.length (pa.2.2.2 y)) 111 R.length (nI i)) 551 88 (nI (R.length + 1))) _ rfl (by omega) (by omega) (hC.of hF1) hFm1 hR1 (by rw [List.length_append]; show R.length + 1 + _ ≤ _; omega) (fun T9 hF9 hL9 hR9 => hpop T9 (FrM.tr hF1 hF9) (hLo.tr hL9) (by rw [← List.append_assoc]; exact hR9)))
          · -- pc 210
            have h207 := cv_z (by omega) h207
            refine xe (fun _ _ kK => x_iconst dX8_table_210 (show _ = nI 0 by decide) kK) ?_
            refine xe (fun _ _ kK => x_goto (tgt := 215) dX8_table_211 (by decide) kK) ?_
            refine xe (fun _ _ kK => x_iadd dX8_table_215 kK) ?_
            refine xe_ti (show _ = nI (t + 0) from nI_add t 0) ?_
            refine xe (fun _ _ kK => x_istore dX8_table_216 (by decide) (show _ = [(6, .int (nI (t + 0))), (5, .int (nI lev)), (4, .int (nI (o + y))), (3, .int (nI dd)), (2, .int (nI i)), (0, .ref 88), (1, .int (nI c))] from rfl) kK) ?_
            refine xe (fun _ _ kK => x_iload_n dX8_table_218 rfl 3 rfl kK) ?_
            refine xe (fun _ _ kK => x_aload_n dX8_table_219 rfl 5 rfl kK) ?_
            refine xe (fun _ _ kK => x_get dX8_table_220 fl_X8_254 (wK_ai (wK_ai hC.1.1)) (gvl_i fz_8_37.2.2 (show e_i (s_ai (s_ai T 113 dd (nI ((o + y) + 1))) 114 dd (nI (sn + 1))) 549 88 = nI r.length from (wi_ai (wi_ai hC.2.2.1.1)))) kK) ?_
            refine xe (fun _ _ kK => x_iconst dX8_table_223 (show _ = nI 1 by decide) kK) ?_
            refine xe (fun _ _ kK => x_isub dX8_table_224 kK) ?_
            refine xe_ti (show _ = nI (r.length - 1) from pk_sub (by omega)) ?_
            have htt : t + (if s.2.2.2.2.2.1 f = 0 then 0 else 1) = t + 0 := by rw [if_pos h207]
            have hrst : rst (bdy s.2.2.2.2.2.1 pa i f [] t ag) (lev, t, false, lN 0, i) lev ag sn (ch pa x f lk) = bdy s.2.2.2.2.2.1 pa i f [] t ag y (lev) ++ rst (bdy s.2.2.2.2.2.1 pa i f [] t ag) (lev, t, false, lN 0, i) lev ag (sn + 1) (ch pa x f (y + 1)) := by rw [hch, rst_cons, hys, hlv9]
            rw [hrst] at hpop hlen
            rw [List.length_append] at hlen
            refine xe (fun _ _ kK => x_icmp_neF (tgt := 248) dX8_table_225 (by decide) (by rw [show r.length - 1 = dd by omega]) kK) ?_
            have hbd : bdy s.2.2.2.2.2.1 pa i f [] t ag y (lev) = [(lev, t + 0, true, pa.2.2.2 y, i)] := by show [_] = _; rw [htt]
            rw [hbd] at hpop hlen
            have hlen' : R.length + (1 + (rst (bdy s.2.2.2.2.2.1 pa i f [] t ag) (lev, t, false, lN 0, i) lev ag (sn + 1) (ch pa x f (y + 1))).length) ≤ 6300 := hlen
            refine xe (fun _ _ kK => x_aload_n dX8_table_228 rfl 5 rfl kK) ?_
            refine xe (fun _ _ kK => x_iload dX8_table_229 1 rfl kK) ?_
            refine xe (fun _ _ kK => x_iload dX8_table_231 0 rfl kK) ?_
            refine xe (fun _ _ kK => x_iconst dX8_table_233 (show _ = nI 1 by decide) kK) ?_
            refine xe (fun _ _ kK => x_aload_n dX8_table_234 rfl 5 rfl kK) ?_
            refine xe (fun _ _ kK => x_get dX8_table_235 fl_X8_83 (wK_ai (wK_ai hC.1.1)) (gvl_r1 fz_8_35.2.2 (show e_r (s_ai (s_ai T 113 dd (nI ((o + y) + 1))) 114 dd (nI (sn + 1))) 547 88 = some 105 from (wr_ai (wr_ai (hC.1.2.1 35))))) kK) ?_
            refine xe (fun _ _ kK => x_iload dX8_table_238 2 rfl kK) ?_
            refine xe (fun _ _ kK => x_lald dX8_table_240 (wK_ai (wK_ai (hC.1.2.2.1 16 (by decide)))) (show (nI (o + y)) = nI (o + y) from rfl) (wN_ai (wN_ai (mi_len hC.1 16 (by decide) (show o + y < 6200 by omega)))) (show e_al (s_ai (s_ai T 113 dd (nI ((o + y) + 1))) 114 dd (nI (sn + 1))) 105 (o + y) = pa.2.2.2 y from (wal_ai (wal_ai (hC.2.2.2.1 y hy2).2.2))) kK) ?_
            refine xe (fun _ _ kK => x_iload_n dX8_table_241 rfl 4 rfl kK) ?_
            have hF0 : FrM fsB asB T (s_ai (s_ai T 113 dd (nI ((o + y) + 1))) 114 dd (nI (sn + 1))) := (FrM.sai (FrM.sai FrM.rf (by decide) _ _) (by decide) _ _)
            refine xe_callV (a := 88) [.int (nI lev), .int (nI (t + 0)), .int (nI 1), .long (pa.2.2.2 y), .int (nI i)] dX8_table_242 ml_X8_267 mf_X8_putsRow (wK_ai (wK_ai hC.1.1)) (c_X8_putsRow d (T := (s_ai (s_ai T 113 dd (nI ((o + y) + 1))) 114 dd (nI (sn + 1)))) (hF0.mi hC.1) (wi_ai (wi_ai hR.1)) (by omega) (nI (lev)) (nI (t + 0)) (nI 1) (nI i) (pa.2.2.2 y)) rfl rfl (Nat.le_of_ble_eq_true rfl) (Nat.le_of_ble_eq_true rfl) ?_
            rintro _ _ ⟨rfl, rfl⟩
            refine xe (fun _ _ kK => x_goto (tgt := 262) dX8_table_245 (by decide) kK) ?_
            refine xe (fun _ _ kK => x_goto (tgt := 35) dX8_table_262 (by decide) kK) ?_
            have hF1 : FrM fsB asB T (s_i (s_ai (s_al (s_ai (s_ai (s_ai (s_ai (s_ai T 113 dd (nI ((o + y) + 1))) 114 dd (nI (sn + 1))) 107 R.length (nI (lev))) 108 R.length (nI (t + 0))) 109 R.length (vp_nar .boolean (nI 1))) 110 R.length (pa.2.2.2 y)) 111 R.length (nI i)) 551 88 (nI (R.length + 1))) := (FrM.si (FrM.sai (FrM.sal (FrM.sai (FrM.sai (FrM.sai (FrM.sai (FrM.sai FrM.rf (by decide) _ _) (by decide) _ _) (by decide) _ _) (by decide) _ _) (by decide) _ _) (by decide) _ _) (by decide) _ _) (by decide) _)
            have hR1 : MRw (s_i (s_ai (s_al (s_ai (s_ai (s_ai (s_ai (s_ai T 113 dd (nI ((o + y) + 1))) 114 dd (nI (sn + 1))) 107 R.length (nI (lev))) 108 R.length (nI (t + 0))) 109 R.length (vp_nar .boolean (nI 1))) 110 R.length (pa.2.2.2 y)) 111 R.length (nI i)) 551 88 (nI (R.length + 1))) (R ++ [(lev, t + 0, true, pa.2.2.2 y, i)]) := MRw_add hR rfl (fun j => by simp [q_i_i, q_i_ai, q_i_al, q_ai_ai, q_ai_i, q_ai_al, q_al_al, q_al_i, q_al_ai]) (fun j => by simp [q_i_i, q_i_ai, q_i_al, q_ai_ai, q_ai_i, q_ai_al, q_al_al, q_al_i, q_al_ai]) (fun j => by simp [q_i_i, q_i_ai, q_i_al, q_ai_ai, q_ai_i, q_ai_al, q_al_al, q_al_i, q_al_ai]; rfl) (fun j => by simp [q_i_i, q_i_ai, q_i_al, q_ai_ai, q_ai_i, q_ai_al, q_al_al, q_al_i, q_al_ai]) (fun j => by simp [q_i_i, q_i_ai, q_i_al, q_ai_ai, q_ai_i, q_ai_al, q_al_al, q_al_i, q_al_ai])
            have hFm1 : Fm (s_i (s_ai (s_al (s_ai (s_ai (s_ai (s_ai (s_ai T 113 dd (nI ((o + y) + 1))) 114 dd (nI (sn + 1))) 107 R.length (nI (lev))) 108 R.length (nI (t + 0))) 109 R.length (vp_nar .boolean (nI 1))) 110 R.length (pa.2.2.2 y)) 111 R.length (nI i)) 551 88 (nI (R.length + 1))) dd o x (y + 1) (sn + 1) t lev := ⟨(wai_i (wai_ai (fun q => absurd q.1 (by decide)) (wai_al (wai_ai (fun q => absurd q.1 (by decide)) (wai_ai (fun q => absurd q.1 (by decide)) (wai_ai (fun q => absurd q.1 (by decide)) (wai_ai (fun q => absurd q.1 (by decide)) (wai_ai (fun q => absurd q.1 (by decide)) hFm.1)))))))), by simp [q_i_i, q_i_ai, q_i_al, q_ai_ai, q_ai_i, q_ai_al, q_al_al, q_al_i, q_al_ai]; rw [Nat.add_assoc], by simp [q_i_i, q_i_ai, q_i_al, q_ai_ai, q_ai_i, q_ai_al, q_al_al, q_al_i, q_al_ai], (wai_i (wai_ai (fun q => absurd q.1 (by decide)) (wai_al (wai_ai (fun q => absurd q.1 (by decide)) (wai_ai (fun q => absurd q.1 (by decide)) (wai_ai (fun q => absurd q.1 (by decide)) (wai_ai (fun q => absurd q.1 (by decide)) (wai_ai (fun q => absurd q.1 (by decide)) hFm.2.2.2.1)))))))), (wai_i (wai_ai (fun q => absurd q.1 (by decide)) (wai_al (wai_ai (fun q => absurd q.1 (by decide)) (wai_ai (fun q => absurd q.1 (by decide)) (wai_ai (fun q => absurd q.1 (by decide)) (wai_ai (fun q => absurd q.1 (by decide)) (wai_ai (fun q => absurd q.1 (by decide)) hFm.2.2.2.2))))))))⟩
            have hLo : FmLow T (s_i (s_ai (s_al (s_ai (s_ai (s_ai (s_ai (s_ai T 113 dd (nI ((o + y) + 1))) 114 dd (nI (sn + 1))) 107 R.length (nI (lev))) 108 R.length (nI (t + 0))) 109 R.length (vp_nar .boolean (nI 1))) 110 R.length (pa.2.2.2 y)) 111 R.length (nI i)) 551 88 (nI (R.length + 1))) dd := fun j hj a ha => mem5 (P := fun a => e_ai _ a j = e_ai T a j) (wai_i (wai_ai (fun q => absurd q.1 (by decide)) (wai_al (wai_ai (fun q => absurd q.1 (by decide)) (wai_ai (fun q => absurd q.1 (by decide)) (wai_ai (fun q => absurd q.1 (by decide)) (wai_ai (fun q => absurd q.1 (by decide)) (wai_ai (fun q => absurd q.1 (by decide)) rfl)))))))) (wai_i (wai_ai (fun q => absurd q.1 (by decide)) (wai_al (wai_ai (fun q => absurd q.1 (by decide)) (wai_ai (fun q => absurd q.1 (by decide)) (wai_ai (fun q => absurd q.1 (by decide)) (wai_ai (fun q => absurd q.1 (by decide)) (wai_ai (by omega) rfl)))))))) (wai_i (wai_ai (fun q => absurd q.1 (by decide)) (wai_al (wai_ai (fun q => absurd q.1 (by decide)) (wai_ai (fun q => absurd q.1 (by decide)) (wai_ai (fun q => absurd q.1 (by decide)) (wai_ai (by omega) (wai_ai (fun q => absurd q.1 (by decide)) rfl)))))))) (wai_i (wai_ai (fun q => absurd q.1 (by decide)) (wai_al (wai_ai (fun q => absurd q.1 (by decide)) (wai_ai (fun q => absurd q.1 (by decide)) (wai_ai (fun q => absurd q.1 (by decide)) (wai_ai (fun q => absurd q.1 (by decide)) (wai_ai (fun q => absurd q.1 (by decide)) rfl)))))))) (wai_i (wai_ai (fun q => absurd q.1 (by decide)) (wai_al (wai_ai (fun q => absurd q.1 (by decide)) (wai_ai (fun q => absurd q.1 (by decide)) (wai_ai (fun q => absurd q.1 (by decide)) (wai_ai (fun q => absurd q.1 (by decide)) (wai_ai (fun q => absurd q.1 (by decide)) rfl)))))))) a ha
            refine xe_loc (by simp) (ih (pa.1 - (y + 1)) (by omega) (y + 1) (sn + 1) (s_i (s_ai (s_al (s_ai (s_ai (s_ai (s_ai (s_ai T 113 dd (nI ((o + y) + 1))) 114 dd (nI (sn + 1))) 107 R.length (nI (lev))) 108 R.length (nI (t + 0))) 109 R.length (vp_nar .boolean (nI 1))) 110 R.length (pa.2.2.2 y)) 111 R.length (nI i)) 551 88 (nI (R.length + 1))) _ rfl (by omega) (by omega) (hC.of hF1) hFm1 hR1 (by rw [List.length_append]; show R.length + 1 + _ ≤ _; omega) (fun T9 hF9 hL9 hR9 => hpop T9 (FrM.tr hF1 hF9) (hLo.tr hL9) (by rw [← List.append_assoc]; exact hR9)))
  | cons f2 fs2 ihf =>
    intro pr f dd hr hdd ag hag x t lev hx ht hlev m
    have hs60 := hB.1
    have hrl : r.length = dd + 1 + (fs2.length + 1) := by rw [hr]; simp; omega
    have hf : r[dd]? = some f := by rw [hr, ← hdd]; simp
    have hf1 := hlt f (List.mem_of_getElem? hf)
    have hMf := (hB.2.2.2 f hf1).2
    have hagl : ag ≤ 5 := by rw [hag]; have := mc_le s.2.2.2.2.2.1 (pr ++ [f]); simp at this; omega
    induction m using Nat.strongRecOn with
    | ind m ih =>
      intro lk sn T R hm hlk hsn hC hFm hR hlen hpop
      subst hm
      refine xe (fun _ _ kK => x_iload_n dX8_table_35 rfl 0 rfl kK) ?_
      refine xe (fun _ _ kK => x_if_ltF (tgt := 265) dX8_table_36 (by decide) (nI_pos (by omega)) kK) ?_
      refine xe (fun _ _ kK => x_aload_n dX8_table_39 rfl 2 rfl kK) ?_
      refine xe (fun _ _ kK => x_get dX8_table_40 fl_X8_108 hC.1.1 (gvl_r1 fz_8_46.2.2 (show e_r T 558 88 = some 113 from (hC.1.2.1 46))) kK) ?_
      refine xe (fun _ _ kK => x_iload_n dX8_table_43 rfl 0 rfl kK) ?_
      refine xe (fun _ _ kK => x_iald dX8_table_44 (hC.1.2.2.1 24 (by decide)) (show (nI dd) = nI dd from rfl) (mi_len hC.1 24 (by decide) (show dd < 8 by omega)) (show e_ai T 113 dd = nI (o + lk) from hFm.2.1) kK) ?_
      refine xe (fun _ _ kK => x_istore dX8_table_45 (by decide) (show _ = [(4, .int (nI (o + lk))), (3, .int (nI dd)), (2, .int (nI i)), (0, .ref 88), (1, .int (nI c))] from rfl) kK) ?_
      refine xe_loc (L' := [(4, .int (nI (o + lk))), (3, .int (nI dd)), (2, .int (nI i)), (0, .ref 88), (1, .int (nI c))]) (by simp) ?_
      refine l_X8_search (d + 1) hC hok hs60 hb hi (by omega) hf (by omega) hx hFm.1 (pa.1 - lk) lk rfl hlk (fun hch => ?_) (fun y ys hch hy1 hy2 hys => ?_)
      · -- pc 98
        refine xe (fun _ _ kK => x_iload dX8_table_98 0 rfl kK) ?_
        refine xe (fun _ _ kK => x_aload_n dX8_table_100 rfl 3 rfl kK) ?_
        refine xe (fun _ _ kK => x_get dX8_table_101 fl_X8_74 hC.1.1 (gvl_r1 fz_8_32.2.2 (show e_r T 544 88 = some 102 from (hC.1.2.1 32))) kK) ?_
        refine xe (fun _ _ kK => x_iload_n dX8_table_104 rfl 2 rfl kK) ?_
        refine xe (fun _ _ kK => x_iconst dX8_table_105 (show _ = nI 1 by decide) kK) ?_
        refine xe (fun _ _ kK => x_iadd dX8_table_106 kK) ?_
        refine xe_ti (show _ = nI (i + 1) from nI_add i 1) ?_
        refine xe (fun _ _ kK => x_iald dX8_table_107 (hC.1.2.2.1 13 (by decide)) (show (nI (i + 1)) = nI (i + 1) from rfl) (mi_len hC.1 13 (by decide) (show i + 1 < 31 by omega)) (show e_ai T 102 (i + 1) = nI (o + pa.1) from hC.2.2.2.2) kK) ?_
        refine xe (fun _ _ kK => x_icmp_neF (tgt := 145) dX8_table_108 (by decide) rfl kK) ?_
        refine xe (fun _ _ kK => x_aload_n dX8_table_111 rfl 3 rfl kK) ?_
        refine xe (fun _ _ kK => x_get dX8_table_112 fl_X8_111 hC.1.1 (gvl_r1 fz_8_47.2.2 (show e_r T 559 88 = some 114 from (hC.1.2.1 47))) kK) ?_
        refine xe (fun _ _ kK => x_iload_n dX8_table_115 rfl 1 rfl kK) ?_
        refine xe (fun _ _ kK => x_iald dX8_table_116 (hC.1.2.2.1 25 (by decide)) (show (nI dd) = nI dd from rfl) (mi_len hC.1 25 (by decide) (show dd < 8 by omega)) (show e_ai T 114 dd = nI sn from hFm.2.2.1) kK) ?_
        refine xe_if_ne (tgt := 139) dX8_table_117 (by decide) (fun h117 => ?_) (fun h117 => ?_)
        · -- pc 139
          have h117 := cv_nz (by omega) h117
          refine xe (fun _ _ kK => x_iinc dX8_table_139 1 rfl rfl (by decide) (show _ = [(3, .int ((nI dd) + Int32.ofInt (-1))), (4, .int (nI (o + pa.1))), (2, .int (nI i)), (0, .ref 88), (1, .int (nI c))] from rfl) kK) ?_
          refine xe (fun _ _ kK => x_goto (tgt := 35) dX8_table_142 (by decide) kK) ?_
          have hrst : rst (bdy s.2.2.2.2.2.1 pa i f (f2 :: fs2) t ag) (lev, t, false, lN 0, i) lev ag sn (ch pa x f lk) = [] := by rw [hch, rst, if_neg h117]; rfl
          rw [hrst, List.append_nil] at hpop
          exact xe_loc (by simp) (hpop T FrM.rf FmLow.rf hR)
        · -- pc 120
          have h117 := cv_z (by omega) h117
          have hrst : rst (bdy s.2.2.2.2.2.1 pa i f (f2 :: fs2) t ag) (lev, t, false, lN 0, i) lev ag sn (ch pa x f lk) = [(lev, t, false, lN 0, i)] := by rw [hch, rst, if_pos h117]
          rw [hrst] at hpop hlen
          have hlen' : R.length + 1 ≤ 6300 := hlen
          refine xe (fun _ _ kK => x_aload_n dX8_table_120 rfl 3 rfl kK) ?_
          refine xe (fun _ _ kK => x_aload_n dX8_table_121 rfl 3 rfl kK) ?_
          refine xe (fun _ _ kK => x_get dX8_table_122 fl_X8_117 hC.1.1 (gvl_r1 fz_8_49.2.2 (show e_r T 561 88 = some 116 from (hC.1.2.1 49))) kK) ?_
          refine xe (fun _ _ kK => x_iload_n dX8_table_125 rfl 1 rfl kK) ?_
          refine xe (fun _ _ kK => x_iald dX8_table_126 (hC.1.2.2.1 27 (by decide)) (show (nI dd) = nI dd from rfl) (mi_len hC.1 27 (by decide) (show dd < 8 by omega)) (show e_ai T 116 dd = nI lev from hFm.2.2.2.2) kK) ?_
          refine xe (fun _ _ kK => x_aload_n dX8_table_127 rfl 3 rfl kK) ?_
          refine xe (fun _ _ kK => x_get dX8_table_128 fl_X8_114 hC.1.1 (gvl_r1 fz_8_48.2.2 (show e_r T 560 88 = some 115 from (hC.1.2.1 48))) kK) ?_
          refine xe (fun _ _ kK => x_iload_n dX8_table_131 rfl 1 rfl kK) ?_
          refine xe (fun _ _ kK => x_iald dX8_table_132 (hC.1.2.2.1 26 (by decide)) (show (nI dd) = nI dd from rfl) (mi_len hC.1 26 (by decide) (show dd < 8 by omega)) (show e_ai T 115 dd = nI t from hFm.2.2.2.1) kK) ?_
          refine xe (fun _ _ kK => x_iconst dX8_table_133 (show _ = nI 0 by decide) kK) ?_
          refine xe (fun _ _ kK => x_lconst dX8_table_134 (show _ = lN 0 by decide) kK) ?_
          refine xe (fun _ _ kK => x_iload_n dX8_table_135 rfl 2 rfl kK) ?_
          refine xe_callV (a := 88) [.int (nI lev), .int (nI t), .int (nI 0), .long (lN 0), .int (nI i)] dX8_table_136 ml_X8_267 mf_X8_putsRow hC.1.1 (c_X8_putsRow d hC.1 hR.1 (by omega) (nI lev) (nI t) (nI 0) (nI i) (lN 0)) rfl rfl (Nat.le_of_ble_eq_true rfl) (Nat.le_of_ble_eq_true rfl) ?_
          rintro _ _ ⟨rfl, rfl⟩
          refine xe (fun _ _ kK => x_iinc dX8_table_139 1 rfl rfl (by decide) (show _ = [(3, .int ((nI dd) + Int32.ofInt (-1))), (4, .int (nI (o + pa.1))), (2, .int (nI i)), (0, .ref 88), (1, .int (nI c))] from rfl) kK) ?_
          refine xe (fun _ _ kK => x_goto (tgt := 35) dX8_table_142 (by decide) kK) ?_
          refine xe_loc (by simp) (hpop _ (FrM.si (FrM.sai (FrM.sal (FrM.sai (FrM.sai (FrM.sai FrM.rf (by decide) _ _) (by decide) _ _) (by decide) _ _) (by decide) _ _) (by decide) _ _) (by decide) _) (fun j hj a ha => mem5 (P := fun a => e_ai _ a j = e_ai T a j) (wai_i (wai_ai (fun q => absurd q.1 (by decide)) (wai_al (wai_ai (fun q => absurd q.1 (by decide)) (wai_ai (fun q => absurd q.1 (by decide)) (wai_ai (fun q => absurd q.1 (by decide)) rfl)))))) (wai_i (wai_ai (fun q => absurd q.1 (by decide)) (wai_al (wai_ai (fun q => absurd q.1 (by decide)) (wai_ai (fun q => absurd q.1 (by decide)) (wai_ai (fun q => absurd q.1 (by decide)) rfl)))))) (wai_i (wai_ai (fun q => absurd q.1 (by decide)) (wai_al (wai_ai (fun q => absurd q.1 (by decide)) (wai_ai (fun q => absurd q.1 (by decide)) (wai_ai (fun q => absurd q.1 (by decide)) rfl)))))) (wai_i (wai_ai (fun q => absurd q.1 (by decide)) (wai_al (wai_ai (fun q => absurd q.1 (by decide)) (wai_ai (fun q => absurd q.1 (by decide)) (wai_ai (fun q => absurd q.1 (by decide)) rfl)))))) (wai_i (wai_ai (fun q => absurd q.1 (by decide)) (wai_al (wai_ai (fun q => absurd q.1 (by decide)) (wai_ai (fun q => absurd q.1 (by decide)) (wai_ai (fun q => absurd q.1 (by decide)) rfl)))))) a ha) (MRw_add hR rfl (fun j => by simp [q_i_i, q_i_ai, q_i_al, q_ai_ai, q_ai_i, q_ai_al, q_al_al, q_al_i, q_al_ai]) (fun j => by simp [q_i_i, q_i_ai, q_i_al, q_ai_ai, q_ai_i, q_ai_al, q_al_al, q_al_i, q_al_ai]) (fun j => by simp [q_i_i, q_i_ai, q_i_al, q_ai_ai, q_ai_i, q_ai_al, q_al_al, q_al_i, q_al_ai]; rfl) (fun j => by simp [q_i_i, q_i_ai, q_i_al, q_ai_ai, q_ai_i, q_ai_al, q_al_al, q_al_i, q_al_ai]) (fun j => by simp [q_i_i, q_i_ai, q_i_al, q_ai_ai, q_ai_i, q_ai_al, q_al_al, q_al_i, q_al_ai])))
      · -- pc 98
        refine xe (fun _ _ kK => x_iload dX8_table_98 0 rfl kK) ?_
        refine xe (fun _ _ kK => x_aload_n dX8_table_100 rfl 3 rfl kK) ?_
        refine xe (fun _ _ kK => x_get dX8_table_101 fl_X8_74 hC.1.1 (gvl_r1 fz_8_32.2.2 (show e_r T 544 88 = some 102 from (hC.1.2.1 32))) kK) ?_
        refine xe (fun _ _ kK => x_iload_n dX8_table_104 rfl 2 rfl kK) ?_
        refine xe (fun _ _ kK => x_iconst dX8_table_105 (show _ = nI 1 by decide) kK) ?_
        refine xe (fun _ _ kK => x_iadd dX8_table_106 kK) ?_
        refine xe_ti (show _ = nI (i + 1) from nI_add i 1) ?_
        refine xe (fun _ _ kK => x_iald dX8_table_107 (hC.1.2.2.1 13 (by decide)) (show (nI (i + 1)) = nI (i + 1) from rfl) (mi_len hC.1 13 (by decide) (show i + 1 < 31 by omega)) (show e_ai T 102 (i + 1) = nI (o + pa.1) from hC.2.2.2.2) kK) ?_
        refine xe (fun _ _ kK => x_icmp_neT (tgt := 145) dX8_table_108 (by decide) (fun z => by have := cv_eq (by omega) (by omega) z; omega) kK) ?_
        refine xe (fun _ _ kK => x_aload_n dX8_table_145 rfl 3 rfl kK) ?_
        refine xe (fun _ _ kK => x_get dX8_table_146 fl_X8_108 hC.1.1 (gvl_r1 fz_8_46.2.2 (show e_r T 558 88 = some 113 from (hC.1.2.1 46))) kK) ?_
        refine xe (fun _ _ kK => x_iload_n dX8_table_149 rfl 1 rfl kK) ?_
        refine xe (fun _ _ kK => x_iload dX8_table_150 0 rfl kK) ?_
        refine xe (fun _ _ kK => x_iconst dX8_table_152 (show _ = nI 1 by decide) kK) ?_
        refine xe (fun _ _ kK => x_iadd dX8_table_153 kK) ?_
        refine xe_ti (show _ = nI ((o + y) + 1) from nI_add (o + y) 1) ?_
        refine xe (fun _ _ kK => x_iast dX8_table_154 (hC.1.2.2.1 24 (by decide)) (show (nI dd) = nI dd from rfl) (mi_len hC.1 24 (by decide) (show dd < 8 by omega)) kK) ?_
        refine xe (fun _ _ kK => x_aload_n dX8_table_155 rfl 3 rfl kK) ?_
        refine xe (fun _ _ kK => x_get dX8_table_156 fl_X8_111 (wK_ai hC.1.1) (gvl_r1 fz_8_47.2.2 (show e_r (s_ai T 113 dd (nI ((o + y) + 1))) 559 88 = some 114 from (wr_ai (hC.1.2.1 47)))) kK) ?_
        refine xe (fun _ _ kK => x_iload_n dX8_table_159 rfl 1 rfl kK) ?_
        refine xe (fun _ _ kK => x_iald dX8_table_160 (wK_ai (hC.1.2.2.1 25 (by decide))) (show (nI dd) = nI dd from rfl) (wN_ai (mi_len hC.1 25 (by decide) (show dd < 8 by omega))) (show e_ai (s_ai T 113 dd (nI ((o + y) + 1))) 114 dd = nI sn from (wai_ai (fun q => absurd q.1 (by decide)) hFm.2.2.1)) kK) ?_
        have hsn4 : sn < 500 := by omega
        refine xe_if_ne (tgt := 173) dX8_table_161 (by decide) (fun h161 => ?_) (fun h161 => ?_)
        · -- pc 173
          have h161 := cv_nz (by omega) h161
          refine xe (fun _ _ kK => x_aload_n dX8_table_173 rfl 3 rfl kK) ?_
          refine xe (fun _ _ kK => x_iload_n dX8_table_174 rfl 1 rfl kK) ?_
          have hag2 : mc s.2.2.2.2.2.1 (r.take (dd + 1)) = ag := by rw [take_s hf, show r.take dd = pr by rw [hr, ← hdd]; simp, hag]
          have hCt : TC (s_ai T 113 dd (nI ((o + y) + 1))) s r o i pa := hC.of (FrM.sai FrM.rf (by decide) _ _)
          refine xe_callV (a := 88) [.int (nI dd)] dX8_table_175 ml_X8_271 mf_X8_manyUpTo (wK_ai hC.1.1) (by have := c_X8_manyUpTo d (T := (s_ai T 113 dd (nI ((o + y) + 1)))) (dd := dd) hCt.1 hCt.2.1 hB hCt.2.2.1 hlt (by omega) hr5; rw [hag2] at this; exact this) rfl rfl (Nat.le_of_ble_eq_true rfl) (Nat.le_of_ble_eq_true rfl) ?_
          rintro _ T9 ⟨rfl, h9⟩
          refine xe_T h9 ?_
          have hlv9 : (if sn = 0 then lev else ag) = ag := if_neg h161
          refine xe (fun _ _ kK => x_istore dX8_table_178 (by decide) (show _ = [(5, .int (nI ag)), (4, .int (nI (o + y))), (3, .int (nI dd)), (2, .int (nI i)), (0, .ref 88), (1, .int (nI c))] from rfl) kK) ?_
          refine xe (fun _ _ kK => x_aload_n dX8_table_180 rfl 4 rfl kK) ?_
          refine xe (fun _ _ kK => x_get dX8_table_181 fl_X8_111 (wK_ai hC.1.1) (gvl_r1 fz_8_47.2.2 (show e_r (s_ai T 113 dd (nI ((o + y) + 1))) 559 88 = some 114 from (wr_ai (hC.1.2.1 47)))) kK) ?_
          refine xe (fun _ _ kK => x_iload_n dX8_table_184 rfl 2 rfl kK) ?_
          refine xe (fun _ _ kK => x_dup2 dX8_table_185 rfl rfl kK) ?_
          refine xe (fun _ _ kK => x_iald dX8_table_186 (wK_ai (hC.1.2.2.1 25 (by decide))) (show (nI dd) = nI dd from rfl) (wN_ai (mi_len hC.1 25 (by decide) (show dd < 8 by omega))) (show e_ai (s_ai T 113 dd (nI ((o + y) + 1))) 114 dd = nI sn from (wai_ai (fun q => absurd q.1 (by decide)) hFm.2.2.1)) kK) ?_
          refine xe (fun _ _ kK => x_iconst dX8_table_187 (show _ = nI 1 by decide) kK) ?_
          refine xe (fun _ _ kK => x_iadd dX8_table_188 kK) ?_
          refine xe_ti (show _ = nI (sn + 1) from nI_add sn 1) ?_
          refine xe (fun _ _ kK => x_iast dX8_table_189 (wK_ai (hC.1.2.2.1 25 (by decide))) (show (nI dd) = nI dd from rfl) (wN_ai (mi_len hC.1 25 (by decide) (show dd < 8 by omega))) kK) ?_
          refine xe (fun _ _ kK => x_aload_n dX8_table_190 rfl 4 rfl kK) ?_
          refine xe (fun _ _ kK => x_get dX8_table_191 fl_X8_114 (wK_ai (wK_ai hC.1.1)) (gvl_r1 fz_8_48.2.2 (show e_r (s_ai (s_ai T 113 dd (nI ((o + y) + 1))) 114 dd (nI (sn + 1))) 560 88 = some 115 from (wr_ai (wr_ai (hC.1.2.1 48))))) kK) ?_
          refine xe (fun _ _ kK => x_iload_n dX8_table_194 rfl 2 rfl kK) ?_
          refine xe (fun _ _ kK => x_iald dX8_table_195 (wK_ai (wK_ai (hC.1.2.2.1 26 (by decide)))) (show (nI dd) = nI dd from rfl) (wN_ai (wN_ai (mi_len hC.1 26 (by decide) (show dd < 8 by omega)))) (show e_ai (s_ai (s_ai T 113 dd (nI ((o + y) + 1))) 114 dd (nI (sn + 1))) 115 dd = nI t from (wai_ai (fun q => absurd q.1 (by decide)) (wai_ai (fun q => absurd q.1 (by decide)) hFm.2.2.2.1))) kK) ?_
          refine xe (fun _ _ kK => x_aload_n dX8_table_196 rfl 4 rfl kK) ?_
          refine xe (fun _ _ kK => x_get dX8_table_197 fl_X8_47 (wK_ai (wK_ai hC.1.1)) (gvl_r1 fz_8_19.2.2 (show e_r (s_ai (s_ai T 113 dd (nI ((o + y) + 1))) 114 dd (nI (sn + 1))) 531 88 = some 93 from (wr_ai (wr_ai (hC.1.2.1 19))))) kK) ?_
          refine xe (fun _ _ kK => x_aload_n dX8_table_200 rfl 4 rfl kK) ?_
          refine xe (fun _ _ kK => x_get dX8_table_201 fl_X8_86 (wK_ai (wK_ai hC.1.1)) (gvl_r1 fz_8_38.2.2 (show e_r (s_ai (s_ai T 113 dd (nI ((o + y) + 1))) 114 dd (nI (sn + 1))) 550 88 = some 106 from (wr_ai (wr_ai (hC.1.2.1 38))))) kK) ?_
          refine xe (fun _ _ kK => x_iload_n dX8_table_204 rfl 2 rfl kK) ?_
          refine xe (fun _ _ kK => x_iald dX8_table_205 (wK_ai (wK_ai (hC.1.2.2.1 17 (by decide)))) (show (nI dd) = nI dd from rfl) (wN_ai (wN_ai (mi_len hC.1 17 (by decide) (show dd < 8 by omega)))) (show e_ai (s_ai (s_ai T 113 dd (nI ((o + y) + 1))) 114 dd (nI (sn + 1))) 106 dd = nI f from (wai_ai (fun q => absurd q.1 (by decide)) (wai_ai (fun q => absurd q.1 (by decide)) (hC.2.2.1.2 dd f hf)))) kK) ?_
          refine xe (fun _ _ kK => x_iald dX8_table_206 (wK_ai (wK_ai (hC.1.2.2.1 4 (by decide)))) (show (nI f) = nI f from rfl) (wN_ai (wN_ai (mi_len hC.1 4 (by decide) (show f < 80 by omega)))) (show e_ai (s_ai (s_ai T 113 dd (nI ((o + y) + 1))) 114 dd (nI (sn + 1))) 93 f = nI (s.2.2.2.2.2.1 f) from (wai_ai (fun q => absurd q.1 (by decide)) (wai_ai (fun q => absurd q.1 (by decide)) (hC.2.1.2.2.1 f hf1).2.2.2))) kK) ?_
          refine xe_if_ne (tgt := 214) dX8_table_207 (by decide) (fun h207 => ?_) (fun h207 => ?_)
          · -- pc 214
            have h207 := cv_nz (by omega) h207
            refine xe (fun _ _ kK => x_iconst dX8_table_214 (show _ = nI 1 by decide) kK) ?_
            refine xe (fun _ _ kK => x_iadd dX8_table_215 kK) ?_
            refine xe_ti (show _ = nI (t + 1) from nI_add t 1) ?_
            refine xe (fun _ _ kK => x_istore dX8_table_216 (by decide) (show _ = [(6, .int (nI (t + 1))), (5, .int (nI ag)), (4, .int (nI (o + y))), (3, .int (nI dd)), (2, .int (nI i)), (0, .ref 88), (1, .int (nI c))] from rfl) kK) ?_
            refine xe (fun _ _ kK => x_iload_n dX8_table_218 rfl 3 rfl kK) ?_
            refine xe (fun _ _ kK => x_aload_n dX8_table_219 rfl 5 rfl kK) ?_
            refine xe (fun _ _ kK => x_get dX8_table_220 fl_X8_254 (wK_ai (wK_ai hC.1.1)) (gvl_i fz_8_37.2.2 (show e_i (s_ai (s_ai T 113 dd (nI ((o + y) + 1))) 114 dd (nI (sn + 1))) 549 88 = nI r.length from (wi_ai (wi_ai hC.2.2.1.1)))) kK) ?_
            refine xe (fun _ _ kK => x_iconst dX8_table_223 (show _ = nI 1 by decide) kK) ?_
            refine xe (fun _ _ kK => x_isub dX8_table_224 kK) ?_
            refine xe_ti (show _ = nI (r.length - 1) from pk_sub (by omega)) ?_
            have htt : t + (if s.2.2.2.2.2.1 f = 0 then 0 else 1) = t + 1 := by rw [if_neg h207]
            have hrst : rst (bdy s.2.2.2.2.2.1 pa i f (f2 :: fs2) t ag) (lev, t, false, lN 0, i) lev ag sn (ch pa x f lk) = bdy s.2.2.2.2.2.1 pa i f (f2 :: fs2) t ag y (ag) ++ rst (bdy s.2.2.2.2.2.1 pa i f (f2 :: fs2) t ag) (lev, t, false, lN 0, i) lev ag (sn + 1) (ch pa x f (y + 1)) := by rw [hch, rst_cons, hys, hlv9]
            rw [hrst] at hpop hlen
            rw [List.length_append] at hlen
            refine xe (fun _ _ kK => x_icmp_neT (tgt := 248) dX8_table_225 (by decide) (fun z9 => by have := cv_eq (by omega) (by omega) z9; omega) kK) ?_
            refine xe (fun _ _ kK => x_iinc dX8_table_248 3 rfl (show (nI dd) + Int32.ofInt 1 = nI (dd + 1) from nI_add dd 1) (by decide) (show _ = [(3, .int (nI (dd + 1))), (6, .int (nI (t + 1))), (5, .int (nI ag)), (4, .int (nI (o + y))), (2, .int (nI i)), (0, .ref 88), (1, .int (nI c))] from rfl) kK) ?_
            refine xe (fun _ _ kK => x_aload_n dX8_table_251 rfl 5 rfl kK) ?_
            refine xe (fun _ _ kK => x_iload_n dX8_table_252 rfl 0 rfl kK) ?_
            refine xe (fun _ _ kK => x_iload dX8_table_253 3 rfl kK) ?_
            refine xe (fun _ _ kK => x_iload dX8_table_255 1 rfl kK) ?_
            refine xe (fun _ _ kK => x_iload dX8_table_257 2 rfl kK) ?_
            have hF0 : FrM fsB asB T (s_ai (s_ai T 113 dd (nI ((o + y) + 1))) 114 dd (nI (sn + 1))) := (FrM.sai (FrM.sai FrM.rf (by decide) _ _) (by decide) _ _)
            refine xe_callV (a := 88) [.int (nI (dd + 1)), .int (nI (o + y)), .int (nI (t + 1)), .int (nI ag)] dX8_table_259 ml_X8_263 mf_X8_steps (wK_ai (wK_ai hC.1.1)) (c_X8_steps d (T := (s_ai (s_ai T 113 dd (nI ((o + y) + 1))) 114 dd (nI (sn + 1)))) (hF0.mi hC.1) (dd := dd + 1) (by omega) (o + y) (nI (t + 1)) (nI (ag))) rfl rfl (Nat.le_of_ble_eq_true rfl) (Nat.le_of_ble_eq_true rfl) ?_
            rintro _ _ ⟨rfl, rfl⟩
            refine xe (fun _ _ kK => x_goto (tgt := 35) dX8_table_262 (by decide) kK) ?_
            have hF1 : FrM fsB asB T (s_ai (s_ai (s_ai (s_ai (s_ai (s_ai (s_ai T 113 dd (nI ((o + y) + 1))) 114 dd (nI (sn + 1))) 112 (dd + 1) (nI (o + y))) 113 (dd + 1) (nI (o + y + 1))) 114 (dd + 1) (nI 0)) 115 (dd + 1) (nI (t + 1))) 116 (dd + 1) (nI (ag))) := (FrM.sai (FrM.sai (FrM.sai (FrM.sai (FrM.sai (FrM.sai (FrM.sai FrM.rf (by decide) _ _) (by decide) _ _) (by decide) _ _) (by decide) _ _) (by decide) _ _) (by decide) _ _) (by decide) _ _)
            have hR1 : MRw (s_ai (s_ai (s_ai (s_ai (s_ai (s_ai (s_ai T 113 dd (nI ((o + y) + 1))) 114 dd (nI (sn + 1))) 112 (dd + 1) (nI (o + y))) 113 (dd + 1) (nI (o + y + 1))) 114 (dd + 1) (nI 0)) 115 (dd + 1) (nI (t + 1))) 116 (dd + 1) (nI (ag))) R := hR.of (wi_ai (wi_ai (wi_ai (wi_ai (wi_ai (wi_ai (wi_ai rfl))))))) (fun a ha => by simp only [List.mem_cons, List.not_mem_nil, or_false] at ha; rcases ha with rfl | rfl | rfl | rfl <;> rfl) rfl
            have hFm1 : Fm (s_ai (s_ai (s_ai (s_ai (s_ai (s_ai (s_ai T 113 dd (nI ((o + y) + 1))) 114 dd (nI (sn + 1))) 112 (dd + 1) (nI (o + y))) 113 (dd + 1) (nI (o + y + 1))) 114 (dd + 1) (nI 0)) 115 (dd + 1) (nI (t + 1))) 116 (dd + 1) (nI (ag))) (dd + 1) o y (y + 1) 0 (t + 1) (ag) := ⟨by simp [q_i_i, q_i_ai, q_i_al, q_ai_ai, q_ai_i, q_ai_al, q_al_al, q_al_i, q_al_ai], by simp [q_i_i, q_i_ai, q_i_al, q_ai_ai, q_ai_i, q_ai_al, q_al_al, q_al_i, q_al_ai]; rw [Nat.add_assoc], by simp [q_i_i, q_i_ai, q_i_al, q_ai_ai, q_ai_i, q_ai_al, q_al_al, q_al_i, q_al_ai], by simp [q_i_i, q_i_ai, q_i_al, q_ai_ai, q_ai_i, q_ai_al, q_al_al, q_al_i, q_al_ai], by simp [q_i_i, q_i_ai, q_i_al, q_ai_ai, q_ai_i, q_ai_al, q_al_al, q_al_i, q_al_ai]⟩
            have hbd : bdy s.2.2.2.2.2.1 pa i f (f2 :: fs2) t ag y (ag) = rst (bdy s.2.2.2.2.2.1 pa i f2 fs2 (t + 1) (mc s.2.2.2.2.2.1 (pr ++ [f] ++ [f2]))) (ag, t + 1, false, lN 0, i) (ag) (mc s.2.2.2.2.2.1 (pr ++ [f] ++ [f2])) 0 (ch pa y f2 (y + 1)) := by show rwG s.2.2.2.2.2.1 pa i (f2 :: fs2) y _ _ ag = _; rw [htt, rwG_eq, mc_app s.2.2.2.2.2.1 (pr ++ [f]) [f2], mc_1, hag]
            rw [hbd] at hpop hlen
            refine xe_loc (by simp) (ihf (pr ++ [f]) f2 (dd + 1) (by rw [hr]; simp) (by rw [List.length_append, hdd]; rfl) (mc s.2.2.2.2.2.1 (pr ++ [f] ++ [f2])) rfl y (t + 1) (ag) hy2 (by omega) (by omega) (pa.1 - (y + 1)) (y + 1) 0 (s_ai (s_ai (s_ai (s_ai (s_ai (s_ai (s_ai T 113 dd (nI ((o + y) + 1))) 114 dd (nI (sn + 1))) 112 (dd + 1) (nI (o + y))) 113 (dd + 1) (nI (o + y + 1))) 114 (dd + 1) (nI 0)) 115 (dd + 1) (nI (t + 1))) 116 (dd + 1) (nI (ag))) R rfl (by omega) (by omega) (hC.of hF1) hFm1 hR1 (by omega) (fun T9 hF9 hL9 hR9 => ?_))
            refine xe_loc (L' := [(3, .int (nI dd)), (2, .int (nI i)), (0, .ref 88), (1, .int (nI c))]) (by rw [show nI (dd + 1) + Int32.ofInt (-1) = nI dd from pk_m1 dd]; simp) ?_
            have hl9 : ∀ a, a ∈ [112, 113, 114, 115, 116] → e_ai T9 a dd = e_ai (s_ai (s_ai (s_ai (s_ai (s_ai (s_ai (s_ai T 113 dd (nI ((o + y) + 1))) 114 dd (nI (sn + 1))) 112 (dd + 1) (nI (o + y))) 113 (dd + 1) (nI (o + y + 1))) 114 (dd + 1) (nI 0)) 115 (dd + 1) (nI (t + 1))) 116 (dd + 1) (nI (ag))) a dd := fun a ha => hL9 dd (Nat.lt_succ_self _) a ha
            have hFm2 : Fm T9 dd o x (y + 1) (sn + 1) t lev := ⟨(hl9 112 (by decide)).trans (wai_ai (fun q => absurd q.1 (by decide)) (wai_ai (fun q => absurd q.1 (by decide)) (wai_ai (fun q => absurd q.1 (by decide)) (wai_ai (fun q => absurd q.1 (by decide)) (wai_ai (by omega) (wai_ai (fun q => absurd q.1 (by decide)) (wai_ai (fun q => absurd q.1 (by decide)) hFm.1))))))), (hl9 113 (by decide)).trans (by simp [q_i_i, q_i_ai, q_i_al, q_ai_ai, q_ai_i, q_ai_al, q_al_al, q_al_i, q_al_ai]; rw [Nat.add_assoc]), (hl9 114 (by decide)).trans (by simp [q_i_i, q_i_ai, q_i_al, q_ai_ai, q_ai_i, q_ai_al, q_al_al, q_al_i, q_al_ai]), (hl9 115 (by decide)).trans (wai_ai (fun q => absurd q.1 (by decide)) (wai_ai (by omega) (wai_ai (fun q => absurd q.1 (by decide)) (wai_ai (fun q => absurd q.1 (by decide)) (wai_ai (fun q => absurd q.1 (by decide)) (wai_ai (fun q => absurd q.1 (by decide)) (wai_ai (fun q => absurd q.1 (by decide)) hFm.2.2.2.1))))))), (hl9 116 (by decide)).trans (wai_ai (by omega) (wai_ai (fun q => absurd q.1 (by decide)) (wai_ai (fun q => absurd q.1 (by decide)) (wai_ai (fun q => absurd q.1 (by decide)) (wai_ai (fun q => absurd q.1 (by decide)) (wai_ai (fun q => absurd q.1 (by decide)) (wai_ai (fun q => absurd q.1 (by decide)) hFm.2.2.2.2)))))))⟩
            have hLo : FmLow T (s_ai (s_ai (s_ai (s_ai (s_ai (s_ai (s_ai T 113 dd (nI ((o + y) + 1))) 114 dd (nI (sn + 1))) 112 (dd + 1) (nI (o + y))) 113 (dd + 1) (nI (o + y + 1))) 114 (dd + 1) (nI 0)) 115 (dd + 1) (nI (t + 1))) 116 (dd + 1) (nI (ag))) dd := fun j hj a ha => mem5 (P := fun a => e_ai _ a j = e_ai T a j) (wai_ai (fun q => absurd q.1 (by decide)) (wai_ai (fun q => absurd q.1 (by decide)) (wai_ai (fun q => absurd q.1 (by decide)) (wai_ai (fun q => absurd q.1 (by decide)) (wai_ai (by omega) (wai_ai (fun q => absurd q.1 (by decide)) (wai_ai (fun q => absurd q.1 (by decide)) rfl))))))) (wai_ai (fun q => absurd q.1 (by decide)) (wai_ai (fun q => absurd q.1 (by decide)) (wai_ai (fun q => absurd q.1 (by decide)) (wai_ai (by omega) (wai_ai (fun q => absurd q.1 (by decide)) (wai_ai (fun q => absurd q.1 (by decide)) (wai_ai (by omega) rfl))))))) (wai_ai (fun q => absurd q.1 (by decide)) (wai_ai (fun q => absurd q.1 (by decide)) (wai_ai (by omega) (wai_ai (fun q => absurd q.1 (by decide)) (wai_ai (fun q => absurd q.1 (by decide)) (wai_ai (by omega) (wai_ai (fun q => absurd q.1 (by decide)) rfl))))))) (wai_ai (fun q => absurd q.1 (by decide)) (wai_ai (by omega) (wai_ai (fun q => absurd q.1 (by decide)) (wai_ai (fun q => absurd q.1 (by decide)) (wai_ai (fun q => absurd q.1 (by decide)) (wai_ai (fun q => absurd q.1 (by decide)) (wai_ai (fun q => absurd q.1 (by decide)) rfl))))))) (wai_ai (by omega) (wai_ai (fun q => absurd q.1 (by decide)) (wai_ai (fun q => absurd q.1 (by decide)) (wai_ai (fun q => absurd q.1 (by decide)) (wai_ai (fun q => absurd q.1 (by decide)) (wai_ai (fun q => absurd q.1 (by decide)) (wai_ai (fun q => absurd q.1 (by decide)) rfl))))))) a ha
            refine ih (pa.1 - (y + 1)) (by omega) (y + 1) (sn + 1) T9 _ rfl (by omega) (by omega) ((hC.of hF1).of hF9) hFm2 hR9 (by rw [List.length_append]; omega) (fun T8 hF8 hL8 hR8 => hpop T8 (FrM.tr hF1 (FrM.tr hF9 hF8)) (hLo.tr (FmLow.tr (fun j hj => hL9 j (Nat.lt_succ_of_lt hj)) hL8)) (by rw [← List.append_assoc]; exact hR8))
          · -- pc 210
            have h207 := cv_z (by omega) h207
            refine xe (fun _ _ kK => x_iconst dX8_table_210 (show _ = nI 0 by decide) kK) ?_
            refine xe (fun _ _ kK => x_goto (tgt := 215) dX8_table_211 (by decide) kK) ?_
            refine xe (fun _ _ kK => x_iadd dX8_table_215 kK) ?_
            refine xe_ti (show _ = nI (t + 0) from nI_add t 0) ?_
            refine xe (fun _ _ kK => x_istore dX8_table_216 (by decide) (show _ = [(6, .int (nI (t + 0))), (5, .int (nI ag)), (4, .int (nI (o + y))), (3, .int (nI dd)), (2, .int (nI i)), (0, .ref 88), (1, .int (nI c))] from rfl) kK) ?_
            refine xe (fun _ _ kK => x_iload_n dX8_table_218 rfl 3 rfl kK) ?_
            refine xe (fun _ _ kK => x_aload_n dX8_table_219 rfl 5 rfl kK) ?_
            refine xe (fun _ _ kK => x_get dX8_table_220 fl_X8_254 (wK_ai (wK_ai hC.1.1)) (gvl_i fz_8_37.2.2 (show e_i (s_ai (s_ai T 113 dd (nI ((o + y) + 1))) 114 dd (nI (sn + 1))) 549 88 = nI r.length from (wi_ai (wi_ai hC.2.2.1.1)))) kK) ?_
            refine xe (fun _ _ kK => x_iconst dX8_table_223 (show _ = nI 1 by decide) kK) ?_
            refine xe (fun _ _ kK => x_isub dX8_table_224 kK) ?_
            refine xe_ti (show _ = nI (r.length - 1) from pk_sub (by omega)) ?_
            have htt : t + (if s.2.2.2.2.2.1 f = 0 then 0 else 1) = t + 0 := by rw [if_pos h207]
            have hrst : rst (bdy s.2.2.2.2.2.1 pa i f (f2 :: fs2) t ag) (lev, t, false, lN 0, i) lev ag sn (ch pa x f lk) = bdy s.2.2.2.2.2.1 pa i f (f2 :: fs2) t ag y (ag) ++ rst (bdy s.2.2.2.2.2.1 pa i f (f2 :: fs2) t ag) (lev, t, false, lN 0, i) lev ag (sn + 1) (ch pa x f (y + 1)) := by rw [hch, rst_cons, hys, hlv9]
            rw [hrst] at hpop hlen
            rw [List.length_append] at hlen
            refine xe (fun _ _ kK => x_icmp_neT (tgt := 248) dX8_table_225 (by decide) (fun z9 => by have := cv_eq (by omega) (by omega) z9; omega) kK) ?_
            refine xe (fun _ _ kK => x_iinc dX8_table_248 3 rfl (show (nI dd) + Int32.ofInt 1 = nI (dd + 1) from nI_add dd 1) (by decide) (show _ = [(3, .int (nI (dd + 1))), (6, .int (nI (t + 0))), (5, .int (nI ag)), (4, .int (nI (o + y))), (2, .int (nI i)), (0, .ref 88), (1, .int (nI c))] from rfl) kK) ?_
            refine xe (fun _ _ kK => x_aload_n dX8_table_251 rfl 5 rfl kK) ?_
            refine xe (fun _ _ kK => x_iload_n dX8_table_252 rfl 0 rfl kK) ?_
            refine xe (fun _ _ kK => x_iload dX8_table_253 3 rfl kK) ?_
            refine xe (fun _ _ kK => x_iload dX8_table_255 1 rfl kK) ?_
            refine xe (fun _ _ kK => x_iload dX8_table_257 2 rfl kK) ?_
            have hF0 : FrM fsB asB T (s_ai (s_ai T 113 dd (nI ((o + y) + 1))) 114 dd (nI (sn + 1))) := (FrM.sai (FrM.sai FrM.rf (by decide) _ _) (by decide) _ _)
            refine xe_callV (a := 88) [.int (nI (dd + 1)), .int (nI (o + y)), .int (nI (t + 0)), .int (nI ag)] dX8_table_259 ml_X8_263 mf_X8_steps (wK_ai (wK_ai hC.1.1)) (c_X8_steps d (T := (s_ai (s_ai T 113 dd (nI ((o + y) + 1))) 114 dd (nI (sn + 1)))) (hF0.mi hC.1) (dd := dd + 1) (by omega) (o + y) (nI (t + 0)) (nI (ag))) rfl rfl (Nat.le_of_ble_eq_true rfl) (Nat.le_of_ble_eq_true rfl) ?_
            rintro _ _ ⟨rfl, rfl⟩
            refine xe (fun _ _ kK => x_goto (tgt := 35) dX8_table_262 (by decide) kK) ?_
            have hF1 : FrM fsB asB T (s_ai (s_ai (s_ai (s_ai (s_ai (s_ai (s_ai T 113 dd (nI ((o + y) + 1))) 114 dd (nI (sn + 1))) 112 (dd + 1) (nI (o + y))) 113 (dd + 1) (nI (o + y + 1))) 114 (dd + 1) (nI 0)) 115 (dd + 1) (nI (t + 0))) 116 (dd + 1) (nI (ag))) := (FrM.sai (FrM.sai (FrM.sai (FrM.sai (FrM.sai (FrM.sai (FrM.sai FrM.rf (by decide) _ _) (by decide) _ _) (by decide) _ _) (by decide) _ _) (by decide) _ _) (by decide) _ _) (by decide) _ _)
            have hR1 : MRw (s_ai (s_ai (s_ai (s_ai (s_ai (s_ai (s_ai T 113 dd (nI ((o + y) + 1))) 114 dd (nI (sn + 1))) 112 (dd + 1) (nI (o + y))) 113 (dd + 1) (nI (o + y + 1))) 114 (dd + 1) (nI 0)) 115 (dd + 1) (nI (t + 0))) 116 (dd + 1) (nI (ag))) R := hR.of (wi_ai (wi_ai (wi_ai (wi_ai (wi_ai (wi_ai (wi_ai rfl))))))) (fun a ha => by simp only [List.mem_cons, List.not_mem_nil, or_false] at ha; rcases ha with rfl | rfl | rfl | rfl <;> rfl) rfl
            have hFm1 : Fm (s_ai (s_ai (s_ai (s_ai (s_ai (s_ai (s_ai T 113 dd (nI ((o + y) + 1))) 114 dd (nI (sn + 1))) 112 (dd + 1) (nI (o + y))) 113 (dd + 1) (nI (o + y + 1))) 114 (dd + 1) (nI 0)) 115 (dd + 1) (nI (t + 0))) 116 (dd + 1) (nI (ag))) (dd + 1) o y (y + 1) 0 (t + 0) (ag) := ⟨by simp [q_i_i, q_i_ai, q_i_al, q_ai_ai, q_ai_i, q_ai_al, q_al_al, q_al_i, q_al_ai], by simp [q_i_i, q_i_ai, q_i_al, q_ai_ai, q_ai_i, q_ai_al, q_al_al, q_al_i, q_al_ai]; rw [Nat.add_assoc], by simp [q_i_i, q_i_ai, q_i_al, q_ai_ai, q_ai_i, q_ai_al, q_al_al, q_al_i, q_al_ai], by simp [q_i_i, q_i_ai, q_i_al, q_ai_ai, q_ai_i, q_ai_al, q_al_al, q_al_i, q_al_ai], by simp [q_i_i, q_i_ai, q_i_al, q_ai_ai, q_ai_i, q_ai_al, q_al_al, q_al_i, q_al_ai]⟩
            have hbd : bdy s.2.2.2.2.2.1 pa i f (f2 :: fs2) t ag y (ag) = rst (bdy s.2.2.2.2.2.1 pa i f2 fs2 (t + 0) (mc s.2.2.2.2.2.1 (pr ++ [f] ++ [f2]))) (ag, t + 0, false, lN 0, i) (ag) (mc s.2.2.2.2.2.1 (pr ++ [f] ++ [f2])) 0 (ch pa y f2 (y + 1)) := by show rwG s.2.2.2.2.2.1 pa i (f2 :: fs2) y _ _ ag = _; rw [htt, rwG_eq, mc_app s.2.2.2.2.2.1 (pr ++ [f]) [f2], mc_1, hag]
            rw [hbd] at hpop hlen
            refine xe_loc (by simp) (ihf (pr ++ [f]) f2 (dd + 1) (by rw [hr]; simp) (by rw [List.length_append, hdd]; rfl) (mc s.2.2.2.2.2.1 (pr ++ [f] ++ [f2])) rfl y (t + 0) (ag) hy2 (by omega) (by omega) (pa.1 - (y + 1)) (y + 1) 0 (s_ai (s_ai (s_ai (s_ai (s_ai (s_ai (s_ai T 113 dd (nI ((o + y) + 1))) 114 dd (nI (sn + 1))) 112 (dd + 1) (nI (o + y))) 113 (dd + 1) (nI (o + y + 1))) 114 (dd + 1) (nI 0)) 115 (dd + 1) (nI (t + 0))) 116 (dd + 1) (nI (ag))) R rfl (by omega) (by omega) (hC.of hF1) hFm1 hR1 (by omega) (fun T9 hF9 hL9 hR9 => ?_))
            refine xe_loc (L' := [(3, .int (nI dd)), (2, .int (nI i)), (0, .ref 88), (1, .int (nI c))]) (by rw [show nI (dd + 1) + Int32.ofInt (-1) = nI dd from pk_m1 dd]; simp) ?_
            have hl9 : ∀ a, a ∈ [112, 113, 114, 115, 116] → e_ai T9 a dd = e_ai (s_ai (s_ai (s_ai (s_ai (s_ai (s_ai (s_ai T 113 dd (nI ((o + y) + 1))) 114 dd (nI (sn + 1))) 112 (dd + 1) (nI (o + y))) 113 (dd + 1) (nI (o + y + 1))) 114 (dd + 1) (nI 0)) 115 (dd + 1) (nI (t + 0))) 116 (dd + 1) (nI (ag))) a dd := fun a ha => hL9 dd (Nat.lt_succ_self _) a ha
            have hFm2 : Fm T9 dd o x (y + 1) (sn + 1) t lev := ⟨(hl9 112 (by decide)).trans (wai_ai (fun q => absurd q.1 (by decide)) (wai_ai (fun q => absurd q.1 (by decide)) (wai_ai (fun q => absurd q.1 (by decide)) (wai_ai (fun q => absurd q.1 (by decide)) (wai_ai (by omega) (wai_ai (fun q => absurd q.1 (by decide)) (wai_ai (fun q => absurd q.1 (by decide)) hFm.1))))))), (hl9 113 (by decide)).trans (by simp [q_i_i, q_i_ai, q_i_al, q_ai_ai, q_ai_i, q_ai_al, q_al_al, q_al_i, q_al_ai]; rw [Nat.add_assoc]), (hl9 114 (by decide)).trans (by simp [q_i_i, q_i_ai, q_i_al, q_ai_ai, q_ai_i, q_ai_al, q_al_al, q_al_i, q_al_ai]), (hl9 115 (by decide)).trans (wai_ai (fun q => absurd q.1 (by decide)) (wai_ai (by omega) (wai_ai (fun q => absurd q.1 (by decide)) (wai_ai (fun q => absurd q.1 (by decide)) (wai_ai (fun q => absurd q.1 (by decide)) (wai_ai (fun q => absurd q.1 (by decide)) (wai_ai (fun q => absurd q.1 (by decide)) hFm.2.2.2.1))))))), (hl9 116 (by decide)).trans (wai_ai (by omega) (wai_ai (fun q => absurd q.1 (by decide)) (wai_ai (fun q => absurd q.1 (by decide)) (wai_ai (fun q => absurd q.1 (by decide)) (wai_ai (fun q => absurd q.1 (by decide)) (wai_ai (fun q => absurd q.1 (by decide)) (wai_ai (fun q => absurd q.1 (by decide)) hFm.2.2.2.2)))))))⟩
            have hLo : FmLow T (s_ai (s_ai (s_ai (s_ai (s_ai (s_ai (s_ai T 113 dd (nI ((o + y) + 1))) 114 dd (nI (sn + 1))) 112 (dd + 1) (nI (o + y))) 113 (dd + 1) (nI (o + y + 1))) 114 (dd + 1) (nI 0)) 115 (dd + 1) (nI (t + 0))) 116 (dd + 1) (nI (ag))) dd := fun j hj a ha => mem5 (P := fun a => e_ai _ a j = e_ai T a j) (wai_ai (fun q => absurd q.1 (by decide)) (wai_ai (fun q => absurd q.1 (by decide)) (wai_ai (fun q => absurd q.1 (by decide)) (wai_ai (fun q => absurd q.1 (by decide)) (wai_ai (by omega) (wai_ai (fun q => absurd q.1 (by decide)) (wai_ai (fun q => absurd q.1 (by decide)) rfl))))))) (wai_ai (fun q => absurd q.1 (by decide)) (wai_ai (fun q => absurd q.1 (by decide)) (wai_ai (fun q => absurd q.1 (by decide)) (wai_ai (by omega) (wai_ai (fun q => absurd q.1 (by decide)) (wai_ai (fun q => absurd q.1 (by decide)) (wai_ai (by omega) rfl))))))) (wai_ai (fun q => absurd q.1 (by decide)) (wai_ai (fun q => absurd q.1 (by decide)) (wai_ai (by omega) (wai_ai (fun q => absurd q.1 (by decide)) (wai_ai (fun q => absurd q.1 (by decide)) (wai_ai (by omega) (wai_ai (fun q => absurd q.1 (by decide)) rfl))))))) (wai_ai (fun q => absurd q.1 (by decide)) (wai_ai (by omega) (wai_ai (fun q => absurd q.1 (by decide)) (wai_ai (fun q => absurd q.1 (by decide)) (wai_ai (fun q => absurd q.1 (by decide)) (wai_ai (fun q => absurd q.1 (by decide)) (wai_ai (fun q => absurd q.1 (by decide)) rfl))))))) (wai_ai (by omega) (wai_ai (fun q => absurd q.1 (by decide)) (wai_ai (fun q => absurd q.1 (by decide)) (wai_ai (fun q => absurd q.1 (by decide)) (wai_ai (fun q => absurd q.1 (by decide)) (wai_ai (fun q => absurd q.1 (by decide)) (wai_ai (fun q => absurd q.1 (by decide)) rfl))))))) a ha
            refine ih (pa.1 - (y + 1)) (by omega) (y + 1) (sn + 1) T9 _ rfl (by omega) (by omega) ((hC.of hF1).of hF9) hFm2 hR9 (by rw [List.length_append]; omega) (fun T8 hF8 hL8 hR8 => hpop T8 (FrM.tr hF1 (FrM.tr hF9 hF8)) (hLo.tr (FmLow.tr (fun j hj => hL9 j (Nat.lt_succ_of_lt hj)) hL8)) (by rw [← List.append_assoc]; exact hR8))
        · -- pc 164
          have h161 := cv_z (by omega) h161
          have hlv9 : (if sn = 0 then lev else ag) = lev := if_pos h161
          refine xe (fun _ _ kK => x_aload_n dX8_table_164 rfl 3 rfl kK) ?_
          refine xe (fun _ _ kK => x_get dX8_table_165 fl_X8_117 (wK_ai hC.1.1) (gvl_r1 fz_8_49.2.2 (show e_r (s_ai T 113 dd (nI ((o + y) + 1))) 561 88 = some 116 from (wr_ai (hC.1.2.1 49)))) kK) ?_
          refine xe (fun _ _ kK => x_iload_n dX8_table_168 rfl 1 rfl kK) ?_
          refine xe (fun _ _ kK => x_iald dX8_table_169 (wK_ai (hC.1.2.2.1 27 (by decide))) (show (nI dd) = nI dd from rfl) (wN_ai (mi_len hC.1 27 (by decide) (show dd < 8 by omega))) (show e_ai (s_ai T 113 dd (nI ((o + y) + 1))) 116 dd = nI lev from (wai_ai (fun q => absurd q.1 (by decide)) hFm.2.2.2.2)) kK) ?_
          refine xe (fun _ _ kK => x_goto (tgt := 178) dX8_table_170 (by decide) kK) ?_
          refine xe (fun _ _ kK => x_istore dX8_table_178 (by decide) (show _ = [(5, .int (nI lev)), (4, .int (nI (o + y))), (3, .int (nI dd)), (2, .int (nI i)), (0, .ref 88), (1, .int (nI c))] from rfl) kK) ?_
          refine xe (fun _ _ kK => x_aload_n dX8_table_180 rfl 4 rfl kK) ?_
          refine xe (fun _ _ kK => x_get dX8_table_181 fl_X8_111 (wK_ai hC.1.1) (gvl_r1 fz_8_47.2.2 (show e_r (s_ai T 113 dd (nI ((o + y) + 1))) 559 88 = some 114 from (wr_ai (hC.1.2.1 47)))) kK) ?_
          refine xe (fun _ _ kK => x_iload_n dX8_table_184 rfl 2 rfl kK) ?_
          refine xe (fun _ _ kK => x_dup2 dX8_table_185 rfl rfl kK) ?_
          refine xe (fun _ _ kK => x_iald dX8_table_186 (wK_ai (hC.1.2.2.1 25 (by decide))) (show (nI dd) = nI dd from rfl) (wN_ai (mi_len hC.1 25 (by decide) (show dd < 8 by omega))) (show e_ai (s_ai T 113 dd (nI ((o + y) + 1))) 114 dd = nI sn from (wai_ai (fun q => absurd q.1 (by decide)) hFm.2.2.1)) kK) ?_
          refine xe (fun _ _ kK => x_iconst dX8_table_187 (show _ = nI 1 by decide) kK) ?_
          refine xe (fun _ _ kK => x_iadd dX8_table_188 kK) ?_
          refine xe_ti (show _ = nI (sn + 1) from nI_add sn 1) ?_
          refine xe (fun _ _ kK => x_iast dX8_table_189 (wK_ai (hC.1.2.2.1 25 (by decide))) (show (nI dd) = nI dd from rfl) (wN_ai (mi_len hC.1 25 (by decide) (show dd < 8 by omega))) kK) ?_
          refine xe (fun _ _ kK => x_aload_n dX8_table_190 rfl 4 rfl kK) ?_
          refine xe (fun _ _ kK => x_get dX8_table_191 fl_X8_114 (wK_ai (wK_ai hC.1.1)) (gvl_r1 fz_8_48.2.2 (show e_r (s_ai (s_ai T 113 dd (nI ((o + y) + 1))) 114 dd (nI (sn + 1))) 560 88 = some 115 from (wr_ai (wr_ai (hC.1.2.1 48))))) kK) ?_
          refine xe (fun _ _ kK => x_iload_n dX8_table_194 rfl 2 rfl kK) ?_
          refine xe (fun _ _ kK => x_iald dX8_table_195 (wK_ai (wK_ai (hC.1.2.2.1 26 (by decide)))) (show (nI dd) = nI dd from rfl) (wN_ai (wN_ai (mi_len hC.1 26 (by decide) (show dd < 8 by omega)))) (show e_ai (s_ai (s_ai T 113 dd (nI ((o + y) + 1))) 114 dd (nI (sn + 1))) 115 dd = nI t from (wai_ai (fun q => absurd q.1 (by decide)) (wai_ai (fun q => absurd q.1 (by decide)) hFm.2.2.2.1))) kK) ?_
          refine xe (fun _ _ kK => x_aload_n dX8_table_196 rfl 4 rfl kK) ?_
          refine xe (fun _ _ kK => x_get dX8_table_197 fl_X8_47 (wK_ai (wK_ai hC.1.1)) (gvl_r1 fz_8_19.2.2 (show e_r (s_ai (s_ai T 113 dd (nI ((o + y) + 1))) 114 dd (nI (sn + 1))) 531 88 = some 93 from (wr_ai (wr_ai (hC.1.2.1 19))))) kK) ?_
          refine xe (fun _ _ kK => x_aload_n dX8_table_200 rfl 4 rfl kK) ?_
          refine xe (fun _ _ kK => x_get dX8_table_201 fl_X8_86 (wK_ai (wK_ai hC.1.1)) (gvl_r1 fz_8_38.2.2 (show e_r (s_ai (s_ai T 113 dd (nI ((o + y) + 1))) 114 dd (nI (sn + 1))) 550 88 = some 106 from (wr_ai (wr_ai (hC.1.2.1 38))))) kK) ?_
          refine xe (fun _ _ kK => x_iload_n dX8_table_204 rfl 2 rfl kK) ?_
          refine xe (fun _ _ kK => x_iald dX8_table_205 (wK_ai (wK_ai (hC.1.2.2.1 17 (by decide)))) (show (nI dd) = nI dd from rfl) (wN_ai (wN_ai (mi_len hC.1 17 (by decide) (show dd < 8 by omega)))) (show e_ai (s_ai (s_ai T 113 dd (nI ((o + y) + 1))) 114 dd (nI (sn + 1))) 106 dd = nI f from (wai_ai (fun q => absurd q.1 (by decide)) (wai_ai (fun q => absurd q.1 (by decide)) (hC.2.2.1.2 dd f hf)))) kK) ?_
          refine xe (fun _ _ kK => x_iald dX8_table_206 (wK_ai (wK_ai (hC.1.2.2.1 4 (by decide)))) (show (nI f) = nI f from rfl) (wN_ai (wN_ai (mi_len hC.1 4 (by decide) (show f < 80 by omega)))) (show e_ai (s_ai (s_ai T 113 dd (nI ((o + y) + 1))) 114 dd (nI (sn + 1))) 93 f = nI (s.2.2.2.2.2.1 f) from (wai_ai (fun q => absurd q.1 (by decide)) (wai_ai (fun q => absurd q.1 (by decide)) (hC.2.1.2.2.1 f hf1).2.2.2))) kK) ?_
          refine xe_if_ne (tgt := 214) dX8_table_207 (by decide) (fun h207 => ?_) (fun h207 => ?_)
          · -- pc 214
            have h207 := cv_nz (by omega) h207
            refine xe (fun _ _ kK => x_iconst dX8_table_214 (show _ = nI 1 by decide) kK) ?_
            refine xe (fun _ _ kK => x_iadd dX8_table_215 kK) ?_
            refine xe_ti (show _ = nI (t + 1) from nI_add t 1) ?_
            refine xe (fun _ _ kK => x_istore dX8_table_216 (by decide) (show _ = [(6, .int (nI (t + 1))), (5, .int (nI lev)), (4, .int (nI (o + y))), (3, .int (nI dd)), (2, .int (nI i)), (0, .ref 88), (1, .int (nI c))] from rfl) kK) ?_
            refine xe (fun _ _ kK => x_iload_n dX8_table_218 rfl 3 rfl kK) ?_
            refine xe (fun _ _ kK => x_aload_n dX8_table_219 rfl 5 rfl kK) ?_
            refine xe (fun _ _ kK => x_get dX8_table_220 fl_X8_254 (wK_ai (wK_ai hC.1.1)) (gvl_i fz_8_37.2.2 (show e_i (s_ai (s_ai T 113 dd (nI ((o + y) + 1))) 114 dd (nI (sn + 1))) 549 88 = nI r.length from (wi_ai (wi_ai hC.2.2.1.1)))) kK) ?_
            refine xe (fun _ _ kK => x_iconst dX8_table_223 (show _ = nI 1 by decide) kK) ?_
            refine xe (fun _ _ kK => x_isub dX8_table_224 kK) ?_
            refine xe_ti (show _ = nI (r.length - 1) from pk_sub (by omega)) ?_
            have htt : t + (if s.2.2.2.2.2.1 f = 0 then 0 else 1) = t + 1 := by rw [if_neg h207]
            have hrst : rst (bdy s.2.2.2.2.2.1 pa i f (f2 :: fs2) t ag) (lev, t, false, lN 0, i) lev ag sn (ch pa x f lk) = bdy s.2.2.2.2.2.1 pa i f (f2 :: fs2) t ag y (lev) ++ rst (bdy s.2.2.2.2.2.1 pa i f (f2 :: fs2) t ag) (lev, t, false, lN 0, i) lev ag (sn + 1) (ch pa x f (y + 1)) := by rw [hch, rst_cons, hys, hlv9]
            rw [hrst] at hpop hlen
            rw [List.length_append] at hlen
            refine xe (fun _ _ kK => x_icmp_neT (tgt := 248) dX8_table_225 (by decide) (fun z9 => by have := cv_eq (by omega) (by omega) z9; omega) kK) ?_
            refine xe (fun _ _ kK => x_iinc dX8_table_248 3 rfl (show (nI dd) + Int32.ofInt 1 = nI (dd + 1) from nI_add dd 1) (by decide) (show _ = [(3, .int (nI (dd + 1))), (6, .int (nI (t + 1))), (5, .int (nI lev)), (4, .int (nI (o + y))), (2, .int (nI i)), (0, .ref 88), (1, .int (nI c))] from rfl) kK) ?_
            refine xe (fun _ _ kK => x_aload_n dX8_table_251 rfl 5 rfl kK) ?_
            refine xe (fun _ _ kK => x_iload_n dX8_table_252 rfl 0 rfl kK) ?_
            refine xe (fun _ _ kK => x_iload dX8_table_253 3 rfl kK) ?_
            refine xe (fun _ _ kK => x_iload dX8_table_255 1 rfl kK) ?_
            refine xe (fun _ _ kK => x_iload dX8_table_257 2 rfl kK) ?_
            have hF0 : FrM fsB asB T (s_ai (s_ai T 113 dd (nI ((o + y) + 1))) 114 dd (nI (sn + 1))) := (FrM.sai (FrM.sai FrM.rf (by decide) _ _) (by decide) _ _)
            refine xe_callV (a := 88) [.int (nI (dd + 1)), .int (nI (o + y)), .int (nI (t + 1)), .int (nI lev)] dX8_table_259 ml_X8_263 mf_X8_steps (wK_ai (wK_ai hC.1.1)) (c_X8_steps d (T := (s_ai (s_ai T 113 dd (nI ((o + y) + 1))) 114 dd (nI (sn + 1)))) (hF0.mi hC.1) (dd := dd + 1) (by omega) (o + y) (nI (t + 1)) (nI (lev))) rfl rfl (Nat.le_of_ble_eq_true rfl) (Nat.le_of_ble_eq_true rfl) ?_
            rintro _ _ ⟨rfl, rfl⟩
            refine xe (fun _ _ kK => x_goto (tgt := 35) dX8_table_262 (by decide) kK) ?_
            have hF1 : FrM fsB asB T (s_ai (s_ai (s_ai (s_ai (s_ai (s_ai (s_ai T 113 dd (nI ((o + y) + 1))) 114 dd (nI (sn + 1))) 112 (dd + 1) (nI (o + y))) 113 (dd + 1) (nI (o + y + 1))) 114 (dd + 1) (nI 0)) 115 (dd + 1) (nI (t + 1))) 116 (dd + 1) (nI (lev))) := (FrM.sai (FrM.sai (FrM.sai (FrM.sai (FrM.sai (FrM.sai (FrM.sai FrM.rf (by decide) _ _) (by decide) _ _) (by decide) _ _) (by decide) _ _) (by decide) _ _) (by decide) _ _) (by decide) _ _)
            have hR1 : MRw (s_ai (s_ai (s_ai (s_ai (s_ai (s_ai (s_ai T 113 dd (nI ((o + y) + 1))) 114 dd (nI (sn + 1))) 112 (dd + 1) (nI (o + y))) 113 (dd + 1) (nI (o + y + 1))) 114 (dd + 1) (nI 0)) 115 (dd + 1) (nI (t + 1))) 116 (dd + 1) (nI (lev))) R := hR.of (wi_ai (wi_ai (wi_ai (wi_ai (wi_ai (wi_ai (wi_ai rfl))))))) (fun a ha => by simp only [List.mem_cons, List.not_mem_nil, or_false] at ha; rcases ha with rfl | rfl | rfl | rfl <;> rfl) rfl
            have hFm1 : Fm (s_ai (s_ai (s_ai (s_ai (s_ai (s_ai (s_ai T 113 dd (nI ((o + y) + 1))) 114 dd (nI (sn + 1))) 112 (dd + 1) (nI (o + y))) 113 (dd + 1) (nI (o + y + 1))) 114 (dd + 1) (nI 0)) 115 (dd + 1) (nI (t + 1))) 116 (dd + 1) (nI (lev))) (dd + 1) o y (y + 1) 0 (t + 1) (lev) := ⟨by simp [q_i_i, q_i_ai, q_i_al, q_ai_ai, q_ai_i, q_ai_al, q_al_al, q_al_i, q_al_ai], by simp [q_i_i, q_i_ai, q_i_al, q_ai_ai, q_ai_i, q_ai_al, q_al_al, q_al_i, q_al_ai]; rw [Nat.add_assoc], by simp [q_i_i, q_i_ai, q_i_al, q_ai_ai, q_ai_i, q_ai_al, q_al_al, q_al_i, q_al_ai], by simp [q_i_i, q_i_ai, q_i_al, q_ai_ai, q_ai_i, q_ai_al, q_al_al, q_al_i, q_al_ai], by simp [q_i_i, q_i_ai, q_i_al, q_ai_ai, q_ai_i, q_ai_al, q_al_al, q_al_i, q_al_ai]⟩
            have hbd : bdy s.2.2.2.2.2.1 pa i f (f2 :: fs2) t ag y (lev) = rst (bdy s.2.2.2.2.2.1 pa i f2 fs2 (t + 1) (mc s.2.2.2.2.2.1 (pr ++ [f] ++ [f2]))) (lev, t + 1, false, lN 0, i) (lev) (mc s.2.2.2.2.2.1 (pr ++ [f] ++ [f2])) 0 (ch pa y f2 (y + 1)) := by show rwG s.2.2.2.2.2.1 pa i (f2 :: fs2) y _ _ ag = _; rw [htt, rwG_eq, mc_app s.2.2.2.2.2.1 (pr ++ [f]) [f2], mc_1, hag]
            rw [hbd] at hpop hlen
            refine xe_loc (by simp) (ihf (pr ++ [f]) f2 (dd + 1) (by rw [hr]; simp) (by rw [List.length_append, hdd]; rfl) (mc s.2.2.2.2.2.1 (pr ++ [f] ++ [f2])) rfl y (t + 1) (lev) hy2 (by omega) (by omega) (pa.1 - (y + 1)) (y + 1) 0 (s_ai (s_ai (s_ai (s_ai (s_ai (s_ai (s_ai T 113 dd (nI ((o + y) + 1))) 114 dd (nI (sn + 1))) 112 (dd + 1) (nI (o + y))) 113 (dd + 1) (nI (o + y + 1))) 114 (dd + 1) (nI 0)) 115 (dd + 1) (nI (t + 1))) 116 (dd + 1) (nI (lev))) R rfl (by omega) (by omega) (hC.of hF1) hFm1 hR1 (by omega) (fun T9 hF9 hL9 hR9 => ?_))
            refine xe_loc (L' := [(3, .int (nI dd)), (2, .int (nI i)), (0, .ref 88), (1, .int (nI c))]) (by rw [show nI (dd + 1) + Int32.ofInt (-1) = nI dd from pk_m1 dd]; simp) ?_
            have hl9 : ∀ a, a ∈ [112, 113, 114, 115, 116] → e_ai T9 a dd = e_ai (s_ai (s_ai (s_ai (s_ai (s_ai (s_ai (s_ai T 113 dd (nI ((o + y) + 1))) 114 dd (nI (sn + 1))) 112 (dd + 1) (nI (o + y))) 113 (dd + 1) (nI (o + y + 1))) 114 (dd + 1) (nI 0)) 115 (dd + 1) (nI (t + 1))) 116 (dd + 1) (nI (lev))) a dd := fun a ha => hL9 dd (Nat.lt_succ_self _) a ha
            have hFm2 : Fm T9 dd o x (y + 1) (sn + 1) t lev := ⟨(hl9 112 (by decide)).trans (wai_ai (fun q => absurd q.1 (by decide)) (wai_ai (fun q => absurd q.1 (by decide)) (wai_ai (fun q => absurd q.1 (by decide)) (wai_ai (fun q => absurd q.1 (by decide)) (wai_ai (by omega) (wai_ai (fun q => absurd q.1 (by decide)) (wai_ai (fun q => absurd q.1 (by decide)) hFm.1))))))), (hl9 113 (by decide)).trans (by simp [q_i_i, q_i_ai, q_i_al, q_ai_ai, q_ai_i, q_ai_al, q_al_al, q_al_i, q_al_ai]; rw [Nat.add_assoc]), (hl9 114 (by decide)).trans (by simp [q_i_i, q_i_ai, q_i_al, q_ai_ai, q_ai_i, q_ai_al, q_al_al, q_al_i, q_al_ai]), (hl9 115 (by decide)).trans (wai_ai (fun q => absurd q.1 (by decide)) (wai_ai (by omega) (wai_ai (fun q => absurd q.1 (by decide)) (wai_ai (fun q => absurd q.1 (by decide)) (wai_ai (fun q => absurd q.1 (by decide)) (wai_ai (fun q => absurd q.1 (by decide)) (wai_ai (fun q => absurd q.1 (by decide)) hFm.2.2.2.1))))))), (hl9 116 (by decide)).trans (wai_ai (by omega) (wai_ai (fun q => absurd q.1 (by decide)) (wai_ai (fun q => absurd q.1 (by decide)) (wai_ai (fun q => absurd q.1 (by decide)) (wai_ai (fun q => absurd q.1 (by decide)) (wai_ai (fun q => absurd q.1 (by decide)) (wai_ai (fun q => absurd q.1 (by decide)) hFm.2.2.2.2)))))))⟩
            have hLo : FmLow T (s_ai (s_ai (s_ai (s_ai (s_ai (s_ai (s_ai T 113 dd (nI ((o + y) + 1))) 114 dd (nI (sn + 1))) 112 (dd + 1) (nI (o + y))) 113 (dd + 1) (nI (o + y + 1))) 114 (dd + 1) (nI 0)) 115 (dd + 1) (nI (t + 1))) 116 (dd + 1) (nI (lev))) dd := fun j hj a ha => mem5 (P := fun a => e_ai _ a j = e_ai T a j) (wai_ai (fun q => absurd q.1 (by decide)) (wai_ai (fun q => absurd q.1 (by decide)) (wai_ai (fun q => absurd q.1 (by decide)) (wai_ai (fun q => absurd q.1 (by decide)) (wai_ai (by omega) (wai_ai (fun q => absurd q.1 (by decide)) (wai_ai (fun q => absurd q.1 (by decide)) rfl))))))) (wai_ai (fun q => absurd q.1 (by decide)) (wai_ai (fun q => absurd q.1 (by decide)) (wai_ai (fun q => absurd q.1 (by decide)) (wai_ai (by omega) (wai_ai (fun q => absurd q.1 (by decide)) (wai_ai (fun q => absurd q.1 (by decide)) (wai_ai (by omega) rfl))))))) (wai_ai (fun q => absurd q.1 (by decide)) (wai_ai (fun q => absurd q.1 (by decide)) (wai_ai (by omega) (wai_ai (fun q => absurd q.1 (by decide)) (wai_ai (fun q => absurd q.1 (by decide)) (wai_ai (by omega) (wai_ai (fun q => absurd q.1 (by decide)) rfl))))))) (wai_ai (fun q => absurd q.1 (by decide)) (wai_ai (by omega) (wai_ai (fun q => absurd q.1 (by decide)) (wai_ai (fun q => absurd q.1 (by decide)) (wai_ai (fun q => absurd q.1 (by decide)) (wai_ai (fun q => absurd q.1 (by decide)) (wai_ai (fun q => absurd q.1 (by decide)) rfl))))))) (wai_ai (by omega) (wai_ai (fun q => absurd q.1 (by decide)) (wai_ai (fun q => absurd q.1 (by decide)) (wai_ai (fun q => absurd q.1 (by decide)) (wai_ai (fun q => absurd q.1 (by decide)) (wai_ai (fun q => absurd q.1 (by decide)) (wai_ai (fun q => absurd q.1 (by decide)) rfl))))))) a ha
            refine ih (pa.1 - (y + 1)) (by omega) (y + 1) (sn + 1) T9 _ rfl (by omega) (by omega) ((hC.of hF1).of hF9) hFm2 hR9 (by rw [List.length_append]; omega) (fun T8 hF8 hL8 hR8 => hpop T8 (FrM.tr hF1 (FrM.tr hF9 hF8)) (hLo.tr (FmLow.tr (fun j hj => hL9 j (Nat.lt_succ_of_lt hj)) hL8)) (by rw [← List.append_assoc]; exact hR8))
          · -- pc 210
            have h207 := cv_z (by omega) h207
            refine xe (fun _ _ kK => x_iconst dX8_table_210 (show _ = nI 0 by decide) kK) ?_
            refine xe (fun _ _ kK => x_goto (tgt := 215) dX8_table_211 (by decide) kK) ?_
            refine xe (fun _ _ kK => x_iadd dX8_table_215 kK) ?_
            refine xe_ti (show _ = nI (t + 0) from nI_add t 0) ?_
            refine xe (fun _ _ kK => x_istore dX8_table_216 (by decide) (show _ = [(6, .int (nI (t + 0))), (5, .int (nI lev)), (4, .int (nI (o + y))), (3, .int (nI dd)), (2, .int (nI i)), (0, .ref 88), (1, .int (nI c))] from rfl) kK) ?_
            refine xe (fun _ _ kK => x_iload_n dX8_table_218 rfl 3 rfl kK) ?_
            refine xe (fun _ _ kK => x_aload_n dX8_table_219 rfl 5 rfl kK) ?_
            refine xe (fun _ _ kK => x_get dX8_table_220 fl_X8_254 (wK_ai (wK_ai hC.1.1)) (gvl_i fz_8_37.2.2 (show e_i (s_ai (s_ai T 113 dd (nI ((o + y) + 1))) 114 dd (nI (sn + 1))) 549 88 = nI r.length from (wi_ai (wi_ai hC.2.2.1.1)))) kK) ?_
            refine xe (fun _ _ kK => x_iconst dX8_table_223 (show _ = nI 1 by decide) kK) ?_
            refine xe (fun _ _ kK => x_isub dX8_table_224 kK) ?_
            refine xe_ti (show _ = nI (r.length - 1) from pk_sub (by omega)) ?_
            have htt : t + (if s.2.2.2.2.2.1 f = 0 then 0 else 1) = t + 0 := by rw [if_pos h207]
            have hrst : rst (bdy s.2.2.2.2.2.1 pa i f (f2 :: fs2) t ag) (lev, t, false, lN 0, i) lev ag sn (ch pa x f lk) = bdy s.2.2.2.2.2.1 pa i f (f2 :: fs2) t ag y (lev) ++ rst (bdy s.2.2.2.2.2.1 pa i f (f2 :: fs2) t ag) (lev, t, false, lN 0, i) lev ag (sn + 1) (ch pa x f (y + 1)) := by rw [hch, rst_cons, hys, hlv9]
            rw [hrst] at hpop hlen
            rw [List.length_append] at hlen
            refine xe (fun _ _ kK => x_icmp_neT (tgt := 248) dX8_table_225 (by decide) (fun z9 => by have := cv_eq (by omega) (by omega) z9; omega) kK) ?_
            refine xe (fun _ _ kK => x_iinc dX8_table_248 3 rfl (show (nI dd) + Int32.ofInt 1 = nI (dd + 1) from nI_add dd 1) (by decide) (show _ = [(3, .int (nI (dd + 1))), (6, .int (nI (t + 0))), (5, .int (nI lev)), (4, .int (nI (o + y))), (2, .int (nI i)), (0, .ref 88), (1, .int (nI c))] from rfl) kK) ?_
            refine xe (fun _ _ kK => x_aload_n dX8_table_251 rfl 5 rfl kK) ?_
            refine xe (fun _ _ kK => x_iload_n dX8_table_252 rfl 0 rfl kK) ?_
            refine xe (fun _ _ kK => x_iload dX8_table_253 3 rfl kK) ?_
            refine xe (fun _ _ kK => x_iload dX8_table_255 1 rfl kK) ?_
            refine xe (fun _ _ kK => x_iload dX8_table_257 2 rfl kK) ?_
            have hF0 : FrM fsB asB T (s_ai (s_ai T 113 dd (nI ((o + y) + 1))) 114 dd (nI (sn + 1))) := (FrM.sai (FrM.sai FrM.rf (by decide) _ _) (by decide) _ _)
            refine xe_callV (a := 88) [.int (nI (dd + 1)), .int (nI (o + y)), .int (nI (t + 0)), .int (nI lev)] dX8_table_259 ml_X8_263 mf_X8_steps (wK_ai (wK_ai hC.1.1)) (c_X8_steps d (T := (s_ai (s_ai T 113 dd (nI ((o + y) + 1))) 114 dd (nI (sn + 1)))) (hF0.mi hC.1) (dd := dd + 1) (by omega) (o + y) (nI (t + 0)) (nI (lev))) rfl rfl (Nat.le_of_ble_eq_true rfl) (Nat.le_of_ble_eq_true rfl) ?_
            rintro _ _ ⟨rfl, rfl⟩
            refine xe (fun _ _ kK => x_goto (tgt := 35) dX8_table_262 (by decide) kK) ?_
            have hF1 : FrM fsB asB T (s_ai (s_ai (s_ai (s_ai (s_ai (s_ai (s_ai T 113 dd (nI ((o + y) + 1))) 114 dd (nI (sn + 1))) 112 (dd + 1) (nI (o + y))) 113 (dd + 1) (nI (o + y + 1))) 114 (dd + 1) (nI 0)) 115 (dd + 1) (nI (t + 0))) 116 (dd + 1) (nI (lev))) := (FrM.sai (FrM.sai (FrM.sai (FrM.sai (FrM.sai (FrM.sai (FrM.sai FrM.rf (by decide) _ _) (by decide) _ _) (by decide) _ _) (by decide) _ _) (by decide) _ _) (by decide) _ _) (by decide) _ _)
            have hR1 : MRw (s_ai (s_ai (s_ai (s_ai (s_ai (s_ai (s_ai T 113 dd (nI ((o + y) + 1))) 114 dd (nI (sn + 1))) 112 (dd + 1) (nI (o + y))) 113 (dd + 1) (nI (o + y + 1))) 114 (dd + 1) (nI 0)) 115 (dd + 1) (nI (t + 0))) 116 (dd + 1) (nI (lev))) R := hR.of (wi_ai (wi_ai (wi_ai (wi_ai (wi_ai (wi_ai (wi_ai rfl))))))) (fun a ha => by simp only [List.mem_cons, List.not_mem_nil, or_false] at ha; rcases ha with rfl | rfl | rfl | rfl <;> rfl) rfl
            have hFm1 : Fm (s_ai (s_ai (s_ai (s_ai (s_ai (s_ai (s_ai T 113 dd (nI ((o + y) + 1))) 114 dd (nI (sn + 1))) 112 (dd + 1) (nI (o + y))) 113 (dd + 1) (nI (o + y + 1))) 114 (dd + 1) (nI 0)) 115 (dd + 1) (nI (t + 0))) 116 (dd + 1) (nI (lev))) (dd + 1) o y (y + 1) 0 (t + 0) (lev) := ⟨by simp [q_i_i, q_i_ai, q_i_al, q_ai_ai, q_ai_i, q_ai_al, q_al_al, q_al_i, q_al_ai], by simp [q_i_i, q_i_ai, q_i_al, q_ai_ai, q_ai_i, q_ai_al, q_al_al, q_al_i, q_al_ai]; rw [Nat.add_assoc], by simp [q_i_i, q_i_ai, q_i_al, q_ai_ai, q_ai_i, q_ai_al, q_al_al, q_al_i, q_al_ai], by simp [q_i_i, q_i_ai, q_i_al, q_ai_ai, q_ai_i, q_ai_al, q_al_al, q_al_i, q_al_ai], by simp [q_i_i, q_i_ai, q_i_al, q_ai_ai, q_ai_i, q_ai_al, q_al_al, q_al_i, q_al_ai]⟩
            have hbd : bdy s.2.2.2.2.2.1 pa i f (f2 :: fs2) t ag y (lev) = rst (bdy s.2.2.2.2.2.1 pa i f2 fs2 (t + 0) (mc s.2.2.2.2.2.1 (pr ++ [f] ++ [f2]))) (lev, t + 0, false, lN 0, i) (lev) (mc s.2.2.2.2.2.1 (pr ++ [f] ++ [f2])) 0 (ch pa y f2 (y + 1)) := by show rwG s.2.2.2.2.2.1 pa i (f2 :: fs2) y _ _ ag = _; rw [htt, rwG_eq, mc_app s.2.2.2.2.2.1 (pr ++ [f]) [f2], mc_1, hag]
            rw [hbd] at hpop hlen
            refine xe_loc (by simp) (ihf (pr ++ [f]) f2 (dd + 1) (by rw [hr]; simp) (by rw [List.length_append, hdd]; rfl) (mc s.2.2.2.2.2.1 (pr ++ [f] ++ [f2])) rfl y (t + 0) (lev) hy2 (by omega) (by omega) (pa.1 - (y + 1)) (y + 1) 0 (s_ai (s_ai (s_ai (s_ai (s_ai (s_ai (s_ai T 113 dd (nI ((o + y) + 1))) 114 dd (nI (sn + 1))) 112 (dd + 1) (nI (o + y))) 113 (dd + 1) (nI (o + y + 1))) 114 (dd + 1) (nI 0)) 115 (dd + 1) (nI (t + 0))) 116 (dd + 1) (nI (lev))) R rfl (by omega) (by omega) (hC.of hF1) hFm1 hR1 (by omega) (fun T9 hF9 hL9 hR9 => ?_))
            refine xe_loc (L' := [(3, .int (nI dd)), (2, .int (nI i)), (0, .ref 88), (1, .int (nI c))]) (by rw [show nI (dd + 1) + Int32.ofInt (-1) = nI dd from pk_m1 dd]; simp) ?_
            have hl9 : ∀ a, a ∈ [112, 113, 114, 115, 116] → e_ai T9 a dd = e_ai (s_ai (s_ai (s_ai (s_ai (s_ai (s_ai (s_ai T 113 dd (nI ((o + y) + 1))) 114 dd (nI (sn + 1))) 112 (dd + 1) (nI (o + y))) 113 (dd + 1) (nI (o + y + 1))) 114 (dd + 1) (nI 0)) 115 (dd + 1) (nI (t + 0))) 116 (dd + 1) (nI (lev))) a dd := fun a ha => hL9 dd (Nat.lt_succ_self _) a ha
            have hFm2 : Fm T9 dd o x (y + 1) (sn + 1) t lev := ⟨(hl9 112 (by decide)).trans (wai_ai (fun q => absurd q.1 (by decide)) (wai_ai (fun q => absurd q.1 (by decide)) (wai_ai (fun q => absurd q.1 (by decide)) (wai_ai (fun q => absurd q.1 (by decide)) (wai_ai (by omega) (wai_ai (fun q => absurd q.1 (by decide)) (wai_ai (fun q => absurd q.1 (by decide)) hFm.1))))))), (hl9 113 (by decide)).trans (by simp [q_i_i, q_i_ai, q_i_al, q_ai_ai, q_ai_i, q_ai_al, q_al_al, q_al_i, q_al_ai]; rw [Nat.add_assoc]), (hl9 114 (by decide)).trans (by simp [q_i_i, q_i_ai, q_i_al, q_ai_ai, q_ai_i, q_ai_al, q_al_al, q_al_i, q_al_ai]), (hl9 115 (by decide)).trans (wai_ai (fun q => absurd q.1 (by decide)) (wai_ai (by omega) (wai_ai (fun q => absurd q.1 (by decide)) (wai_ai (fun q => absurd q.1 (by decide)) (wai_ai (fun q => absurd q.1 (by decide)) (wai_ai (fun q => absurd q.1 (by decide)) (wai_ai (fun q => absurd q.1 (by decide)) hFm.2.2.2.1))))))), (hl9 116 (by decide)).trans (wai_ai (by omega) (wai_ai (fun q => absurd q.1 (by decide)) (wai_ai (fun q => absurd q.1 (by decide)) (wai_ai (fun q => absurd q.1 (by decide)) (wai_ai (fun q => absurd q.1 (by decide)) (wai_ai (fun q => absurd q.1 (by decide)) (wai_ai (fun q => absurd q.1 (by decide)) hFm.2.2.2.2)))))))⟩
            have hLo : FmLow T (s_ai (s_ai (s_ai (s_ai (s_ai (s_ai (s_ai T 113 dd (nI ((o + y) + 1))) 114 dd (nI (sn + 1))) 112 (dd + 1) (nI (o + y))) 113 (dd + 1) (nI (o + y + 1))) 114 (dd + 1) (nI 0)) 115 (dd + 1) (nI (t + 0))) 116 (dd + 1) (nI (lev))) dd := fun j hj a ha => mem5 (P := fun a => e_ai _ a j = e_ai T a j) (wai_ai (fun q => absurd q.1 (by decide)) (wai_ai (fun q => absurd q.1 (by decide)) (wai_ai (fun q => absurd q.1 (by decide)) (wai_ai (fun q => absurd q.1 (by decide)) (wai_ai (by omega) (wai_ai (fun q => absurd q.1 (by decide)) (wai_ai (fun q => absurd q.1 (by decide)) rfl))))))) (wai_ai (fun q => absurd q.1 (by decide)) (wai_ai (fun q => absurd q.1 (by decide)) (wai_ai (fun q => absurd q.1 (by decide)) (wai_ai (by omega) (wai_ai (fun q => absurd q.1 (by decide)) (wai_ai (fun q => absurd q.1 (by decide)) (wai_ai (by omega) rfl))))))) (wai_ai (fun q => absurd q.1 (by decide)) (wai_ai (fun q => absurd q.1 (by decide)) (wai_ai (by omega) (wai_ai (fun q => absurd q.1 (by decide)) (wai_ai (fun q => absurd q.1 (by decide)) (wai_ai (by omega) (wai_ai (fun q => absurd q.1 (by decide)) rfl))))))) (wai_ai (fun q => absurd q.1 (by decide)) (wai_ai (by omega) (wai_ai (fun q => absurd q.1 (by decide)) (wai_ai (fun q => absurd q.1 (by decide)) (wai_ai (fun q => absurd q.1 (by decide)) (wai_ai (fun q => absurd q.1 (by decide)) (wai_ai (fun q => absurd q.1 (by decide)) rfl))))))) (wai_ai (by omega) (wai_ai (fun q => absurd q.1 (by decide)) (wai_ai (fun q => absurd q.1 (by decide)) (wai_ai (fun q => absurd q.1 (by decide)) (wai_ai (fun q => absurd q.1 (by decide)) (wai_ai (fun q => absurd q.1 (by decide)) (wai_ai (fun q => absurd q.1 (by decide)) rfl))))))) a ha
            refine ih (pa.1 - (y + 1)) (by omega) (y + 1) (sn + 1) T9 _ rfl (by omega) (by omega) ((hC.of hF1).of hF9) hFm2 hR9 (by rw [List.length_append]; omega) (fun T8 hF8 hL8 hR8 => hpop T8 (FrM.tr hF1 (FrM.tr hF9 hF8)) (hLo.tr (FmLow.tr (fun j hj => hL9 j (Nat.lt_succ_of_lt hj)) hL8)) (by rw [← List.append_assoc]; exact hR8))
