/-! a group is begun -/
def thO (th : Nat → Bool) (f k : Nat) : Nat → Bool := fun g => if f < g ∧ g < k then false else th g
def agf (s : Sh) (f : Nat) : Nat := mc s.2.2.2.2.2.1 (upF s.2.2.1 6 (some f))
def EvQ (T : TH) (rd cu i : Nat) (s : Sh) (en : Nat → Nat) (lo : Nat → Option Nat) (n : Nat) (b : Nat → Nat) (o : Option Nat) (dep : Nat) (th : Nat → Bool) (lv : Nat → Nat) (A : Nat → Nat → Nat) (cp : Nat → Nat) (RR : Nat → List Row) (lev : Nat) (z : (Nat × Nat) ⊕ (Nat × Nat × Option Int64)) (r : Option Value) (T1 : TH) : Prop := match z with
  | .inl (k, q) => r = some (.int (nI 0)) ∧ PJ T T1 s i cp RR k q
  | .inr (p', f, some v) => r = some (.int (nI 1)) ∧ ∃ c A' cp', lo f = some c ∧ PRs T1 rd cu i s en lo n b p' o dep th lv A' cp' (va_up RR c (RR c ++ [(lev, dgo s (some f), true, v, i)])) ∧ PFr T T1 cp cp'
  | .inr (p', f, none) => r = some (.int (nI 1)) ∧ PRs T1 rd cu i s en lo n b p' (some f) (dep + 1) (thO th f (en f)) (va_up lv (dep + 1) lev) A cp RR ∧ PFr T T1 cp cp
def EvE (T : TH) (rd cu i : Nat) (s : Sh) (en : Nat → Nat) (lo : Nat → Option Nat) (n : Nat) (b : Nat → Nat) (o : Option Nat) (dep : Nat) (th : Nat → Bool) (lv : Nat → Nat) (A : Nat → Nat → Nat) (cp : Nat → Nat) (RR : Nat → List Row) (z : (Nat × Nat) ⊕ (Nat × Nat × Option Int64)) (r : Option Value) (T1 : TH) : Prop := match z with
  | .inl (k, q) => r = some (.int (nI 0)) ∧ PJ T T1 s i cp RR k q
  | .inr (p', f, ov) => EvQ T rd cu i s en lo n b o dep (va_up th f true) lv A cp RR (if th f = true then agf s f else lv dep) (.inr (p', f, ov)) r T1
theorem EvQ.pre {T T0 T1 : TH} {rd cu i n dep lev : Nat} {s : Sh} {en : Nat → Nat} {lo : Nat → Option Nat} {b : Nat → Nat} {o : Option Nat} {th : Nat → Bool} {lv cp : Nat → Nat} {A : Nat → Nat → Nat} {RR : Nat → List Row} {z : (Nat × Nat) ⊕ (Nat × Nat × Option Int64)} {r : Option Value} (h : EvQ T0 rd cu i s en lo n b o dep th lv A cp RR lev z r T1) (hF : PFr T T0 cp cp) : EvQ T rd cu i s en lo n b o dep th lv A cp RR lev z r T1 := by
  match z, h with
  | .inl (k, q), ⟨h1, h2⟩ => exact ⟨h1, h2.pre hF (fun _ _ => Jk.rf)⟩
  | .inr (p', f, some v), ⟨h1, c, A', cp', h0, h2, h3⟩ => exact ⟨h1, c, A', cp', h0, h2, hF.tr h3⟩
  | .inr (p', f, none), ⟨h1, h2, h3⟩ => exact ⟨h1, h2, hF.tr h3⟩
theorem EvQ.v {T T1 : TH} {rd cu i n dep lev : Nat} {s : Sh} {en : Nat → Nat} {lo : Nat → Option Nat} {b : Nat → Nat} {o : Option Nat} {th : Nat → Bool} {lv cp : Nat → Nat} {A : Nat → Nat → Nat} {RR : Nat → List Row} {z : (Nat × Nat) ⊕ (Nat × Nat × Option Int64)} {r : Option Value} (h : EvQ T rd cu i s en lo n b o dep th lv A cp RR lev z r T1) : ∃ v : Int32, r = some (.int v) ∧ (v = 0 ∨ v = 1) := by
  match z, h with
  | .inl (k, q), ⟨h1, h2⟩ => exact ⟨_, h1, Or.inl rfl⟩
  | .inr (p', f, some v), ⟨h1, h2⟩ => exact ⟨_, h1, Or.inr rfl⟩
  | .inr (p', f, none), ⟨h1, h2⟩ => exact ⟨_, h1, Or.inr rfl⟩
theorem VlP.v {T T1 : TH} {rd cu i n dep c f lev : Nat} {s : Sh} {en : Nat → Nat} {lo : Nat → Option Nat} {b : Nat → Nat} {o : Option Nat} {th : Nat → Bool} {lv cp : Nat → Nat} {RR : Nat → List Row} {z : Nat ⊕ (Nat × Int64)} {r : Option Value} (h : VlP T rd cu i s en lo n b o dep th lv cp RR c f lev z r T1) : ∃ v : Int32, r = some (.int v) ∧ (v = 0 ∨ v = 1) := by
  match z, h with
  | .inl p, ⟨h1, h2⟩ => exact ⟨_, h1, Or.inl rfl⟩
  | .inr (p3, v), ⟨h1, h2⟩ => exact ⟨_, h1, Or.inr rfl⟩
theorem EvE.v {T T1 : TH} {rd cu i n dep : Nat} {s : Sh} {en : Nat → Nat} {lo : Nat → Option Nat} {b : Nat → Nat} {o : Option Nat} {th : Nat → Bool} {lv cp : Nat → Nat} {A : Nat → Nat → Nat} {RR : Nat → List Row} {z : (Nat × Nat) ⊕ (Nat × Nat × Option Int64)} {r : Option Value} (h : EvE T rd cu i s en lo n b o dep th lv A cp RR z r T1) : ∃ v : Int32, r = some (.int v) ∧ (v = 0 ∨ v = 1) := by
  match z, h with
  | .inl (k, q), ⟨h1, h2⟩ => exact ⟨_, h1, Or.inl rfl⟩
  | .inr (p', f, ov), h => exact EvQ.v h
theorem fnd_congr {p q : Nat → Bool} : ∀ (c k : Nat), (∀ f, k ≤ f → f < k + c → p f = q f) → fnd p c k = fnd q c k := by
  intro c
  induction c with
  | zero => intro k _; rfl
  | succ c ih =>
    intro k h
    rw [fnd, fnd, h k (Nat.le_refl _) (by omega), ih (k + 1) (fun f h1 h2 => h f (by omega) (by omega))]
theorem find_cw {s : Sh} {gs : List Nat} {en : Nat → Nat} {lo : Nat → Option Nat} (hV : ShV s gs en lo) (o : Option Nat) (b : Nat → Nat) (q e : Nat) : fnd (fun f => decide (s.2.2.1 f = o ∧ s.2.2.2.1 f = cwc b q e)) s.1 0 = findF s o (wd b q e) := by
  unfold findF
  refine fnd_congr _ _ (fun f h1 h2 => ?_)
  have hp := (hV.2.2.2.2.2.2.2.2.2.2 f (by omega)).2
  unfold cwc wd
  by_cases h8 : 8 < e - q
  · rw [if_pos h8, if_pos h8]; simp; intro _; omega
  · rw [if_neg h8, if_neg h8]; simp

set_option maxHeartbeats 4000000 in
theorem l_X0_readOpen (d : Nat) {T : TH} {rd cu i n x dep : Nat} {s : Sh} {en : Nat → Nat} {lo : Nat → Option Nat} {b : Nat → Nat} {o : Option Nat} {th : Nat → Bool} {lv : Nat → Nat} {A : Nat → Nat → Nat} {cp : Nat → Nat} {RR : Nat → List Row} (hZ : PZ cu i s en lo) {f lev : Nat} (hf : f < s.1) : ∀ (m k : Nat) (T1 : TH), en f - k = m → f < k → k ≤ en f → PRs T1 rd cu i s en lo n b x o dep (thO th f k) lv A cp RR → PFr T T1 cp cp → Xe m_X0_readOpen d 59 [(3, .int (nI k)), (0, .ref rd), (1, .int (nI f)), (2, .int (nI lev))] [] T1 (fun r T2 => r = some (.int (nI 1)) ∧ PRs T2 rd cu i s en lo n b x o dep (thO th f (en f)) lv A cp RR ∧ PFr T T2 cp cp) := by
  intro m
  induction m using Nat.strongRecOn with
  | ind m ih =>
    intro k T1 hm hk hke h hPF
    subst hm
    obtain ⟨hL, hS, hK, hC0, hV0, hA, hR, ⟨hs1, hs2, hs3⟩, hf1, hf2⟩ := id h
    obtain ⟨hu, hV, ⟨hs60, h12⟩, hi30, hWl, hNb⟩ := id hZ
    have hef := (hV.2.2.1 f hf).2.2
    refine xe (fun _ _ kK => x_iload_n dX0_readOpen_59 rfl 0 rfl kK) ?_
    refine xe (fun _ _ kK => x_aload_n dX0_readOpen_60 rfl 1 rfl kK) ?_
    refine xe (fun _ _ kK => x_get dX0_readOpen_61 fl_X0_15 hC0.1 (gvl_r1 fz_0_1.2.2 (show e_r T1 1 rd = some cu from hC0.2.2.1)) kK) ?_
    refine xe (fun _ _ kK => x_get dX0_readOpen_64 fl_X0_157 hS.1.1 (gvl_r1 fz_1_4.2.2 (show e_r T1 68 cu = some (cu + 5) from (hS.1.2.1 4 (by decide)))) kK) ?_
    refine xe (fun _ _ kK => x_iload_n dX0_readOpen_67 rfl 2 rfl kK) ?_
    refine xe (fun _ _ kK => x_iald dX0_readOpen_68 (show e_K _ (cu + 5) = 20 from (hS.1.2.2.1 4 (by decide))) (show (nI f) = nI f from rfl) (shi_len hS.1 4 (by decide) (show f < 66 by omega)) (show e_ai T1 (cu + 5) f = nI (en f) from (hS.2.2.2.1 f hf).2.2.2.2.1) kK) ?_
    refine xe_icmp_ge (tgt := 91) dX0_readOpen_69 (by decide) (fun h69 => ?_) (fun h69 => ?_)
    · -- pc 91
      have h69 := cv_le (by omega) (by omega) h69
      refine xe (fun _ _ kK => x_iconst dX0_readOpen_91 (show _ = nI 1 by decide) kK) ?_
      have ek : thO th f k = thO th f (en f) := by funext g; unfold thO; by_cases z : f < g ∧ g < k; rw [if_pos z, if_pos (by omega)]; rw [if_neg z, if_neg (by omega)]
      rw [ek] at h
      exact xe_retz dX0_readOpen_92 rfl (by first | exact Or.inl rfl | exact Or.inr rfl) (⟨rfl, h, hPF⟩)
    · -- pc 72
      have h69 := cv_nle (by omega) (by omega) h69
      refine xe (fun _ _ kK => x_iload_n dX0_readOpen_72 rfl 0 rfl kK) ?_
      refine xe (fun _ _ kK => x_bipush dX0_readOpen_73 (show _ = nI 66 by decide) kK) ?_
      refine xe (fun _ _ kK => x_icmp_geF (tgt := 91) dX0_readOpen_75 (by decide) (fun z9 => by have := cv_le (by omega) (by omega) z9; omega) kK) ?_
      refine xe (fun _ _ kK => x_aload_n dX0_readOpen_78 rfl 1 rfl kK) ?_
      refine xe (fun _ _ kK => x_get dX0_readOpen_79 fl_X0_27 hC0.1 (gvl_r1 fz_0_4.2.2 (show e_r T1 4 rd = some (rd + 1) from hC0.2.2.2.2.2.1)) kK) ?_
      refine xe (fun _ _ kK => x_iload_n dX0_readOpen_82 rfl 0 rfl kK) ?_
      refine xe (fun _ _ kK => x_iconst dX0_readOpen_83 (show _ = nI 0 by decide) kK) ?_
      refine xe (fun _ _ kK => x_zast dX0_readOpen_84 hC0.2.2.2.2.2.2.2.1 (show (nI k) = nI k from rfl) (by rw [hC0.2.2.2.2.2.2.2.2.1]; omega) kK) ?_
      refine xe (fun _ _ kK => x_iinc dX0_readOpen_85 0 rfl (show (nI k) + Int32.ofInt 1 = nI (k + 1) from nI_add k 1) (by decide) (show _ = [(3, .int (nI (k + 1))), (0, .ref rd), (1, .int (nI f)), (2, .int (nI lev))] from rfl) kK) ?_
      refine xe (fun _ _ kK => x_goto (tgt := 59) dX0_readOpen_88 (by decide) kK) ?_
      have hG : FrG [(258, 1), (6, rd), (7, rd)] [rd + 1, rd + 2] T1 (s_ai T1 (rd + 1) k (vp_nar .boolean (nI 0))) := (FrG.sai FrG.rf (by simp) _ _)
      have hP2 := h.rdw (o' := o) (dep' := dep) (th' := thO th f (k + 1)) (lv' := lv) hu h12 hG hL.2.2.1 hL.2.2.2.2.1 ⟨hV0.1, hV0.2.1, fun g hg => ?_, fun j hj => by rw [show e_ai (s_ai T1 (rd + 1) k (vp_nar .boolean (nI 0))) (rd + 2) j = e_ai T1 (rd + 2) j by simp [q_i_i, q_i_l, q_i_ai, q_i_al, q_ai_ai, q_ai_i, q_ai_l, q_ai_al, q_al_al, q_al_i, q_al_ai, q_al_l, q_l_i, q_l_l, q_l_ai, q_l_al, q_r_r, q_r_i, q_r_l, q_r_ai, q_r_al, q_i_r, q_l_r, q_ai_r, q_al_r, q_K_i, q_K_r, q_K_l, q_K_ai, q_K_al, q_len_i, q_len_r, q_len_l, q_len_ai, q_len_al, q_n_i, q_n_r, q_n_l, q_n_ai, q_n_al, q_s_i, q_s_r, q_s_l, q_s_ai, q_s_al]]; exact hV0.2.2.2 j hj⟩
      rotate_left
      · by_cases e9 : g = k
        · subst e9; simp [q_i_i, q_i_l, q_i_ai, q_i_al, q_ai_ai, q_ai_i, q_ai_l, q_ai_al, q_al_al, q_al_i, q_al_ai, q_al_l, q_l_i, q_l_l, q_l_ai, q_l_al, q_r_r, q_r_i, q_r_l, q_r_ai, q_r_al, q_i_r, q_l_r, q_ai_r, q_al_r, q_K_i, q_K_r, q_K_l, q_K_ai, q_K_al, q_len_i, q_len_r, q_len_l, q_len_ai, q_len_al, q_n_i, q_n_r, q_n_l, q_n_ai, q_n_al, q_s_i, q_s_r, q_s_l, q_s_ai, q_s_al, thO, show f < g by omega]; rfl
        · have h1 := hV0.2.2.1 g hg
          rw [show thO th f (k + 1) g = thO th f k g by unfold thO; by_cases z : f < g ∧ g < k; rw [if_pos z, if_pos (by omega)]; rw [if_neg z, if_neg (by omega)]]
          simp [q_i_i, q_i_l, q_i_ai, q_i_al, q_ai_ai, q_ai_i, q_ai_l, q_ai_al, q_al_al, q_al_i, q_al_ai, q_al_l, q_l_i, q_l_l, q_l_ai, q_l_al, q_r_r, q_r_i, q_r_l, q_r_ai, q_r_al, q_i_r, q_l_r, q_ai_r, q_al_r, q_K_i, q_K_r, q_K_l, q_K_ai, q_K_al, q_len_i, q_len_r, q_len_l, q_len_ai, q_len_al, q_n_i, q_n_r, q_n_l, q_n_ai, q_n_al, q_s_i, q_s_r, q_s_l, q_s_ai, q_s_al, e9]; exact h1
      exact xe_loc (by simp) (ih (en f - (k + 1)) (by omega) (k + 1) _ rfl (by omega) (by omega) hP2 (hPF.tr (PFr.ofG hG (by simp <;> omega) (by simp <;> omega))))

set_option maxHeartbeats 4000000 in
theorem c_X0_readOpen (d : Nat) {T : TH} {rd cu i n x dep : Nat} {s : Sh} {en : Nat → Nat} {lo : Nat → Option Nat} {b : Nat → Nat} {o : Option Nat} {th : Nat → Bool} {lv : Nat → Nat} {A : Nat → Nat → Nat} {cp : Nat → Nat} {RR : Nat → List Row} (h : PRs T rd cu i s en lo n b x o dep th lv A cp RR) (hZ : PZ cu i s en lo) {f lev : Nat} (hf : f < s.1) (hx : x < n) (hd3 : dep ≤ 3) : Xe m_X0_readOpen d 0 [(0, .ref rd), (1, .int (nI f)), (2, .int (nI lev))] [] T (fun r T2 => r = some (.int (nI 1)) ∧ PRs T2 rd cu i s en lo n b (x + 1) (some f) (dep + 1) (thO th f (en f)) (va_up lv (dep + 1) lev) A cp RR ∧ PFr T T2 cp cp) := by
  obtain ⟨hL, hS, hK, hC0, hV0, hA, hR, ⟨hs1, hs2, hs3⟩, hf1, hf2⟩ := id h
  obtain ⟨hu, hV, ⟨hs60, h12⟩, hi30, hWl, hNb⟩ := id hZ
  have hpn := hL.2.2.2.2.1
  refine xe (fun _ _ kK => x_aload_n dX0_readOpen_0 rfl 0 rfl kK) ?_
  refine xe (fun _ _ kK => x_get dX0_readOpen_1 fl_X0_38 hC0.1 (gvl_i fz_0_7.2.2 (show e_i T 7 rd = nI dep from hV0.2.1)) kK) ?_
  refine xe (fun _ _ kK => x_iconst dX0_readOpen_4 (show _ = nI 4 by decide) kK) ?_
  refine xe (fun _ _ kK => x_icmp_ltT (tgt := 17) dX0_readOpen_5 (by decide) ((nI_ltI (by omega) (by omega)).mpr (by omega)) kK) ?_
  refine xe (fun _ _ kK => x_aload_n dX0_readOpen_17 rfl 0 rfl kK) ?_
  refine xe (fun _ _ kK => x_get dX0_readOpen_18 fl_X0_9 hC0.1 (gvl_r1 fz_0_0.2.2 (show e_r T 0 rd = some 1 from hC0.2.1)) kK) ?_
  refine xe (fun _ _ kK => x_dup dX0_readOpen_21 rfl kK) ?_
  refine xe (fun _ _ kK => x_get dX0_readOpen_22 fl_X0_75 hL.1.2.2.2.2.1 (gvl_i fz_4_2.2.2 (show e_i T 258 1 = nI x from hL.2.2.1)) kK) ?_
  refine xe (fun _ _ kK => x_iconst dX0_readOpen_25 (show _ = nI 1 by decide) kK) ?_
  refine xe (fun _ _ kK => x_iadd dX0_readOpen_26 kK) ?_
  refine xe_ti (show _ = nI (x + 1) from nI_add x 1) ?_
  refine xe (fun _ _ kK => x_puti dX0_readOpen_27 ⟨fl_X0_75, fz_4_2.1, fz_4_2.2.1⟩ (Or.inl fz_4_2.2.2) rfl rfl hL.1.2.2.2.2.1 kK) ?_
  refine xe (fun _ _ kK => x_aload_n dX0_readOpen_30 rfl 0 rfl kK) ?_
  refine xe (fun _ _ kK => x_iload_n dX0_readOpen_31 rfl 1 rfl kK) ?_
  refine xe (fun _ _ kK => x_puti dX0_readOpen_32 ⟨fl_X0_35, fz_0_6.1, fz_0_6.2.1⟩ (Or.inl fz_0_6.2.2) rfl rfl (wK_i hC0.1) kK) ?_
  refine xe (fun _ _ kK => x_aload_n dX0_readOpen_35 rfl 0 rfl kK) ?_
  refine xe (fun _ _ kK => x_dup dX0_readOpen_36 rfl kK) ?_
  refine xe (fun _ _ kK => x_get dX0_readOpen_37 fl_X0_38 (wK_i (wK_i hC0.1)) (gvl_i fz_0_7.2.2 (show e_i (s_i (s_i T 258 1 (nI (x + 1))) 6 rd (nI f)) 7 rd = nI dep from (wi_i (fun q => absurd q.1 (by decide)) (wi_i (fun q => absurd q.1 (by decide)) hV0.2.1)))) kK) ?_
  refine xe (fun _ _ kK => x_iconst dX0_readOpen_40 (show _ = nI 1 by decide) kK) ?_
  refine xe (fun _ _ kK => x_iadd dX0_readOpen_41 kK) ?_
  refine xe_ti (show _ = nI (dep + 1) from nI_add dep 1) ?_
  refine xe (fun _ _ kK => x_puti dX0_readOpen_42 ⟨fl_X0_38, fz_0_7.1, fz_0_7.2.1⟩ (Or.inl fz_0_7.2.2) rfl rfl (wK_i (wK_i hC0.1)) kK) ?_
  refine xe (fun _ _ kK => x_aload_n dX0_readOpen_45 rfl 0 rfl kK) ?_
  refine xe (fun _ _ kK => x_get dX0_readOpen_46 fl_X0_31 (wK_i (wK_i (wK_i hC0.1))) (gvl_r1 fz_0_5.2.2 (show e_r (s_i (s_i (s_i T 258 1 (nI (x + 1))) 6 rd (nI f)) 7 rd (nI (dep + 1))) 5 rd = some (rd + 2) from (wr_i (wr_i (wr_i hC0.2.2.2.2.2.2.1))))) kK) ?_
  refine xe (fun _ _ kK => x_aload_n dX0_readOpen_49 rfl 0 rfl kK) ?_
  refine xe (fun _ _ kK => x_get dX0_readOpen_50 fl_X0_38 (wK_i (wK_i (wK_i hC0.1))) (gvl_i fz_0_7.2.2 (show e_i (s_i (s_i (s_i T 258 1 (nI (x + 1))) 6 rd (nI f)) 7 rd (nI (dep + 1))) 7 rd = nI (dep + 1) from (ei_s _ _ _ _))) kK) ?_
  refine xe (fun _ _ kK => x_iload_n dX0_readOpen_53 rfl 2 rfl kK) ?_
  refine xe (fun _ _ kK => x_iast dX0_readOpen_54 (wK_i (wK_i (wK_i hC0.2.2.2.2.2.2.2.2.2.1))) (show (nI (dep + 1)) = nI (dep + 1) from rfl) (wN_i (wN_i (wN_i (by rw [hC0.2.2.2.2.2.2.2.2.2.2]; omega)))) kK) ?_
  refine xe (fun _ _ kK => x_iload_n dX0_readOpen_55 rfl 1 rfl kK) ?_
  refine xe (fun _ _ kK => x_iconst dX0_readOpen_56 (show _ = nI 1 by decide) kK) ?_
  refine xe (fun _ _ kK => x_iadd dX0_readOpen_57 kK) ?_
  refine xe_ti (show _ = nI (f + 1) from nI_add f 1) ?_
  refine xe (fun _ _ kK => x_istore_n dX0_readOpen_58 rfl (by decide) (show _ = [(3, .int (nI (f + 1))), (0, .ref rd), (1, .int (nI f)), (2, .int (nI lev))] from rfl) kK) ?_
  have hG : FrG [(258, 1), (6, rd), (7, rd)] [rd + 1, rd + 2] T (s_ai (s_i (s_i (s_i T 258 1 (nI (x + 1))) 6 rd (nI f)) 7 rd (nI (dep + 1))) (rd + 2) (dep + 1) (nI lev)) := (FrG.sai (FrG.si (FrG.si (FrG.si FrG.rf (by simp) _) (by simp) _) (by simp) _) (by simp) _ _)
  have hP2 : PRs (s_ai (s_i (s_i (s_i T 258 1 (nI (x + 1))) 6 rd (nI f)) 7 rd (nI (dep + 1))) (rd + 2) (dep + 1) (nI lev)) rd cu i s en lo n b (x + 1) (some f) (dep + 1) (thO th f (f + 1)) (va_up lv (dep + 1) lev) A cp RR := h.rdw hu h12 hG (by simp [q_i_i, q_i_l, q_i_ai, q_i_al, q_ai_ai, q_ai_i, q_ai_l, q_ai_al, q_al_al, q_al_i, q_al_ai, q_al_l, q_l_i, q_l_l, q_l_ai, q_l_al, q_r_r, q_r_i, q_r_l, q_r_ai, q_r_al, q_i_r, q_l_r, q_ai_r, q_al_r, q_K_i, q_K_r, q_K_l, q_K_ai, q_K_al, q_len_i, q_len_r, q_len_l, q_len_ai, q_len_al, q_n_i, q_n_r, q_n_l, q_n_ai, q_n_al, q_s_i, q_s_r, q_s_l, q_s_ai, q_s_al] <;> omega) (by omega) ⟨by simp [q_i_i, q_i_l, q_i_ai, q_i_al, q_ai_ai, q_ai_i, q_ai_l, q_ai_al, q_al_al, q_al_i, q_al_ai, q_al_l, q_l_i, q_l_l, q_l_ai, q_l_al, q_r_r, q_r_i, q_r_l, q_r_ai, q_r_al, q_i_r, q_l_r, q_ai_r, q_al_r, q_K_i, q_K_r, q_K_l, q_K_ai, q_K_al, q_len_i, q_len_r, q_len_l, q_len_ai, q_len_al, q_n_i, q_n_r, q_n_l, q_n_ai, q_n_al, q_s_i, q_s_r, q_s_l, q_s_ai, q_s_al]; rfl, by simp [q_i_i, q_i_l, q_i_ai, q_i_al, q_ai_ai, q_ai_i, q_ai_l, q_ai_al, q_al_al, q_al_i, q_al_ai, q_al_l, q_l_i, q_l_l, q_l_ai, q_l_al, q_r_r, q_r_i, q_r_l, q_r_ai, q_r_al, q_i_r, q_l_r, q_ai_r, q_al_r, q_K_i, q_K_r, q_K_l, q_K_ai, q_K_al, q_len_i, q_len_r, q_len_l, q_len_ai, q_len_al, q_n_i, q_n_r, q_n_l, q_n_ai, q_n_al, q_s_i, q_s_r, q_s_l, q_s_ai, q_s_al], fun g hg => ?_, fun j hj => ?_⟩
  rotate_left
  · rw [show thO th f (f + 1) g = th g by unfold thO; rw [if_neg (by omega)]]; have h1 := hV0.2.2.1 g hg; simp [q_i_i, q_i_l, q_i_ai, q_i_al, q_ai_ai, q_ai_i, q_ai_l, q_ai_al, q_al_al, q_al_i, q_al_ai, q_al_l, q_l_i, q_l_l, q_l_ai, q_l_al, q_r_r, q_r_i, q_r_l, q_r_ai, q_r_al, q_i_r, q_l_r, q_ai_r, q_al_r, q_K_i, q_K_r, q_K_l, q_K_ai, q_K_al, q_len_i, q_len_r, q_len_l, q_len_ai, q_len_al, q_n_i, q_n_r, q_n_l, q_n_ai, q_n_al, q_s_i, q_s_r, q_s_l, q_s_ai, q_s_al]; exact h1
  · by_cases e9 : j = dep + 1
    · subst e9; rw [ups]; simp [q_i_i, q_i_l, q_i_ai, q_i_al, q_ai_ai, q_ai_i, q_ai_l, q_ai_al, q_al_al, q_al_i, q_al_ai, q_al_l, q_l_i, q_l_l, q_l_ai, q_l_al, q_r_r, q_r_i, q_r_l, q_r_ai, q_r_al, q_i_r, q_l_r, q_ai_r, q_al_r, q_K_i, q_K_r, q_K_l, q_K_ai, q_K_al, q_len_i, q_len_r, q_len_l, q_len_ai, q_len_al, q_n_i, q_n_r, q_n_l, q_n_ai, q_n_al, q_s_i, q_s_r, q_s_l, q_s_ai, q_s_al]
    · rw [upn e9]; have h1 := hV0.2.2.2 j (by omega); simp [q_i_i, q_i_l, q_i_ai, q_i_al, q_ai_ai, q_ai_i, q_ai_l, q_ai_al, q_al_al, q_al_i, q_al_ai, q_al_l, q_l_i, q_l_l, q_l_ai, q_l_al, q_r_r, q_r_i, q_r_l, q_r_ai, q_r_al, q_i_r, q_l_r, q_ai_r, q_al_r, q_K_i, q_K_r, q_K_l, q_K_ai, q_K_al, q_len_i, q_len_r, q_len_l, q_len_ai, q_len_al, q_n_i, q_n_r, q_n_l, q_n_ai, q_n_al, q_s_i, q_s_r, q_s_l, q_s_ai, q_s_al, e9]; exact h1
  generalize hT2 : (s_ai (s_i (s_i (s_i T 258 1 (nI (x + 1))) 6 rd (nI f)) 7 rd (nI (dep + 1))) (rd + 2) (dep + 1) (nI lev)) = T2 at hG hP2 ⊢
  have e1 := l_X0_readOpen d (T := T) hZ (lev := lev) hf (en f - (f + 1)) (f + 1) T2 rfl (by omega) (hV.2.2.2.2.1 f hf List.not_mem_nil).1 hP2 (PFr.ofG hG (by simp <;> omega) (by simp <;> omega))
  exact xe_loc (by simp) e1

set_option maxHeartbeats 4000000 in
theorem t_X0_value (d : Nat) {T : TH} {rd cu i n x dep : Nat} {s : Sh} {en : Nat → Nat} {lo : Nat → Option Nat} {b : Nat → Nat} {o : Option Nat} {th : Nat → Bool} {lv : Nat → Nat} {A : Nat → Nat → Nat} {cp : Nat → Nat} {RR : Nat → List Row} (h : PRs T rd cu i s en lo n b x o dep th lv A cp RR) (hZ : PZ cu i s en lo) {f lev : Nat} (hf : f < s.1) (hx : x < n) (hsk : sk b n x = x) (hd3 : s.2.2.2.2.1 f = 2 → dep ≤ 3) (hb3 : ∀ c, c < s.2.1 → (RR c).length < 3000) : Xe m_X0_readEntry (d + 8) 106 [(3, .int (nI lev)), (1, .int (nI f)), (0, .ref rd)] [.int (nI (s.2.2.2.2.1 f + 1))] T (EvQ T rd cu i s en lo n b o dep th lv A cp RR lev (if s.2.2.2.2.1 f = 2 then .inr (x + 1, f, none) else match eVal b n x (s.2.2.2.2.1 f) with
    | .inl p2 => .inl (1, p2)
    | .inr (p3, v) => .inr (p3, f, some v))) := by
  obtain ⟨hL, hS, hK, hC0, hV0, hA, hR, ⟨hs1, hs2, hs3⟩, hf1, hf2⟩ := id h
  obtain ⟨hu, hV, ⟨hs60, h12⟩, hi30, hWl, hNb⟩ := id hZ
  have hk2 := (hV.2.2.1 f hf).1
  have hk3 : s.2.2.2.2.1 f = 0 ∨ s.2.2.2.2.1 f = 1 ∨ s.2.2.2.2.1 f = 2 := by omega
  rcases hk3 with hk | hk | hk
  · -- pc 106
    rw [hk]
    refine xe (fun _ _ kK => x_lookup (off := 26) (tgt := 132) dX0_readEntry_106 (by decide) (by decide) (by decide) kK) ?_
    refine xe (fun _ _ kK => x_aload_n dX0_readEntry_132 rfl 2 rfl kK) ?_
    refine xe (fun _ _ kK => x_iload_n dX0_readEntry_133 rfl 1 rfl kK) ?_
    refine xe (fun _ _ kK => x_iload_n dX0_readEntry_134 rfl 0 rfl kK) ?_
    obtain ⟨c, hc, -, hlo⟩ := (hV.2.2.2.2.2.2.2.1 f hf).2 (by omega)
    refine xe_callV (a := rd) [.int (nI f), .int (nI lev)] dX0_readEntry_135 ml_X0_100 mf_X0_readNumber hC0.1 (c_X0_readNumber (d + 1) h hZ (lev := lev) hf hlo hc (hb3 c hc) hx) rfl rfl (Nat.le_of_ble_eq_true rfl) (Nat.le_of_ble_eq_true rfl) ?_
    intro r1 T1 h1
    obtain ⟨v9, rfl, hv9⟩ := VlP.v h1
    rw [if_neg (by decide)]
    cases hev : eVal b n x 0 with
    | inl p2 =>
      rw [hev] at h1
      exact xe_retz dX0_readEntry_138 rfl hv9 (h1)
    | inr z =>
      obtain ⟨p3, v⟩ := z
      rw [hev] at h1
      obtain ⟨g1, A', cp', g2, g3⟩ := h1
      exact xe_retz dX0_readEntry_138 rfl hv9 (⟨g1, c, A', cp', hlo, g2, g3⟩)
  · -- pc 106
    rw [hk]
    refine xe (fun _ _ kK => x_lookup (off := 33) (tgt := 139) dX0_readEntry_106 (by decide) (by decide) (by decide) kK) ?_
    refine xe (fun _ _ kK => x_aload_n dX0_readEntry_139 rfl 2 rfl kK) ?_
    refine xe (fun _ _ kK => x_iload_n dX0_readEntry_140 rfl 1 rfl kK) ?_
    refine xe (fun _ _ kK => x_iload_n dX0_readEntry_141 rfl 0 rfl kK) ?_
    obtain ⟨c, hc, -, hlo⟩ := (hV.2.2.2.2.2.2.2.1 f hf).2 (by omega)
    refine xe_callV (a := rd) [.int (nI f), .int (nI lev)] dX0_readEntry_142 ml_X0_104 mf_X0_readLetters hC0.1 (c_X0_readLetters (d + 1) h hZ (lev := lev) hf hlo hc (hb3 c hc) hx hsk) rfl rfl (Nat.le_of_ble_eq_true rfl) (Nat.le_of_ble_eq_true rfl) ?_
    intro r1 T1 h1
    obtain ⟨v9, rfl, hv9⟩ := VlP.v h1
    rw [if_neg (by decide)]
    cases hev : eVal b n x 1 with
    | inl p2 =>
      rw [hev] at h1
      exact xe_retz dX0_readEntry_145 rfl hv9 (h1)
    | inr z =>
      obtain ⟨p3, v⟩ := z
      rw [hev] at h1
      obtain ⟨g1, A', cp', g2, g3⟩ := h1
      exact xe_retz dX0_readEntry_145 rfl hv9 (⟨g1, c, A', cp', hlo, g2, g3⟩)
  · -- pc 106
    rw [hk]
    refine xe (fun _ _ kK => x_lookup (off := 40) (tgt := 146) dX0_readEntry_106 (by decide) (by decide) (by decide) kK) ?_
    refine xe (fun _ _ kK => x_aload_n dX0_readEntry_146 rfl 2 rfl kK) ?_
    refine xe (fun _ _ kK => x_iload_n dX0_readEntry_147 rfl 1 rfl kK) ?_
    refine xe (fun _ _ kK => x_iload_n dX0_readEntry_148 rfl 0 rfl kK) ?_
    refine xe_callV (a := rd) [.int (nI f), .int (nI lev)] dX0_readEntry_149 ml_X0_107 mf_X0_readOpen hC0.1 (c_X0_readOpen (d + 7) h hZ (lev := lev) hf hx (hd3 hk)) rfl rfl (Nat.le_of_ble_eq_true rfl) (Nat.le_of_ble_eq_true rfl) ?_
    rintro _ T1 ⟨rfl, hP1, hF1⟩
    rw [if_pos rfl]
    exact xe_retz dX0_readEntry_152 rfl (by first | exact Or.inl rfl | exact Or.inr rfl) (⟨rfl, hP1, hF1⟩)

def eName (s : Sh) (b : Nat → Nat) (n x : Nat) (o : Option Nat) (th : Nat → Bool) : (Nat × Nat) ⊕ Nat :=
  if we b n x = x then .inl (1, x) else
  match findF s o (wd b x (we b n x)) with
  | none => .inl (2, x)
  | some f => if ¬ s.2.2.2.2.2.1 f = 2 ∧ th f = true then .inl (3, x) else .inr f
theorem eEntry_nm {s : Sh} {b : Nat → Nat} {n x : Nat} {o : Option Nat} {th : Nat → Bool} : eEntry s b n x o th = match eName s b n x o th with
    | .inl (k, q) => .inl (k, q)
    | .inr f => match qSign b n (we b n x) 58 with
      | .inl p1 => .inl (1, p1)
      | .inr p1 => eTail s b n (sk b n p1) f := by
  unfold eEntry eName
  by_cases h1 : we b n x = x
  · rw [if_pos h1, if_pos h1]
  · rw [if_neg h1, if_neg h1]
    cases findF s o (wd b x (we b n x)) with
    | none => rfl
    | some f =>
      by_cases h2 : ¬ s.2.2.2.2.2.1 f = 2 ∧ th f = true
      · show (if ¬ s.2.2.2.2.2.1 f = 2 ∧ th f = true then _ else _) = (match (if ¬ s.2.2.2.2.2.1 f = 2 ∧ th f = true then _ else _ : (Nat × Nat) ⊕ Nat) with | .inl (k, q) => _ | .inr f => _)
        rw [if_pos h2, if_pos h2]
      · show (if ¬ s.2.2.2.2.2.1 f = 2 ∧ th f = true then _ else _) = (match (if ¬ s.2.2.2.2.2.1 f = 2 ∧ th f = true then _ else _ : (Nat × Nat) ⊕ Nat) with | .inl (k, q) => _ | .inr f => _)
        rw [if_neg h2, if_neg h2]
        cases qSign b n (we b n x) 58 with
        | inl p1 => rfl
        | inr p1 => rfl
theorem eName_in {s : Sh} {b : Nat → Nat} {n x f : Nat} {o : Option Nat} {th : Nat → Bool} (h : eName s b n x o th = .inr f) : f < s.1 ∧ s.2.2.1 f = o := by
  unfold eName at h
  split at h
  · cases h
  · split at h
    · cases h
    · rename_i g hg
      split at h
      · cases h
      · cases h; exact ⟨(findF_ok hg).1, (findF_ok hg).2.1⟩
def NmP (T : TH) (rd cu i : Nat) (s : Sh) (en : Nat → Nat) (lo : Nat → Option Nat) (n : Nat) (b : Nat → Nat) (x : Nat) (o : Option Nat) (dep : Nat) (th : Nat → Bool) (lv : Nat → Nat) (A : Nat → Nat → Nat) (cp : Nat → Nat) (RR : Nat → List Row) (z : (Nat × Nat) ⊕ Nat) (r : Option Value) (T1 : TH) : Prop := match z with
  | .inl (k, q) => r = some (.int (-1)) ∧ ∃ T0, PRs T0 rd cu i s en lo n b (we b n x) o dep th lv A cp RR ∧ PFr T T0 cp cp ∧ T1 = cfl T0 k q
  | .inr f => r = some (.int (nI f)) ∧ PRs T1 rd cu i s en lo n b (we b n x) o dep th lv A cp RR ∧ PFr T T1 cp cp

set_option maxHeartbeats 4000000 in
theorem c_X0_readName (d : Nat) {T : TH} {rd cu i n x dep : Nat} {s : Sh} {en : Nat → Nat} {lo : Nat → Option Nat} {b : Nat → Nat} {o : Option Nat} {th : Nat → Bool} {lv : Nat → Nat} {A : Nat → Nat → Nat} {cp : Nat → Nat} {RR : Nat → List Row} (h : PRs T rd cu i s en lo n b x o dep th lv A cp RR) (hZ : PZ cu i s en lo) (hsk : sk b n x = x) (ho : ∀ g, o = some g → g < s.1) : Xe m_X0_readName (d + 3) 0 [(0, .ref rd)] [] T (NmP T rd cu i s en lo n b x o dep th lv A cp RR (eName s b n x o th)) := by
  obtain ⟨hL, hS, hK, hC0, hV0, hA, hR, ⟨hs1, hs2, hs3⟩, hf1, hf2⟩ := id h
  obtain ⟨hu, hV, ⟨hs60, h12⟩, hi30, hWl, hNb⟩ := id hZ
  have hpn := hL.2.2.2.2.1
  have hn4 := hL.2.2.2.2.2
  have he0 := we_ge b n x
  have he1 := we_n (b := b) hpn
  have hob : oB o := fun g hg => by have := ho g hg; omega
  refine xe (fun _ _ kK => x_aload_n dX0_readName_0 rfl 0 rfl kK) ?_
  refine xe (fun _ _ kK => x_get dX0_readName_1 fl_X0_9 hC0.1 (gvl_r1 fz_0_0.2.2 (show e_r T 0 rd = some 1 from hC0.2.1)) kK) ?_
  refine xe_callV (a := 1) [] dX0_readName_4 ml_X0_110 mf_X4_readWord hL.1.2.2.2.2.1 (c_X4_readWord d hL) rfl rfl (Nat.le_of_ble_eq_true rfl) (Nat.le_of_ble_eq_true rfl) ?_
  rintro _ T1 ⟨rfl, hF1, hW1⟩
  rw [hsk] at hW1
  have hP1 := h.mv hu hF1 (by simp) hW1.1 he1
  obtain ⟨hLa, hSa, hKa, hC0a, hV0a, hAa, hRa, ⟨hs1a, hs2a, hs3a⟩, hf1a, hf2a⟩ := id hP1
  have hFF1 : PFr T T1 cp cp := PFr.ofG hF1 (by simp) (by simp)
  refine xe (fun _ _ kK => x_aload_n dX0_readName_7 rfl 0 rfl kK) ?_
  refine xe (fun _ _ kK => x_get dX0_readName_8 fl_X0_15 hC0a.1 (gvl_r1 fz_0_1.2.2 (show e_r T1 1 rd = some cu from hC0a.2.2.1)) kK) ?_
  refine xe (fun _ _ kK => x_aload_n dX0_readName_11 rfl 0 rfl kK) ?_
  refine xe (fun _ _ kK => x_get dX0_readName_12 fl_X0_35 hC0a.1 (gvl_i fz_0_6.2.2 (show e_i T1 6 rd = oI o from hV0a.1)) kK) ?_
  refine xe (fun _ _ kK => x_aload_n dX0_readName_15 rfl 0 rfl kK) ?_
  refine xe (fun _ _ kK => x_get dX0_readName_16 fl_X0_9 hC0a.1 (gvl_r1 fz_0_0.2.2 (show e_r T1 0 rd = some 1 from hC0a.2.1)) kK) ?_
  refine xe (fun _ _ kK => x_get dX0_readName_19 fl_X0_113 hLa.1.2.2.2.2.1 (gvl_l fz_4_7.2.2 (show e_l T1 263 1 = lN (cwc b x (we b n x)) from hW1.2.2.2)) kK) ?_
  have hcl := cwc_lt (b := b) (n := n) (q := x)
  have hfd := c_X1_find (d + 2) hSa hs60 (o := o) (w := cwc b x (we b n x)) hob (by omega) (fun f hf g hg => by have := hWl f g hf hg; omega) (fun f hf => by have := hNb f hf; omega)
  rw [find_cw hV] at hfd
  refine xe_callV (a := cu) [.int (oI o), .long (lN (cwc b x (we b n x)))] dX0_readName_22 ml_X0_117 mf_X1_find hSa.1.1 (hfd) rfl rfl (Nat.le_of_ble_eq_true rfl) (Nat.le_of_ble_eq_true rfl) ?_
  rintro _ T9 ⟨rfl, hTq9⟩
  refine xe_T hTq9 ?_
  unfold eName
  refine xe (fun _ _ kK => x_istore_n dX0_readName_25 rfl (by decide) (show _ = [(1, .int (oI (findF s o (wd b x (we b n x))))), (0, .ref rd)] from rfl) kK) ?_
  refine xe (fun _ _ kK => x_aload_n dX0_readName_26 rfl 1 rfl kK) ?_
  refine xe (fun _ _ kK => x_get dX0_readName_27 fl_X0_9 hC0a.1 (gvl_r1 fz_0_0.2.2 (show e_r T1 0 rd = some 1 from hC0a.2.1)) kK) ?_
  refine xe (fun _ _ kK => x_get dX0_readName_30 fl_X0_121 hLa.1.2.2.2.2.1 (gvl_i fz_4_6.2.2 (show e_i T1 262 1 = nI ((we b n x) - x) from hW1.2.2.1)) kK) ?_
  refine xe_if_ne (tgt := 47) dX0_readName_33 (by decide) (fun h33 => ?_) (fun h33 => ?_)
  · -- pc 47
    have h33 := cv_nz (by omega) h33
    rw [if_neg (by omega)]
    cases hfo : findF s o (wd b x (we b n x)) with
    | none =>
      show Xe m_X0_readName (d + 2 + 1) 47 [(1, .int (-1)), (0, .ref rd)] [] T1 _
      refine xe (fun _ _ kK => x_aload_n dX0_readName_47 rfl 1 rfl kK) ?_
      refine xe (fun _ _ kK => x_get dX0_readName_48 fl_X0_15 hC0a.1 (gvl_r1 fz_0_1.2.2 (show e_r T1 1 rd = some cu from hC0a.2.2.1)) kK) ?_
      refine xe (fun _ _ kK => x_iload_n dX0_readName_51 rfl 0 rfl kK) ?_
      refine xe_callV (a := cu) [.int (-1)] dX0_readName_52 ml_X0_70 mf_X1_isField hSa.1.1 (by have := c_X1_isField (d + 2) hSa.1 hSa.2.1 (by omega) (-1); rw [ix_neg (by decide)] at this; exact this) rfl rfl (Nat.le_of_ble_eq_true rfl) (Nat.le_of_ble_eq_true rfl) ?_
      rintro _ T9 ⟨rfl, hTq9⟩
      refine xe_T hTq9 ?_
      refine xe (fun _ _ kK => x_if_neF (tgt := 76) dX0_readName_55 (by decide) rfl kK) ?_
      refine xe (fun _ _ kK => x_aload_n dX0_readName_58 rfl 1 rfl kK) ?_
      refine xe (fun _ _ kK => x_get dX0_readName_59 fl_X0_9 hC0a.1 (gvl_r1 fz_0_0.2.2 (show e_r T1 0 rd = some 1 from hC0a.2.1)) kK) ?_
      refine xe (fun _ _ kK => x_iconst dX0_readName_62 (show _ = nI 2 by decide) kK) ?_
      refine xe (fun _ _ kK => x_aload_n dX0_readName_63 rfl 1 rfl kK) ?_
      refine xe (fun _ _ kK => x_get dX0_readName_64 fl_X0_9 hC0a.1 (gvl_r1 fz_0_0.2.2 (show e_r T1 0 rd = some 1 from hC0a.2.1)) kK) ?_
      refine xe (fun _ _ kK => x_get dX0_readName_67 fl_X0_124 hLa.1.2.2.2.2.1 (gvl_i fz_4_5.2.2 (show e_i T1 261 1 = nI x from hW1.2.1)) kK) ?_
      refine xe_callV (a := 1) [.int (nI 2), .int (nI x)] dX0_readName_70 ml_X0_127 mf_X4_fail hLa.1.2.2.2.2.1 (c_X4_fail (d + 2) hLa.1 (nI 2) (nI x)) rfl rfl (Nat.le_of_ble_eq_true rfl) (Nat.le_of_ble_eq_true rfl) ?_
      rintro _ _ ⟨rfl, rfl⟩
      refine xe (fun _ _ kK => x_pop dX0_readName_73 rfl kK) ?_
      refine xe (fun _ _ kK => x_iconst dX0_readName_74 (show _ = (-1) by decide) kK) ?_
      exact xe_reti dX0_readName_75 rfl (⟨rfl, T1, hP1, hFF1, rfl⟩)
    | some f =>
      obtain ⟨hf, hWf, hNf⟩ := findF_ok hfo
      show Xe m_X0_readName (d + 2 + 1) 47 [(1, .int (nI f)), (0, .ref rd)] [] T1 _
      refine xe (fun _ _ kK => x_aload_n dX0_readName_47 rfl 1 rfl kK) ?_
      refine xe (fun _ _ kK => x_get dX0_readName_48 fl_X0_15 hC0a.1 (gvl_r1 fz_0_1.2.2 (show e_r T1 1 rd = some cu from hC0a.2.2.1)) kK) ?_
      refine xe (fun _ _ kK => x_iload_n dX0_readName_51 rfl 0 rfl kK) ?_
      refine xe_callV (a := cu) [.int (nI f)] dX0_readName_52 ml_X0_70 mf_X1_isField hSa.1.1 (by have := c_X1_isField (d + 2) hSa.1 hSa.2.1 (by omega) (nI f); rw [ix_in hf (by omega)] at this; exact this) rfl rfl (Nat.le_of_ble_eq_true rfl) (Nat.le_of_ble_eq_true rfl) ?_
      rintro _ T9 ⟨rfl, hTq9⟩
      refine xe_T hTq9 ?_
      refine xe (fun _ _ kK => x_if_neT (tgt := 76) dX0_readName_55 (by decide) (show ¬ bI true = 0 by decide) kK) ?_
      have hMf := (hV.2.2.1 f hf).2.1
      refine xe (fun _ _ kK => x_aload_n dX0_readName_76 rfl 1 rfl kK) ?_
      refine xe (fun _ _ kK => x_get dX0_readName_77 fl_X0_27 hC0a.1 (gvl_r1 fz_0_4.2.2 (show e_r T1 4 rd = some (rd + 1) from hC0a.2.2.2.2.2.1)) kK) ?_
      refine xe (fun _ _ kK => x_iload_n dX0_readName_80 rfl 0 rfl kK) ?_
      refine xe (fun _ _ kK => x_zald dX0_readName_81 hC0a.2.2.2.2.2.2.2.1 (show (nI f) = nI f from rfl) (by rw [hC0a.2.2.2.2.2.2.2.2.1]; omega) (show e_ai T1 (rd + 1) f = bI (th f) from (hV0a.2.2.1 f (by omega))) kK) ?_
      refine xe_if_eq (tgt := 116) dX0_readName_82 (by decide) (fun h82 => ?_) (fun h82 => ?_)
      · -- pc 116
        have h82 := cv_b0 h82
        have hno3 : ¬ (¬ s.2.2.2.2.2.1 f = 2 ∧ th f = true) := fun z => by rw [h82] at z; exact absurd z.2 (by decide)
        show Xe _ _ _ _ _ _ (NmP T rd cu i s en lo n b x o dep th lv A cp RR (if ¬ s.2.2.2.2.2.1 f = 2 ∧ th f = true then .inl (3, x) else .inr f))
        rw [if_neg hno3]
        refine xe (fun _ _ kK => x_iload_n dX0_readName_116 rfl 0 rfl kK) ?_
        exact xe_reti dX0_readName_117 rfl (⟨rfl, hP1, hFF1⟩)
      · -- pc 85
        have h82 := cv_b1 h82
        refine xe (fun _ _ kK => x_aload_n dX0_readName_85 rfl 1 rfl kK) ?_
        refine xe (fun _ _ kK => x_get dX0_readName_86 fl_X0_15 hC0a.1 (gvl_r1 fz_0_1.2.2 (show e_r T1 1 rd = some cu from hC0a.2.2.1)) kK) ?_
        refine xe (fun _ _ kK => x_get dX0_readName_89 fl_X0_130 hSa.1.1 (gvl_r1 fz_1_2.2.2 (show e_r T1 66 cu = some (cu + 3) from (hSa.1.2.1 2 (by decide)))) kK) ?_
        refine xe (fun _ _ kK => x_iload_n dX0_readName_92 rfl 0 rfl kK) ?_
        refine xe (fun _ _ kK => x_iald dX0_readName_93 (show e_K _ (cu + 3) = 20 from (hSa.1.2.2.1 2 (by decide))) (show (nI f) = nI f from rfl) (shi_len hSa.1 2 (by decide) (show f < 66 by omega)) (show e_ai T1 (cu + 3) f = nI (s.2.2.2.2.2.1 f + 1) from (hSa.2.2.2.1 f hf).2.2.1) kK) ?_
        refine xe (fun _ _ kK => x_iconst dX0_readName_94 (show _ = nI 3 by decide) kK) ?_
        refine xe_icmp_eq (tgt := 116) dX0_readName_95 (by decide) (fun h95 => ?_) (fun h95 => ?_)
        · -- pc 116
          have h95 := cv_eq (by omega) (by omega) h95
          have hno3 : ¬ (¬ s.2.2.2.2.2.1 f = 2 ∧ th f = true) := fun z => z.1 (by omega)
          show Xe _ _ _ _ _ _ (NmP T rd cu i s en lo n b x o dep th lv A cp RR (if ¬ s.2.2.2.2.2.1 f = 2 ∧ th f = true then .inl (3, x) else .inr f))
          rw [if_neg hno3]
          refine xe (fun _ _ kK => x_iload_n dX0_readName_116 rfl 0 rfl kK) ?_
          exact xe_reti dX0_readName_117 rfl (⟨rfl, hP1, hFF1⟩)
        · -- pc 98
          have h95 := cv_ne (by omega) (by omega) h95
          refine xe (fun _ _ kK => x_aload_n dX0_readName_98 rfl 1 rfl kK) ?_
          refine xe (fun _ _ kK => x_get dX0_readName_99 fl_X0_9 hC0a.1 (gvl_r1 fz_0_0.2.2 (show e_r T1 0 rd = some 1 from hC0a.2.1)) kK) ?_
          refine xe (fun _ _ kK => x_iconst dX0_readName_102 (show _ = nI 3 by decide) kK) ?_
          refine xe (fun _ _ kK => x_aload_n dX0_readName_103 rfl 1 rfl kK) ?_
          refine xe (fun _ _ kK => x_get dX0_readName_104 fl_X0_9 hC0a.1 (gvl_r1 fz_0_0.2.2 (show e_r T1 0 rd = some 1 from hC0a.2.1)) kK) ?_
          refine xe (fun _ _ kK => x_get dX0_readName_107 fl_X0_124 hLa.1.2.2.2.2.1 (gvl_i fz_4_5.2.2 (show e_i T1 261 1 = nI x from hW1.2.1)) kK) ?_
          show Xe _ _ _ _ _ _ (NmP T rd cu i s en lo n b x o dep th lv A cp RR (if ¬ s.2.2.2.2.2.1 f = 2 ∧ th f = true then .inl (3, x) else .inr f))
          rw [if_pos ⟨by omega, h82⟩]
          refine xe_callV (a := 1) [.int (nI 3), .int (nI x)] dX0_readName_110 ml_X0_127 mf_X4_fail hLa.1.2.2.2.2.1 (c_X4_fail (d + 2) hLa.1 (nI 3) (nI x)) rfl rfl (Nat.le_of_ble_eq_true rfl) (Nat.le_of_ble_eq_true rfl) ?_
          rintro _ _ ⟨rfl, rfl⟩
          refine xe (fun _ _ kK => x_pop dX0_readName_113 rfl kK) ?_
          refine xe (fun _ _ kK => x_iconst dX0_readName_114 (show _ = (-1) by decide) kK) ?_
          exact xe_reti dX0_readName_115 rfl (⟨rfl, T1, hP1, hFF1, rfl⟩)
  · -- pc 36
    have h33 := cv_z (by omega) h33
    have hwe : we b n x = x := by omega
    rw [if_pos hwe]
    refine xe (fun _ _ kK => x_aload_n dX0_readName_36 rfl 1 rfl kK) ?_
    refine xe (fun _ _ kK => x_get dX0_readName_37 fl_X0_9 hC0a.1 (gvl_r1 fz_0_0.2.2 (show e_r T1 0 rd = some 1 from hC0a.2.1)) kK) ?_
    refine xe (fun _ _ kK => x_iconst dX0_readName_40 (show _ = nI 1 by decide) kK) ?_
    refine xe_callV (a := 1) [.int (nI 1)] dX0_readName_41 ml_X0_63 mf_X4_failHere hLa.1.2.2.2.2.1 (c_X4_failHere (d + 1) hLa.1 (hLa.2.2.1.trans (by rw [hwe])) 1) rfl rfl (Nat.le_of_ble_eq_true rfl) (Nat.le_of_ble_eq_true rfl) ?_
    rintro _ _ ⟨rfl, rfl⟩
    refine xe (fun _ _ kK => x_pop dX0_readName_44 rfl kK) ?_
    refine xe (fun _ _ kK => x_iconst dX0_readName_45 (show _ = (-1) by decide) kK) ?_
    exact xe_reti dX0_readName_46 rfl (⟨rfl, T1, hP1, hFF1, rfl⟩)

set_option maxHeartbeats 4000000 in
theorem c_X0_readEntry (d : Nat) {T : TH} {rd cu i n x dep : Nat} {s : Sh} {en : Nat → Nat} {lo : Nat → Option Nat} {b : Nat → Nat} {o : Option Nat} {th : Nat → Bool} {lv : Nat → Nat} {A : Nat → Nat → Nat} {cp : Nat → Nat} {RR : Nat → List Row} (h : PRs T rd cu i s en lo n b x o dep th lv A cp RR) (hZ : PZ cu i s en lo) (hx : x < n) (hsk : sk b n x = x) (hd4 : dep ≤ 4) (ho : ∀ g, o = some g → g < s.1) (hd3 : ∀ f, f < s.1 → s.2.2.1 f = o → s.2.2.2.2.1 f = 2 → dep ≤ 3) (hb3 : ∀ c, c < s.2.1 → (RR c).length < 3000) : Xe m_X0_readEntry (d + 8) 0 [(0, .ref rd)] [] T (EvE T rd cu i s en lo n b o dep th lv A cp RR (eEntry s b n x o th)) := by
  obtain ⟨hL, hS, hK, hC0, hV0, hA, hR, ⟨hs1, hs2, hs3⟩, hf1, hf2⟩ := id h
  obtain ⟨hu, hV, ⟨hs60, h12⟩, hi30, hWl, hNb⟩ := id hZ
  have hpn := hL.2.2.2.2.1
  have hn4 := hL.2.2.2.2.2
  have he0 := we_ge b n x
  have he1 := we_n (b := b) hpn
  have hB : ∀ j, j < n → b j < 256 := fun j hj => (hL.2.1 j hj).2
  have hob : oB o := fun g hg => by have := ho g hg; omega
  refine xe (fun _ _ kK => x_aload_n dX0_readEntry_0 rfl 0 rfl kK) ?_
  rw [eEntry_nm]
  have hnm := c_X0_readName (d + 4) h hZ hsk ho
  cases hen : eName s b n x o th with
  | inl z =>
    obtain ⟨k, q⟩ := z
    rw [hen] at hnm
    refine xe_callV (a := rd) [] dX0_readEntry_1 ml_X0_84 mf_X0_readName hC0.1 (hnm) rfl rfl (Nat.le_of_ble_eq_true rfl) (Nat.le_of_ble_eq_true rfl) ?_
    rintro _ _ ⟨rfl, T0, hP0, hFF0, rfl⟩
    obtain ⟨hLa, hSa, hKa, hC0a, hV0a, hAa, hRa, ⟨hs1a, hs2a, hs3a⟩, hf1a, hf2a⟩ := id hP0
    have hG0 : FrG [(258, 1), (259, 1), (260, 1), (261, 1), (262, 1), (263, 1)] [] T0 (cfl T0 k q) := (FrG.si (FrG.si FrG.rf (by decide) _) (by decide) _)
    have hSc := hSa.of hG0 (by simp) (by simp) (by simp)
    refine xe (fun _ _ kK => x_istore_n dX0_readEntry_4 rfl (by decide) (show _ = [(1, .int (-1)), (0, .ref rd)] from rfl) kK) ?_
    refine xe (fun _ _ kK => x_aload_n dX0_readEntry_5 rfl 1 rfl kK) ?_
    refine xe (fun _ _ kK => x_get dX0_readEntry_6 fl_X0_15 (wK_i (wK_i hC0a.1)) (gvl_r1 fz_0_1.2.2 (show e_r (cfl T0 k q) 1 rd = some cu from (wr_i (wr_i hC0a.2.2.1)))) kK) ?_
    refine xe (fun _ _ kK => x_iload_n dX0_readEntry_9 rfl 0 rfl kK) ?_
    refine xe_callV (a := cu) [.int (-1)] dX0_readEntry_10 ml_X0_70 mf_X1_isField (wK_i (wK_i hSa.1.1)) (by have := c_X1_isField (d + 7) hSc.1 hSc.2.1 (by omega) (-1); rw [ix_neg (by decide)] at this; exact this) rfl rfl (Nat.le_of_ble_eq_true rfl) (Nat.le_of_ble_eq_true rfl) ?_
    rintro _ T9 ⟨rfl, hTq9⟩
    refine xe_T hTq9 ?_
    refine xe (fun _ _ kK => x_if_eqT (tgt := 28) dX0_readEntry_13 (by decide) rfl kK) ?_
    refine xe (fun _ _ kK => x_iconst dX0_readEntry_28 (show _ = nI 0 by decide) kK) ?_
    exact xe_retz dX0_readEntry_29 rfl (by first | exact Or.inl rfl | exact Or.inr rfl) (⟨rfl, (hP0.fail k q).pre hFF0 (fun _ _ => Jk.rf)⟩)
  | inr f =>
    obtain ⟨hf, hWf⟩ := eName_in hen
    rw [hen] at hnm
    refine xe_callV (a := rd) [] dX0_readEntry_1 ml_X0_84 mf_X0_readName hC0.1 (hnm) rfl rfl (Nat.le_of_ble_eq_true rfl) (Nat.le_of_ble_eq_true rfl) ?_
    rintro _ T1 ⟨rfl, hP1, hFF1⟩
    obtain ⟨hLa, hSa, hKa, hC0a, hV0a, hAa, hRa, ⟨hs1a, hs2a, hs3a⟩, hf1a, hf2a⟩ := id hP1
    refine xe (fun _ _ kK => x_istore_n dX0_readEntry_4 rfl (by decide) (show _ = [(1, .int (nI f)), (0, .ref rd)] from rfl) kK) ?_
    refine xe (fun _ _ kK => x_aload_n dX0_readEntry_5 rfl 1 rfl kK) ?_
    refine xe (fun _ _ kK => x_get dX0_readEntry_6 fl_X0_15 hC0a.1 (gvl_r1 fz_0_1.2.2 (show e_r T1 1 rd = some cu from hC0a.2.2.1)) kK) ?_
    refine xe (fun _ _ kK => x_iload_n dX0_readEntry_9 rfl 0 rfl kK) ?_
    refine xe_callV (a := cu) [.int (nI f)] dX0_readEntry_10 ml_X0_70 mf_X1_isField hSa.1.1 (by have := c_X1_isField (d + 7) hSa.1 hSa.2.1 (by omega) (nI f); rw [ix_in hf (by omega)] at this; exact this) rfl rfl (Nat.le_of_ble_eq_true rfl) (Nat.le_of_ble_eq_true rfl) ?_
    rintro _ T9 ⟨rfl, hTq9⟩
    refine xe_T hTq9 ?_
    refine xe (fun _ _ kK => x_if_eqF (tgt := 28) dX0_readEntry_13 (by decide) (show ¬ bI true = 0 by decide) kK) ?_
    have hMf := (hV.2.2.1 f hf).2.1
    have hKf := (hV.2.2.1 f hf).1
    show Xe _ _ _ _ _ _ (EvE T rd cu i s en lo n b o dep th lv A cp RR (match qSign b n (we b n x) 58 with | .inl p1 => .inl (1, p1) | .inr p1 => eTail s b n (sk b n p1) f))
    refine xe (fun _ _ kK => x_aload_n dX0_readEntry_16 rfl 1 rfl kK) ?_
    refine xe (fun _ _ kK => x_get dX0_readEntry_17 fl_X0_9 hC0a.1 (gvl_r1 fz_0_0.2.2 (show e_r T1 0 rd = some 1 from hC0a.2.1)) kK) ?_
    refine xe (fun _ _ kK => x_bipush dX0_readEntry_20 (show _ = nI 58 by decide) kK) ?_
    have hps := c_X4_pass (d + 5) hLa (c := 58) (by decide)
    unfold qSign
    by_cases hq : sk b n (we b n x) < n ∧ b (sk b n (we b n x)) = 58
    · -- pc 22
      rw [if_pos hq] at hps ⊢
      refine xe_callV (a := 1) [.int (nI 58)] dX0_readEntry_22 ml_X0_81 mf_X4_pass hLa.1.2.2.2.2.1 (hps) rfl rfl (Nat.le_of_ble_eq_true rfl) (Nat.le_of_ble_eq_true rfl) ?_
      rintro _ _ ⟨rfl, rfl⟩
      have hG2 : FrG [(258, 1)] [] T1 (cmv T1 (sk b n (we b n x) + 1)) := FrG.si FrG.rf (by simp) _
      have hP2 := hP1.mv hu hG2 (by simp) rfl (by omega)
      have hFF2 := hFF1.tr (PFr.ofG (cp := cp) hG2 (by simp) (by simp))
      generalize hp1 : sk b n (we b n x) + 1 = p1 at hG2 hP2 hFF2 ⊢
      generalize hT2 : cmv T1 p1 = T2 at hG2 hP2 hFF2 ⊢
      show Xe _ _ _ _ _ _ (EvE T rd cu i s en lo n b o dep th lv A cp RR (eTail s b n (sk b n p1) f))
      refine xe (fun _ _ kK => x_if_neT (tgt := 30) dX0_readEntry_25 (by decide) (show ¬ nI 1 = 0 by decide) kK) ?_
      refine xe (fun _ _ kK => x_aload_n dX0_readEntry_30 rfl 1 rfl kK) ?_
      refine xe (fun _ _ kK => x_get dX0_readEntry_31 fl_X0_9 hP2.2.2.2.1.1 (gvl_r1 fz_0_0.2.2 (show e_r T2 0 rd = some 1 from hP2.2.2.2.1.2.1)) kK) ?_
      have hp1n := hP2.1.2.2.2.2.1
      have hq0 := sk_ge b n p1
      have hq1 := sk_n (b := b) hp1n
      refine xe_callV (a := 1) [] dX0_readEntry_34 ml_X0_46 mf_X4_next hP2.1.1.2.2.2.2.1 (c_X4_next (d + 6) hP2.1) rfl rfl (Nat.le_of_ble_eq_true rfl) (Nat.le_of_ble_eq_true rfl) ?_
      rintro _ _ ⟨rfl, rfl⟩
      have hG3 : FrG [(258, 1)] [] T2 (cmv T2 (sk b n p1)) := FrG.si FrG.rf (by simp) _
      have hP3 := hP2.mv hu hG3 (by simp) rfl hq1
      have hFF3 := hFF2.tr (PFr.ofG (cp := cp) hG3 (by simp) (by simp))
      have hskq : sk b n (sk b n p1) = sk b n p1 := sk_sk b n p1
      generalize hq9 : sk b n p1 = q1 at hG3 hP3 hFF3 hq0 hq1 hskq ⊢
      generalize hT3 : cmv T2 q1 = T3 at hG3 hP3 hFF3 ⊢
      obtain ⟨hLb, hSb, hKb, hC0b, hV0b, hAb, hRb, ⟨hs1b, hs2b, hs3b⟩, hf1b, hf2b⟩ := id hP3
      have hkb := c_X0_kindBegunBy (d + 6) (T := T3) (n := n) (q := q1) hB
      unfold eTail
      cases hsr : srt b n q1 with
      | none =>
        rw [hsr] at hkb
        refine xe_callS [.int (pk b n q1)] dX0_readEntry_37 ml_X0_87 mf_X0_kindBegunBy (hkb) rfl rfl (Nat.le_of_ble_eq_true rfl) (Nat.le_of_ble_eq_true rfl) ?_
        rintro _ T9 ⟨rfl, hTq9⟩
        refine xe_T hTq9 ?_
        refine xe (fun _ _ kK => x_istore_n dX0_readEntry_40 rfl (by decide) (show _ = [(2, .int (-1)), (1, .int (nI f)), (0, .ref rd)] from rfl) kK) ?_
        refine xe (fun _ _ kK => x_iload_n dX0_readEntry_41 rfl 0 rfl kK) ?_
        refine xe (fun _ _ kK => x_aload_n dX0_readEntry_42 rfl 2 rfl kK) ?_
        refine xe (fun _ _ kK => x_get dX0_readEntry_43 fl_X0_15 hC0b.1 (gvl_r1 fz_0_1.2.2 (show e_r T3 1 rd = some cu from hC0b.2.2.1)) kK) ?_
        refine xe (fun _ _ kK => x_get dX0_readEntry_46 fl_X0_91 hSb.1.1 (gvl_r1 fz_1_1.2.2 (show e_r T3 65 cu = some (cu + 2) from (hSb.1.2.1 1 (by decide)))) kK) ?_
        refine xe (fun _ _ kK => x_iload_n dX0_readEntry_49 rfl 1 rfl kK) ?_
        refine xe (fun _ _ kK => x_iald dX0_readEntry_50 (show e_K _ (cu + 2) = 20 from (hSb.1.2.2.1 1 (by decide))) (show (nI f) = nI f from rfl) (shi_len hSb.1 1 (by decide) (show f < 66 by omega)) (show e_ai T3 (cu + 2) f = nI (s.2.2.2.2.1 f + 1) from (hSb.2.2.2.1 f hf).2.1) kK) ?_
        refine xe (fun _ _ kK => x_icmp_eqF (tgt := 72) dX0_readEntry_51 (by decide) (fun z => nI_m1 (by omega) z.symm) kK) ?_
        refine xe (fun _ _ kK => x_aload_n dX0_readEntry_54 rfl 2 rfl kK) ?_
        refine xe (fun _ _ kK => x_get dX0_readEntry_55 fl_X0_9 hC0b.1 (gvl_r1 fz_0_0.2.2 (show e_r T3 0 rd = some 1 from hC0b.2.1)) kK) ?_
        refine xe (fun _ _ kK => x_iload_n dX0_readEntry_58 rfl 0 rfl kK) ?_
        refine xe (fun _ _ kK => x_iconst dX0_readEntry_59 (show _ = (-1) by decide) kK) ?_
        refine xe (fun _ _ kK => x_icmp_neF (tgt := 67) dX0_readEntry_60 (by decide) rfl kK) ?_
        refine xe (fun _ _ kK => x_iconst dX0_readEntry_63 (show _ = nI 1 by decide) kK) ?_
        refine xe (fun _ _ kK => x_goto (tgt := 68) dX0_readEntry_64 (by decide) kK) ?_
        refine xe_callV (a := 1) [.int (nI 1)] dX0_readEntry_68 ml_X0_63 mf_X4_failHere hLb.1.2.2.2.2.1 (c_X4_failHere (d + 6) hLb.1 hLb.2.2.1 1) rfl rfl (Nat.le_of_ble_eq_true rfl) (Nat.le_of_ble_eq_true rfl) ?_
        rintro _ _ ⟨rfl, rfl⟩
        exact xe_retz dX0_readEntry_71 rfl (by first | exact Or.inl rfl | exact Or.inr rfl) (⟨rfl, (hP3.fail 1 q1).pre hFF3 (fun _ _ => Jk.rf)⟩)
      | some k9 =>
        rw [hsr] at hkb
        have hk92 : k9 ≤ 2 := by unfold srt at hsr; split at hsr; cases hsr; omega; split at hsr; cases hsr; omega; split at hsr; cases hsr; omega; cases hsr
        have hq1n : q1 < n := by
          rcases Nat.lt_or_ge q1 n with z | z
          · exact z
          · unfold srt pD pL at hsr; simp [show ¬ q1 < n by omega] at hsr
        refine xe_callS [.int (pk b n q1)] dX0_readEntry_37 ml_X0_87 mf_X0_kindBegunBy (hkb) rfl rfl (Nat.le_of_ble_eq_true rfl) (Nat.le_of_ble_eq_true rfl) ?_
        rintro _ T9 ⟨rfl, hTq9⟩
        refine xe_T hTq9 ?_
        refine xe (fun _ _ kK => x_istore_n dX0_readEntry_40 rfl (by decide) (show _ = [(2, .int (nI (k9 + 1))), (1, .int (nI f)), (0, .ref rd)] from rfl) kK) ?_
        refine xe (fun _ _ kK => x_iload_n dX0_readEntry_41 rfl 0 rfl kK) ?_
        refine xe (fun _ _ kK => x_aload_n dX0_readEntry_42 rfl 2 rfl kK) ?_
        refine xe (fun _ _ kK => x_get dX0_readEntry_43 fl_X0_15 hC0b.1 (gvl_r1 fz_0_1.2.2 (show e_r T3 1 rd = some cu from hC0b.2.2.1)) kK) ?_
        refine xe (fun _ _ kK => x_get dX0_readEntry_46 fl_X0_91 hSb.1.1 (gvl_r1 fz_1_1.2.2 (show e_r T3 65 cu = some (cu + 2) from (hSb.1.2.1 1 (by decide)))) kK) ?_
        refine xe (fun _ _ kK => x_iload_n dX0_readEntry_49 rfl 1 rfl kK) ?_
        refine xe (fun _ _ kK => x_iald dX0_readEntry_50 (show e_K _ (cu + 2) = 20 from (hSb.1.2.2.1 1 (by decide))) (show (nI f) = nI f from rfl) (shi_len hSb.1 1 (by decide) (show f < 66 by omega)) (show e_ai T3 (cu + 2) f = nI (s.2.2.2.2.1 f + 1) from (hSb.2.2.2.1 f hf).2.1) kK) ?_
        refine xe_icmp_eq (tgt := 72) dX0_readEntry_51 (by decide) (fun h145 => ?_) (fun h145 => ?_)
        · -- pc 72
          have h145 := cv_eq (by omega) (by omega) h145
          have hkk : k9 = s.2.2.2.2.1 f := by omega
          show Xe _ _ _ _ _ _ (EvE T rd cu i s en lo n b o dep th lv A cp RR (if ¬ k9 = s.2.2.2.2.1 f then _ else _))
          rw [if_neg (fun z => z hkk)]
          refine xe (fun _ _ kK => x_aload_n dX0_readEntry_72 rfl 2 rfl kK) ?_
          refine xe (fun _ _ kK => x_get dX0_readEntry_73 fl_X0_27 hC0b.1 (gvl_r1 fz_0_4.2.2 (show e_r T3 4 rd = some (rd + 1) from hC0b.2.2.2.2.2.1)) kK) ?_
          refine xe (fun _ _ kK => x_iload_n dX0_readEntry_76 rfl 1 rfl kK) ?_
          refine xe (fun _ _ kK => x_zald dX0_readEntry_77 hC0b.2.2.2.2.2.2.2.1 (show (nI f) = nI f from rfl) (by rw [hC0b.2.2.2.2.2.2.2.2.1]; omega) (show e_ai T3 (rd + 1) f = bI (th f) from (hV0b.2.2.1 f (by omega))) kK) ?_
          refine xe_if_eq (tgt := 93) dX0_readEntry_78 (by decide) (fun h172 => ?_) (fun h172 => ?_)
          · -- pc 93
            have h172 := cv_b0 h172
            refine xe (fun _ _ kK => x_aload_n dX0_readEntry_93 rfl 2 rfl kK) ?_
            refine xe_callV (a := rd) [] dX0_readEntry_94 ml_X0_97 mf_X0_levelHere hC0b.1 (c_X0_levelHere (d + 7) hP3 hZ hd4) rfl rfl (Nat.le_of_ble_eq_true rfl) (Nat.le_of_ble_eq_true rfl) ?_
            rintro _ T9 ⟨rfl, hTq9⟩
            refine xe_T hTq9 ?_
            refine xe (fun _ _ kK => x_istore_n dX0_readEntry_97 rfl (by decide) (show _ = [(3, .int (nI (lv dep))), (2, .int (nI (k9 + 1))), (1, .int (nI f)), (0, .ref rd)] from rfl) kK) ?_
            refine xe (fun _ _ kK => x_aload_n dX0_readEntry_98 rfl 3 rfl kK) ?_
            refine xe (fun _ _ kK => x_get dX0_readEntry_99 fl_X0_27 hC0b.1 (gvl_r1 fz_0_4.2.2 (show e_r T3 4 rd = some (rd + 1) from hC0b.2.2.2.2.2.1)) kK) ?_
            refine xe (fun _ _ kK => x_iload_n dX0_readEntry_102 rfl 2 rfl kK) ?_
            refine xe (fun _ _ kK => x_iconst dX0_readEntry_103 (show _ = nI 1 by decide) kK) ?_
            refine xe (fun _ _ kK => x_zast dX0_readEntry_104 hC0b.2.2.2.2.2.2.2.1 (show (nI f) = nI f from rfl) (by rw [hC0b.2.2.2.2.2.2.2.2.1]; omega) kK) ?_
            refine xe (fun _ _ kK => x_iload_n dX0_readEntry_105 rfl 1 rfl kK) ?_
            have hG4 : FrG [(258, 1), (6, rd), (7, rd)] [rd + 1, rd + 2] T3 (s_ai T3 (rd + 1) f (vp_nar .boolean (nI 1))) := (FrG.sai FrG.rf (by simp) _ _)
            have hP4 : PRs (s_ai T3 (rd + 1) f (vp_nar .boolean (nI 1))) rd cu i s en lo n b q1 o dep (va_up th f true) lv A cp RR := hP3.rdw hu h12 hG4 hLb.2.2.1 hq1 ⟨hV0b.1, hV0b.2.1, fun g hg => ?_, fun j hj => by rw [show e_ai (s_ai T3 (rd + 1) f (vp_nar .boolean (nI 1))) (rd + 2) j = e_ai T3 (rd + 2) j by simp [q_i_i, q_i_l, q_i_ai, q_i_al, q_ai_ai, q_ai_i, q_ai_l, q_ai_al, q_al_al, q_al_i, q_al_ai, q_al_l, q_l_i, q_l_l, q_l_ai, q_l_al, q_r_r, q_r_i, q_r_l, q_r_ai, q_r_al, q_i_r, q_l_r, q_ai_r, q_al_r, q_K_i, q_K_r, q_K_l, q_K_ai, q_K_al, q_len_i, q_len_r, q_len_l, q_len_ai, q_len_al, q_n_i, q_n_r, q_n_l, q_n_ai, q_n_al, q_s_i, q_s_r, q_s_l, q_s_ai, q_s_al]]; exact hV0b.2.2.2 j hj⟩
            rotate_left
            · by_cases e9 : g = f
              · subst e9; rw [ups]; simp [q_i_i, q_i_l, q_i_ai, q_i_al, q_ai_ai, q_ai_i, q_ai_l, q_ai_al, q_al_al, q_al_i, q_al_ai, q_al_l, q_l_i, q_l_l, q_l_ai, q_l_al, q_r_r, q_r_i, q_r_l, q_r_ai, q_r_al, q_i_r, q_l_r, q_ai_r, q_al_r, q_K_i, q_K_r, q_K_l, q_K_ai, q_K_al, q_len_i, q_len_r, q_len_l, q_len_ai, q_len_al, q_n_i, q_n_r, q_n_l, q_n_ai, q_n_al, q_s_i, q_s_r, q_s_l, q_s_ai, q_s_al]; rfl
              · rw [upn e9]; have h1 := hV0b.2.2.1 g hg; simp [q_i_i, q_i_l, q_i_ai, q_i_al, q_ai_ai, q_ai_i, q_ai_l, q_ai_al, q_al_al, q_al_i, q_al_ai, q_al_l, q_l_i, q_l_l, q_l_ai, q_l_al, q_r_r, q_r_i, q_r_l, q_r_ai, q_r_al, q_i_r, q_l_r, q_ai_r, q_al_r, q_K_i, q_K_r, q_K_l, q_K_ai, q_K_al, q_len_i, q_len_r, q_len_l, q_len_ai, q_len_al, q_n_i, q_n_r, q_n_l, q_n_ai, q_n_al, q_s_i, q_s_r, q_s_l, q_s_ai, q_s_al, e9]; exact h1
            have hFF4 := hFF3.tr (PFr.ofG (cp := cp) hG4 (by simp <;> omega) (by simp <;> omega))
            generalize hT4 : (s_ai T3 (rd + 1) f (vp_nar .boolean (nI 1))) = T4 at hG4 hP4 hFF4 ⊢
            rw [hkk]
            refine Xe.imp (xe_loc (by simp) (t_X0_value d hP4 hZ (lev := lv dep) hf hq1n hskq (fun z => hd3 f hf hWf z) hb3)) (fun r5 T5 h5 => ?_)
            have h6 := h5.pre hFF4
            rw [show lv dep = (if th f = true then agf s f else lv dep) by rw [if_neg (by rw [h172]; decide)]] at h6
            show EvE T rd cu i s en lo n b o dep th lv A cp RR (if s.2.2.2.2.1 f = 2 then .inr (q1 + 1, f, none) else match eVal b n q1 (s.2.2.2.2.1 f) with
    | .inl p2 => .inl (1, p2)
    | .inr (p3, v) => .inr (p3, f, some v)) r5 T5
            by_cases hk2 : s.2.2.2.2.1 f = 2
            · rw [if_pos hk2] at h6 ⊢; exact h6
            · rw [if_neg hk2] at h6 ⊢
              cases hev : eVal b n q1 (s.2.2.2.2.1 f) with
              | inl p2 => rw [hev] at h6; exact h6
              | inr z9 => rw [hev] at h6; exact h6
          · -- pc 81
            have h172 := cv_b1 h172
            refine xe (fun _ _ kK => x_aload_n dX0_readEntry_81 rfl 2 rfl kK) ?_
            refine xe (fun _ _ kK => x_get dX0_readEntry_82 fl_X0_15 hC0b.1 (gvl_r1 fz_0_1.2.2 (show e_r T3 1 rd = some cu from hC0b.2.2.1)) kK) ?_
            refine xe (fun _ _ kK => x_get dX0_readEntry_85 fl_X0_94 hSb.1.1 (gvl_r1 fz_1_6.2.2 (show e_r T3 70 cu = some (cu + 7) from (hSb.1.2.1 6 (by decide)))) kK) ?_
            refine xe (fun _ _ kK => x_iload_n dX0_readEntry_88 rfl 1 rfl kK) ?_
            refine xe (fun _ _ kK => x_iald dX0_readEntry_89 (show e_K _ (cu + 7) = 20 from (hSb.1.2.2.1 6 (by decide))) (show (nI f) = nI f from rfl) (shi_len hSb.1 6 (by decide) (show f < 66 by omega)) (show e_ai T3 (cu + 7) f = nI (agf s f) from (hKb f hf _ (hV.up hf).1).2.1) kK) ?_
            refine xe (fun _ _ kK => x_goto (tgt := 97) dX0_readEntry_90 (by decide) kK) ?_
            refine xe (fun _ _ kK => x_istore_n dX0_readEntry_97 rfl (by decide) (show _ = [(3, .int (nI (agf s f))), (2, .int (nI (k9 + 1))), (1, .int (nI f)), (0, .ref rd)] from rfl) kK) ?_
            refine xe (fun _ _ kK => x_aload_n dX0_readEntry_98 rfl 3 rfl kK) ?_
            refine xe (fun _ _ kK => x_get dX0_readEntry_99 fl_X0_27 hC0b.1 (gvl_r1 fz_0_4.2.2 (show e_r T3 4 rd = some (rd + 1) from hC0b.2.2.2.2.2.1)) kK) ?_
            refine xe (fun _ _ kK => x_iload_n dX0_readEntry_102 rfl 2 rfl kK) ?_
            refine xe (fun _ _ kK => x_iconst dX0_readEntry_103 (show _ = nI 1 by decide) kK) ?_
            refine xe (fun _ _ kK => x_zast dX0_readEntry_104 hC0b.2.2.2.2.2.2.2.1 (show (nI f) = nI f from rfl) (by rw [hC0b.2.2.2.2.2.2.2.2.1]; omega) kK) ?_
            refine xe (fun _ _ kK => x_iload_n dX0_readEntry_105 rfl 1 rfl kK) ?_
            have hG4 : FrG [(258, 1), (6, rd), (7, rd)] [rd + 1, rd + 2] T3 (s_ai T3 (rd + 1) f (vp_nar .boolean (nI 1))) := (FrG.sai FrG.rf (by simp) _ _)
            have hP4 : PRs (s_ai T3 (rd + 1) f (vp_nar .boolean (nI 1))) rd cu i s en lo n b q1 o dep (va_up th f true) lv A cp RR := hP3.rdw hu h12 hG4 hLb.2.2.1 hq1 ⟨hV0b.1, hV0b.2.1, fun g hg => ?_, fun j hj => by rw [show e_ai (s_ai T3 (rd + 1) f (vp_nar .boolean (nI 1))) (rd + 2) j = e_ai T3 (rd + 2) j by simp [q_i_i, q_i_l, q_i_ai, q_i_al, q_ai_ai, q_ai_i, q_ai_l, q_ai_al, q_al_al, q_al_i, q_al_ai, q_al_l, q_l_i, q_l_l, q_l_ai, q_l_al, q_r_r, q_r_i, q_r_l, q_r_ai, q_r_al, q_i_r, q_l_r, q_ai_r, q_al_r, q_K_i, q_K_r, q_K_l, q_K_ai, q_K_al, q_len_i, q_len_r, q_len_l, q_len_ai, q_len_al, q_n_i, q_n_r, q_n_l, q_n_ai, q_n_al, q_s_i, q_s_r, q_s_l, q_s_ai, q_s_al]]; exact hV0b.2.2.2 j hj⟩
            rotate_left
            · by_cases e9 : g = f
              · subst e9; rw [ups]; simp [q_i_i, q_i_l, q_i_ai, q_i_al, q_ai_ai, q_ai_i, q_ai_l, q_ai_al, q_al_al, q_al_i, q_al_ai, q_al_l, q_l_i, q_l_l, q_l_ai, q_l_al, q_r_r, q_r_i, q_r_l, q_r_ai, q_r_al, q_i_r, q_l_r, q_ai_r, q_al_r, q_K_i, q_K_r, q_K_l, q_K_ai, q_K_al, q_len_i, q_len_r, q_len_l, q_len_ai, q_len_al, q_n_i, q_n_r, q_n_l, q_n_ai, q_n_al, q_s_i, q_s_r, q_s_l, q_s_ai, q_s_al]; rfl
              · rw [upn e9]; have h1 := hV0b.2.2.1 g hg; simp [q_i_i, q_i_l, q_i_ai, q_i_al, q_ai_ai, q_ai_i, q_ai_l, q_ai_al, q_al_al, q_al_i, q_al_ai, q_al_l, q_l_i, q_l_l, q_l_ai, q_l_al, q_r_r, q_r_i, q_r_l, q_r_ai, q_r_al, q_i_r, q_l_r, q_ai_r, q_al_r, q_K_i, q_K_r, q_K_l, q_K_ai, q_K_al, q_len_i, q_len_r, q_len_l, q_len_ai, q_len_al, q_n_i, q_n_r, q_n_l, q_n_ai, q_n_al, q_s_i, q_s_r, q_s_l, q_s_ai, q_s_al, e9]; exact h1
            have hFF4 := hFF3.tr (PFr.ofG (cp := cp) hG4 (by simp <;> omega) (by simp <;> omega))
            generalize hT4 : (s_ai T3 (rd + 1) f (vp_nar .boolean (nI 1))) = T4 at hG4 hP4 hFF4 ⊢
            rw [hkk]
            refine Xe.imp (xe_loc (by simp) (t_X0_value d hP4 hZ (lev := agf s f) hf hq1n hskq (fun z => hd3 f hf hWf z) hb3)) (fun r5 T5 h5 => ?_)
            have h6 := h5.pre hFF4
            rw [show agf s f = (if th f = true then agf s f else lv dep) by rw [if_pos h172]] at h6
            show EvE T rd cu i s en lo n b o dep th lv A cp RR (if s.2.2.2.2.1 f = 2 then .inr (q1 + 1, f, none) else match eVal b n q1 (s.2.2.2.2.1 f) with
    | .inl p2 => .inl (1, p2)
    | .inr (p3, v) => .inr (p3, f, some v)) r5 T5
            by_cases hk2 : s.2.2.2.2.1 f = 2
            · rw [if_pos hk2] at h6 ⊢; exact h6
            · rw [if_neg hk2] at h6 ⊢
              cases hev : eVal b n q1 (s.2.2.2.2.1 f) with
              | inl p2 => rw [hev] at h6; exact h6
              | inr z9 => rw [hev] at h6; exact h6
        · -- pc 54
          have h145 := cv_ne (by omega) (by omega) h145
          have hkk : ¬ k9 = s.2.2.2.2.1 f := by omega
          show Xe _ _ _ _ _ _ (EvE T rd cu i s en lo n b o dep th lv A cp RR (if ¬ k9 = s.2.2.2.2.1 f then .inl (5, q1) else _))
          rw [if_pos hkk]
          refine xe (fun _ _ kK => x_aload_n dX0_readEntry_54 rfl 2 rfl kK) ?_
          refine xe (fun _ _ kK => x_get dX0_readEntry_55 fl_X0_9 hC0b.1 (gvl_r1 fz_0_0.2.2 (show e_r T3 0 rd = some 1 from hC0b.2.1)) kK) ?_
          refine xe (fun _ _ kK => x_iload_n dX0_readEntry_58 rfl 0 rfl kK) ?_
          refine xe (fun _ _ kK => x_iconst dX0_readEntry_59 (show _ = (-1) by decide) kK) ?_
          refine xe (fun _ _ kK => x_icmp_neT (tgt := 67) dX0_readEntry_60 (by decide) (nI_m1 (by omega)) kK) ?_
          refine xe (fun _ _ kK => x_iconst dX0_readEntry_67 (show _ = nI 5 by decide) kK) ?_
          refine xe_callV (a := 1) [.int (nI 5)] dX0_readEntry_68 ml_X0_63 mf_X4_failHere hLb.1.2.2.2.2.1 (c_X4_failHere (d + 6) hLb.1 hLb.2.2.1 5) rfl rfl (Nat.le_of_ble_eq_true rfl) (Nat.le_of_ble_eq_true rfl) ?_
          rintro _ _ ⟨rfl, rfl⟩
          exact xe_retz dX0_readEntry_71 rfl (by first | exact Or.inl rfl | exact Or.inr rfl) (⟨rfl, (hP3.fail 5 q1).pre hFF3 (fun _ _ => Jk.rf)⟩)
    · -- pc 22
      rw [if_neg hq] at hps ⊢
      refine xe_callV (a := 1) [.int (nI 58)] dX0_readEntry_22 ml_X0_81 mf_X4_pass hLa.1.2.2.2.2.1 (hps) rfl rfl (Nat.le_of_ble_eq_true rfl) (Nat.le_of_ble_eq_true rfl) ?_
      rintro _ _ ⟨rfl, rfl⟩
      refine xe (fun _ _ kK => x_if_neF (tgt := 30) dX0_readEntry_25 (by decide) nI_0 kK) ?_
      refine xe (fun _ _ kK => x_iconst dX0_readEntry_28 (show _ = nI 0 by decide) kK) ?_
      have hsn := sk_n (b := b) he1
      have hG4 : FrG [(258, 1)] [] T1 (cmv T1 (sk b n (we b n x))) := FrG.si FrG.rf (by simp) _
      exact xe_retz dX0_readEntry_29 rfl (by first | exact Or.inl rfl | exact Or.inr rfl) (⟨rfl, ((hP1.mv hu hG4 (by simp) rfl hsn).fail 1 (sk b n (we b n x))).pre (hFF1.tr (PFr.ofG hG4 (by simp) (by simp))) (fun _ _ => Jk.rf)⟩)
