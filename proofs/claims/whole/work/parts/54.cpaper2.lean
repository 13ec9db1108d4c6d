/-! rows of a PAPER that is faulty -/
def Jk (i : Nat) (R R' : List Row) : Prop := ∃ J, R' = R ++ J ∧ ∀ r ∈ J, r.2.2.2.2 = i
theorem Jk.rf {i : Nat} {R : List Row} : Jk i R R := ⟨[], by simp, fun r hr => absurd hr List.not_mem_nil⟩
theorem Jk.tr {i : Nat} {R R1 R2 : List Row} (h : Jk i R R1) (k : Jk i R1 R2) : Jk i R R2 := by
  obtain ⟨J, e, h1⟩ := h
  obtain ⟨J2, e2, k1⟩ := k
  exact ⟨J ++ J2, by rw [e2, e, List.append_assoc], fun r hr => (List.mem_append.mp hr).elim (h1 r) (k1 r)⟩
theorem Jk.one {i : Nat} {R : List Row} {r : Row} (h : r.2.2.2.2 = i) : Jk i R (R ++ [r]) := ⟨[r], rfl, fun q hq => by rw [List.mem_singleton.mp hq]; exact h⟩
theorem Jk.up {i c : Nat} {RR : Nat → List Row} {r : Row} (h : r.2.2.2.2 = i) (c' : Nat) : Jk i (RR c') (va_up RR c (RR c ++ [r]) c') := by
  by_cases e : c' = c
  · subst e; rw [ups]; exact Jk.one h
  · rw [upn e]; exact Jk.rf
def PJ (T T1 : TH) (s : Sh) (i : Nat) (cp : Nat → Nat) (RR : Nat → List Row) (k q : Nat) : Prop := ∃ (A' : Nat → Nat → Nat) (cp' : Nat → Nat) (RR' : Nat → List Row), PFr T T1 cp cp' ∧ CI T1 ∧ TbA T1 A' cp' ∧ (∀ c, c < s.2.1 → TbR T1 A' cp' c (RR' c) ∧ Jk i (RR c) (RR' c)) ∧ FailC T1 k q
theorem PJ.pre {T T1 T2 : TH} {s : Sh} {i k q : Nat} {cp cp1 : Nat → Nat} {RR RR1 : Nat → List Row} (h : PJ T1 T2 s i cp1 RR1 k q) (hF : PFr T T1 cp cp1) (hJ : ∀ c, c < s.2.1 → Jk i (RR c) (RR1 c)) : PJ T T2 s i cp RR k q := by
  obtain ⟨A', cp', RR', h1, h2, h3, h4, h5⟩ := h
  exact ⟨A', cp', RR', hF.tr h1, h2, h3, fun c hc => ⟨(h4 c hc).1, (hJ c hc).tr (h4 c hc).2⟩, h5⟩
theorem PRs.fail {T : TH} {rd cu i n x dep : Nat} {s : Sh} {en : Nat → Nat} {lo : Nat → Option Nat} {b : Nat → Nat} {o : Option Nat} {th : Nat → Bool} {lv : Nat → Nat} {A : Nat → Nat → Nat} {cp : Nat → Nat} {RR : Nat → List Row} (h : PRs T rd cu i s en lo n b x o dep th lv A cp RR) (k q : Nat) : PJ T (cfl T k q) s i cp RR k q := by
  have hG : FrG [(259, 1), (260, 1)] [] T (cfl T k q) := (FrG.si (FrG.si FrG.rf (by simp) _) (by simp) _)
  exact ⟨A, cp, RR, PFr.ofG hG (by simp) (by simp), hG.ci h.1.1, h.2.2.2.2.2.1.ofG hG, fun c hc => ⟨(h.2.2.2.2.2.2.1 c hc).ofG hG (by simp) (by simp), Jk.rf⟩, rfl, rfl⟩
/-- the reader's own writes -/
theorem PRs.rdw {T : TH} {rd cu i n x dep : Nat} {s : Sh} {en : Nat → Nat} {lo : Nat → Option Nat} {b : Nat → Nat} {o : Option Nat} {th : Nat → Bool} {lv : Nat → Nat} {A : Nat → Nat → Nat} {cp : Nat → Nat} {RR : Nat → List Row} {T1 : TH} {x' dep' : Nat} {o' : Option Nat} {th' : Nat → Bool} {lv' : Nat → Nat} (h : PRs T rd cu i s en lo n b x o dep th lv A cp RR) (hu : cu = 66 ∨ cu = 77) (h12 : s.2.1 ≤ 12) (hF : FrG [(258, 1), (6, rd), (7, rd)] [rd + 1, rd + 2] T T1) (h1 : e_i T1 258 1 = nI x') (h2 : x' ≤ n) (hV : PV T1 rd o' dep' th' lv') : PRs T1 rd cu i s en lo n b x' o' dep' th' lv' A cp RR := by
  obtain ⟨hL, hS, hK, hC0, hV0, hA, hR, ⟨hs1, hs2, hs3⟩, hf1, hf2⟩ := h
  refine ⟨hL.of hF (by simp <;> omega) (by simp <;> omega) h1 h2, hS.of hF (by simp <;> omega) (by simp <;> omega) (fun k hk => by simp at hk ⊢ <;> omega), hK.of hF (by simp <;> omega) (by simp <;> omega) (by simp <;> omega), hC0.ofG hF (by simp <;> omega), hV, hA.ofG hF, fun c hc => (hR c hc).ofG hF (by simp) (fun k hk => ?_), ⟨hs1, hs2, by rw [hF.2.2.2.2.1]; exact hs3⟩, (hF.i (by simp)).trans hf1, (hF.i (by simp)).trans hf2⟩
  have := hs1 c k (by omega) hk
  simp; omega

/-- what lacks in the group o: rows for the first k fields -/
def lkR (s : Sh) (en : Nat → Nat) (o : Option Nat) (th : Nat → Bool) (r : Row) (RR : Nat → List Row) : Nat → Nat → List Row
  | 0 => RR
  | f + 1 => if s.2.2.1 f = o ∧ th f = false then lkL s en f r (lkR s en o th r RR f) s.2.1 else lkR s en o th r RR f
def lkO (s : Sh) (o : Option Nat) (th : Nat → Bool) : Prop := ∃ f, f < s.1 ∧ s.2.2.1 f = o ∧ th f = false ∧ s.2.2.2.2.2.1 f = 0
theorem lkL_jk {s : Sh} {en : Nat → Nat} {f i k c : Nat} {r : Row} {RR : Nat → List Row} (h : r.2.2.2.2 = i) : Jk i (RR c) (lkL s en f r RR k c) := by
  unfold lkL
  split
  · exact Jk.one h
  · exact Jk.rf
theorem lkR_jk {s : Sh} {en : Nat → Nat} {o : Option Nat} {th : Nat → Bool} {i c : Nat} {r : Row} {RR : Nat → List Row} (h : r.2.2.2.2 = i) : ∀ f, Jk i (RR c) (lkR s en o th r RR f c) := by
  intro f
  induction f with
  | zero => exact Jk.rf
  | succ f ih =>
    rw [lkR]
    split
    · exact ih.tr (lkL_jk h)
    · exact ih

set_option maxHeartbeats 4000000 in
theorem l_X0_layLacking (d : Nat) {T : TH} {rd cu i n x dep : Nat} {s : Sh} {en : Nat → Nat} {lo : Nat → Option Nat} {b : Nat → Nat} {o : Option Nat} {th : Nat → Bool} {lv : Nat → Nat} {cp : Nat → Nat} {RR : Nat → List Row} (hZ : PZ cu i s en lo) (hd4 : dep ≤ 4) (ho : ∀ g, o = some g → g < s.1) (hb3 : ∀ f, f < s.1 → s.2.2.1 f = o → th f = false → ∀ c, c < s.2.1 → f ≤ s.2.2.2.2.2.2 c ∧ s.2.2.2.2.2.2 c < en f → ((lkR s en o th (lv dep, dgo s o, false, lN 0, i) RR f) c).length < 3000) : ∀ (m f : Nat) (T1 : TH) (A1 : Nat → Nat → Nat) (cp1 : Nat → Nat), s.1 - f = m → f ≤ s.1 → PRs T1 rd cu i s en lo n b x o dep th lv A1 cp1 (lkR s en o th (lv dep, dgo s o, false, lN 0, i) RR f) → PFr T T1 cp cp1 → (∀ g, g < f → s.2.2.1 g = o → th g = false → ¬ s.2.2.2.2.2.1 g = 0) → Xe m_X0_layLacking (d + 6) 2 [(1, .int (nI f)), (0, .ref rd)] [] T1 (if pB (lkO s o th) = true then (fun r T2 => r = some (.int (nI 0)) ∧ PJ T T2 s i cp RR 4 x) else (fun r T2 => r = some (.int (nI 1)) ∧ ∃ A' cp', PRs T2 rd cu i s en lo n b x o dep th lv A' cp' (lkR s en o th (lv dep, dgo s o, false, lN 0, i) RR s.1) ∧ PFr T T2 cp cp')) := by
  intro m
  induction m using Nat.strongRecOn with
  | ind m ih =>
    intro f T1 A1 cp1 hm hk h hPF hno
    subst hm
    obtain ⟨hL, hS, hK, hC0, hV0, hA, hR, ⟨hs1, hs2, hs3⟩, hf1, hf2⟩ := id h
    obtain ⟨hu, hV, ⟨hs60, h12⟩, hi30, hWl, hNb⟩ := id hZ
    refine xe (fun _ _ kK => x_iload_n dX0_layLacking_2 rfl 0 rfl kK) ?_
    refine xe (fun _ _ kK => x_aload_n dX0_layLacking_3 rfl 1 rfl kK) ?_
    refine xe (fun _ _ kK => x_get dX0_layLacking_4 fl_X0_15 hC0.1 (gvl_r1 fz_0_1.2.2 (show e_r T1 1 rd = some cu from hC0.2.2.1)) kK) ?_
    refine xe (fun _ _ kK => x_get dX0_layLacking_7 fl_X0_160 hS.1.1 (gvl_i fz_1_10.2.2 (show e_i T1 74 cu = nI s.1 from hS.2.1)) kK) ?_
    refine xe_icmp_ge (tgt := 71) dX0_layLacking_10 (by decide) (fun h10 => ?_) (fun h10 => ?_)
    · -- pc 71
      have h10 := cv_le (by omega) (by omega) h10
      have ek : f = s.1 := by omega
      subst ek
      refine xe (fun _ _ kK => x_iconst dX0_layLacking_71 (show _ = nI 1 by decide) kK) ?_
      rw [if_neg (show ¬ pB (lkO s o th) = true from fun z => by obtain ⟨g, h1, h2, h3, h4⟩ := pB_of z; exact hno g h1 h2 h3 h4)]
      exact xe_retz dX0_layLacking_72 rfl (by first | exact Or.inl rfl | exact Or.inr rfl) (⟨rfl, A1, cp1, h, hPF⟩)
    · -- pc 13
      have h10 := cv_nle (by omega) (by omega) h10
      have hWb : oB (s.2.2.1 f) := fun g hg => by have := hWl f g h10 hg; omega
      have hob : oB o := fun g hg => by have := ho g hg; omega
      have hMf := (hV.2.2.1 f h10).2.1
      refine xe (fun _ _ kK => x_aload_n dX0_layLacking_13 rfl 1 rfl kK) ?_
      refine xe (fun _ _ kK => x_get dX0_layLacking_14 fl_X0_15 hC0.1 (gvl_r1 fz_0_1.2.2 (show e_r T1 1 rd = some cu from hC0.2.2.1)) kK) ?_
      refine xe (fun _ _ kK => x_get dX0_layLacking_17 fl_X0_78 hS.1.1 (gvl_r1 fz_1_3.2.2 (show e_r T1 67 cu = some (cu + 4) from (hS.1.2.1 3 (by decide)))) kK) ?_
      refine xe (fun _ _ kK => x_iload_n dX0_layLacking_20 rfl 0 rfl kK) ?_
      refine xe (fun _ _ kK => x_iald dX0_layLacking_21 (show e_K _ (cu + 4) = 20 from (hS.1.2.2.1 3 (by decide))) (show (nI f) = nI f from rfl) (shi_len hS.1 3 (by decide) (show f < 66 by omega)) (show e_ai T1 (cu + 4) f = oI (s.2.2.1 f) from (hS.2.2.2.1 f h10).2.2.2.1) kK) ?_
      refine xe (fun _ _ kK => x_aload_n dX0_layLacking_22 rfl 1 rfl kK) ?_
      refine xe (fun _ _ kK => x_get dX0_layLacking_23 fl_X0_35 hC0.1 (gvl_i fz_0_6.2.2 (show e_i T1 6 rd = oI o from hV0.1)) kK) ?_
      refine xe_icmp_ne (tgt := 65) dX0_layLacking_26 (by decide) (fun h26 => ?_) (fun h26 => ?_)
      · -- pc 65
        have h26 := cv_oon (by assumption) (by assumption) h26
        refine xe (fun _ _ kK => x_iinc dX0_layLacking_65 0 rfl (show (nI f) + Int32.ofInt 1 = nI (f + 1) from nI_add f 1) (by decide) (show _ = [(1, .int (nI (f + 1))), (0, .ref rd)] from rfl) kK) ?_
        refine xe (fun _ _ kK => x_goto (tgt := 2) dX0_layLacking_68 (by decide) kK) ?_
        have hs : (lkR s en o th (lv dep, dgo s o, false, lN 0, i) RR (f + 1)) = (lkR s en o th (lv dep, dgo s o, false, lN 0, i) RR f) := by rw [lkR, if_neg (by intro z; exact h26 z.1)]
        rw [← hs] at h
        exact xe_loc (by simp) (ih (s.1 - (f + 1)) (by omega) (f + 1) T1 A1 cp1 rfl (by omega) h hPF (fun g h1 h2 h3 h4 => by by_cases e9 : g = f; subst e9; exact absurd h2 h26; exact hno g (by omega) h2 h3 h4))
      · -- pc 29
        have h26 := cv_oo (by assumption) (by assumption) h26
        refine xe (fun _ _ kK => x_aload_n dX0_layLacking_29 rfl 1 rfl kK) ?_
        refine xe (fun _ _ kK => x_get dX0_layLacking_30 fl_X0_27 hC0.1 (gvl_r1 fz_0_4.2.2 (show e_r T1 4 rd = some (rd + 1) from hC0.2.2.2.2.2.1)) kK) ?_
        refine xe (fun _ _ kK => x_iload_n dX0_layLacking_33 rfl 0 rfl kK) ?_
        refine xe (fun _ _ kK => x_zald dX0_layLacking_34 hC0.2.2.2.2.2.2.2.1 (show (nI f) = nI f from rfl) (by rw [hC0.2.2.2.2.2.2.2.2.1]; omega) (show e_ai T1 (rd + 1) f = bI (th f) from (hV0.2.2.1 f (by omega))) kK) ?_
        refine xe_if_ne (tgt := 65) dX0_layLacking_35 (by decide) (fun h35 => ?_) (fun h35 => ?_)
        · -- pc 65
          have h35 := cv_b1 h35
          refine xe (fun _ _ kK => x_iinc dX0_layLacking_65 0 rfl (show (nI f) + Int32.ofInt 1 = nI (f + 1) from nI_add f 1) (by decide) (show _ = [(1, .int (nI (f + 1))), (0, .ref rd)] from rfl) kK) ?_
          refine xe (fun _ _ kK => x_goto (tgt := 2) dX0_layLacking_68 (by decide) kK) ?_
          have hs : (lkR s en o th (lv dep, dgo s o, false, lN 0, i) RR (f + 1)) = (lkR s en o th (lv dep, dgo s o, false, lN 0, i) RR f) := by rw [lkR, if_neg (by intro z; rw [h35] at z; exact absurd z.2 (by decide))]
          rw [← hs] at h
          exact xe_loc (by simp) (ih (s.1 - (f + 1)) (by omega) (f + 1) T1 A1 cp1 rfl (by omega) h hPF (fun g h1 h2 h3 h4 => by by_cases e9 : g = f; subst e9; exact absurd (h3.symm.trans h35) (by decide); exact hno g (by omega) h2 h3 h4))
        · -- pc 38
          have h35 := cv_b0 h35
          refine xe (fun _ _ kK => x_aload_n dX0_layLacking_38 rfl 1 rfl kK) ?_
          refine xe (fun _ _ kK => x_get dX0_layLacking_39 fl_X0_15 hC0.1 (gvl_r1 fz_0_1.2.2 (show e_r T1 1 rd = some cu from hC0.2.2.1)) kK) ?_
          refine xe (fun _ _ kK => x_get dX0_layLacking_42 fl_X0_130 hS.1.1 (gvl_r1 fz_1_2.2.2 (show e_r T1 66 cu = some (cu + 3) from (hS.1.2.1 2 (by decide)))) kK) ?_
          refine xe (fun _ _ kK => x_iload_n dX0_layLacking_45 rfl 0 rfl kK) ?_
          refine xe (fun _ _ kK => x_iald dX0_layLacking_46 (show e_K _ (cu + 3) = 20 from (hS.1.2.2.1 2 (by decide))) (show (nI f) = nI f from rfl) (shi_len hS.1 2 (by decide) (show f < 66 by omega)) (show e_ai T1 (cu + 3) f = nI (s.2.2.2.2.2.1 f + 1) from (hS.2.2.2.1 f h10).2.2.1) kK) ?_
          refine xe (fun _ _ kK => x_iconst dX0_layLacking_47 (show _ = nI 1 by decide) kK) ?_
          refine xe_icmp_ne (tgt := 60) dX0_layLacking_48 (by decide) (fun h48 => ?_) (fun h48 => ?_)
          · -- pc 60
            have h48 := cv_ne (by omega) (by omega) h48
            refine xe (fun _ _ kK => x_aload_n dX0_layLacking_60 rfl 1 rfl kK) ?_
            refine xe (fun _ _ kK => x_iload_n dX0_layLacking_61 rfl 0 rfl kK) ?_
            refine xe_callV (a := rd) [.int (nI f)] dX0_layLacking_62 ml_X0_163 mf_X0_layLackingLeaves hC0.1 (c_X0_layLackingLeaves d h hZ h10 hd4 ho (fun c hc hon => hb3 f h10 h26 h35 c hc hon)) rfl rfl (Nat.le_of_ble_eq_true rfl) (Nat.le_of_ble_eq_true rfl) ?_
            rintro _ T2 ⟨rfl, A2, cp2, hP2, hF2⟩
            refine xe (fun _ _ kK => x_iinc dX0_layLacking_65 0 rfl (show (nI f) + Int32.ofInt 1 = nI (f + 1) from nI_add f 1) (by decide) (show _ = [(1, .int (nI (f + 1))), (0, .ref rd)] from rfl) kK) ?_
            refine xe (fun _ _ kK => x_goto (tgt := 2) dX0_layLacking_68 (by decide) kK) ?_
            have hs : (lkR s en o th (lv dep, dgo s o, false, lN 0, i) RR (f + 1)) = lkL s en f (lv dep, dgo s o, false, lN 0, i) (lkR s en o th (lv dep, dgo s o, false, lN 0, i) RR f) s.2.1 := by rw [lkR, if_pos ⟨h26, h35⟩]
            rw [← hs] at hP2
            exact xe_loc (by simp) (ih (s.1 - (f + 1)) (by omega) (f + 1) T2 A2 cp2 rfl (by omega) hP2 (hPF.tr hF2) (fun g h1 h2 h3 h4 => by by_cases e9 : g = f; subst e9; omega; exact hno g (by omega) h2 h3 h4))
          · -- pc 51
            have h48 := cv_eq (by omega) (by omega) h48
            refine xe (fun _ _ kK => x_aload_n dX0_layLacking_51 rfl 1 rfl kK) ?_
            refine xe (fun _ _ kK => x_get dX0_layLacking_52 fl_X0_9 hC0.1 (gvl_r1 fz_0_0.2.2 (show e_r T1 0 rd = some 1 from hC0.2.1)) kK) ?_
            refine xe (fun _ _ kK => x_iconst dX0_layLacking_55 (show _ = nI 4 by decide) kK) ?_
            refine xe_callV (a := 1) [.int (nI 4)] dX0_layLacking_56 ml_X0_63 mf_X4_failHere hL.1.2.2.2.2.1 (c_X4_failHere (d + 4) hL.1 hL.2.2.1 4) rfl rfl (Nat.le_of_ble_eq_true rfl) (Nat.le_of_ble_eq_true rfl) ?_
            rintro _ _ ⟨rfl, rfl⟩
            rw [if_pos (show pB (lkO s o th) = true from pB_t ⟨f, h10, h26, h35, by omega⟩)]
            exact xe_retz dX0_layLacking_59 rfl (by first | exact Or.inl rfl | exact Or.inr rfl) (⟨rfl, (h.fail 4 x).pre hPF (fun c hc => lkR_jk rfl f)⟩)

set_option maxHeartbeats 4000000 in
theorem c_X0_layLacking (d : Nat) {T : TH} {rd cu i n x dep : Nat} {s : Sh} {en : Nat → Nat} {lo : Nat → Option Nat} {b : Nat → Nat} {o : Option Nat} {th : Nat → Bool} {lv : Nat → Nat} {A : Nat → Nat → Nat} {cp : Nat → Nat} {RR : Nat → List Row} (h : PRs T rd cu i s en lo n b x o dep th lv A cp RR) (hZ : PZ cu i s en lo) (hd4 : dep ≤ 4) (ho : ∀ g, o = some g → g < s.1) (hb3 : ∀ f, f < s.1 → s.2.2.1 f = o → th f = false → ∀ c, c < s.2.1 → f ≤ s.2.2.2.2.2.2 c ∧ s.2.2.2.2.2.2 c < en f → ((lkR s en o th (lv dep, dgo s o, false, lN 0, i) RR f) c).length < 3000) : Xe m_X0_layLacking (d + 6) 0 [(0, .ref rd)] [] T (if pB (lkO s o th) = true then (fun r T2 => r = some (.int (nI 0)) ∧ PJ T T2 s i cp RR 4 x) else (fun r T2 => r = some (.int (nI 1)) ∧ ∃ A' cp', PRs T2 rd cu i s en lo n b x o dep th lv A' cp' (lkR s en o th (lv dep, dgo s o, false, lN 0, i) RR s.1) ∧ PFr T T2 cp cp')) := by
  obtain ⟨hL, hS, hK, hC0, hV0, hA, hR, ⟨hs1, hs2, hs3⟩, hf1, hf2⟩ := id h
  obtain ⟨hu, hV, ⟨hs60, h12⟩, hi30, hWl, hNb⟩ := id hZ
  refine xe (fun _ _ kK => x_iconst dX0_layLacking_0 (show _ = nI 0 by decide) kK) ?_
  refine xe (fun _ _ kK => x_istore_n dX0_layLacking_1 rfl (by decide) (show _ = [(1, .int (nI 0)), (0, .ref rd)] from rfl) kK) ?_
  exact xe_loc (by simp) (l_X0_layLacking d hZ hd4 ho hb3 s.1 0 T A cp rfl (Nat.zero_le _) h PFr.rf (fun g hg => absurd hg (Nat.not_lt_zero _)))

set_option maxHeartbeats 4000000 in
theorem c_X0_readEnd (d : Nat) {T : TH} {rd cu i n x dep : Nat} {s : Sh} {en : Nat → Nat} {lo : Nat → Option Nat} {b : Nat → Nat} {o : Option Nat} {th : Nat → Bool} {lv : Nat → Nat} {A : Nat → Nat → Nat} {cp : Nat → Nat} {RR : Nat → List Row} (h : PRs T rd cu i s en lo n b x o dep th lv A cp RR) (hZ : PZ cu i s en lo) (hd4 : dep ≤ 4) (ho : ∀ g, o = some g → g < s.1) (hb3 : ∀ f, f < s.1 → s.2.2.1 f = o → th f = false → ∀ c, c < s.2.1 → f ≤ s.2.2.2.2.2.2 c ∧ s.2.2.2.2.2.2 c < en f → ((lkR s en o th (lv dep, dgo s o, false, lN 0, i) RR f) c).length < 3000) : Xe m_X0_readEnd (d + 7) 0 [(0, .ref rd)] [] T (if o ≠ none then (fun r T2 => r = some (.int (nI 0)) ∧ PJ T T2 s i cp RR 1 x) else if pB (lkO s o th) = true then (fun r T2 => r = some (.int (nI 0)) ∧ PJ T T2 s i cp RR 4 x) else (fun r T2 => r = some (.int (nI 0)) ∧ ∃ A' cp', PRs T2 rd cu i s en lo n b x o dep th lv A' cp' (lkR s en o th (lv dep, dgo s o, false, lN 0, i) RR s.1) ∧ PFr T T2 cp cp')) := by
  obtain ⟨hL, hS, hK, hC0, hV0, hA, hR, ⟨hs1, hs2, hs3⟩, hf1, hf2⟩ := id h
  obtain ⟨hu, hV, ⟨hs60, h12⟩, hi30, hWl, hNb⟩ := id hZ
  cases o with
  | none =>
    refine xe (fun _ _ kK => x_aload_n dX0_readEnd_0 rfl 0 rfl kK) ?_
    refine xe (fun _ _ kK => x_get dX0_readEnd_1 fl_X0_35 hC0.1 (gvl_i fz_0_6.2.2 (show e_i T 6 rd = (-1) from hV0.1)) kK) ?_
    refine xe (fun _ _ kK => x_iconst dX0_readEnd_4 (show _ = (-1) by decide) kK) ?_
    refine xe (fun _ _ kK => x_icmp_eqT (tgt := 17) dX0_readEnd_5 (by decide) rfl kK) ?_
    refine xe (fun _ _ kK => x_aload_n dX0_readEnd_17 rfl 0 rfl kK) ?_
    rw [if_neg (by simp)]
    have hlk := c_X0_layLacking d h hZ hd4 ho hb3
    by_cases hpb : pB (lkO s none th) = true
    · -- pc 18
      rw [if_pos hpb] at hlk ⊢
      refine xe_callV (a := rd) [] dX0_readEnd_18 ml_X0_67 mf_X0_layLacking hC0.1 (hlk) rfl rfl (Nat.le_of_ble_eq_true rfl) (Nat.le_of_ble_eq_true rfl) ?_
      rintro _ T1 ⟨rfl, hJ⟩
      refine xe (fun _ _ kK => x_pop dX0_readEnd_21 rfl kK) ?_
      refine xe (fun _ _ kK => x_iconst dX0_readEnd_22 (show _ = nI 0 by decide) kK) ?_
      exact xe_retz dX0_readEnd_23 rfl (by first | exact Or.inl rfl | exact Or.inr rfl) (⟨rfl, hJ⟩)
    · -- pc 18
      rw [if_neg hpb] at hlk ⊢
      refine xe_callV (a := rd) [] dX0_readEnd_18 ml_X0_67 mf_X0_layLacking hC0.1 (hlk) rfl rfl (Nat.le_of_ble_eq_true rfl) (Nat.le_of_ble_eq_true rfl) ?_
      rintro _ T1 ⟨rfl, A', cp', hP1, hF1⟩
      refine xe (fun _ _ kK => x_pop dX0_readEnd_21 rfl kK) ?_
      refine xe (fun _ _ kK => x_iconst dX0_readEnd_22 (show _ = nI 0 by decide) kK) ?_
      exact xe_retz dX0_readEnd_23 rfl (by first | exact Or.inl rfl | exact Or.inr rfl) (⟨rfl, A', cp', hP1, hF1⟩)
  | some g =>
    have hg := ho g rfl
    refine xe (fun _ _ kK => x_aload_n dX0_readEnd_0 rfl 0 rfl kK) ?_
    refine xe (fun _ _ kK => x_get dX0_readEnd_1 fl_X0_35 hC0.1 (gvl_i fz_0_6.2.2 (show e_i T 6 rd = nI g from hV0.1)) kK) ?_
    refine xe (fun _ _ kK => x_iconst dX0_readEnd_4 (show _ = (-1) by decide) kK) ?_
    refine xe (fun _ _ kK => x_icmp_eqF (tgt := 17) dX0_readEnd_5 (by decide) (nI_m1 (by omega)) kK) ?_
    refine xe (fun _ _ kK => x_aload_n dX0_readEnd_8 rfl 0 rfl kK) ?_
    refine xe (fun _ _ kK => x_get dX0_readEnd_9 fl_X0_9 hC0.1 (gvl_r1 fz_0_0.2.2 (show e_r T 0 rd = some 1 from hC0.2.1)) kK) ?_
    refine xe (fun _ _ kK => x_iconst dX0_readEnd_12 (show _ = nI 1 by decide) kK) ?_
    rw [if_pos (by simp)]
    refine xe_callV (a := 1) [.int (nI 1)] dX0_readEnd_13 ml_X0_63 mf_X4_failHere hL.1.2.2.2.2.1 (c_X4_failHere (d + 5) hL.1 hL.2.2.1 1) rfl rfl (Nat.le_of_ble_eq_true rfl) (Nat.le_of_ble_eq_true rfl) ?_
    rintro _ _ ⟨rfl, rfl⟩
    exact xe_retz dX0_readEnd_16 rfl (by first | exact Or.inl rfl | exact Or.inr rfl) (⟨rfl, h.fail 1 x⟩)

set_option maxHeartbeats 4000000 in
theorem c_X0_readClose (d : Nat) {T : TH} {rd cu i n x dep : Nat} {s : Sh} {en : Nat → Nat} {lo : Nat → Option Nat} {b : Nat → Nat} {o : Option Nat} {th : Nat → Bool} {lv : Nat → Nat} {A : Nat → Nat → Nat} {cp : Nat → Nat} {RR : Nat → List Row} (h : PRs T rd cu i s en lo n b x o dep th lv A cp RR) (hZ : PZ cu i s en lo) (hd4 : dep ≤ 4) (ho : ∀ g, o = some g → g < s.1) (hb3 : ∀ f, f < s.1 → s.2.2.1 f = o → th f = false → ∀ c, c < s.2.1 → f ≤ s.2.2.2.2.2.2 c ∧ s.2.2.2.2.2.2 c < en f → ((lkR s en o th (lv dep, dgo s o, false, lN 0, i) RR f) c).length < 3000) (hx : x < n) (hd1 : o ≠ none → 1 ≤ dep) : Xe m_X0_readClose (d + 7) 0 [(0, .ref rd)] [] T (match o with
    | none => (fun r T2 => r = some (.int (nI 0)) ∧ PJ T T2 s i cp RR 1 x)
    | some g => if pB (lkO s o th) = true then (fun r T2 => r = some (.int (nI 0)) ∧ PJ T T2 s i cp RR 4 x) else match qSign b n (x + 1) 59 with
      | .inl p1 => (fun r T2 => r = some (.int (nI 0)) ∧ PJ T T2 s i cp RR 1 p1)
      | .inr p1 => (fun r T2 => r = some (.int (nI 1)) ∧ ∃ A' cp', PRs T2 rd cu i s en lo n b p1 (s.2.2.1 g) (dep - 1) th lv A' cp' (lkR s en o th (lv dep, dgo s o, false, lN 0, i) RR s.1) ∧ PFr T T2 cp cp')) := by
  obtain ⟨hL, hS, hK, hC0, hV0, hA, hR, ⟨hs1, hs2, hs3⟩, hf1, hf2⟩ := id h
  obtain ⟨hu, hV, ⟨hs60, h12⟩, hi30, hWl, hNb⟩ := id hZ
  cases o with
  | none =>
    refine xe (fun _ _ kK => x_aload_n dX0_readClose_0 rfl 0 rfl kK) ?_
    refine xe (fun _ _ kK => x_get dX0_readClose_1 fl_X0_15 hC0.1 (gvl_r1 fz_0_1.2.2 (show e_r T 1 rd = some cu from hC0.2.2.1)) kK) ?_
    refine xe (fun _ _ kK => x_aload_n dX0_readClose_4 rfl 0 rfl kK) ?_
    refine xe (fun _ _ kK => x_get dX0_readClose_5 fl_X0_35 hC0.1 (gvl_i fz_0_6.2.2 (show e_i T 6 rd = (-1) from hV0.1)) kK) ?_
    refine xe_callV (a := cu) [.int (-1)] dX0_readClose_8 ml_X0_70 mf_X1_isField hS.1.1 (by have := c_X1_isField (d + 6) hS.1 hS.2.1 (by omega) (-1); rw [ix_neg (by decide)] at this; exact this) rfl rfl (Nat.le_of_ble_eq_true rfl) (Nat.le_of_ble_eq_true rfl) ?_
    rintro _ T9 ⟨rfl, hTq9⟩
    refine xe_T hTq9 ?_
    refine xe (fun _ _ kK => x_if_neF (tgt := 23) dX0_readClose_11 (by decide) rfl kK) ?_
    refine xe (fun _ _ kK => x_aload_n dX0_readClose_14 rfl 0 rfl kK) ?_
    refine xe (fun _ _ kK => x_get dX0_readClose_15 fl_X0_9 hC0.1 (gvl_r1 fz_0_0.2.2 (show e_r T 0 rd = some 1 from hC0.2.1)) kK) ?_
    refine xe (fun _ _ kK => x_iconst dX0_readClose_18 (show _ = nI 1 by decide) kK) ?_
    refine xe_callV (a := 1) [.int (nI 1)] dX0_readClose_19 ml_X0_63 mf_X4_failHere hL.1.2.2.2.2.1 (c_X4_failHere (d + 5) hL.1 hL.2.2.1 1) rfl rfl (Nat.le_of_ble_eq_true rfl) (Nat.le_of_ble_eq_true rfl) ?_
    rintro _ _ ⟨rfl, rfl⟩
    exact xe_retz dX0_readClose_22 rfl (by first | exact Or.inl rfl | exact Or.inr rfl) (⟨rfl, h.fail 1 x⟩)
  | some g =>
    have hg := ho g rfl
    refine xe (fun _ _ kK => x_aload_n dX0_readClose_0 rfl 0 rfl kK) ?_
    refine xe (fun _ _ kK => x_get dX0_readClose_1 fl_X0_15 hC0.1 (gvl_r1 fz_0_1.2.2 (show e_r T 1 rd = some cu from hC0.2.2.1)) kK) ?_
    refine xe (fun _ _ kK => x_aload_n dX0_readClose_4 rfl 0 rfl kK) ?_
    refine xe (fun _ _ kK => x_get dX0_readClose_5 fl_X0_35 hC0.1 (gvl_i fz_0_6.2.2 (show e_i T 6 rd = nI g from hV0.1)) kK) ?_
    refine xe_callV (a := cu) [.int (nI g)] dX0_readClose_8 ml_X0_70 mf_X1_isField hS.1.1 (by have := c_X1_isField (d + 6) hS.1 hS.2.1 (by omega) (nI g); rw [ix_in hg (by omega)] at this; exact this) rfl rfl (Nat.le_of_ble_eq_true rfl) (Nat.le_of_ble_eq_true rfl) ?_
    rintro _ T9 ⟨rfl, hTq9⟩
    refine xe_T hTq9 ?_
    refine xe (fun _ _ kK => x_if_neT (tgt := 23) dX0_readClose_11 (by decide) (show ¬ bI true = 0 by decide) kK) ?_
    refine xe (fun _ _ kK => x_aload_n dX0_readClose_23 rfl 0 rfl kK) ?_
    have hd1a := hd1 (by simp)
    have hlk := c_X0_layLacking d h hZ hd4 ho hb3
    by_cases hpb : pB (lkO s (some g) th) = true
    · -- pc 24
      rw [if_pos hpb] at hlk
      show Xe _ _ _ _ _ _ (if pB (lkO s (some g) th) = true then _ else _)
      rw [if_pos hpb]
      refine xe_callV (a := rd) [] dX0_readClose_24 ml_X0_67 mf_X0_layLacking hC0.1 (hlk) rfl rfl (Nat.le_of_ble_eq_true rfl) (Nat.le_of_ble_eq_true rfl) ?_
      rintro _ T1 ⟨rfl, hJ⟩
      refine xe (fun _ _ kK => x_if_neF (tgt := 32) dX0_readClose_27 (by decide) nI_0 kK) ?_
      refine xe (fun _ _ kK => x_iconst dX0_readClose_30 (show _ = nI 0 by decide) kK) ?_
      exact xe_retz dX0_readClose_31 rfl (by first | exact Or.inl rfl | exact Or.inr rfl) (⟨rfl, hJ⟩)
    · -- pc 24
      rw [if_neg hpb] at hlk
      show Xe _ _ _ _ _ _ (if pB (lkO s (some g) th) = true then _ else _)
      rw [if_neg hpb]
      refine xe_callV (a := rd) [] dX0_readClose_24 ml_X0_67 mf_X0_layLacking hC0.1 (hlk) rfl rfl (Nat.le_of_ble_eq_true rfl) (Nat.le_of_ble_eq_true rfl) ?_
      rintro _ T1 ⟨rfl, A', cp', hP1, hF1⟩
      obtain ⟨hLa, hSa, hKa, hC0a, hV0a, hAa, hRa, ⟨hs1a, hs2a, hs3a⟩, hf1a, hf2a⟩ := id hP1
      refine xe (fun _ _ kK => x_if_neT (tgt := 32) dX0_readClose_27 (by decide) (show ¬ nI 1 = 0 by decide) kK) ?_
      refine xe (fun _ _ kK => x_aload_n dX0_readClose_32 rfl 0 rfl kK) ?_
      refine xe (fun _ _ kK => x_get dX0_readClose_33 fl_X0_9 hC0a.1 (gvl_r1 fz_0_0.2.2 (show e_r T1 0 rd = some 1 from hC0a.2.1)) kK) ?_
      refine xe (fun _ _ kK => x_dup dX0_readClose_36 rfl kK) ?_
      refine xe (fun _ _ kK => x_get dX0_readClose_37 fl_X0_75 hLa.1.2.2.2.2.1 (gvl_i fz_4_2.2.2 (show e_i T1 258 1 = nI x from hLa.2.2.1)) kK) ?_
      refine xe (fun _ _ kK => x_iconst dX0_readClose_40 (show _ = nI 1 by decide) kK) ?_
      refine xe (fun _ _ kK => x_iadd dX0_readClose_41 kK) ?_
      refine xe_ti (show _ = nI (x + 1) from nI_add x 1) ?_
      refine xe (fun _ _ kK => x_puti dX0_readClose_42 ⟨fl_X0_75, fz_4_2.1, fz_4_2.2.1⟩ (Or.inl fz_4_2.2.2) rfl rfl hLa.1.2.2.2.2.1 kK) ?_
      refine xe (fun _ _ kK => x_aload_n dX0_readClose_45 rfl 0 rfl kK) ?_
      refine xe (fun _ _ kK => x_aload_n dX0_readClose_46 rfl 0 rfl kK) ?_
      refine xe (fun _ _ kK => x_get dX0_readClose_47 fl_X0_15 (wK_i hC0a.1) (gvl_r1 fz_0_1.2.2 (show e_r (s_i T1 258 1 (nI (x + 1))) 1 rd = some cu from (wr_i hC0a.2.2.1))) kK) ?_
      refine xe (fun _ _ kK => x_get dX0_readClose_50 fl_X0_78 (wK_i hSa.1.1) (gvl_r1 fz_1_3.2.2 (show e_r (s_i T1 258 1 (nI (x + 1))) 67 cu = some (cu + 4) from (wr_i (hSa.1.2.1 3 (by decide))))) kK) ?_
      refine xe (fun _ _ kK => x_aload_n dX0_readClose_53 rfl 0 rfl kK) ?_
      refine xe (fun _ _ kK => x_get dX0_readClose_54 fl_X0_35 (wK_i hC0a.1) (gvl_i fz_0_6.2.2 (show e_i (s_i T1 258 1 (nI (x + 1))) 6 rd = nI g from (wi_i (fun q => absurd q.1 (by decide)) hV0a.1))) kK) ?_
      refine xe (fun _ _ kK => x_iald dX0_readClose_57 (wK_i (show e_K _ (cu + 4) = 20 from (hSa.1.2.2.1 3 (by decide)))) (show (nI g) = nI g from rfl) (wN_i (shi_len hSa.1 3 (by decide) (show g < 66 by omega))) (show e_ai (s_i T1 258 1 (nI (x + 1))) (cu + 4) g = oI (s.2.2.1 g) from (wai_i (hSa.2.2.2.1 g hg).2.2.2.1)) kK) ?_
      refine xe (fun _ _ kK => x_puti dX0_readClose_58 ⟨fl_X0_35, fz_0_6.1, fz_0_6.2.1⟩ (Or.inl fz_0_6.2.2) rfl rfl (wK_i hC0a.1) kK) ?_
      refine xe (fun _ _ kK => x_aload_n dX0_readClose_61 rfl 0 rfl kK) ?_
      refine xe (fun _ _ kK => x_dup dX0_readClose_62 rfl kK) ?_
      refine xe (fun _ _ kK => x_get dX0_readClose_63 fl_X0_38 (wK_i (wK_i hC0a.1)) (gvl_i fz_0_7.2.2 (show e_i (s_i (s_i T1 258 1 (nI (x + 1))) 6 rd (oI (s.2.2.1 g))) 7 rd = nI dep from (wi_i (fun q => absurd q.1 (by decide)) (wi_i (fun q => absurd q.1 (by decide)) hV0a.2.1)))) kK) ?_
      refine xe (fun _ _ kK => x_iconst dX0_readClose_66 (show _ = nI 1 by decide) kK) ?_
      refine xe (fun _ _ kK => x_isub dX0_readClose_67 kK) ?_
      refine xe_ti (show _ = nI (dep - 1) from pk_sub (by omega)) ?_
      refine xe (fun _ _ kK => x_puti dX0_readClose_68 ⟨fl_X0_38, fz_0_7.1, fz_0_7.2.1⟩ (Or.inl fz_0_7.2.2) rfl rfl (wK_i (wK_i hC0a.1)) kK) ?_
      refine xe (fun _ _ kK => x_aload_n dX0_readClose_71 rfl 0 rfl kK) ?_
      refine xe (fun _ _ kK => x_get dX0_readClose_72 fl_X0_9 (wK_i (wK_i (wK_i hC0a.1))) (gvl_r1 fz_0_0.2.2 (show e_r (s_i (s_i (s_i T1 258 1 (nI (x + 1))) 6 rd (oI (s.2.2.1 g))) 7 rd (nI (dep - 1))) 0 rd = some 1 from (wr_i (wr_i (wr_i hC0a.2.1))))) kK) ?_
      refine xe (fun _ _ kK => x_bipush dX0_readClose_75 (show _ = nI 59 by decide) kK) ?_
      have hG2 : FrG [(258, 1), (6, rd), (7, rd)] [rd + 1, rd + 2] T1 (s_i (s_i (s_i T1 258 1 (nI (x + 1))) 6 rd (oI (s.2.2.1 g))) 7 rd (nI (dep - 1))) := (FrG.si (FrG.si (FrG.si FrG.rf (by simp) _) (by simp) _) (by simp) _)
      have hP2 := hP1.rdw (x' := x + 1) (o' := s.2.2.1 g) (dep' := dep - 1) (th' := th) (lv' := lv) hu h12 hG2 (by simp [q_i_i, q_i_l, q_i_ai, q_i_al, q_ai_ai, q_ai_i, q_ai_l, q_ai_al, q_al_al, q_al_i, q_al_ai, q_al_l, q_l_i, q_l_l, q_l_ai, q_l_al, q_r_r, q_r_i, q_r_l, q_r_ai, q_r_al, q_i_r, q_l_r, q_ai_r, q_al_r, q_K_i, q_K_r, q_K_l, q_K_ai, q_K_al, q_len_i, q_len_r, q_len_l, q_len_ai, q_len_al, q_n_i, q_n_r, q_n_l, q_n_ai, q_n_al, q_s_i, q_s_r, q_s_l, q_s_ai, q_s_al] <;> omega) (by omega) ⟨by simp [q_i_i, q_i_l, q_i_ai, q_i_al, q_ai_ai, q_ai_i, q_ai_l, q_ai_al, q_al_al, q_al_i, q_al_ai, q_al_l, q_l_i, q_l_l, q_l_ai, q_l_al, q_r_r, q_r_i, q_r_l, q_r_ai, q_r_al, q_i_r, q_l_r, q_ai_r, q_al_r, q_K_i, q_K_r, q_K_l, q_K_ai, q_K_al, q_len_i, q_len_r, q_len_l, q_len_ai, q_len_al, q_n_i, q_n_r, q_n_l, q_n_ai, q_n_al, q_s_i, q_s_r, q_s_l, q_s_ai, q_s_al], by simp [q_i_i, q_i_l, q_i_ai, q_i_al, q_ai_ai, q_ai_i, q_ai_l, q_ai_al, q_al_al, q_al_i, q_al_ai, q_al_l, q_l_i, q_l_l, q_l_ai, q_l_al, q_r_r, q_r_i, q_r_l, q_r_ai, q_r_al, q_i_r, q_l_r, q_ai_r, q_al_r, q_K_i, q_K_r, q_K_l, q_K_ai, q_K_al, q_len_i, q_len_r, q_len_l, q_len_ai, q_len_al, q_n_i, q_n_r, q_n_l, q_n_ai, q_n_al, q_s_i, q_s_r, q_s_l, q_s_ai, q_s_al], fun f hf => hV0a.2.2.1 f hf, fun j hj => hV0a.2.2.2 j (by omega)⟩
      generalize hT2 : (s_i (s_i (s_i T1 258 1 (nI (x + 1))) 6 rd (oI (s.2.2.1 g))) 7 rd (nI (dep - 1))) = T2 at hG2 hP2 ⊢
      have hps := c_X4_pass (d + 4) hP2.1 (c := 59) (by decide)
      have hF2 : PFr T T2 cp cp' := hF1.tr (PFr.ofG hG2 (by simp <;> omega) (by simp <;> omega))
      unfold qSign
      by_cases hq : sk b n (x + 1) < n ∧ b (sk b n (x + 1)) = 59
      · -- pc 77
        rw [if_pos hq] at hps ⊢
        refine xe_callV (a := 1) [.int (nI 59)] dX0_readClose_77 ml_X0_81 mf_X4_pass hP2.1.1.2.2.2.2.1 (hps) rfl rfl (Nat.le_of_ble_eq_true rfl) (Nat.le_of_ble_eq_true rfl) ?_
        rintro _ _ ⟨rfl, rfl⟩
        have hG3 : FrG [(258, 1)] [] T2 (cmv T2 (sk b n (x + 1) + 1)) := FrG.si FrG.rf (by simp) _
        exact xe_retz dX0_readClose_80 rfl (by first | exact Or.inl rfl | exact Or.inr rfl) (⟨rfl, A', cp', hP2.mv hu hG3 (by simp) rfl (by omega), hF2.tr (PFr.ofG hG3 (by simp) (by simp))⟩)
      · -- pc 77
        rw [if_neg hq] at hps ⊢
        refine xe_callV (a := 1) [.int (nI 59)] dX0_readClose_77 ml_X0_81 mf_X4_pass hP2.1.1.2.2.2.2.1 (hps) rfl rfl (Nat.le_of_ble_eq_true rfl) (Nat.le_of_ble_eq_true rfl) ?_
        rintro _ _ ⟨rfl, rfl⟩
        have hsn := sk_n (b := b) (n := n) (p := x + 1) (by omega)
        have hG3 : FrG [(258, 1)] [] T2 (cmv T2 (sk b n (x + 1))) := FrG.si FrG.rf (by simp) _
        exact xe_retz dX0_readClose_80 rfl (by first | exact Or.inl rfl | exact Or.inr rfl) (⟨rfl, ((hP2.mv hu hG3 (by simp) rfl hsn).fail 1 (sk b n (x + 1))).pre (hF2.tr (PFr.ofG hG3 (by simp) (by simp))) (fun c hc => lkR_jk rfl s.1)⟩)
