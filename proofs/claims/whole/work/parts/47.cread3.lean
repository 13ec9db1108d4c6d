def StepP (T : TH) (n : Nat) (b : Nat → Nat) (rd p : Nat) (s : Sh) (en : Nat → Nat) (lo : Nat → Option Nat) (z : (Nat × Nat) ⊕ Option (Nat × Sh × List Nat)) (r : Option Value) (T1 : TH) : Prop := match z with
  | .inl (k, q) => r = some (.int (nI 0)) ∧ FrG [(258, 1), (259, 1), (260, 1), (261, 1), (262, 1), (263, 1), (74, p), (75, p), (130, rd), (131, rd)] [p + 1, p + 2, p + 3, p + 4, p + 5, p + 9, p + 10] T T1 ∧ FailC T1 k q ∧ ∃ s9 en9 lo9, CSp T1 p s9 en9 lo9 ∧ MeOk s9
  | .inr none => r = some (.int (nI 0)) ∧ FrG [(258, 1), (259, 1), (260, 1), (261, 1), (262, 1), (263, 1), (74, p), (75, p), (130, rd), (131, rd)] [p + 1, p + 2, p + 3, p + 4, p + 5, p + 9, p + 10] T T1 ∧ OkC T T1 ∧ CSp T1 p s en lo
  | .inr (some (p', s', gs')) => r = some (.int (nI 1)) ∧ FrG [(258, 1), (259, 1), (260, 1), (261, 1), (262, 1), (263, 1), (74, p), (75, p), (130, rd), (131, rd)] [p + 1, p + 2, p + 3, p + 4, p + 5, p + 9, p + 10] T T1 ∧ OkC T T1 ∧ LC T1 n b p' ∧ RC T1 rd p gs' ∧ ∃ en' lo', CSp T1 p s' en' lo' ∧ ShV s' gs' en' lo'
theorem StepP.tr {T T0 T1 : TH} {n : Nat} {b : Nat → Nat} {rd p : Nat} {s : Sh} {en : Nat → Nat} {lo : Nat → Option Nat} {z : (Nat × Nat) ⊕ Option (Nat × Sh × List Nat)} {r : Option Value} (hF : FrG [(258, 1), (259, 1), (260, 1), (261, 1), (262, 1), (263, 1), (74, p), (75, p), (130, rd), (131, rd)] [p + 1, p + 2, p + 3, p + 4, p + 5, p + 9, p + 10] T T0) (hO : OkC T T0) (h : StepP T0 n b rd p s en lo z r T1) : StepP T n b rd p s en lo z r T1 := by
  match z, h with
  | .inl (k, q), ⟨h1, h2, h3⟩ => exact ⟨h1, FrG.tr hF h2, h3⟩
  | .inr none, ⟨h1, h2, h3, h4⟩ => exact ⟨h1, FrG.tr hF h2, hO.tr h3, h4⟩
  | .inr (some (p', s', gs')), ⟨h1, h2, h3, h4⟩ => exact ⟨h1, FrG.tr hF h2, hO.tr h3, h4⟩
theorem up_up {α : Type} {f : Nat → α} {k : Nat} {v w : α} : va_up (va_up f k v) k w = va_up f k w := by
  funext j
  unfold va_up
  split <;> rfl
theorem MeOk.of {n x : Nat} {s : Sh} {gs : List Nat} {en : Nat → Nat} {lo : Nat → Option Nat} (hP : PI n x s gs) (hV : ShV s gs en lo) : MeOk s := by
  have h1 := hP.1
  have h2 := hP.2.1
  have h3 := hP.2.2.1
  have h4 := hP.2.2.2.1
  exact ⟨by omega, fun f g hf hw => hP.2.2.2.2.2.2.2.1 f g hf hw, fun f hf => (hV.2.2.1 f hf).2.1⟩
theorem pField_eq {b : Nat → Nat} {n x : Nat} {s : Sh} {gs : List Nat} (h1 : ¬ we b n x = x) (h2 : ¬ x + 8 < we b n x) (h3 : ¬ isKw (wc b x (we b n x)) = true) (h4 : ¬ dupF s.2.2.1 s.2.2.2.1 gs.head? (wc b x (we b n x)) s.1 = true) :
    pField b n x s gs = if sk b n (we b n x) < n ∧ b (sk b n (we b n x)) = 91 then (if gs.length = 4 then .inl (3, sk b n (we b n x)) else .inr (sk b n (we b n x) + 1, (s.1 + 1, s.2.1, va_up s.2.2.1 s.1 gs.head?, va_up s.2.2.2.1 s.1 (wc b x (we b n x)), va_up s.2.2.2.2.1 s.1 2, s.2.2.2.2.2.1, s.2.2.2.2.2.2), s.1 :: gs))
      else match pLeaf b n (sk b n (we b n x)) s.2.1 with
        | .inl z => .inl z
        | .inr (kd, m, p2) => .inr (p2, (s.1 + 1, s.2.1 + 1, va_up s.2.2.1 s.1 gs.head?, va_up s.2.2.2.1 s.1 (wc b x (we b n x)), va_up s.2.2.2.2.1 s.1 kd, va_up s.2.2.2.2.2.1 s.1 m, va_up s.2.2.2.2.2.2 s.2.1 s.1), gs) := by
  unfold pField
  rw [if_neg h1, if_neg h2, if_neg h3, if_neg h4]
  split
  · rfl
  · unfold pLeaf
    split
    · rfl
    · cases kdOf (wd b (sk b n (we b n x)) (we b n (sk b n (we b n x)))) with
      | none => rfl
      | some kd =>
        by_cases h12 : s.2.1 = 12
        · simp [h12]
        · simp only [if_neg h12]
          cases pMark b n (we b n (sk b n (we b n x))) with
          | inl z => rfl
          | inr z => rfl
theorem pLeaf_in {b : Nat → Nat} {n x nL kd m p2 : Nat} (hx : x ≤ n) (h : pLeaf b n x nL = .inr (kd, m, p2)) : kd < 2 ∧ m ≤ 2 ∧ ¬ nL = 12 := by
  unfold pLeaf at h
  split at h
  · cases h
  · split at h
    · cases h
    · rename_i kd9 hk
      split at h
      · cases h
      · rename_i h12
        split at h
        · cases h
        · rename_i m9 p9 hm
          cases h
          exact ⟨kdOf_lt hk, (pMark_ok (we_n hx) hm).2.2, h12⟩

set_option maxHeartbeats 4000000 in
theorem c_X2_readField (d : Nat) {T : TH} {n x rd p : Nat} {b : Nat → Nat} {s : Sh} {gs : List Nat} {en : Nat → Nat} {lo : Nat → Option Nat} (hL : LC T n b x) (hR : RC T rd p gs) (hS : CSp T p s en lo) (hp : p = 66 ∨ p = 77) (hs60 : s.1 ≤ 60) (hsk : sk b n x = x) (hx : x < n) (hPI : PI n x s gs) (hV : ShV s gs en lo) : Xe m_X2_readField (d + 5) 0 [(0, .ref rd)] [] T (StepP T n b rd p s en lo ((pField b n x s gs).map id some)) := by
  have hpn := hL.2.2.2.2.1
  have hn4 := hL.2.2.2.2.2
  have he0 := we_ge b n x
  have he1 := we_n (b := b) hpn
  have hgb : oB gs.head? := fun g hg => by have := hPI.2.2.2.2.2.1 g (List.mem_of_mem_head? hg); omega
  have hWb : ∀ f, f < s.1 → oB (s.2.2.1 f) := fun f hf g hg => by have := hPI.2.2.2.2.2.2.2.1 f g hf hg; omega
  have hNb : ∀ f, f < s.1 → s.2.2.2.1 f < 27 ^ 8 := hPI.2.2.2.2.2.2.1
  have hnm := c_X2_readName (d + 1) hL hR hS hp hs60 hgb hWb hNb
  rw [hsk] at hnm
  have hMe := MeOk.of hPI hV
  refine xe (fun _ _ kK => x_aload_n dX2_readField_0 rfl 0 rfl kK) ?_
  by_cases c1 : (we b n x) = x
  · -- pc 1
    rw [if_pos c1] at hnm
    rw [show pField b n x s gs = .inl (1, x) by unfold pField; rw [if_pos c1]]
    refine xe_callV (a := rd) [] dX2_readField_1 ml_X2_79 mf_X2_readName hR.1 (hnm) rfl rfl (Nat.le_of_ble_eq_true rfl) (Nat.le_of_ble_eq_true rfl) ?_
    rintro _ T1 ⟨hF1, rfl, hE1⟩
    refine xe (fun _ _ kK => x_if_neF (tgt := 9) dX2_readField_4 (by decide) (by decide) kK) ?_
    refine xe (fun _ _ kK => x_iconst dX2_readField_7 (show _ = nI 0 by decide) kK) ?_
    exact xe_retz dX2_readField_8 rfl (by first | exact Or.inl rfl | exact Or.inr rfl) (⟨rfl, hF1.mono (by simp) (by simp), hE1, s, en, lo, hS.of hF1 (by simp) (by simp) (by simp), hMe⟩)
  rw [if_neg c1] at hnm
  by_cases c2 : x + 8 < (we b n x)
  · -- pc 1
    rw [if_pos c2] at hnm
    rw [show pField b n x s gs = .inl (1, x + 8) by unfold pField; rw [if_neg c1, if_pos c2]]
    refine xe_callV (a := rd) [] dX2_readField_1 ml_X2_79 mf_X2_readName hR.1 (hnm) rfl rfl (Nat.le_of_ble_eq_true rfl) (Nat.le_of_ble_eq_true rfl) ?_
    rintro _ T1 ⟨hF1, rfl, hE1⟩
    refine xe (fun _ _ kK => x_if_neF (tgt := 9) dX2_readField_4 (by decide) (by decide) kK) ?_
    refine xe (fun _ _ kK => x_iconst dX2_readField_7 (show _ = nI 0 by decide) kK) ?_
    exact xe_retz dX2_readField_8 rfl (by first | exact Or.inl rfl | exact Or.inr rfl) (⟨rfl, hF1.mono (by simp) (by simp), hE1, s, en, lo, hS.of hF1 (by simp) (by simp) (by simp), hMe⟩)
  rw [if_neg c2] at hnm
  by_cases c3 : isKw (wc b x (we b n x)) = true
  · -- pc 1
    rw [if_pos c3] at hnm
    rw [show pField b n x s gs = .inl (1, x) by unfold pField; rw [if_neg c1, if_neg c2, if_pos c3]]
    refine xe_callV (a := rd) [] dX2_readField_1 ml_X2_79 mf_X2_readName hR.1 (hnm) rfl rfl (Nat.le_of_ble_eq_true rfl) (Nat.le_of_ble_eq_true rfl) ?_
    rintro _ T1 ⟨hF1, rfl, hE1⟩
    refine xe (fun _ _ kK => x_if_neF (tgt := 9) dX2_readField_4 (by decide) (by decide) kK) ?_
    refine xe (fun _ _ kK => x_iconst dX2_readField_7 (show _ = nI 0 by decide) kK) ?_
    exact xe_retz dX2_readField_8 rfl (by first | exact Or.inl rfl | exact Or.inr rfl) (⟨rfl, hF1.mono (by simp) (by simp), hE1, s, en, lo, hS.of hF1 (by simp) (by simp) (by simp), hMe⟩)
  rw [if_neg c3] at hnm
  by_cases c4 : dupF s.2.2.1 s.2.2.2.1 gs.head? (wc b x (we b n x)) s.1 = true
  · -- pc 1
    rw [if_pos c4] at hnm
    rw [show pField b n x s gs = .inl (2, x) by unfold pField; rw [if_neg c1, if_neg c2, if_neg c3, if_pos c4]]
    refine xe_callV (a := rd) [] dX2_readField_1 ml_X2_79 mf_X2_readName hR.1 (hnm) rfl rfl (Nat.le_of_ble_eq_true rfl) (Nat.le_of_ble_eq_true rfl) ?_
    rintro _ T1 ⟨hF1, rfl, hE1⟩
    refine xe (fun _ _ kK => x_if_neF (tgt := 9) dX2_readField_4 (by decide) (by decide) kK) ?_
    refine xe (fun _ _ kK => x_iconst dX2_readField_7 (show _ = nI 0 by decide) kK) ?_
    exact xe_retz dX2_readField_8 rfl (by first | exact Or.inl rfl | exact Or.inr rfl) (⟨rfl, hF1.mono (by simp) (by simp), hE1, s, en, lo, hS.of hF1 (by simp) (by simp) (by simp), hMe⟩)
  rw [if_neg c4] at hnm
  refine xe_callV (a := rd) [] dX2_readField_1 ml_X2_79 mf_X2_readName hR.1 (hnm) rfl rfl (Nat.le_of_ble_eq_true rfl) (Nat.le_of_ble_eq_true rfl) ?_
  rintro _ T1 ⟨hF1, rfl, hO1, hW1⟩
  have hL1 : LC T1 n b (we b n x) := hL.of hF1 (by decide) (by decide) hW1.1 he1
  have hR1 := hR.of hF1 (by simp) (by simp)
  have hS1 := hS.of hF1 (by simp) (by simp) (by simp)
  have ec : cwc b x (we b n x) = (wc b x (we b n x)) := if_neg (by omega)
  refine xe (fun _ _ kK => x_if_neT (tgt := 9) dX2_readField_4 (by decide) (by decide) kK) ?_
  refine xe (fun _ _ kK => x_aload_n dX2_readField_9 rfl 0 rfl kK) ?_
  refine xe (fun _ _ kK => x_get dX2_readField_10 fl_X2_15 hR1.1 (gvl_r1 fz_2_1.2.2 (show e_r T1 129 rd = some p from hR1.2.2.1)) kK) ?_
  refine xe (fun _ _ kK => x_aload_n dX2_readField_13 rfl 0 rfl kK) ?_
  refine xe (fun _ _ kK => x_get dX2_readField_14 fl_X2_9 hR1.1 (gvl_r1 fz_2_0.2.2 (show e_r T1 128 rd = some 1 from hR1.2.1)) kK) ?_
  refine xe (fun _ _ kK => x_get dX2_readField_17 fl_X2_82 hL1.1.2.2.2.2.1 (gvl_l fz_4_7.2.2 (show e_l T1 263 1 = lN (wc b x (we b n x)) from (ec ▸ hW1.2.2.2))) kK) ?_
  refine xe (fun _ _ kK => x_aload_n dX2_readField_20 rfl 0 rfl kK) ?_
  refine xe (fun _ _ kK => x_get dX2_readField_21 fl_X2_19 hR1.1 (gvl_i fz_2_2.2.2 (show e_i T1 130 rd = oI gs.head? from hR1.2.2.2.1)) kK) ?_
  refine xe_callV (a := p) [.long (lN (wc b x (we b n x))), .int (oI gs.head?)] dX2_readField_24 ml_X2_86 mf_X1_add hS1.1.1 (c_X1_add (d + 4) hS1 hs60 (o := gs.head?) (w := (wc b x (we b n x))) (hV.2.1 s.1 (Nat.le_refl _))) rfl rfl (Nat.le_of_ble_eq_true rfl) (Nat.le_of_ble_eq_true rfl) ?_
  rintro _ T2 ⟨rfl, hG2, hS2⟩
  have hL2 : LC T2 n b (we b n x) := hL1.of hG2 (by simp <;> omega) (by simp) ((hG2.i (by simp)).trans hW1.1) he1
  have hR2 := hR1.of hG2 (by simp) (by simp)
  have hO2 : OkC T T2 := hO1.tr (OkC.of hG2 (by simp) (by simp))
  have hF2 : FrG [(258, 1), (259, 1), (260, 1), (261, 1), (262, 1), (263, 1), (74, p), (75, p), (130, rd), (131, rd)] [p + 1, p + 2, p + 3, p + 4, p + 5, p + 9, p + 10] T T2 := FrG.tr (hF1.mono (by simp) (by simp)) (hG2.mono (by simp) (by simp))
  refine xe (fun _ _ kK => x_istore_n dX2_readField_27 rfl (by decide) (show _ = [(1, .int (nI s.1)), (0, .ref rd)] from rfl) kK) ?_
  refine xe (fun _ _ kK => x_iload_n dX2_readField_28 rfl 0 rfl kK) ?_
  refine xe (fun _ _ kK => x_iconst dX2_readField_29 (show _ = (-1) by decide) kK) ?_
  refine xe (fun _ _ kK => x_icmp_neT (tgt := 49) dX2_readField_30 (by decide) (nI_m1 (by omega)) kK) ?_
  refine xe (fun _ _ kK => x_aload_n dX2_readField_49 rfl 1 rfl kK) ?_
  refine xe (fun _ _ kK => x_get dX2_readField_50 fl_X2_9 hR2.1 (gvl_r1 fz_2_0.2.2 (show e_r T2 128 rd = some 1 from hR2.2.1)) kK) ?_
  have hy0 := sk_ge b n (we b n x)
  have hy1 := sk_n (b := b) he1
  refine xe_callV (a := 1) [] dX2_readField_53 ml_X2_36 mf_X4_next hL2.1.2.2.2.2.1 (c_X4_next (d + 3) hL2) rfl rfl (Nat.le_of_ble_eq_true rfl) (Nat.le_of_ble_eq_true rfl) ?_
  rintro _ _ ⟨rfl, rfl⟩
  have hL3 : LC (cmv T2 (sk b n (we b n x))) n b (sk b n (we b n x)) := hL2.mv hy1
  have hG3 : FrG [(258, 1)] [] T2 (cmv T2 (sk b n (we b n x))) := FrG.si FrG.rf (by decide) _
  have hR3 := hR2.of hG3 (by simp) (by simp)
  have hS3 := hS2.of hG3 (by simp) (by simp) (by simp)
  have hO3 : OkC T _ := hO2.tr (OkC.of hG3 (by decide) (by decide))
  have hF3 : FrG [(258, 1), (259, 1), (260, 1), (261, 1), (262, 1), (263, 1), (74, p), (75, p), (130, rd), (131, rd)] [p + 1, p + 2, p + 3, p + 4, p + 5, p + 9, p + 10] T _ := FrG.tr hF2 (hG3.mono (by simp) (by simp))
  generalize hT3 : cmv T2 (sk b n (we b n x)) = T3 at hL3 hR3 hS3 hO3 hF3 ⊢
  have hB : ∀ j, j < n → b j < 256 := fun j hj => (hL.2.1 j hj).2
  refine xe (fun _ _ kK => x_bipush dX2_readField_56 (show _ = nI 91 by decide) kK) ?_
  rw [pField_eq c1 c2 c3 c4]
  have hP2 : 7 * s.1 ≤ x + 5 * gs.length := hPI.2.2.1
  have hg4 : gs.length ≤ 4 := hPI.2.2.2.1
  have hc12 : s.2.1 ≤ 12 := hPI.2.2.2.2.1
  have hd4 : dupF s.2.2.1 s.2.2.2.1 gs.head? (wc b x (we b n x)) s.1 = false := by simpa using c4
  have hWd := hPI.2.2.2.2.2.2.2.1
  have hMe2 : ∀ s9 : Sh, s9.1 = s.1 + 1 → s9.2.2.1 = va_up s.2.2.1 s.1 gs.head? → (∀ g, g < s.1 + 1 → s9.2.2.2.2.2.1 g ≤ 2) → MeOk s9 := fun s9 e1 e2 e3 => by
    refine ⟨by omega, fun f g hf hw => ?_, fun f hf => e3 f (by omega)⟩
    rw [e2] at hw
    by_cases e9 : f = s.1
    · rw [e9, up_eq] at hw; rw [e9]; exact hPI.2.2.2.2.2.1 g (List.mem_of_mem_head? hw)
    · rw [up_ne e9] at hw; exact hWd f g (by omega) hw
  have hM2 : ∀ g, g < s.1 + 1 → s.2.2.2.2.2.1 g ≤ 2 := fun g hg => by rcases Nat.lt_or_ge g s.1 with z | z; exact (hV.2.2.1 g z).2.1; rw [hV.2.1 g z]; omega
  by_cases c5 : (sk b n (we b n x)) < n ∧ b (sk b n (we b n x)) = 91
  · -- pc 58
    rw [if_pos c5]
    refine xe (fun _ _ kK => x_icmp_neF (tgt := 69) dX2_readField_58 (by decide) (pk_is c5) kK) ?_
    refine xe (fun _ _ kK => x_aload_n dX2_readField_61 rfl 1 rfl kK) ?_
    refine xe (fun _ _ kK => x_iload_n dX2_readField_62 rfl 0 rfl kK) ?_
    by_cases c6 : gs.length = 4
    · -- pc 63
      rw [if_pos c6]
      refine xe_callV (a := rd) [.int (nI s.1)] dX2_readField_63 ml_X2_97 mf_X2_readOpen hR3.1 (by have := c_X2_readOpen (d + 2) (f := s.1) hL3 hR3 hS3 hp (by show s.1 + 1 ≤ 60; omega) c5.1 hg4; rw [if_pos c6] at this; exact this) rfl rfl (Nat.le_of_ble_eq_true rfl) (Nat.le_of_ble_eq_true rfl) ?_
      rintro _ _ ⟨rfl, rfl⟩
      refine xe (fun _ _ kK => x_goto (tgt := 74) dX2_readField_66 (by decide) kK) ?_
      have hG4 : FrG [(258, 1), (259, 1), (260, 1), (261, 1), (262, 1), (263, 1)] [] T3 (cfl T3 3 (sk b n (we b n x))) := (FrG.si (FrG.si FrG.rf (by decide) _) (by decide) _)
      exact xe_retz dX2_readField_74 rfl (by first | exact Or.inl rfl | exact Or.inr rfl) (⟨rfl, FrG.tr hF3 (hG4.mono (by simp) (by simp)), ⟨rfl, rfl⟩, _, _, _, hS3.of hG4 (by simp) (by simp) (by simp), hMe2 _ rfl rfl hM2⟩)
    · -- pc 63
      rw [if_neg c6]
      refine xe_callV (a := rd) [.int (nI s.1)] dX2_readField_63 ml_X2_97 mf_X2_readOpen hR3.1 (by have := c_X2_readOpen (d + 2) (f := s.1) hL3 hR3 hS3 hp (by show s.1 + 1 ≤ 60; omega) c5.1 hg4; rw [if_neg c6] at this; exact this) rfl rfl (Nat.le_of_ble_eq_true rfl) (Nat.le_of_ble_eq_true rfl) ?_
      rintro _ T4 ⟨rfl, hG4, hL4, hR4⟩
      refine xe (fun _ _ kK => x_goto (tgt := 74) dX2_readField_66 (by decide) kK) ?_
      exact xe_retz dX2_readField_74 rfl (by first | exact Or.inl rfl | exact Or.inr rfl) (⟨rfl, FrG.tr hF3 (hG4.mono (by simp) (by simp)), hO3.tr (OkC.of hG4 (by simp) (by simp)), hL4, hR4, _, _, hS3.of hG4 (by simp) (by simp) (by simp), hV.opn hWd hPI.2.2.2.2.2.1 (by omega) wc_wd (wc_pos c1) hd4⟩)
  · -- pc 58
    rw [if_neg c5]
    refine xe (fun _ _ kK => x_icmp_neT (tgt := 69) dX2_readField_58 (by decide) (pk_not hB (by decide) c5) kK) ?_
    refine xe (fun _ _ kK => x_aload_n dX2_readField_69 rfl 1 rfl kK) ?_
    refine xe (fun _ _ kK => x_iload_n dX2_readField_70 rfl 0 rfl kK) ?_
    have hlf := c_X2_readLeaf d (f := s.1) hL3 hR3 hS3 hp (by show s.1 + 1 ≤ 60; omega) (sk_sk b n (we b n x)) (by show s.1 < s.1 + 1; omega) hc12
    cases hpl : pLeaf b n (sk b n (we b n x)) s.2.1 with
    | inl z =>
      obtain ⟨k, q⟩ := z
      rw [show pLeaf b n (sk b n (we b n x)) (s.1 + 1, s.2.1, va_up s.2.2.1 s.1 gs.head?, va_up s.2.2.2.1 s.1 (wc b x (we b n x)), va_up s.2.2.2.2.1 s.1 2, s.2.2.2.2.2.1, s.2.2.2.2.2.2).2.1 = .inl (k, q) from hpl] at hlf
      refine xe_callV (a := rd) [.int (nI s.1)] dX2_readField_71 ml_X2_100 mf_X2_readLeaf hR3.1 (hlf) rfl rfl (Nat.le_of_ble_eq_true rfl) (Nat.le_of_ble_eq_true rfl) ?_
      rintro _ T4 ⟨rfl, hF4, hE4, s9, en9, lo9, hS9, e1, e2, e3⟩
      exact xe_retz dX2_readField_74 rfl (by first | exact Or.inl rfl | exact Or.inr rfl) (⟨rfl, FrG.tr hF3 hF4, hE4, s9, en9, lo9, hS9, hMe2 s9 e1 e2 (e3 hM2)⟩)
    | inr z =>
      obtain ⟨kd, m, p2⟩ := z
      rw [show pLeaf b n (sk b n (we b n x)) (s.1 + 1, s.2.1, va_up s.2.2.1 s.1 gs.head?, va_up s.2.2.2.1 s.1 (wc b x (we b n x)), va_up s.2.2.2.2.1 s.1 2, s.2.2.2.2.2.1, s.2.2.2.2.2.2).2.1 = .inr (kd, m, p2) from hpl] at hlf
      obtain ⟨k1, k2, k3⟩ := pLeaf_in hy1 hpl
      refine xe_callV (a := rd) [.int (nI s.1)] dX2_readField_71 ml_X2_100 mf_X2_readLeaf hR3.1 (hlf) rfl rfl (Nat.le_of_ble_eq_true rfl) (Nat.le_of_ble_eq_true rfl) ?_
      rintro _ T4 ⟨rfl, hF4, hL4, hR4, hS4, hO4⟩
      have hS5 : CSp T4 p (s.1 + 1, s.2.1 + 1, va_up s.2.2.1 s.1 gs.head?, va_up s.2.2.2.1 s.1 (wc b x (we b n x)), va_up s.2.2.2.2.1 s.1 kd, va_up s.2.2.2.2.2.1 s.1 m, va_up s.2.2.2.2.2.2 s.2.1 s.1) (va_up en s.1 (s.1 + 1)) (va_up lo s.1 (some s.2.1)) := by have z9 := hS4; simp only [up_up] at z9; exact z9
      exact xe_retz dX2_readField_74 rfl (by first | exact Or.inl rfl | exact Or.inr rfl) (⟨rfl, FrG.tr hF3 hF4, hO3.tr hO4, hL4, hR4, _, _, hS5, hV.leaf hWd hPI.2.2.2.2.2.1 hg4 k1 k2 wc_wd (wc_pos c1) hd4⟩)

set_option maxHeartbeats 4000000 in
theorem c_X2_readClose (d : Nat) {T : TH} {n x rd p : Nat} {b : Nat → Nat} {s : Sh} {gs : List Nat} {en : Nat → Nat} {lo : Nat → Option Nat} (hL : LC T n b x) (hR : RC T rd p gs) (hS : CSp T p s en lo) (hp : p = 66 ∨ p = 77) (hs60 : s.1 ≤ 60) (hsk : sk b n x = x) (hx : x < n) (hPI : PI n x s gs) (hV : ShV s gs en lo) (h93 : b x = 93) : Xe m_X2_readClose (d + 4) 0 [(0, .ref rd)] [] T (StepP T n b rd p s en lo (pStep b n x s gs)) := by
  have hpn := hL.2.2.2.2.1
  have hn4 := hL.2.2.2.2.2
  have hMe := MeOk.of hPI hV
  have hwe : we b n x = x := we_stop (by rw [h93]; decide)
  cases gs with
  | nil =>
    refine xe (fun _ _ kK => x_aload_n dX2_readClose_0 rfl 0 rfl kK) ?_
    refine xe (fun _ _ kK => x_get dX2_readClose_1 fl_X2_15 hR.1 (gvl_r1 fz_2_1.2.2 (show e_r T 129 rd = some p from hR.2.2.1)) kK) ?_
    refine xe (fun _ _ kK => x_aload_n dX2_readClose_4 rfl 0 rfl kK) ?_
    refine xe (fun _ _ kK => x_get dX2_readClose_5 fl_X2_19 hR.1 (gvl_i fz_2_2.2.2 (show e_i T 130 rd = (-1) from hR.2.2.2.1)) kK) ?_
    refine xe_callV (a := p) [.int (-1)] dX2_readClose_8 ml_X2_63 mf_X1_isField hS.1.1 (by have := c_X1_isField (d + 3) hS.1 hS.2.1 (by omega) (-1); rw [ix_neg (by decide)] at this; exact this) rfl rfl (Nat.le_of_ble_eq_true rfl) (Nat.le_of_ble_eq_true rfl) ?_
    rintro _ T9 ⟨rfl, hTq9⟩
    refine xe_T hTq9 ?_
    refine xe (fun _ _ kK => x_if_neF (tgt := 23) dX2_readClose_11 (by decide) rfl kK) ?_
    refine xe (fun _ _ kK => x_aload_n dX2_readClose_14 rfl 0 rfl kK) ?_
    refine xe (fun _ _ kK => x_get dX2_readClose_15 fl_X2_9 hR.1 (gvl_r1 fz_2_0.2.2 (show e_r T 128 rd = some 1 from hR.2.1)) kK) ?_
    refine xe (fun _ _ kK => x_iconst dX2_readClose_18 (show _ = nI 1 by decide) kK) ?_
    refine xe_callV (a := 1) [.int (nI 1)] dX2_readClose_19 ml_X2_56 mf_X4_failHere hL.1.2.2.2.2.1 (c_X4_failHere (d + 2) hL.1 hL.2.2.1 1) rfl rfl (Nat.le_of_ble_eq_true rfl) (Nat.le_of_ble_eq_true rfl) ?_
    rintro _ _ ⟨rfl, rfl⟩
    have hst : pStep b n x s [] = .inl (1, x) := by unfold pStep; rw [hsk, if_neg (by omega)]; show (pField b n x s []).map id some = _; unfold pField; rw [if_pos hwe]; rfl
    rw [hst]
    have hG1 : FrG [(258, 1), (259, 1), (260, 1), (261, 1), (262, 1), (263, 1)] [] T (cfl T 1 x) := (FrG.si (FrG.si FrG.rf (by decide) _) (by decide) _)
    exact xe_retz dX2_readClose_22 rfl (by first | exact Or.inl rfl | exact Or.inr rfl) (⟨rfl, hG1.mono (by simp) (by simp), ⟨rfl, rfl⟩, s, en, lo, hS.of hG1 (by simp) (by simp) (by simp), hMe⟩)
  | cons g gs =>
    have hg := hPI.2.2.2.2.2.1 g List.mem_cons_self
    refine xe (fun _ _ kK => x_aload_n dX2_readClose_0 rfl 0 rfl kK) ?_
    refine xe (fun _ _ kK => x_get dX2_readClose_1 fl_X2_15 hR.1 (gvl_r1 fz_2_1.2.2 (show e_r T 129 rd = some p from hR.2.2.1)) kK) ?_
    refine xe (fun _ _ kK => x_aload_n dX2_readClose_4 rfl 0 rfl kK) ?_
    refine xe (fun _ _ kK => x_get dX2_readClose_5 fl_X2_19 hR.1 (gvl_i fz_2_2.2.2 (show e_i T 130 rd = nI g from hR.2.2.2.1)) kK) ?_
    refine xe_callV (a := p) [.int (nI g)] dX2_readClose_8 ml_X2_63 mf_X1_isField hS.1.1 (by have := c_X1_isField (d + 3) hS.1 hS.2.1 (by omega) (nI g); rw [ix_in hg (by omega)] at this; exact this) rfl rfl (Nat.le_of_ble_eq_true rfl) (Nat.le_of_ble_eq_true rfl) ?_
    rintro _ T9 ⟨rfl, hTq9⟩
    refine xe_T hTq9 ?_
    refine xe (fun _ _ kK => x_if_neT (tgt := 23) dX2_readClose_11 (by decide) (show ¬ bI true = 0 by decide) kK) ?_
    refine xe (fun _ _ kK => x_aload_n dX2_readClose_23 rfl 0 rfl kK) ?_
    refine xe (fun _ _ kK => x_get dX2_readClose_24 fl_X2_15 hR.1 (gvl_r1 fz_2_1.2.2 (show e_r T 129 rd = some p from hR.2.2.1)) kK) ?_
    refine xe (fun _ _ kK => x_get dX2_readClose_27 fl_X2_60 hS.1.1 (gvl_i fz_1_10.2.2 (show e_i T 74 p = nI s.1 from hS.2.1)) kK) ?_
    refine xe (fun _ _ kK => x_aload_n dX2_readClose_30 rfl 0 rfl kK) ?_
    refine xe (fun _ _ kK => x_get dX2_readClose_31 fl_X2_19 hR.1 (gvl_i fz_2_2.2.2 (show e_i T 130 rd = nI g from hR.2.2.2.1)) kK) ?_
    refine xe (fun _ _ kK => x_iconst dX2_readClose_34 (show _ = nI 1 by decide) kK) ?_
    refine xe (fun _ _ kK => x_iadd dX2_readClose_35 kK) ?_
    refine xe_ti (show _ = nI (g + 1) from nI_add g 1) ?_
    refine xe_icmp_ne (tgt := 48) dX2_readClose_36 (by decide) (fun h36 => ?_) (fun h36 => ?_)
    · -- pc 48
      have h36 := cv_ne (by omega) (by omega) h36
      have hWg : s.2.2.1 g = gs.head? := by have h2 := hV.1.2; cases gs with | nil => exact h2 | cons z l => exact h2.1
      refine xe (fun _ _ kK => x_aload_n dX2_readClose_48 rfl 0 rfl kK) ?_
      refine xe (fun _ _ kK => x_get dX2_readClose_49 fl_X2_9 hR.1 (gvl_r1 fz_2_0.2.2 (show e_r T 128 rd = some 1 from hR.2.1)) kK) ?_
      refine xe (fun _ _ kK => x_dup dX2_readClose_52 rfl kK) ?_
      refine xe (fun _ _ kK => x_get dX2_readClose_53 fl_X2_66 hL.1.2.2.2.2.1 (gvl_i fz_4_2.2.2 (show e_i T 258 1 = nI x from hL.2.2.1)) kK) ?_
      refine xe (fun _ _ kK => x_iconst dX2_readClose_56 (show _ = nI 1 by decide) kK) ?_
      refine xe (fun _ _ kK => x_iadd dX2_readClose_57 kK) ?_
      refine xe_ti (show _ = nI (x + 1) from nI_add x 1) ?_
      refine xe (fun _ _ kK => x_puti dX2_readClose_58 ⟨fl_X2_66, fz_4_2.1, fz_4_2.2.1⟩ (Or.inl fz_4_2.2.2) rfl rfl hL.1.2.2.2.2.1 kK) ?_
      refine xe (fun _ _ kK => x_aload_n dX2_readClose_61 rfl 0 rfl kK) ?_
      refine xe (fun _ _ kK => x_get dX2_readClose_62 fl_X2_19 (wK_i hR.1) (gvl_i fz_2_2.2.2 (show e_i (s_i T 258 1 (nI (x + 1))) 130 rd = nI g from (wi_i (fun q => absurd q.1 (by decide)) hR.2.2.2.1))) kK) ?_
      refine xe (fun _ _ kK => x_istore_n dX2_readClose_65 rfl (by decide) (show _ = [(1, .int (nI g)), (0, .ref rd)] from rfl) kK) ?_
      refine xe (fun _ _ kK => x_aload_n dX2_readClose_66 rfl 1 rfl kK) ?_
      refine xe (fun _ _ kK => x_get dX2_readClose_67 fl_X2_15 (wK_i hR.1) (gvl_r1 fz_2_1.2.2 (show e_r (s_i T 258 1 (nI (x + 1))) 129 rd = some p from (wr_i hR.2.2.1))) kK) ?_
      refine xe (fun _ _ kK => x_get dX2_readClose_70 fl_X2_69 (wK_i hS.1.1) (gvl_r1 fz_1_4.2.2 (show e_r (s_i T 258 1 (nI (x + 1))) 68 p = some (p + 5) from (wr_i (hS.1.2.1 4 (by decide))))) kK) ?_
      refine xe (fun _ _ kK => x_iload_n dX2_readClose_73 rfl 0 rfl kK) ?_
      refine xe (fun _ _ kK => x_aload_n dX2_readClose_74 rfl 1 rfl kK) ?_
      refine xe (fun _ _ kK => x_get dX2_readClose_75 fl_X2_15 (wK_i hR.1) (gvl_r1 fz_2_1.2.2 (show e_r (s_i T 258 1 (nI (x + 1))) 129 rd = some p from (wr_i hR.2.2.1))) kK) ?_
      refine xe (fun _ _ kK => x_get dX2_readClose_78 fl_X2_60 (wK_i hS.1.1) (gvl_i fz_1_10.2.2 (show e_i (s_i T 258 1 (nI (x + 1))) 74 p = nI s.1 from (wi_i (fun q => absurd q.1 (by decide)) hS.2.1))) kK) ?_
      refine xe (fun _ _ kK => x_iast dX2_readClose_81 (wK_i (show e_K _ (p + 5) = 20 from (hS.1.2.2.1 4 (by decide)))) (show (nI g) = nI g from rfl) (wN_i (shi_len hS.1 4 (by decide) (show g < 66 by omega))) kK) ?_
      refine xe (fun _ _ kK => x_aload_n dX2_readClose_82 rfl 1 rfl kK) ?_
      refine xe (fun _ _ kK => x_aload_n dX2_readClose_83 rfl 1 rfl kK) ?_
      refine xe (fun _ _ kK => x_get dX2_readClose_84 fl_X2_15 (wK_ai (wK_i hR.1)) (gvl_r1 fz_2_1.2.2 (show e_r (s_ai (s_i T 258 1 (nI (x + 1))) (p + 5) g (nI s.1)) 129 rd = some p from (wr_ai (wr_i hR.2.2.1)))) kK) ?_
      refine xe (fun _ _ kK => x_get dX2_readClose_87 fl_X2_73 (wK_ai (wK_i hS.1.1)) (gvl_r1 fz_1_3.2.2 (show e_r (s_ai (s_i T 258 1 (nI (x + 1))) (p + 5) g (nI s.1)) 67 p = some (p + 4) from (wr_ai (wr_i (hS.1.2.1 3 (by decide)))))) kK) ?_
      refine xe (fun _ _ kK => x_iload_n dX2_readClose_90 rfl 0 rfl kK) ?_
      refine xe (fun _ _ kK => x_iald dX2_readClose_91 (wK_ai (wK_i (show e_K _ (p + 4) = 20 from (hS.1.2.2.1 3 (by decide))))) (show (nI g) = nI g from rfl) (wN_ai (wN_i (shi_len hS.1 3 (by decide) (show g < 66 by omega)))) (show e_ai (s_ai (s_i T 258 1 (nI (x + 1))) (p + 5) g (nI s.1)) (p + 4) g = oI (s.2.2.1 g) from ((eai_a _ _ (show p + 4 ≠ (p + 5) from (by omega))).trans (hS.2.2.2.1 g hg).2.2.2.1)) kK) ?_
      refine xe (fun _ _ kK => x_puti dX2_readClose_92 ⟨fl_X2_19, fz_2_2.1, fz_2_2.2.1⟩ (Or.inl fz_2_2.2.2) rfl rfl (wK_ai (wK_i hR.1)) kK) ?_
      refine xe (fun _ _ kK => x_aload_n dX2_readClose_95 rfl 1 rfl kK) ?_
      refine xe (fun _ _ kK => x_dup dX2_readClose_96 rfl kK) ?_
      refine xe (fun _ _ kK => x_get dX2_readClose_97 fl_X2_23 (wK_i (wK_ai (wK_i hR.1))) (gvl_i fz_2_3.2.2 (show e_i (s_i (s_ai (s_i T 258 1 (nI (x + 1))) (p + 5) g (nI s.1)) 130 rd (oI (s.2.2.1 g))) 131 rd = nI (gs.length + 1) from (wi_i (fun q => absurd q.1 (by decide)) (wi_ai (wi_i (fun q => absurd q.1 (by decide)) hR.2.2.2.2))))) kK) ?_
      refine xe (fun _ _ kK => x_iconst dX2_readClose_100 (show _ = nI 1 by decide) kK) ?_
      refine xe (fun _ _ kK => x_isub dX2_readClose_101 kK) ?_
      refine xe_ti (show _ = nI ((gs.length + 1) - 1) from pk_sub (by omega)) ?_
      refine xe (fun _ _ kK => x_puti dX2_readClose_102 ⟨fl_X2_23, fz_2_3.1, fz_2_3.2.1⟩ (Or.inl fz_2_3.2.2) rfl rfl (wK_i (wK_ai (wK_i hR.1))) kK) ?_
      refine xe (fun _ _ kK => x_aload_n dX2_readClose_105 rfl 1 rfl kK) ?_
      refine xe (fun _ _ kK => x_iload_n dX2_readClose_106 rfl 0 rfl kK) ?_
      have hG1 : FrG [(258, 1), (130, rd), (131, rd)] [p + 5] T (s_i (s_i (s_ai (s_i T 258 1 (nI (x + 1))) (p + 5) g (nI s.1)) 130 rd (oI (s.2.2.1 g))) 131 rd (nI ((gs.length + 1) - 1))) := (FrG.si (FrG.si (FrG.sai (FrG.si FrG.rf (by simp) _) (by simp) _ _) (by simp) _) (by simp) _)
      have hL1 : LC (s_i (s_i (s_ai (s_i T 258 1 (nI (x + 1))) (p + 5) g (nI s.1)) 130 rd (oI (s.2.2.1 g))) 131 rd (nI ((gs.length + 1) - 1))) n b (x + 1) := hL.of hG1 (by simp <;> omega) (by simp) (by simp [q_i_i, q_i_l, q_i_ai, q_i_al, q_ai_ai, q_ai_i, q_ai_l, q_ai_al, q_al_al, q_al_i, q_al_ai, q_al_l, q_l_i, q_l_l, q_l_ai, q_l_al]) (by omega)
      have hR1 : RC (s_i (s_i (s_ai (s_i T 258 1 (nI (x + 1))) (p + 5) g (nI s.1)) 130 rd (oI (s.2.2.1 g))) 131 rd (nI ((gs.length + 1) - 1))) rd p gs := ⟨by rw [hG1.1]; exact hR.1, by rw [hG1.2.1]; exact hR.2.1, by rw [hG1.2.1]; exact hR.2.2.1, by simp [q_i_i, q_i_l, q_i_ai, q_i_al, q_ai_ai, q_ai_i, q_ai_l, q_ai_al, q_al_al, q_al_i, q_al_ai, q_al_l, q_l_i, q_l_l, q_l_ai, q_l_al]; rw [hWg], by simp [q_i_i, q_i_l, q_i_ai, q_i_al, q_ai_ai, q_ai_i, q_ai_l, q_ai_al, q_al_al, q_al_i, q_al_ai, q_al_l, q_l_i, q_l_l, q_l_ai, q_l_al]⟩
      have hS1 : CSp (s_i (s_i (s_ai (s_i T 258 1 (nI (x + 1))) (p + 5) g (nI s.1)) 130 rd (oI (s.2.2.1 g))) 131 rd (nI ((gs.length + 1) - 1))) p s (va_up en g s.1) lo := ⟨hG1.shi hS.1, (hG1.i (by simp)).trans hS.2.1, (hG1.i (by simp)).trans hS.2.2.1, fun f hf => ?_, fun c hc => by rw [hG1.ai (by simp)]; exact hS.2.2.2.2 c hc⟩
      rotate_left
      · have h1 := hS.2.2.2.1 f hf
        by_cases e9 : f = g
        · subst e9; simp [q_i_i, q_i_l, q_i_ai, q_i_al, q_ai_ai, q_ai_i, q_ai_l, q_ai_al, q_al_al, q_al_i, q_al_ai, q_al_l, q_l_i, q_l_l, q_l_ai, q_l_al, va_up]; exact ⟨h1.1, h1.2.1, h1.2.2.1, h1.2.2.2.1, h1.2.2.2.2.2⟩
        · simp [q_i_i, q_i_l, q_i_ai, q_i_al, q_ai_ai, q_ai_i, q_ai_l, q_ai_al, q_al_al, q_al_i, q_al_ai, q_al_l, q_l_i, q_l_l, q_l_ai, q_l_al, va_up, e9]; exact h1
      have hO1 : OkC T (s_i (s_i (s_ai (s_i T 258 1 (nI (x + 1))) (p + 5) g (nI s.1)) 130 rd (oI (s.2.2.1 g))) 131 rd (nI ((gs.length + 1) - 1))) := OkC.of hG1 (by simp) (by simp)
      generalize hT1 : (s_i (s_i (s_ai (s_i T 258 1 (nI (x + 1))) (p + 5) g (nI s.1)) 130 rd (oI (s.2.2.1 g))) 131 rd (nI ((gs.length + 1) - 1))) = T1 at hG1 hL1 hR1 hS1 hO1 ⊢
      have hmk := c_X2_readMark d (f := g) hL1 hR1 hS1 hp hs60 hg
      have hst : pStep b n x s (g :: gs) = (match pMark b n (x + 1) with | .inl z => .inl z | .inr (m, p2) => .inr (some (p2, (s.1, s.2.1, s.2.2.1, s.2.2.2.1, s.2.2.2.2.1, va_up s.2.2.2.2.2.1 g m, s.2.2.2.2.2.2), gs))) := by unfold pStep; rw [hsk, if_neg (by omega)]; show (if b x = 93 then _ else _) = _; rw [if_pos h93, if_neg h36]; cases pMark b n (x + 1) with | inl z => rfl | inr z => rfl
      rw [hst]
      cases hpm : pMark b n (x + 1) with
      | inl z =>
        obtain ⟨k, q⟩ := z
        rw [hpm] at hmk
        refine xe_callV (a := rd) [.int (nI g)] dX2_readClose_107 ml_X2_76 mf_X2_readMark hR1.1 (hmk) rfl rfl (Nat.le_of_ble_eq_true rfl) (Nat.le_of_ble_eq_true rfl) ?_
        rintro _ T3 ⟨rfl, hF3, hE3, s9, hS9, e1, e2, e3⟩
        exact xe_retz dX2_readClose_110 rfl (by first | exact Or.inl rfl | exact Or.inr rfl) (⟨rfl, FrG.tr (hG1.mono (by simp) (by simp)) hF3, hE3, s9, _, _, hS9, by omega, fun f g hf hw => by rw [e2] at hw; exact hMe.2.1 f g (by omega) hw, fun f hf => e3 hMe.2.2 f (by omega)⟩)
      | inr z =>
        obtain ⟨m, p2⟩ := z
        rw [hpm] at hmk
        refine xe_callV (a := rd) [.int (nI g)] dX2_readClose_107 ml_X2_76 mf_X2_readMark hR1.1 (hmk) rfl rfl (Nat.le_of_ble_eq_true rfl) (Nat.le_of_ble_eq_true rfl) ?_
        rintro _ T3 ⟨rfl, hF3, hL3, hR3, hS3, hO3⟩
        exact xe_retz dX2_readClose_110 rfl (by first | exact Or.inl rfl | exact Or.inr rfl) (⟨rfl, FrG.tr (hG1.mono (by simp) (by simp)) hF3, hO1.tr hO3, hL3, hR3, _, _, hS3, hV.close hPI.2.2.2.2.2.2.2.1 hPI.2.2.2.2.2.2.2.2 hg (by omega) (pMark_ok (by omega) hpm).2.2⟩)
    · -- pc 39
      have h36 := cv_eq (by omega) (by omega) h36
      refine xe (fun _ _ kK => x_aload_n dX2_readClose_39 rfl 0 rfl kK) ?_
      refine xe (fun _ _ kK => x_get dX2_readClose_40 fl_X2_9 hR.1 (gvl_r1 fz_2_0.2.2 (show e_r T 128 rd = some 1 from hR.2.1)) kK) ?_
      refine xe (fun _ _ kK => x_iconst dX2_readClose_43 (show _ = nI 3 by decide) kK) ?_
      refine xe_callV (a := 1) [.int (nI 3)] dX2_readClose_44 ml_X2_56 mf_X4_failHere hL.1.2.2.2.2.1 (c_X4_failHere (d + 2) hL.1 hL.2.2.1 3) rfl rfl (Nat.le_of_ble_eq_true rfl) (Nat.le_of_ble_eq_true rfl) ?_
      rintro _ _ ⟨rfl, rfl⟩
      have hst : pStep b n x s (g :: gs) = .inl (3, x) := by unfold pStep; rw [hsk, if_neg (by omega)]; show (if b x = 93 then _ else _) = _; rw [if_pos h93, if_pos h36]
      rw [hst]
      have hG1 : FrG [(258, 1), (259, 1), (260, 1), (261, 1), (262, 1), (263, 1)] [] T (cfl T 3 x) := (FrG.si (FrG.si FrG.rf (by decide) _) (by decide) _)
      exact xe_retz dX2_readClose_47 rfl (by first | exact Or.inl rfl | exact Or.inr rfl) (⟨rfl, hG1.mono (by simp) (by simp), ⟨rfl, rfl⟩, s, en, lo, hS.of hG1 (by simp) (by simp) (by simp), hMe⟩)

set_option maxHeartbeats 4000000 in
theorem c_X2_readEnd (d : Nat) {T : TH} {n x rd p : Nat} {b : Nat → Nat} {s : Sh} {gs : List Nat} {en : Nat → Nat} {lo : Nat → Option Nat} (hL : LC T n b x) (hR : RC T rd p gs) (hS : CSp T p s en lo) (hp : p = 66 ∨ p = 77) (hs60 : s.1 ≤ 60) (hsk : sk b n x = x) (hxn : n ≤ x) (hPI : PI n x s gs) (hV : ShV s gs en lo) : Xe m_X2_readEnd (d + 2) 0 [(0, .ref rd)] [] T (StepP T n b rd p s en lo (pStep b n x s gs)) := by
  have hpn := hL.2.2.2.2.1
  have hn4 := hL.2.2.2.2.2
  have hMe := MeOk.of hPI hV
  cases gs with
  | nil =>
    refine xe (fun _ _ kK => x_aload_n dX2_readEnd_0 rfl 0 rfl kK) ?_
    refine xe (fun _ _ kK => x_get dX2_readEnd_1 fl_X2_19 hR.1 (gvl_i fz_2_2.2.2 (show e_i T 130 rd = (-1) from hR.2.2.2.1)) kK) ?_
    refine xe (fun _ _ kK => x_iconst dX2_readEnd_4 (show _ = (-1) by decide) kK) ?_
    refine xe (fun _ _ kK => x_icmp_eqT (tgt := 17) dX2_readEnd_5 (by decide) rfl kK) ?_
    refine xe (fun _ _ kK => x_aload_n dX2_readEnd_17 rfl 0 rfl kK) ?_
    refine xe (fun _ _ kK => x_get dX2_readEnd_18 fl_X2_15 hR.1 (gvl_r1 fz_2_1.2.2 (show e_r T 129 rd = some p from hR.2.2.1)) kK) ?_
    refine xe (fun _ _ kK => x_get dX2_readEnd_21 fl_X2_60 hS.1.1 (gvl_i fz_1_10.2.2 (show e_i T 74 p = nI s.1 from hS.2.1)) kK) ?_
    refine xe_if_ne (tgt := 36) dX2_readEnd_24 (by decide) (fun h24 => ?_) (fun h24 => ?_)
    · -- pc 36
      have h24 := cv_nz (by omega) h24
      refine xe (fun _ _ kK => x_iconst dX2_readEnd_36 (show _ = nI 0 by decide) kK) ?_
      have hst : pStep b n x s [] = .inr none := by unfold pStep; rw [hsk, if_pos hxn, if_neg (by simp), if_neg h24]
      rw [hst]
      exact xe_retz dX2_readEnd_37 rfl (by first | exact Or.inl rfl | exact Or.inr rfl) (⟨rfl, FrG.rf, ⟨rfl, rfl⟩, hS⟩)
    · -- pc 27
      have h24 := cv_z (by omega) h24
      refine xe (fun _ _ kK => x_aload_n dX2_readEnd_27 rfl 0 rfl kK) ?_
      refine xe (fun _ _ kK => x_get dX2_readEnd_28 fl_X2_9 hR.1 (gvl_r1 fz_2_0.2.2 (show e_r T 128 rd = some 1 from hR.2.1)) kK) ?_
      refine xe (fun _ _ kK => x_iconst dX2_readEnd_31 (show _ = nI 3 by decide) kK) ?_
      refine xe_callV (a := 1) [.int (nI 3)] dX2_readEnd_32 ml_X2_56 mf_X4_failHere hL.1.2.2.2.2.1 (c_X4_failHere d hL.1 hL.2.2.1 3) rfl rfl (Nat.le_of_ble_eq_true rfl) (Nat.le_of_ble_eq_true rfl) ?_
      rintro _ _ ⟨rfl, rfl⟩
      have hst : pStep b n x s [] = .inl (3, x) := by unfold pStep; rw [hsk, if_pos hxn, if_neg (by simp), if_pos h24]
      rw [hst]
      have hG1 : FrG [(258, 1), (259, 1), (260, 1), (261, 1), (262, 1), (263, 1)] [] T (cfl T 3 x) := (FrG.si (FrG.si FrG.rf (by decide) _) (by decide) _)
      exact xe_retz dX2_readEnd_35 rfl (by first | exact Or.inl rfl | exact Or.inr rfl) (⟨rfl, hG1.mono (by simp) (by simp), ⟨rfl, rfl⟩, s, en, lo, hS.of hG1 (by simp) (by simp) (by simp), hMe⟩)
  | cons g gs =>
    have hg := hPI.2.2.2.2.2.1 g List.mem_cons_self
    refine xe (fun _ _ kK => x_aload_n dX2_readEnd_0 rfl 0 rfl kK) ?_
    refine xe (fun _ _ kK => x_get dX2_readEnd_1 fl_X2_19 hR.1 (gvl_i fz_2_2.2.2 (show e_i T 130 rd = nI g from hR.2.2.2.1)) kK) ?_
    refine xe (fun _ _ kK => x_iconst dX2_readEnd_4 (show _ = (-1) by decide) kK) ?_
    refine xe (fun _ _ kK => x_icmp_eqF (tgt := 17) dX2_readEnd_5 (by decide) (nI_m1 (by omega)) kK) ?_
    refine xe (fun _ _ kK => x_aload_n dX2_readEnd_8 rfl 0 rfl kK) ?_
    refine xe (fun _ _ kK => x_get dX2_readEnd_9 fl_X2_9 hR.1 (gvl_r1 fz_2_0.2.2 (show e_r T 128 rd = some 1 from hR.2.1)) kK) ?_
    refine xe (fun _ _ kK => x_iconst dX2_readEnd_12 (show _ = nI 1 by decide) kK) ?_
    refine xe_callV (a := 1) [.int (nI 1)] dX2_readEnd_13 ml_X2_56 mf_X4_failHere hL.1.2.2.2.2.1 (c_X4_failHere d hL.1 hL.2.2.1 1) rfl rfl (Nat.le_of_ble_eq_true rfl) (Nat.le_of_ble_eq_true rfl) ?_
    rintro _ _ ⟨rfl, rfl⟩
    have hst : pStep b n x s (g :: gs) = .inl (1, x) := by unfold pStep; rw [hsk, if_pos hxn, if_pos (by simp)]
    rw [hst]
    have hG1 : FrG [(258, 1), (259, 1), (260, 1), (261, 1), (262, 1), (263, 1)] [] T (cfl T 1 x) := (FrG.si (FrG.si FrG.rf (by decide) _) (by decide) _)
    exact xe_retz dX2_readEnd_16 rfl (by first | exact Or.inl rfl | exact Or.inr rfl) (⟨rfl, hG1.mono (by simp) (by simp), ⟨rfl, rfl⟩, s, en, lo, hS.of hG1 (by simp) (by simp) (by simp), hMe⟩)

theorem pStep_sk {b : Nat → Nat} {n p : Nat} {s : Sh} {gs : List Nat} : pStep b n (sk b n p) s gs = pStep b n p s gs := by
  unfold pStep
  rw [sk_sk]

theorem StepP.v {T : TH} {n : Nat} {b : Nat → Nat} {rd p : Nat} {s : Sh} {en : Nat → Nat} {lo : Nat → Option Nat} {z : (Nat × Nat) ⊕ Option (Nat × Sh × List Nat)} {r : Option Value} {T1 : TH} (h : StepP T n b rd p s en lo z r T1) : ∃ v : Int32, r = some (.int v) ∧ (v = 0 ∨ v = 1) := by
  match z, h with
  | .inl (k, q), ⟨h1, h2, h3⟩ => exact ⟨_, h1, Or.inl rfl⟩
  | .inr none, ⟨h1, h2, h3, h4⟩ => exact ⟨_, h1, Or.inl rfl⟩
  | .inr (some (p', s', gs')), ⟨h1, h2, h3, h4⟩ => exact ⟨_, h1, Or.inr rfl⟩

set_option maxHeartbeats 4000000 in
theorem t_X2_part (d : Nat) {T : TH} {n x rd p : Nat} {b : Nat → Nat} {s : Sh} {gs : List Nat} {en : Nat → Nat} {lo : Nat → Option Nat} (hL : LC T n b x) (hR : RC T rd p gs) (hS : CSp T p s en lo) (hp : p = 66 ∨ p = 77) (hs60 : s.1 ≤ 60) (hPI : PI n x s gs) (hV : ShV s gs en lo) {k : Nat} {Q : Option Value → TH → Prop} (kk : ∀ (v9 : Int32) (T9 : TH), StepP T n b rd p s en lo (pStep b n x s gs) (some (.int v9)) T9 → Xe m_X2_readAll (d + 7) 68 [(1, .int v9), (2, .int (nI k)), (0, .ref rd)] [] T9 Q) : Xe m_X2_readAll (d + 7) 29 [(2, .int (nI k)), (1, .int (nI 1)), (0, .ref rd)] [] T Q := by
  have hpn := hL.2.2.2.2.1
  have hn4 := hL.2.2.2.2.2
  have hq0 := sk_ge b n x
  have hq1 := sk_n (b := b) hpn
  have hB : ∀ j, j < n → b j < 256 := fun j hj => (hL.2.1 j hj).2
  refine xe (fun _ _ kK => x_aload_n dX2_readAll_29 rfl 2 rfl kK) ?_
  refine xe (fun _ _ kK => x_get dX2_readAll_30 fl_X2_9 hR.1 (gvl_r1 fz_2_0.2.2 (show e_r T 128 rd = some 1 from hR.2.1)) kK) ?_
  refine xe_callV (a := 1) [] dX2_readAll_33 ml_X2_36 mf_X4_next hL.1.2.2.2.2.1 (c_X4_next (d + 5) hL) rfl rfl (Nat.le_of_ble_eq_true rfl) (Nat.le_of_ble_eq_true rfl) ?_
  rintro _ _ ⟨rfl, rfl⟩
  have hL1 : LC (cmv T (sk b n x)) n b (sk b n x) := hL.mv hq1
  have hG1 : FrG [(258, 1)] [] T (cmv T (sk b n x)) := FrG.si FrG.rf (by decide) _
  have hR1 := hR.of hG1 (by simp) (by simp)
  have hS1 := hS.of hG1 (by simp) (by simp) (by simp)
  have hP1 := hPI.mv hq0 hq1
  have hTr : ∀ {z : (Nat × Nat) ⊕ Option (Nat × Sh × List Nat)} {r : Option Value} {T2 : TH}, StepP (cmv T (sk b n x)) n b rd p s en lo z r T2 → StepP T n b rd p s en lo z r T2 := fun h9 => StepP.tr (hG1.mono (by simp) (by simp)) (OkC.of hG1 (by decide) (by decide)) h9
  generalize hT1 : cmv T (sk b n x) = T1 at hL1 hR1 hS1 hTr ⊢
  refine xe (fun _ _ kK => x_istore_n dX2_readAll_36 rfl (by decide) (show _ = [(3, .int (pk b n (sk b n x))), (2, .int (nI k)), (1, .int (nI 1)), (0, .ref rd)] from rfl) kK) ?_
  refine xe (fun _ _ kK => x_iload_n dX2_readAll_37 rfl 0 rfl kK) ?_
  refine xe (fun _ _ kK => x_iconst dX2_readAll_38 (show _ = (-1) by decide) kK) ?_
  rw [← pStep_sk] at kk
  by_cases hxn : n ≤ sk b n x
  · -- pc 39
    rw [show pk b n (sk b n x) = -1 by rw [pk, if_neg (by omega)]]
    refine xe (fun _ _ kK => x_icmp_neF (tgt := 50) dX2_readAll_39 (by decide) rfl kK) ?_
    refine xe (fun _ _ kK => x_aload_n dX2_readAll_42 rfl 3 rfl kK) ?_
    refine xe_callV (a := rd) [] dX2_readAll_43 ml_X2_40 mf_X2_readEnd hR1.1 (c_X2_readEnd (d + 4) hL1 hR1 hS1 hp hs60 (sk_sk b n x) hxn hP1 hV) rfl rfl (Nat.le_of_ble_eq_true rfl) (Nat.le_of_ble_eq_true rfl) ?_
    intro r9 T9 h9
    obtain ⟨v9, rfl, hv9⟩ := StepP.v h9
    refine xe (fun _ _ kK => x_istore_n dX2_readAll_46 rfl (by decide) (show _ = [(1, .int v9), (3, .int (-1)), (2, .int (nI k)), (0, .ref rd)] from rfl) kK) ?_
    refine xe (fun _ _ kK => x_goto (tgt := 68) dX2_readAll_47 (by decide) kK) ?_
    exact xe_loc (by simp) (kk v9 T9 (hTr h9))
  · -- pc 39
    have hpk : pk b n (sk b n x) = nI (b (sk b n x)) := by rw [pk, if_pos (by omega)]
    have hb9 := hB (sk b n x) (by omega)
    rw [hpk]
    refine xe (fun _ _ kK => x_icmp_neT (tgt := 50) dX2_readAll_39 (by decide) (nI_m1 (by omega)) kK) ?_
    refine xe (fun _ _ kK => x_iload_n dX2_readAll_50 rfl 0 rfl kK) ?_
    refine xe (fun _ _ kK => x_bipush dX2_readAll_51 (show _ = nI 93 by decide) kK) ?_
    refine xe_icmp_ne (tgt := 63) dX2_readAll_53 (by decide) (fun h21 => ?_) (fun h21 => ?_)
    · -- pc 63
      have h21 := cv_ne (by omega) (by omega) h21
      refine xe (fun _ _ kK => x_aload_n dX2_readAll_63 rfl 3 rfl kK) ?_
      have hst : pStep b n (sk b n x) s gs = (pField b n (sk b n x) s gs).map id some := by have := pStep_field (b := b) (n := n) (p := sk b n x) (s := s) (gs := gs) (by rw [sk_sk]; exact hxn) (by rw [sk_sk]; exact h21); rw [sk_sk] at this; exact this
      rw [hst] at kk
      refine xe_callV (a := rd) [] dX2_readAll_64 ml_X2_47 mf_X2_readField hR1.1 (c_X2_readField (d + 1) hL1 hR1 hS1 hp hs60 (sk_sk b n x) (by omega) hP1 hV) rfl rfl (Nat.le_of_ble_eq_true rfl) (Nat.le_of_ble_eq_true rfl) ?_
      intro r9 T9 h9
      obtain ⟨v9, rfl, hv9⟩ := StepP.v h9
      refine xe (fun _ _ kK => x_istore_n dX2_readAll_67 rfl (by decide) (show _ = [(1, .int v9), (3, .int (nI (b (sk b n x)))), (2, .int (nI k)), (0, .ref rd)] from rfl) kK) ?_
      exact xe_loc (by simp) (kk v9 T9 (hTr h9))
    · -- pc 56
      have h21 := cv_eq (by omega) (by omega) h21
      refine xe (fun _ _ kK => x_aload_n dX2_readAll_56 rfl 3 rfl kK) ?_
      refine xe_callV (a := rd) [] dX2_readAll_57 ml_X2_44 mf_X2_readClose hR1.1 (c_X2_readClose (d + 2) hL1 hR1 hS1 hp hs60 (sk_sk b n x) (by omega) hP1 hV h21) rfl rfl (Nat.le_of_ble_eq_true rfl) (Nat.le_of_ble_eq_true rfl) ?_
      intro r9 T9 h9
      obtain ⟨v9, rfl, hv9⟩ := StepP.v h9
      refine xe (fun _ _ kK => x_goto (tgt := 67) dX2_readAll_60 (by decide) kK) ?_
      refine xe (fun _ _ kK => x_istore_n dX2_readAll_67 rfl (by decide) (show _ = [(1, .int v9), (3, .int (nI (b (sk b n x)))), (2, .int (nI k)), (0, .ref rd)] from rfl) kK) ?_
      exact xe_loc (by simp) (kk v9 T9 (hTr h9))
