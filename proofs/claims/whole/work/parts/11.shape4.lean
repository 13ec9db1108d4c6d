theorem cv_le0 {a : Nat} (ha : a < 2 ^ 31) (h : nI a ≤ 0) : a = 0 := by
  have := cv_le (b := 0) ha (by omega) (by rw [← nI_0] at h; exact h)
  omega
theorem cv_gt0 {a : Nat} (ha : a < 2 ^ 31) (h : ¬ nI a ≤ 0) : 0 < a := by
  have := cv_nle ha (show 0 < 2 ^ 31 by omega) (by rw [← nI_0] at h; exact h)
  exact this
theorem cv_gt0b {a : Nat} (ha : a < 2 ^ 31) (h : 0 < nI a) : 0 < a := cv_lt (show 0 < 2 ^ 31 by omega) ha (by rw [← nI_0] at h; exact h)
theorem cv_le0b {a : Nat} (ha : a < 2 ^ 31) (h : ¬ 0 < nI a) : a = 0 := by
  have := cv_nlt (show 0 < 2 ^ 31 by omega) ha (by rw [← nI_0] at h; exact h)
  omega
/-! the reader goes on -/
theorem wd_len {b : Nat → Nat} {n q v : Nat} (h : wd b q (we b n q) = some v) (hv : 729 ≤ v) : q + 3 ≤ we b n q := by
  have h0 := we_ge b n q
  rcases Nat.lt_or_ge (we b n q) (q + 3) with z | z
  · exfalso
    have h1 : wc b q (we b n q) = v := by
      unfold wd at h
      split at h
      · cases h
      · cases h; rfl
    have h2 := wc_lt (b := b) (p := q) (we b n q - q) (fun j a c => we_letters (n := n) _ q rfl j a (by omega))
    rw [show q + (we b n q - q) = we b n q by omega, h1] at h2
    have h3 : 27 ^ (we b n q - q) ≤ 27 ^ 2 := Nat.pow_le_pow_right (by omega) (by omega)
    have h4 : 27 ^ 2 = 729 := by decide
    omega
  · exact z
theorem mkOf_some {o : Option Nat} {m : Nat} (h : mkOf o = some m) : m ≤ 2 ∧ ∃ v, o = some v ∧ 729 ≤ v := by
  unfold mkOf at h
  split at h
  · rename_i z; cases h; exact ⟨by omega, _, z, by decide⟩
  · split at h
    · rename_i z; cases h; exact ⟨by omega, _, z, by decide⟩
    · split at h
      · rename_i z; cases h; exact ⟨by omega, _, z, by decide⟩
      · cases h
theorem kdOf_some {o : Option Nat} {m : Nat} (h : kdOf o = some m) : m ≤ 1 ∧ ∃ v, o = some v ∧ 729 ≤ v := by
  unfold kdOf at h
  split at h
  · rename_i z; cases h; exact ⟨by omega, _, z, by decide⟩
  · split at h
    · rename_i z; cases h; exact ⟨by omega, _, z, by decide⟩
    · cases h
theorem pMark_ok {b : Nat → Nat} {n p m p' : Nat} (hp : p ≤ n) (h : pMark b n p = .inr (m, p')) : p + 4 ≤ p' ∧ p' ≤ n ∧ m ≤ 2 := by
  unfold pMark at h
  split at h
  · cases h
  · cases hm : mkOf (wd b (sk b n p) (we b n (sk b n p))) with
    | none => rw [hm] at h; cases h
    | some k =>
      rw [hm] at h
      dsimp only at h
      split at h
      · rename_i z
        cases h
        obtain ⟨h1, v, h2, h3⟩ := mkOf_some hm
        have h4 := wd_len h2 h3
        have h5 := sk_ge b n p
        have h6 := sk_ge b n (we b n (sk b n p))
        exact ⟨by omega, by omega, h1⟩
      · cases h
theorem pField_ok {b : Nat → Nat} {n q p' : Nat} {s s' : Sh} {gs gs' : List Nat} (hpi : PI n q s gs) (h : pField b n q s gs = .inr (p', s', gs')) : PI n p' s' gs' ∧ q < p' := by
  obtain ⟨h1, h2, h3, h4, h5, h6, h7, h8, h9⟩ := hpi
  unfold pField at h
  have e0 := we_ge b n q
  have e1 := we_n (b := b) h1
  have e2 := sk_ge b n (we b n q)
  have e3 := sk_n (b := b) e1
  split at h
  · cases h
  rename_i z1
  split at h
  · cases h
  rename_i z2
  have hv := wc_lt8 (b := b) (n := n) (q := q) (by omega)
  split at h
  · cases h
  split at h
  · cases h
  split at h
  · rename_i z3
    split at h
    · cases h
    rename_i z4
    cases h
    refine ⟨⟨by omega, h2, ?_, ?_, h5, ?_, ?_, ?_, ?_⟩, by omega⟩
    · show 7 * (s.1 + 1) ≤ sk b n (we b n q) + 1 + 5 * (gs.length + 1); omega
    · show gs.length + 1 ≤ 4; omega
    · intro g hg
      show g < s.1 + 1
      rcases List.mem_cons.mp hg with rfl | hg
      · omega
      · have := h6 g hg; omega
    · intro f hf
      show va_up s.2.2.2.1 s.1 _ f < _
      unfold va_up
      split
      · exact hv
      · have hf' : f < s.1 + 1 := hf; exact h7 f (by omega)
    · intro f g hf hw
      have hf' : f < s.1 + 1 := hf
      have hw' : va_up s.2.2.1 s.1 gs.head? f = some g := hw
      unfold va_up at hw'
      split at hw'
      · rename_i z; rw [z]; exact h6 g (List.mem_of_mem_head? hw')
      · exact h8 f g (by omega) hw'
    · exact List.pairwise_cons.mpr ⟨h6, h9⟩
  split at h
  · cases h
  rename_i z5
  cases hk : kdOf (wd b (sk b n (we b n q)) (we b n (sk b n (we b n q)))) with
  | none => rw [hk] at h; cases h
  | some kd =>
    rw [hk] at h
    dsimp only at h
    split at h
    · cases h
    rename_i z6
    cases hm : pMark b n (we b n (sk b n (we b n q))) with
    | inl x => rw [hm] at h; cases h
    | inr y =>
      obtain ⟨m, p2⟩ := y
      rw [hm] at h
      cases h
      obtain ⟨-, v, k2, k3⟩ := kdOf_some hk
      have k4 := wd_len k2 k3
      have e4 := we_n (b := b) e3
      obtain ⟨m1, m2, m3⟩ := pMark_ok e4 hm
      -- a blank between name and kind
      have e5 : we b n q + 1 ≤ sk b n (we b n q) := by
        rcases Nat.eq_or_lt_of_le e2 with z | z
        · exfalso
          have y1 : isL (b (sk b n (we b n q))) = true := we_letters (n := n) _ _ rfl _ (Nat.le_refl _) (by omega)
          have y2 : we b n q < n := by omega
          have y3 := we_end (b := b) (n := n) _ q rfl y2
          rw [z, y1] at y3
          cases y3
        · exact z
      refine ⟨⟨m2, h2, ?_, h4, ?_, ?_, ?_, ?_, h9⟩, by omega⟩
      · show 7 * (s.1 + 1) ≤ p' + 5 * gs.length; omega
      · show s.2.1 + 1 ≤ 12; omega
      · intro g hg
        show g < s.1 + 1
        have := h6 g hg; omega
      · intro f hf
        show va_up s.2.2.2.1 s.1 _ f < _
        unfold va_up
        split
        · exact hv
        · have hf' : f < s.1 + 1 := hf; exact h7 f (by omega)
      · intro f g hf hw
        have hf' : f < s.1 + 1 := hf
        have hw' : va_up s.2.2.1 s.1 gs.head? f = some g := hw
        unfold va_up at hw'
        split at hw'
        · rename_i z; rw [z]; exact h6 g (List.mem_of_mem_head? hw')
        · exact h8 f g (by omega) hw'
theorem PI.mv {n p q : Nat} {s : Sh} {gs : List Nat} (h : PI n p s gs) (h1 : p ≤ q) (h2 : q ≤ n) : PI n q s gs := ⟨h2, h.2.1, by have := h.2.2.1; omega, h.2.2.2⟩
theorem PI.close {n p p' g m : Nat} {s : Sh} {gs : List Nat} (h : PI n p s (g :: gs)) (h1 : p + 5 ≤ p') (h2 : p' ≤ n) : PI n p' (s.1, s.2.1, s.2.2.1, s.2.2.2.1, s.2.2.2.2.1, va_up s.2.2.2.2.2.1 g m, s.2.2.2.2.2.2) gs := by
  obtain ⟨k1, k2, k3, k4, k5, k6, k7, k8, k9⟩ := h
  have k3' : 7 * s.1 ≤ p + 5 * (gs.length + 1) := k3
  have k4' : gs.length + 1 ≤ 4 := k4
  exact ⟨h2, k2, by show 7 * s.1 ≤ p' + 5 * gs.length; omega, by omega, k5, fun x hx => k6 x (List.mem_cons_of_mem _ hx), k7, k8, (List.pairwise_cons.mp k9).2⟩
theorem pStep_field {b : Nat → Nat} {n p : Nat} {s : Sh} {gs : List Nat} (hend : ¬ n ≤ sk b n p) (h93 : ¬ b (sk b n p) = 93) : pStep b n p s gs = (pField b n (sk b n p) s gs).map id some := by
  cases gs with
  | nil => rw [pStep, if_neg hend]
  | cons g gs => rw [pStep, if_neg hend, if_neg h93]
def pNext (b : Nat → Nat) (n f : Nat) (s : Sh) (r : (Nat × Nat) ⊕ Option (Nat × Sh × List Nat)) : (Nat × Nat) ⊕ Sh := match r with
  | .inl x => .inl x
  | .inr none => .inr s
  | .inr (some (p', s', gs')) => pLoop b n f p' s' gs'
theorem pLoop_step {b : Nat → Nat} {n p : Nat} {s : Sh} {gs : List Nat} {r : (Nat × Nat) ⊕ Option (Nat × Sh × List Nat)} (h : pStep b n p s gs = r) (f : Nat) : pLoop b n (f + 1) p s gs = pNext b n f s r := by
  subst h
  rfl
theorem RS_close {T T' : TH} {s : Sh} {g m : Nat} {gs : List Nat} (h : RS T s (g :: gs)) (hg : g < s.1) (hp : (g :: gs).Pairwise (fun x y => y < x)) (r1 : e_i T' 533 88 = e_i T 533 88) (r2 : e_i T' 534 88 = e_i T 534 88) (r3 : e_i T' 542 88 = nI gs.length) (r4 : e_ai T' 95 = e_ai T 95) (r5 : e_al T' 96 = e_al T 96) (r6 : e_ai T' 97 = e_ai T 97) (r7 : ∀ j, e_ai T' 98 j = if j = g then nI m else e_ai T 98 j) (r8 : e_ai T' 99 = e_ai T 99) (r9 : e_ai T' 100 = e_ai T 100) (r10 : e_ai T' 101 = e_ai T 101) :
    RS T' (s.1, s.2.1, s.2.2.1, s.2.2.2.1, s.2.2.2.2.1, va_up s.2.2.2.2.2.1 g m, s.2.2.2.2.2.2) gs := by
  obtain ⟨h1, h2, h3, h4, h5, h6, h7, cn, h8, h9, h10⟩ := h
  refine ⟨r1.trans h1, r2.trans h2, r3, fun f hf => by rw [r4, r5, r6]; exact h4 f hf, fun f hf hn => ?_, fun c hc => by rw [r8]; exact h6 c hc, h7.2.of (fun j _ => by rw [r9]), cn, fun i hi => by rw [r10]; exact h8 i (Nat.le_succ_of_le hi), ⟨fun e => absurd e (h10 _ (Nat.lt_succ_self _)), fun e => ?_⟩, fun i hi => h10 i (Nat.lt_succ_of_lt hi)⟩
  · rw [r7]
    show (if f = g then nI m else e_ai T 98 f) = nI (va_up s.2.2.2.2.2.1 g m f)
    unfold va_up
    by_cases q : f = g
    · simp [q]
    · simp only [q, if_false]
      exact h5 f hf (fun z => by rcases List.mem_cons.mp z with z | z; exact q z; exact hn z)
  · exfalso
    cases gs with
    | nil => have e' : s.1 = 0 := e; omega
    | cons g2 gs2 =>
      have e' : s.1 = g2 + 1 := e
      have := (List.pairwise_cons.mp hp).1 g2 List.mem_cons_self
      omega

set_option maxHeartbeats 4000000 in
theorem l_X8_readsShape (d : Nat) {n : Nat} {b : Nat → Nat} : ∀ (m fu : Nat) (T : TH) (p : Nat) (s : Sh) (gs : List Nat), n - p = m → LX T n b p → RS T s gs → PI n p s gs → n + 1 - p ≤ fu → Xe m_X8_readsShape (d + 4) 31 [(1, .int (nI 1)), (0, .ref 88)] [] T
    (fun r T1 => r = none ∧ FrM fsL asL T T1 ∧ match pLoop b n fu p s gs with
      | .inl (k, q) => EndL T1 k q
      | .inr s' => e_i T1 516 88 = nI 0 ∧ e_i T1 517 88 = e_i T 517 88 ∧ RS T1 s' []) := by
  intro m
  induction m using Nat.strongRecOn with
  | ind m ih =>
    intro fu0 T p s gs hm h hr hpi hfu
    subst hm
    have hp1 := hpi.1
    obtain ⟨fu, rfl⟩ : ∃ fu, fu0 = fu + 1 := ⟨fu0 - 1, by omega⟩
    have hs60 : s.1 ≤ 60 := by have := hpi.2.2.1; have := hpi.2.2.2.1; have := hpi.2.1; omega
    have hq0 := sk_ge b n p
    have hq1 := sk_n (b := b) h.2.2.2.2.1
    have hn4 := hpi.2.1
    have hgl := hpi.2.2.2.1
    refine xe (fun _ _ kK => x_iload_n dX8_readsShape_31 rfl 0 rfl kK) ?_
    refine xe (fun _ _ kK => x_if_eqF (tgt := 180) dX8_readsShape_32 (by decide) (by decide) kK) ?_
    refine xe (fun _ _ kK => x_aload_n dX8_readsShape_35 rfl 1 rfl kK) ?_
    refine xe (fun _ _ kK => x_get dX8_readsShape_36 fl_X8_132 h.1.1 (gvl_i fz_8_4.2.2 (show e_i T 516 88 = nI 0 from h.2.2.2.2.2.2)) kK) ?_
    refine xe (fun _ _ kK => x_if_neF (tgt := 180) dX8_readsShape_39 (by decide) nI_0 kK) ?_
    refine xe (fun _ _ kK => x_aload_n dX8_readsShape_42 rfl 1 rfl kK) ?_
    refine xe_callV (a := 88) [] dX8_readsShape_43 ml_X8_144 mf_X8_next h.1.1 (c_X8_next (d + 3) _ T p n b rfl h.1 h.2.1 h.2.2.1 h.2.2.2.1 h.2.2.2.2.1 h.2.2.2.2.2.1) rfl rfl (Nat.le_of_ble_eq_true rfl) (Nat.le_of_ble_eq_true rfl) ?_
    rintro _ _ ⟨rfl, rfl⟩
    have hL1 : LX (mv T (sk b n p)) n b (sk b n p) := h.mv hq1
    refine xe (fun _ _ kK => x_istore_n dX8_readsShape_46 rfl (by decide) (show _ = [(2, .int (pk b n (sk b n p))), (1, .int (nI 1)), (0, .ref 88)] from rfl) kK) ?_
    refine xe (fun _ _ kK => x_iload_n dX8_readsShape_47 rfl 0 rfl kK) ?_
    refine xe (fun _ _ kK => x_iconst dX8_readsShape_48 (show _ = (-1) by decide) kK) ?_
    by_cases hend : n ≤ sk b n p
    · -- pc 49
      refine xe (fun _ _ kK => x_icmp_neF (tgt := 94) dX8_readsShape_49 (by decide) (show pk b n (sk b n p) = -1 by rw [pk, if_neg (by omega)]) kK) ?_
      refine xe (fun _ _ kK => x_iconst dX8_readsShape_52 (show _ = nI 0 by decide) kK) ?_
      refine xe (fun _ _ kK => x_istore_n dX8_readsShape_53 rfl (by decide) (show _ = [(1, .int (nI 0)), (2, .int (pk b n (sk b n p))), (0, .ref 88)] from rfl) kK) ?_
      refine xe (fun _ _ kK => x_aload_n dX8_readsShape_54 rfl 2 rfl kK) ?_
      refine xe (fun _ _ kK => x_get dX8_readsShape_55 fl_X8_180 (wK_i h.1.1) (gvl_i fz_8_30.2.2 (show e_i (mv T (sk b n p)) 542 88 = nI gs.length from (wi_i (fun q => absurd q.1 (by decide)) hr.2.2.1))) kK) ?_
      refine xe_if_le (tgt := 73) dX8_readsShape_58 (by decide) (fun h58 => ?_) (fun h58 => ?_)
      · -- pc 73
        have h58 := cv_le0 (by omega) h58
        have hgs : gs = [] := List.eq_nil_of_length_eq_zero h58
        subst hgs
        obtain ⟨cn, hcn, hce, -⟩ := hr.2.2.2.2.2.2.2
        obtain ⟨hc1, hc2⟩ := hcn 0 (Nat.le_refl _)
        refine xe (fun _ _ kK => x_aload_n dX8_readsShape_73 rfl 2 rfl kK) ?_
        refine xe (fun _ _ kK => x_get dX8_readsShape_74 fl_X8_71 (wK_i h.1.1) (gvl_r1 fz_8_29.2.2 (show e_r (mv T (sk b n p)) 541 88 = some 101 from (wr_i (h.1.2.1 29)))) kK) ?_
        refine xe (fun _ _ kK => x_iconst dX8_readsShape_77 (show _ = nI 0 by decide) kK) ?_
        refine xe (fun _ _ kK => x_iald dX8_readsShape_78 (wK_i (h.1.2.2.1 12 (by decide))) (show (nI 0) = nI 0 from rfl) (wN_i (mi_len h.1 12 (by decide) (show 0 < 8 by omega))) (show e_ai (mv T (sk b n p)) 101 0 = nI (cn 0) from (wai_i hc1)) kK) ?_
        refine xe_if_ne (tgt := 177) dX8_readsShape_79 (by decide) (fun h79 => ?_) (fun h79 => ?_)
        · -- pc 177
          have h79 := cv_nz (by omega) h79
          have hs1 : s.1 ≠ 0 := fun z => h79 (hce.mpr z)
          refine xe (fun _ _ kK => x_goto (tgt := 31) dX8_readsShape_177 (by decide) kK) ?_
          refine xe (fun _ _ kK => x_iload_n dX8_readsShape_31 rfl 0 rfl kK) ?_
          refine xe (fun _ _ kK => x_if_eqT (tgt := 180) dX8_readsShape_32 (by decide) (by decide) kK) ?_
          exact xe_retv dX8_readsShape_180 rfl (⟨rfl, (FrM.si FrM.rf (by decide) _), by rw [pLoop_step (show pStep b n p s [] = .inr none by rw [pStep, if_pos hend, if_neg (by simp), if_neg hs1])]; exact ⟨(wi_i (fun q => absurd q.1 (by decide)) h.2.2.2.2.2.2), rfl, hr.mv _⟩⟩)
        · -- pc 82
          have h79 := cv_z (by omega) h79
          have hs1 : s.1 = 0 := hce.mp h79
          refine xe (fun _ _ kK => x_aload_n dX8_readsShape_82 rfl 2 rfl kK) ?_
          refine xe (fun _ _ kK => x_iconst dX8_readsShape_83 (show _ = nI 3 by decide) kK) ?_
          refine xe (fun _ _ kK => x_aload_n dX8_readsShape_84 rfl 2 rfl kK) ?_
          refine xe (fun _ _ kK => x_get dX8_readsShape_85 fl_X8_138 (wK_i h.1.1) (gvl_i fz_8_2.2.2 (show e_i (mv T (sk b n p)) 514 88 = nI (sk b n p) from rfl)) kK) ?_
          refine xe_callV (a := 88) [.int (nI 3), .int (nI (sk b n p))] dX8_readsShape_88 ml_X8_148 mf_X8_fail (wK_i h.1.1) (c_X8_fail (d + 3) (T := (mv T (sk b n p))) ((show FrM fsL asL T (mv T (sk b n p)) from (FrM.si FrM.rf (by decide) _)).mi h.1) (wi_i (fun q => absurd q.1 (by decide)) h.2.2.2.2.2.2) (nI 3) (nI (sk b n p))) rfl rfl (Nat.le_of_ble_eq_true rfl) (Nat.le_of_ble_eq_true rfl) ?_
          rintro _ _ ⟨rfl, rfl⟩
          refine xe (fun _ _ kK => x_goto (tgt := 177) dX8_readsShape_91 (by decide) kK) ?_
          refine xe (fun _ _ kK => x_goto (tgt := 31) dX8_readsShape_177 (by decide) kK) ?_
          refine xe (fun _ _ kK => x_iload_n dX8_readsShape_31 rfl 0 rfl kK) ?_
          refine xe (fun _ _ kK => x_if_eqT (tgt := 180) dX8_readsShape_32 (by decide) (by decide) kK) ?_
          exact xe_retv dX8_readsShape_180 rfl (⟨rfl, (FrM.si (FrM.si (FrM.si FrM.rf (by decide) _) (by decide) _) (by decide) _), by rw [pLoop_step (show pStep b n p s [] = .inl (3, sk b n p) by rw [pStep, if_pos hend, if_neg (by simp), if_pos hs1])]; exact ⟨rfl, rfl, by decide, by decide, by omega⟩⟩)
      · -- pc 61
        have h58 := cv_gt0 (by omega) h58
        refine xe (fun _ _ kK => x_aload_n dX8_readsShape_61 rfl 2 rfl kK) ?_
        refine xe (fun _ _ kK => x_iconst dX8_readsShape_62 (show _ = nI 1 by decide) kK) ?_
        refine xe (fun _ _ kK => x_aload_n dX8_readsShape_63 rfl 2 rfl kK) ?_
        refine xe (fun _ _ kK => x_get dX8_readsShape_64 fl_X8_138 (wK_i h.1.1) (gvl_i fz_8_2.2.2 (show e_i (mv T (sk b n p)) 514 88 = nI (sk b n p) from rfl)) kK) ?_
        refine xe_callV (a := 88) [.int (nI 1), .int (nI (sk b n p))] dX8_readsShape_67 ml_X8_148 mf_X8_fail (wK_i h.1.1) (c_X8_fail (d + 3) (T := (mv T (sk b n p))) ((show FrM fsL asL T (mv T (sk b n p)) from (FrM.si FrM.rf (by decide) _)).mi h.1) (wi_i (fun q => absurd q.1 (by decide)) h.2.2.2.2.2.2) (nI 1) (nI (sk b n p))) rfl rfl (Nat.le_of_ble_eq_true rfl) (Nat.le_of_ble_eq_true rfl) ?_
        rintro _ _ ⟨rfl, rfl⟩
        refine xe (fun _ _ kK => x_goto (tgt := 177) dX8_readsShape_70 (by decide) kK) ?_
        refine xe (fun _ _ kK => x_goto (tgt := 31) dX8_readsShape_177 (by decide) kK) ?_
        refine xe (fun _ _ kK => x_iload_n dX8_readsShape_31 rfl 0 rfl kK) ?_
        refine xe (fun _ _ kK => x_if_eqT (tgt := 180) dX8_readsShape_32 (by decide) (by decide) kK) ?_
        exact xe_retv dX8_readsShape_180 rfl (⟨rfl, (FrM.si (FrM.si (FrM.si FrM.rf (by decide) _) (by decide) _) (by decide) _), by rw [pLoop_step (show pStep b n p s gs = .inl (1, sk b n p) by unfold pStep; rw [if_pos hend, if_pos (fun z => by rw [z] at h58; exact absurd h58 (by decide))])]; exact ⟨rfl, rfl, by decide, by decide, by omega⟩⟩)
    · -- pc 49
      have hlt : sk b n p < n := by omega
      have hbq := (h.2.1 _ hlt).2
      have hpk : pk b n (sk b n p) = nI (b (sk b n p)) := by rw [pk, if_pos hlt]
      refine xe (fun _ _ kK => x_icmp_neT (tgt := 94) dX8_readsShape_49 (by decide) (show ¬ pk b n (sk b n p) = -1 by rw [hpk]; exact nI_m1 (by omega)) kK) ?_
      refine xe (fun _ _ kK => x_iload_n dX8_readsShape_94 rfl 0 rfl kK) ?_
      refine xe (fun _ _ kK => x_bipush dX8_readsShape_95 (show _ = nI 93 by decide) kK) ?_
      by_cases h93 : b (sk b n p) = 93
      · -- pc 97
        refine xe (fun _ _ kK => x_icmp_neF (tgt := 173) dX8_readsShape_97 (by decide) (show pk b n (sk b n p) = nI 93 by rw [hpk, h93]) kK) ?_
        refine xe (fun _ _ kK => x_aload_n dX8_readsShape_100 rfl 2 rfl kK) ?_
        refine xe (fun _ _ kK => x_get dX8_readsShape_101 fl_X8_180 (wK_i h.1.1) (gvl_i fz_8_30.2.2 (show e_i (mv T (sk b n p)) 542 88 = nI gs.length from (wi_i (fun q => absurd q.1 (by decide)) hr.2.2.1))) kK) ?_
        refine xe_if_le (tgt := 173) dX8_readsShape_104 (by decide) (fun h104 => ?_) (fun h104 => ?_)
        · -- pc 173
          have h104 := cv_le0 (by omega) h104
          have hgs : gs = [] := List.eq_nil_of_length_eq_zero h104
          subst hgs
          refine xe (fun _ _ kK => x_aload_n dX8_readsShape_173 rfl 2 rfl kK) ?_
          refine xe_callV (a := 88) [] dX8_readsShape_174 ml_X8_192 mf_X8_field (wK_i h.1.1) (c_X8_field d hL1 (sk_sk b n p) (hr.mv _) (hpi.mv hq0 hq1)) rfl rfl (Nat.le_of_ble_eq_true rfl) (Nat.le_of_ble_eq_true rfl) ?_
          rintro _ T9 ⟨rfl, hF9, hP9⟩
          cases hpf : pField b n (sk b n p) s [] with
          | inl x9 =>
            obtain ⟨k9, q9⟩ := x9
            rw [hpf] at hP9
            obtain ⟨g1, g2, g3, g4, g5⟩ := hP9
            refine xe (fun _ _ kK => x_goto (tgt := 31) dX8_readsShape_177 (by decide) kK) ?_
            refine xe (fun _ _ kK => x_iload_n dX8_readsShape_31 rfl 1 rfl kK) ?_
            refine xe (fun _ _ kK => x_if_eqF (tgt := 180) dX8_readsShape_32 (by decide) (by decide) kK) ?_
            refine xe (fun _ _ kK => x_aload_n dX8_readsShape_35 rfl 2 rfl kK) ?_
            refine xe (fun _ _ kK => x_get dX8_readsShape_36 fl_X8_132 (hF9.mi h.1).1 (gvl_i fz_8_4.2.2 (show e_i T9 516 88 = nI k9 from g1)) kK) ?_
            refine xe (fun _ _ kK => x_if_neT (tgt := 180) dX8_readsShape_39 (by decide) (fun z9 => by have := cv_z (by omega) z9; omega) kK) ?_
            exact xe_retv dX8_readsShape_180 rfl (⟨rfl, FrM.tr (FrM.si FrM.rf (by decide) _) hF9, by rw [pLoop_step (show pStep b n p s [] = .inl (k9, q9) by rw [pStep, if_neg hend]; rw [hpf]; rfl)]; exact ⟨g1, g2, g3, g4, g5⟩⟩)
          | inr y9 =>
            obtain ⟨p9, s9, gs9⟩ := y9
            rw [hpf] at hP9
            obtain ⟨g1, g2, g3⟩ := hP9
            obtain ⟨j1, j2⟩ := pField_ok (hpi.mv hq0 hq1) hpf
            refine xe (fun _ _ kK => x_goto (tgt := 31) dX8_readsShape_177 (by decide) kK) ?_
            refine Xe.imp (xe_loc (by simp) (ih (n - p9) (by have := j1.1; omega) fu T9 p9 s9 gs9 rfl g1 g2 j1 (by omega))) ?_
            rintro _ T8 ⟨rfl, u1, u2⟩
            refine ⟨rfl, FrM.tr (FrM.tr (FrM.si FrM.rf (by decide) _) hF9) u1, ?_⟩
            rw [pLoop_step (show pStep b n p s [] = .inr (some (p9, s9, gs9)) by rw [pStep, if_neg hend]; rw [hpf]; rfl)]
            dsimp only [pNext]
            cases hpl : pLoop b n fu p9 s9 gs9 with
            | inl x8 => rw [hpl] at u2; exact u2
            | inr x8 => rw [hpl] at u2; exact ⟨u2.1, u2.2.1.trans g3, u2.2.2⟩
        · -- pc 107
          have h104 := cv_gt0 (by omega) h104
          cases gs with
          | nil => exact absurd h104 (by decide)
          | cons g9 gs9 =>
            have hd9 : (g9 :: gs9).length = gs9.length + 1 := rfl
            obtain ⟨cn, hcn, hce, -⟩ := hr.2.2.2.2.2.2.2
            obtain ⟨hc1, hc2⟩ := hcn (gs9.length + 1) (Nat.le_refl _)
            have hp4 := hpi.2.2.2.1
            have hp3 := hpi.2.2.1
            have hg9 := hpi.2.2.2.2.2.1 g9 List.mem_cons_self
            rw [hd9] at hp4 hp3
            refine xe (fun _ _ kK => x_aload_n dX8_readsShape_107 rfl 2 rfl kK) ?_
            refine xe (fun _ _ kK => x_get dX8_readsShape_108 fl_X8_71 (wK_i h.1.1) (gvl_r1 fz_8_29.2.2 (show e_r (mv T (sk b n p)) 541 88 = some 101 from (wr_i (h.1.2.1 29)))) kK) ?_
            refine xe (fun _ _ kK => x_aload_n dX8_readsShape_111 rfl 2 rfl kK) ?_
            refine xe (fun _ _ kK => x_get dX8_readsShape_112 fl_X8_180 (wK_i h.1.1) (gvl_i fz_8_30.2.2 (show e_i (mv T (sk b n p)) 542 88 = nI (gs9.length + 1) from (wi_i (fun q => absurd q.1 (by decide)) hr.2.2.1))) kK) ?_
            refine xe (fun _ _ kK => x_iald dX8_readsShape_115 (wK_i (h.1.2.2.1 12 (by decide))) (show (nI (gs9.length + 1)) = nI (gs9.length + 1) from rfl) (wN_i (mi_len h.1 12 (by decide) (show gs9.length + 1 < 8 by omega))) (show e_ai (mv T (sk b n p)) 101 (gs9.length + 1) = nI (cn (gs9.length + 1)) from (wai_i hc1)) kK) ?_
            refine xe_if_ne (tgt := 128) dX8_readsShape_116 (by decide) (fun h116 => ?_) (fun h116 => ?_)
            · -- pc 128
              have h116 := cv_nz (by omega) h116
              have hs1 : ¬ s.1 = g9 + 1 := fun z => h116 (hce.mpr z)
              refine xe (fun _ _ kK => x_aload_n dX8_readsShape_128 rfl 2 rfl kK) ?_
              refine xe (fun _ _ kK => x_dup dX8_readsShape_129 rfl kK) ?_
              refine xe (fun _ _ kK => x_get dX8_readsShape_130 fl_X8_138 (wK_i h.1.1) (gvl_i fz_8_2.2.2 (show e_i (mv T (sk b n p)) 514 88 = nI (sk b n p) from rfl)) kK) ?_
              refine xe (fun _ _ kK => x_iconst dX8_readsShape_133 (show _ = nI 1 by decide) kK) ?_
              refine xe (fun _ _ kK => x_iadd dX8_readsShape_134 kK) ?_
              refine xe_ti (show _ = nI ((sk b n p) + 1) from nI_add (sk b n p) 1) ?_
              refine xe (fun _ _ kK => x_puti dX8_readsShape_135 ⟨fl_X8_138, fz_8_2.1, fz_8_2.2.1⟩ (Or.inl fz_8_2.2.2) rfl rfl (wK_i h.1.1) kK) ?_
              refine xe (fun _ _ kK => x_aload_n dX8_readsShape_138 rfl 2 rfl kK) ?_
              refine xe (fun _ _ kK => x_get dX8_readsShape_139 fl_X8_68 (wK_i (wK_i h.1.1)) (gvl_r1 fz_8_28.2.2 (show e_r (s_i (mv T (sk b n p)) 514 88 (nI ((sk b n p) + 1))) 540 88 = some 100 from (wr_i (wr_i (h.1.2.1 28))))) kK) ?_
              refine xe (fun _ _ kK => x_aload_n dX8_readsShape_142 rfl 2 rfl kK) ?_
              refine xe (fun _ _ kK => x_get dX8_readsShape_143 fl_X8_180 (wK_i (wK_i h.1.1)) (gvl_i fz_8_30.2.2 (show e_i (s_i (mv T (sk b n p)) 514 88 (nI ((sk b n p) + 1))) 542 88 = nI (gs9.length + 1) from (wi_i (fun q => absurd q.1 (by decide)) (wi_i (fun q => absurd q.1 (by decide)) hr.2.2.1)))) kK) ?_
              refine xe (fun _ _ kK => x_iald dX8_readsShape_146 (wK_i (wK_i (h.1.2.2.1 11 (by decide)))) (show (nI (gs9.length + 1)) = nI (gs9.length + 1) from rfl) (wN_i (wN_i (mi_len h.1 11 (by decide) (show gs9.length + 1 < 8 by omega)))) (show e_ai (s_i (mv T (sk b n p)) 514 88 (nI ((sk b n p) + 1))) 100 (gs9.length + 1) = nI g9 from (wai_i (wai_i hr.2.2.2.2.2.2.1.1))) kK) ?_
              refine xe (fun _ _ kK => x_istore_n dX8_readsShape_147 rfl (by decide) (show _ = [(3, .int (nI g9)), (2, .int (pk b n (sk b n p))), (1, .int (nI 1)), (0, .ref 88)] from rfl) kK) ?_
              refine xe (fun _ _ kK => x_aload_n dX8_readsShape_148 rfl 3 rfl kK) ?_
              refine xe (fun _ _ kK => x_dup dX8_readsShape_149 rfl kK) ?_
              refine xe (fun _ _ kK => x_get dX8_readsShape_150 fl_X8_180 (wK_i (wK_i h.1.1)) (gvl_i fz_8_30.2.2 (show e_i (s_i (mv T (sk b n p)) 514 88 (nI ((sk b n p) + 1))) 542 88 = nI (gs9.length + 1) from (wi_i (fun q => absurd q.1 (by decide)) (wi_i (fun q => absurd q.1 (by decide)) hr.2.2.1)))) kK) ?_
              refine xe (fun _ _ kK => x_iconst dX8_readsShape_153 (show _ = nI 1 by decide) kK) ?_
              refine xe (fun _ _ kK => x_isub dX8_readsShape_154 kK) ?_
              refine xe_ti (show _ = nI ((gs9.length + 1) - 1) from pk_sub (by omega)) ?_
              refine xe (fun _ _ kK => x_puti dX8_readsShape_155 ⟨fl_X8_180, fz_8_30.1, fz_8_30.2.1⟩ (Or.inl fz_8_30.2.2) rfl rfl (wK_i (wK_i h.1.1)) kK) ?_
              refine xe (fun _ _ kK => x_aload_n dX8_readsShape_158 rfl 3 rfl kK) ?_
              refine xe (fun _ _ kK => x_get dX8_readsShape_159 fl_X8_132 (wK_i (wK_i (wK_i h.1.1))) (gvl_i fz_8_4.2.2 (show e_i (s_i (s_i (mv T (sk b n p)) 514 88 (nI ((sk b n p) + 1))) 542 88 (nI ((gs9.length + 1) - 1))) 516 88 = nI 0 from (wi_i (fun q => absurd q.1 (by decide)) (wi_i (fun q => absurd q.1 (by decide)) (wi_i (fun q => absurd q.1 (by decide)) h.2.2.2.2.2.2))))) kK) ?_
              refine xe (fun _ _ kK => x_if_neF (tgt := 170) dX8_readsShape_162 (by decide) nI_0 kK) ?_
              refine xe (fun _ _ kK => x_aload_n dX8_readsShape_165 rfl 3 rfl kK) ?_
              refine xe (fun _ _ kK => x_iload_n dX8_readsShape_166 rfl 0 rfl kK) ?_
              have hsub : nI (gs9.length + 1 - 1) = nI gs9.length := rfl
              have hL5 : LX (s_i (s_i (mv T (sk b n p)) 514 88 (nI ((sk b n p) + 1))) 542 88 (nI ((gs9.length + 1) - 1))) n b (sk b n p + 1) := (LX.of h (FrM.si (FrM.si (FrM.si FrM.rf (by decide) _) (by decide) _) (by decide) _) rfl (by omega) (wi_i (fun q => absurd q.1 (by decide)) (wi_i (fun q => absurd q.1 (by decide)) (wi_i (fun q => absurd q.1 (by decide)) h.2.2.2.2.2.2))))
              refine xe_callV (a := 88) [.int (nI g9)] dX8_readsShape_167 ml_X8_189 mf_X8_marks (wK_i (wK_i (wK_i h.1.1))) (c_X8_marks (d + 1) hL5 (f := g9) (by omega)) rfl rfl (Nat.le_of_ble_eq_true rfl) (Nat.le_of_ble_eq_true rfl) ?_
              rintro _ T9 ⟨rfl, hF9, hP9⟩
              cases hpm : pMark b n (sk b n p + 1) with
              | inl x9 =>
                obtain ⟨k9, q9⟩ := x9
                rw [hpm] at hP9
                obtain ⟨g1, g2, g3, g4, g5⟩ := hP9
                refine xe (fun _ _ kK => x_goto (tgt := 177) dX8_readsShape_170 (by decide) kK) ?_
                refine xe (fun _ _ kK => x_goto (tgt := 31) dX8_readsShape_177 (by decide) kK) ?_
                refine xe (fun _ _ kK => x_iload_n dX8_readsShape_31 rfl 2 rfl kK) ?_
                refine xe (fun _ _ kK => x_if_eqF (tgt := 180) dX8_readsShape_32 (by decide) (by decide) kK) ?_
                refine xe (fun _ _ kK => x_aload_n dX8_readsShape_35 rfl 3 rfl kK) ?_
                refine xe (fun _ _ kK => x_get dX8_readsShape_36 fl_X8_132 (hF9.mi hL5.1).1 (gvl_i fz_8_4.2.2 (show e_i T9 516 88 = nI k9 from g1)) kK) ?_
                refine xe (fun _ _ kK => x_if_neT (tgt := 180) dX8_readsShape_39 (by decide) (fun z9 => by have := cv_z (by omega) z9; omega) kK) ?_
                exact xe_retv dX8_readsShape_180 rfl (⟨rfl, FrM.tr (FrM.si (FrM.si (FrM.si FrM.rf (by decide) _) (by decide) _) (by decide) _) hF9, by rw [pLoop_step (show pStep b n p s (g9 :: gs9) = .inl (k9, q9) by rw [pStep, if_neg hend, if_pos h93, if_neg hs1, hpm])]; exact ⟨g1, g2, g3, g4, g5⟩⟩)
              | inr y9 =>
                obtain ⟨m9, p9⟩ := y9
                rw [hpm] at hP9
                obtain ⟨rfl, hP8⟩ := hP9
                obtain ⟨j1, j2, j3⟩ := pMark_ok (by omega) hpm
                refine xe (fun _ _ kK => x_goto (tgt := 177) dX8_readsShape_170 (by decide) kK) ?_
                refine xe (fun _ _ kK => x_goto (tgt := 31) dX8_readsShape_177 (by decide) kK) ?_
                have hL6 : LX (mv (s_ai (s_i (s_i (mv T (sk b n p)) 514 88 (nI ((sk b n p) + 1))) 542 88 (nI ((gs9.length + 1) - 1))) 98 g9 (nI m9)) p9) n b p9 := (LX.of h (FrM.si (FrM.sai (FrM.si (FrM.si (FrM.si FrM.rf (by decide) _) (by decide) _) (by decide) _) (by decide) _ _) (by decide) _) rfl hP8 (wi_i (fun q => absurd q.1 (by decide)) (wi_ai (wi_i (fun q => absurd q.1 (by decide)) (wi_i (fun q => absurd q.1 (by decide)) (wi_i (fun q => absurd q.1 (by decide)) h.2.2.2.2.2.2))))))
                have hR6 : RS (mv (s_ai (s_i (s_i (mv T (sk b n p)) 514 88 (nI ((sk b n p) + 1))) 542 88 (nI ((gs9.length + 1) - 1))) 98 g9 (nI m9)) p9) (s.1, s.2.1, s.2.2.1, s.2.2.2.1, s.2.2.2.2.1, va_up s.2.2.2.2.2.1 g9 m9, s.2.2.2.2.2.2) gs9 := RS_close hr hg9 hpi.2.2.2.2.2.2.2.2 rfl rfl rfl rfl rfl rfl (fun j => by simp [q_i_i, q_i_ai, q_i_al, q_ai_ai, q_ai_i, q_ai_al, q_al_al, q_al_i, q_al_ai]) rfl rfl rfl
                have hI6 := (hpi.mv hq0 hq1).close (m := m9) (p' := p9) (by omega) hP8
                refine Xe.imp (xe_loc (by simp) (ih (n - p9) (by omega) fu _ p9 _ gs9 rfl hL6 hR6 hI6 (by omega))) ?_
                rintro _ T8 ⟨rfl, u1, u2⟩
                refine ⟨rfl, FrM.tr (FrM.si (FrM.sai (FrM.si (FrM.si (FrM.si FrM.rf (by decide) _) (by decide) _) (by decide) _) (by decide) _ _) (by decide) _) u1, ?_⟩
                rw [pLoop_step (show pStep b n p s (g9 :: gs9) = .inr (some (p9, (s.1, s.2.1, s.2.2.1, s.2.2.2.1, s.2.2.2.2.1, va_up s.2.2.2.2.2.1 g9 m9, s.2.2.2.2.2.2), gs9)) by rw [pStep, if_neg hend, if_pos h93, if_neg hs1, hpm])]
                dsimp only [pNext]
                cases hpl : pLoop b n fu p9 (s.1, s.2.1, s.2.2.1, s.2.2.2.1, s.2.2.2.2.1, va_up s.2.2.2.2.2.1 g9 m9, s.2.2.2.2.2.2) gs9 with
                | inl x8 => rw [hpl] at u2; exact u2
                | inr x8 => rw [hpl] at u2; exact ⟨u2.1, u2.2.1.trans (wi_i (fun q => absurd q.1 (by decide)) (wi_ai (wi_i (fun q => absurd q.1 (by decide)) (wi_i (fun q => absurd q.1 (by decide)) (wi_i (fun q => absurd q.1 (by decide)) rfl))))), u2.2.2⟩
            · -- pc 119
              have h116 := cv_z (by omega) h116
              have hs1 : s.1 = g9 + 1 := hce.mp h116
              refine xe (fun _ _ kK => x_aload_n dX8_readsShape_119 rfl 2 rfl kK) ?_
              refine xe (fun _ _ kK => x_iconst dX8_readsShape_120 (show _ = nI 3 by decide) kK) ?_
              refine xe (fun _ _ kK => x_aload_n dX8_readsShape_121 rfl 2 rfl kK) ?_
              refine xe (fun _ _ kK => x_get dX8_readsShape_122 fl_X8_138 (wK_i h.1.1) (gvl_i fz_8_2.2.2 (show e_i (mv T (sk b n p)) 514 88 = nI (sk b n p) from rfl)) kK) ?_
              refine xe_callV (a := 88) [.int (nI 3), .int (nI (sk b n p))] dX8_readsShape_125 ml_X8_148 mf_X8_fail (wK_i h.1.1) (c_X8_fail (d + 3) (T := (mv T (sk b n p))) ((show FrM fsL asL T (mv T (sk b n p)) from (FrM.si FrM.rf (by decide) _)).mi h.1) (wi_i (fun q => absurd q.1 (by decide)) h.2.2.2.2.2.2) (nI 3) (nI (sk b n p))) rfl rfl (Nat.le_of_ble_eq_true rfl) (Nat.le_of_ble_eq_true rfl) ?_
              rintro _ _ ⟨rfl, rfl⟩
              refine xe (fun _ _ kK => x_aload_n dX8_readsShape_128 rfl 2 rfl kK) ?_
              refine xe (fun _ _ kK => x_dup dX8_readsShape_129 rfl kK) ?_
              refine xe (fun _ _ kK => x_get dX8_readsShape_130 fl_X8_138 (wK_i (wK_i (wK_i h.1.1))) (gvl_i fz_8_2.2.2 (show e_i (flk (mv T (sk b n p)) 3 (sk b n p)) 514 88 = nI (sk b n p) from rfl)) kK) ?_
              refine xe (fun _ _ kK => x_iconst dX8_readsShape_133 (show _ = nI 1 by decide) kK) ?_
              refine xe (fun _ _ kK => x_iadd dX8_readsShape_134 kK) ?_
              refine xe_ti (show _ = nI ((sk b n p) + 1) from nI_add (sk b n p) 1) ?_
              refine xe (fun _ _ kK => x_puti dX8_readsShape_135 ⟨fl_X8_138, fz_8_2.1, fz_8_2.2.1⟩ (Or.inl fz_8_2.2.2) rfl rfl (wK_i (wK_i (wK_i h.1.1))) kK) ?_
              refine xe (fun _ _ kK => x_aload_n dX8_readsShape_138 rfl 2 rfl kK) ?_
              refine xe (fun _ _ kK => x_get dX8_readsShape_139 fl_X8_68 (wK_i (wK_i (wK_i (wK_i h.1.1)))) (gvl_r1 fz_8_28.2.2 (show e_r (s_i (flk (mv T (sk b n p)) 3 (sk b n p)) 514 88 (nI ((sk b n p) + 1))) 540 88 = some 100 from (wr_i (wr_i (wr_i (wr_i (h.1.2.1 28))))))) kK) ?_
              refine xe (fun _ _ kK => x_aload_n dX8_readsShape_142 rfl 2 rfl kK) ?_
              refine xe (fun _ _ kK => x_get dX8_readsShape_143 fl_X8_180 (wK_i (wK_i (wK_i (wK_i h.1.1)))) (gvl_i fz_8_30.2.2 (show e_i (s_i (flk (mv T (sk b n p)) 3 (sk b n p)) 514 88 (nI ((sk b n p) + 1))) 542 88 = nI (gs9.length + 1) from (wi_i (fun q => absurd q.1 (by decide)) (wi_i (fun q => absurd q.1 (by decide)) (wi_i (fun q => absurd q.1 (by decide)) (wi_i (fun q => absurd q.1 (by decide)) hr.2.2.1)))))) kK) ?_
              refine xe (fun _ _ kK => x_iald dX8_readsShape_146 (wK_i (wK_i (wK_i (wK_i (h.1.2.2.1 11 (by decide)))))) (show (nI (gs9.length + 1)) = nI (gs9.length + 1) from rfl) (wN_i (wN_i (wN_i (wN_i (mi_len h.1 11 (by decide) (show gs9.length + 1 < 8 by omega)))))) (show e_ai (s_i (flk (mv T (sk b n p)) 3 (sk b n p)) 514 88 (nI ((sk b n p) + 1))) 100 (gs9.length + 1) = nI g9 from (wai_i (wai_i (wai_i (wai_i hr.2.2.2.2.2.2.1.1))))) kK) ?_
              refine xe (fun _ _ kK => x_istore_n dX8_readsShape_147 rfl (by decide) (show _ = [(3, .int (nI g9)), (2, .int (pk b n (sk b n p))), (1, .int (nI 1)), (0, .ref 88)] from rfl) kK) ?_
              refine xe (fun _ _ kK => x_aload_n dX8_readsShape_148 rfl 3 rfl kK) ?_
              refine xe (fun _ _ kK => x_dup dX8_readsShape_149 rfl kK) ?_
              refine xe (fun _ _ kK => x_get dX8_readsShape_150 fl_X8_180 (wK_i (wK_i (wK_i (wK_i h.1.1)))) (gvl_i fz_8_30.2.2 (show e_i (s_i (flk (mv T (sk b n p)) 3 (sk b n p)) 514 88 (nI ((sk b n p) + 1))) 542 88 = nI (gs9.length + 1) from (wi_i (fun q => absurd q.1 (by decide)) (wi_i (fun q => absurd q.1 (by decide)) (wi_i (fun q => absurd q.1 (by decide)) (wi_i (fun q => absurd q.1 (by decide)) hr.2.2.1)))))) kK) ?_
              refine xe (fun _ _ kK => x_iconst dX8_readsShape_153 (show _ = nI 1 by decide) kK) ?_
              refine xe (fun _ _ kK => x_isub dX8_readsShape_154 kK) ?_
              refine xe_ti (show _ = nI ((gs9.length + 1) - 1) from pk_sub (by omega)) ?_
              refine xe (fun _ _ kK => x_puti dX8_readsShape_155 ⟨fl_X8_180, fz_8_30.1, fz_8_30.2.1⟩ (Or.inl fz_8_30.2.2) rfl rfl (wK_i (wK_i (wK_i (wK_i h.1.1)))) kK) ?_
              refine xe (fun _ _ kK => x_aload_n dX8_readsShape_158 rfl 3 rfl kK) ?_
              refine xe (fun _ _ kK => x_get dX8_readsShape_159 fl_X8_132 (wK_i (wK_i (wK_i (wK_i (wK_i h.1.1))))) (gvl_i fz_8_4.2.2 (show e_i (s_i (s_i (flk (mv T (sk b n p)) 3 (sk b n p)) 514 88 (nI ((sk b n p) + 1))) 542 88 (nI ((gs9.length + 1) - 1))) 516 88 = nI 3 from rfl)) kK) ?_
              refine xe (fun _ _ kK => x_if_neT (tgt := 170) dX8_readsShape_162 (by decide) (by decide) kK) ?_
              refine xe (fun _ _ kK => x_goto (tgt := 177) dX8_readsShape_170 (by decide) kK) ?_
              refine xe (fun _ _ kK => x_goto (tgt := 31) dX8_readsShape_177 (by decide) kK) ?_
              refine xe (fun _ _ kK => x_iload_n dX8_readsShape_31 rfl 2 rfl kK) ?_
              refine xe (fun _ _ kK => x_if_eqF (tgt := 180) dX8_readsShape_32 (by decide) (by decide) kK) ?_
              refine xe (fun _ _ kK => x_aload_n dX8_readsShape_35 rfl 3 rfl kK) ?_
              refine xe (fun _ _ kK => x_get dX8_readsShape_36 fl_X8_132 (wK_i (wK_i (wK_i (wK_i (wK_i h.1.1))))) (gvl_i fz_8_4.2.2 (show e_i (s_i (s_i (flk (mv T (sk b n p)) 3 (sk b n p)) 514 88 (nI ((sk b n p) + 1))) 542 88 (nI ((gs9.length + 1) - 1))) 516 88 = nI 3 from rfl)) kK) ?_
              refine xe (fun _ _ kK => x_if_neT (tgt := 180) dX8_readsShape_39 (by decide) (by decide) kK) ?_
              exact xe_retv dX8_readsShape_180 rfl (⟨rfl, (FrM.si (FrM.si (FrM.si (FrM.si (FrM.si FrM.rf (by decide) _) (by decide) _) (by decide) _) (by decide) _) (by decide) _), by rw [pLoop_step (show pStep b n p s (g9 :: gs9) = .inl (3, sk b n p) by rw [pStep, if_neg hend, if_pos h93, if_pos hs1])]; exact ⟨rfl, rfl, by decide, by decide, by omega⟩⟩)
      · -- pc 97
        refine xe (fun _ _ kK => x_icmp_neT (tgt := 173) dX8_readsShape_97 (by decide) (show ¬ pk b n (sk b n p) = nI 93 by rw [hpk]; exact fun z => h93 (cv_eq (by omega) (by omega) z)) kK) ?_
        refine xe (fun _ _ kK => x_aload_n dX8_readsShape_173 rfl 2 rfl kK) ?_
        refine xe_callV (a := 88) [] dX8_readsShape_174 ml_X8_192 mf_X8_field (wK_i h.1.1) (c_X8_field d hL1 (sk_sk b n p) (hr.mv _) (hpi.mv hq0 hq1)) rfl rfl (Nat.le_of_ble_eq_true rfl) (Nat.le_of_ble_eq_true rfl) ?_
        rintro _ T9 ⟨rfl, hF9, hP9⟩
        cases hpf : pField b n (sk b n p) s gs with
        | inl x9 =>
          obtain ⟨k9, q9⟩ := x9
          rw [hpf] at hP9
          obtain ⟨g1, g2, g3, g4, g5⟩ := hP9
          refine xe (fun _ _ kK => x_goto (tgt := 31) dX8_readsShape_177 (by decide) kK) ?_
          refine xe (fun _ _ kK => x_iload_n dX8_readsShape_31 rfl 1 rfl kK) ?_
          refine xe (fun _ _ kK => x_if_eqF (tgt := 180) dX8_readsShape_32 (by decide) (by decide) kK) ?_
          refine xe (fun _ _ kK => x_aload_n dX8_readsShape_35 rfl 2 rfl kK) ?_
          refine xe (fun _ _ kK => x_get dX8_readsShape_36 fl_X8_132 (hF9.mi h.1).1 (gvl_i fz_8_4.2.2 (show e_i T9 516 88 = nI k9 from g1)) kK) ?_
          refine xe (fun _ _ kK => x_if_neT (tgt := 180) dX8_readsShape_39 (by decide) (fun z9 => by have := cv_z (by omega) z9; omega) kK) ?_
          exact xe_retv dX8_readsShape_180 rfl (⟨rfl, FrM.tr (FrM.si FrM.rf (by decide) _) hF9, by rw [pLoop_step (show pStep b n p s gs = .inl (k9, q9) by rw [pStep_field hend h93]; rw [hpf]; rfl)]; exact ⟨g1, g2, g3, g4, g5⟩⟩)
        | inr y9 =>
          obtain ⟨p9, s9, gs9⟩ := y9
          rw [hpf] at hP9
          obtain ⟨g1, g2, g3⟩ := hP9
          obtain ⟨j1, j2⟩ := pField_ok (hpi.mv hq0 hq1) hpf
          refine xe (fun _ _ kK => x_goto (tgt := 31) dX8_readsShape_177 (by decide) kK) ?_
          refine Xe.imp (xe_loc (by simp) (ih (n - p9) (by have := j1.1; omega) fu T9 p9 s9 gs9 rfl g1 g2 j1 (by omega))) ?_
          rintro _ T8 ⟨rfl, u1, u2⟩
          refine ⟨rfl, FrM.tr (FrM.tr (FrM.si FrM.rf (by decide) _) hF9) u1, ?_⟩
          rw [pLoop_step (show pStep b n p s gs = .inr (some (p9, s9, gs9)) by rw [pStep_field hend h93]; rw [hpf]; rfl)]
          dsimp only [pNext]
          cases hpl : pLoop b n fu p9 s9 gs9 with
          | inl x8 => rw [hpl] at u2; exact u2
          | inr x8 => rw [hpl] at u2; exact ⟨u2.1, u2.2.1.trans g3, u2.2.2⟩
