/-! how far an ENTRY goes, and what it tells -/
theorem dv_lt {b : Nat → Nat} {p : Nat} : ∀ (k : Nat), (∀ j, p ≤ j → j < p + k → isD (b j) = true) → dv b p (p + k) < 10 ^ k := by
  intro k
  induction k with
  | zero => intro _; rw [Nat.add_zero, dv_self]; decide
  | succ k ih =>
    intro h
    have h1 := ih (fun j a c => h j a (by omega))
    have h2 := isD_le (h (p + k) (by omega) (by omega))
    rw [← Nat.add_assoc, dv_step (by omega), Nat.pow_succ]
    omega
theorem tx_len {B w k : Nat} (hB : 0 < B) (hw : w < B ^ (k + 1)) : (dgt B w (lb B w)).length ≤ k + 1 := by
  rw [dgt_len]
  have := lbF_le hB hw 8 0 (Nat.zero_le _)
  unfold lb; omega
theorem wtx_len {w k : Nat} (hw : w < 27 ^ (k + 1)) : (wtx w).length ≤ k + 1 := by unfold wtx; rw [List.length_map]; exact tx_len (by decide) hw
theorem ntx_len {w k : Nat} (hw : w < 10 ^ (k + 1)) : (ntx w).length ≤ k + 1 := by unfold ntx; rw [List.length_map]; exact tx_len (by decide) hw
theorem wtx_we {b : Nat → Nat} {n q : Nat} (h : ¬ we b n q = q) : (wtx (wc b q (we b n q))).length ≤ we b n q - q := by
  have h1 := we_ge b n q
  have h2 := wc_lt (b := b) (p := q) (we b n q - q) (fun j a c => we_letters (n := n) _ q rfl j a (by omega))
  rw [show q + (we b n q - q) = we b n q by omega] at h2
  obtain ⟨k, hk⟩ : ∃ k, we b n q - q = k + 1 := ⟨we b n q - q - 1, by omega⟩
  rw [hk] at h2 ⊢
  exact wtx_len h2
theorem qSign_in {b : Nat → Nat} {n p c p1 : Nat} (h : qSign b n p c = .inr p1) : p + 1 ≤ p1 ∧ p1 ≤ n := by
  unfold qSign at h
  split at h
  · cases h; have := sk_ge b n p; omega
  · cases h
/-- a value that a text can tell -/
def vOk1 (kd : Nat) (v : Int64) : Prop := (kd = 0 → ∃ w, w < 10 ^ 6 ∧ ((v = lN w) ∨ (-v = lN w ∧ v < 0))) ∧ (kd = 1 → ∃ w, w < 27 ^ 8 ∧ WdOk w ∧ 0 < w ∧ v = lN w)
theorem neg_lN {w : Nat} (h0 : 0 < w) (hw : w < 10 ^ 6) : -(lN w) < 0 := by
  have h1 : (lN w).toInt = w := pk_lT (by omega)
  rw [Int64.lt_iff_toInt_lt]
  have : (-(lN w)).toInt = -(w : Int) := by
    rw [Int64.toInt_neg, h1]
    rw [Int.bmod_eq_of_le] <;> omega
  rw [this]
  show -(w : Int) < 0
  omega
theorem eVal_ok {b : Nat → Nat} {n q k p3 : Nat} {v : Int64} (hq : q < n) (hk : srt b n q = some k) (hk2 : k ≠ 2) (h : eVal b n q k = .inr (p3, v)) : p3 ≤ n ∧ q + (vtx k v).length + 1 ≤ p3 ∧ vOk1 k v ∧ 1 ≤ (vtx k v).length := by
  have hkk : k = 0 ∨ k = 1 := by
    unfold srt at hk
    split at hk
    · cases hk; exact Or.inl rfl
    · split at hk
      · cases hk; exact Or.inr rfl
      · split at hk
        · cases hk; exact absurd rfl hk2
        · cases hk
  have hvl : ∀ v, 1 ≤ (vtx k v).length := fun v => by
    unfold vtx ntv ntx wtx
    split <;> simp [dgt_len] <;> omega
  unfold eVal qVal at h
  rcases hkk with e | e
  · subst e
    rw [if_pos rfl] at h
    split at h
    · rename_i hx; split at hx
      · cases hx; cases h
      · split at hx
        · cases hx; cases h
        · cases hx
    · rename_i v9 e9 hx
      split at hx
      · cases hx
      · rename_i hne
        split at hx
        · cases hx
        · rename_i h6
          cases hx
          split at h
          · cases h
          · rename_i p9 hs
            cases h
            obtain ⟨s1, s2⟩ := qSign_in hs
            have g1 := de_ge b n (nst b q)
            have hdl := dv_lt (b := b) (p := nst b q) (de b n (nst b q) - nst b q) (fun j a c => de_letters (n := n) _ (nst b q) rfl j a (by omega))
            rw [show nst b q + (de b n (nst b q) - nst b q) = de b n (nst b q) by omega] at hdl
            obtain ⟨m, hm⟩ : ∃ m, de b n (nst b q) - nst b q = m + 1 := ⟨de b n (nst b q) - nst b q - 1, by omega⟩
            rw [hm] at hdl
            have h106 : dv b (nst b q) (de b n (nst b q)) < 10 ^ 6 := Nat.lt_of_lt_of_le hdl (Nat.pow_le_pow_right (by decide) (by omega))
            have hlen := ntx_len hdl
            refine ⟨s2, ?_, ⟨fun _ => ?_, fun z => by omega⟩, hvl _⟩
            · unfold vtx ntv nvl
              rw [if_pos rfl]
              by_cases h45 : b q = 45
              · have hn : nst b q = q + 1 := by unfold nst; rw [if_pos h45]
                rw [if_pos h45]
                rcases Nat.eq_zero_or_pos (dv b (nst b q) (de b n (nst b q))) with z | z
                · rw [z]
                  have : (-(lN 0)) = lN 0 := by decide
                  rw [this, if_neg (lN_nn (by decide)), lN_na (by decide), ← z]
                  simp; omega
                · have hlt := neg_lN z h106
                  rw [if_pos hlt, neg_na (w := dv b (nst b q) (de b n (nst b q))) (by omega) (by simp) hlt]
                  simp; omega
              · have hn : nst b q = q := by unfold nst; rw [if_neg h45]
                rw [if_neg h45, if_neg (lN_nn (by omega)), lN_na (by omega)]
                simp; omega
            · refine ⟨_, h106, ?_⟩
              unfold nvl
              by_cases h45 : b q = 45
              · rw [if_pos h45]
                rcases Nat.eq_zero_or_pos (dv b (nst b q) (de b n (nst b q))) with z | z
                · rw [z]; exact Or.inl (by decide)
                · exact Or.inr ⟨by simp, neg_lN z h106⟩
              · rw [if_neg h45]; exact Or.inl rfl
  · subst e
    rw [if_neg (by decide)] at h
    have hl : pL b n q = true := by
      unfold srt at hk
      split at hk
      · cases hk
      · split at hk
        · rename_i z; exact z
        · split at hk <;> cases hk
    have hwe : ¬ we b n q = q := fun z => by
      have h1 : isL (b q) = true := by unfold pL at hl; simp at hl; exact hl.2
      have := we_zero (b := b) (n := n) z hq
      rw [this] at h1; cases h1
    split at h
    · rename_i hx; split at hx
      · cases hx; cases h
      · cases hx
    · rename_i v9 e9 hx
      split at hx
      · cases hx
      · rename_i h8
        cases hx
        split at h
        · cases h
        · rename_i p9 hs
          cases h
          obtain ⟨s1, s2⟩ := qSign_in hs
          have g1 := we_ge b n q
          have hlt := wc_lt8 (b := b) (n := n) (q := q) (by omega)
          refine ⟨s2, ?_, ⟨fun z => by omega, fun _ => ⟨_, hlt, wc_wd, wc_pos hwe, rfl⟩⟩, hvl _⟩
          unfold vtx
          rw [if_neg (by decide), lN_na (by omega)]
          have := wtx_we hwe
          omega
theorem eEntry_ok {s : Sh} {b : Nat → Nat} {n x p' f : Nat} {o : Option Nat} {th : Nat → Bool} {ov : Option Int64} (hx : x ≤ n) (h : eEntry s b n x o th = .inr (p', f, ov)) : f < s.1 ∧ s.2.2.1 f = o ∧ (s.2.2.2.2.2.1 f = 2 ∨ th f = false) ∧ p' ≤ n ∧ 1 ≤ (wtx (s.2.2.2.1 f)).length ∧ match ov with
    | some v => s.2.2.2.2.1 f ≠ 2 ∧ x + (wtx (s.2.2.2.1 f)).length + 2 + (vtx (s.2.2.2.2.1 f) v).length ≤ p' ∧ vOk1 (s.2.2.2.2.1 f) v ∧ 1 ≤ (vtx (s.2.2.2.2.1 f) v).length
    | none => s.2.2.2.2.1 f = 2 ∧ x + (wtx (s.2.2.2.1 f)).length + 2 ≤ p' := by
  unfold eEntry at h
  split at h
  · cases h
  rename_i hwe
  have g1 := we_ge b n x
  have g2 := we_n (b := b) hx
  split at h
  · cases h
  rename_i f9 hf
  obtain ⟨f1, f2, f3⟩ := findF_ok hf
  have hw8 : ¬ 8 < we b n x - x := fun z => by unfold wd at f3; rw [if_pos z] at f3; cases f3
  have hN : s.2.2.2.1 f9 = wc b x (we b n x) := by unfold wd at f3; rw [if_neg hw8] at f3; exact Option.some.inj f3
  have hlen := wtx_we hwe
  rw [← hN] at hlen
  have hlen1 : 1 ≤ (wtx (s.2.2.2.1 f9)).length := by unfold wtx; simp [dgt_len]
  split at h
  · cases h
  rename_i h3
  have hth : s.2.2.2.2.2.1 f9 = 2 ∨ th f9 = false := by
    by_cases e : s.2.2.2.2.2.1 f9 = 2
    · exact Or.inl e
    · exact Or.inr (by cases ht : th f9 with | false => rfl | true => exact absurd ⟨e, ht⟩ h3)
  split at h
  · cases h
  rename_i p1 hs
  obtain ⟨s1, s2⟩ := qSign_in hs
  have k1 := sk_ge b n p1
  have k2 := sk_n (b := b) s2
  unfold eTail at h
  split at h
  · cases h
  rename_i k hk
  split at h
  · cases h
  rename_i hkk
  have hkk : k = s.2.2.2.2.1 f9 := Classical.byContradiction hkk
  have hq : sk b n p1 < n := by
    rcases Nat.lt_or_ge (sk b n p1) n with z | z
    · exact z
    · unfold srt pD pL at hk; simp [show ¬ sk b n p1 < n by omega] at hk
  split at h
  · rename_i k2'
    cases h
    exact ⟨f1, f2, hth, by omega, hlen1, by omega, by omega⟩
  · rename_i k2'
    split at h
    · cases h
    rename_i p3 v he
    cases h
    obtain ⟨e1, e2, e3, e4⟩ := eVal_ok hq hk k2' he
    rw [hkk] at e2 e3 e4
    exact ⟨f1, f2, hth, e1, hlen1, fun z => k2' (hkk.trans z), by omega, e3, e4⟩
/-! the nodes of a PAPER, as far as it is read -/
def wgt (s : Sh) (pa : Pa) (k : Nat) : Nat := match pa.2.1 k with
  | none => 0
  | some f => (wtx (s.2.2.2.1 f)).length + if s.2.2.2.2.1 f = 2 then 4 else 2 + (vtx (s.2.2.2.2.1 f) (pa.2.2.2 k)).length
def wsm (s : Sh) (pa : Pa) : Nat → Nat
  | 0 => 0
  | k + 1 => wsm s pa k + wgt s pa k
def TVd (s : Sh) (pa : Pa) (S : List Nat) (x : Nat) : Prop :=
  (∀ k, k < pa.1 → k ≠ 0 → ∃ y f, pa.2.2.1 k = some y ∧ y < k ∧ pa.2.1 k = some f ∧ f < s.1 ∧ s.2.2.1 f = pa.2.1 y) ∧
  (∀ k k' y f, k < pa.1 → k' < pa.1 → pa.2.2.1 k = some y → pa.2.2.1 k' = some y → pa.2.1 k = some f → pa.2.1 k' = some f → s.2.2.2.2.2.1 f ≠ 2 → k = k') ∧
  (∀ y, y < pa.1 → y ∉ S → ∀ f, f < s.1 → s.2.2.1 f = pa.2.1 y → s.2.2.2.2.2.1 f = 0 → ch pa y f (y + 1) ≠ []) ∧
  (∀ y, y < pa.1 → ∀ f, pa.2.1 y = some f → vOk1 (s.2.2.2.2.1 f) (pa.2.2.2 y)) ∧
  wsm s pa pa.1 + 2 ≤ x + 2 * S.length
theorem wsm_add {s : Sh} {pa : Pa} {fo xo : Option Nat} {v : Int64} : ∀ k, k ≤ pa.1 → wsm s (addN pa fo xo v) k = wsm s pa k := by
  intro k
  induction k with
  | zero => intro _; rfl
  | succ k ih =>
    intro hk
    show wsm s (addN pa fo xo v) k + wgt s (addN pa fo xo v) k = wsm s pa k + wgt s pa k
    rw [ih (by omega)]
    unfold wgt
    rw [aN_f (by omega), show (addN pa fo xo v).2.2.2 k = pa.2.2.2 k from upn (f := pa.2.2.2) (by omega)]
theorem TVd.add {s : Sh} {pa : Pa} {S S' : List Nat} {x p' f w : Nat} {v : Int64} (h : TVd s pa S x) (h00 : pa.2.2.1 0 = none) (hw : w ∈ S) (hwl : w < pa.1) (hf : f < s.1) (hW : s.2.2.1 f = pa.2.1 w) (hm : s.2.2.2.2.2.1 f = 2 ∨ ch pa w f (w + 1) = []) (hv : vOk1 (s.2.2.2.2.1 f) v) (hS : ∀ y, y < pa.1 → (y ∈ S' ↔ y ∈ S)) (hnew : pa.1 ∈ S' ∨ ∀ g, g < s.1 → s.2.2.1 g ≠ some f) (hx : x + 2 * S.length + (wtx (s.2.2.2.1 f)).length + (if s.2.2.2.2.1 f = 2 then 4 else 2 + (vtx (s.2.2.2.2.1 f) v).length) ≤ p' + 2 * S'.length) : TVd s (addN pa (some f) (some w) v) S' p' := by
  obtain ⟨h1, h2, h3, h4, h5⟩ := h
  have hk1 : ∀ k, k < (addN pa (some f) (some w) v).1 → k < pa.1 ∨ k = pa.1 := fun k hk => by have : k < pa.1 + 1 := hk; omega
  refine ⟨fun k hk h0 => ?_, fun k k' y g hk hk' p1 p2 q1 q2 hM => ?_, fun y hy hyS g hg hWg hM => ?_, fun y hy g hg => ?_, ?_⟩
  · rcases hk1 k hk with e | e
    · obtain ⟨y, g, a1, a2, a3, a4, a5⟩ := h1 k e h0
      exact ⟨y, g, by rw [aN_p e]; exact a1, a2, by rw [aN_f e]; exact a3, a4, by rw [aN_f (by omega)]; exact a5⟩
    · subst e; exact ⟨w, f, aN_p', hwl, aN_f', hf, by rw [aN_f hwl]; exact hW⟩
  · have hnone : ∀ z, z < pa.1 → pa.2.2.1 z = some y → pa.2.1 z = some g → w = y → f = g → False := fun z hz z1 z2 e1 e2 => by
      rcases hm with e | e
      · rw [e2] at e; exact hM e
      · have : z ∈ ch pa w f (w + 1) := mem_ch.mpr ⟨by
          by_cases z0 : z = 0
          · subst z0; rw [h00] at z1; cases z1
          · obtain ⟨y9, g9, b1, b2, -⟩ := h1 z hz z0
            rw [z1] at b1; cases b1; omega, hz, by rw [e1]; exact z1, by rw [e2]; exact z2⟩
        rw [e] at this; cases this
    rcases hk1 k hk with e | e
    · rw [aN_p e] at p1; rw [aN_f e] at q1
      rcases hk1 k' hk' with e' | e'
      · rw [aN_p e'] at p2; rw [aN_f e'] at q2
        exact h2 k k' y g e e' p1 p2 q1 q2 hM
      · subst e'; rw [aN_p'] at p2; rw [aN_f'] at q2
        exact (hnone k e p1 q1 (Option.some.inj p2) (Option.some.inj q2)).elim
    · subst e; rw [aN_p'] at p1; rw [aN_f'] at q1
      rcases hk1 k' hk' with e' | e'
      · rw [aN_p e'] at p2; rw [aN_f e'] at q2
        exact (hnone k' e' p2 q2 (Option.some.inj p1) (Option.some.inj q1)).elim
      · exact e'.symm
  · rcases hk1 y hy with e | e
    · rw [aN_f e] at hWg
      rw [ch_add (by omega)]
      have := h3 y e (fun z => hyS ((hS y e).mpr z)) g hg hWg hM
      intro z
      exact this (List.append_eq_nil_iff.mp z).1
    · subst e
      rw [aN_f'] at hWg
      rcases hnew with z | z
      · exact absurd z hyS
      · exact absurd hWg (z g hg)
  · rcases hk1 y hy with e | e
    · rw [aN_f e] at hg
      rw [show (addN pa (some f) (some w) v).2.2.2 y = pa.2.2.2 y from upn (f := pa.2.2.2) (by omega)]
      exact h4 y e g hg
    · subst e
      rw [aN_f'] at hg; cases hg
      rw [show (addN pa (some f) (some w) v).2.2.2 pa.1 = v from ups (f := pa.2.2.2)]
      exact hv
  · show wsm s (addN pa (some f) (some w) v) pa.1 + wgt s (addN pa (some f) (some w) v) pa.1 + 2 ≤ _
    rw [wsm_add pa.1 (Nat.le_refl _)]
    unfold wgt
    rw [aN_f', show (addN pa (some f) (some w) v).2.2.2 pa.1 = v from ups (f := pa.2.2.2)]
    show wsm s pa pa.1 + ((wtx (s.2.2.2.1 f)).length + if s.2.2.2.2.1 f = 2 then 4 else 2 + (vtx (s.2.2.2.2.1 f) v).length) + 2 ≤ _
    omega
theorem TVd.end {s : Sh} {pa : Pa} {S S' : List Nat} {x p1 w : Nat} (h : TVd s pa S x) (hS : ∀ y, y < pa.1 → (y ∈ S → y ∈ S' ∨ y = w)) (hl : ∀ f, f < s.1 → s.2.2.1 f = pa.2.1 w → s.2.2.2.2.2.1 f = 0 → ch pa w f (w + 1) ≠ []) (hx : x + 2 * S.length ≤ p1 + 2 * S'.length) : TVd s pa S' p1 := by
  obtain ⟨h1, h2, h3, h4, h5⟩ := h
  refine ⟨h1, h2, fun y hy hyS f hf hW hM => ?_, h4, by omega⟩
  by_cases e : y ∈ S
  · rcases hS y hy e with z | z
    · exact absurd z hyS
    · subst z; exact hl f hf hW hM
  · exact h3 y hy e f hf hW hM
/-! the same step, for the class and for the reference -/
theorem qEntry_e {s : Sh} {b : Nat → Nat} {n q x : Nat} {pa : Pa} {xs : List Nat} {th : Nat → Bool} (hth : ∀ f, f < s.1 → s.2.2.1 f = pa.2.1 x → th f = pB (hasN pa x f)) : qEntry s b n q pa x xs = (eEntry s b n q (pa.2.1 x) th).map id (fun z => match z with
    | (p', f, some v) => (p', addN pa (some f) (some x) v, x :: xs)
    | (p', f, none) => (p', addN pa (some f) (some x) 0, pa.1 :: x :: xs)) := by
  unfold qEntry eEntry
  split
  · rfl
  cases hf : findF s (pa.2.1 x) (wd b q (we b n q)) with
  | none => rfl
  | some f =>
    obtain ⟨f1, f2, f3⟩ := findF_ok hf
    simp only []
    rw [← hth f f1 f2]
    split
    · rfl
    cases hs : qSign b n (we b n q) 58 with
    | inl p1 => rfl
    | inr p1 =>
      simp only []
      unfold qTail eTail
      cases hk : srt b n (sk b n p1) with
      | none => rfl
      | some k =>
        simp only []
        split
        · rfl
        split
        · rfl
        unfold eVal
        cases hv : qVal b n (sk b n p1) k with
        | inl p2 => rfl
        | inr z =>
          obtain ⟨v, e2⟩ := z
          simp only []
          cases hs2 : qSign b n e2 59 with
          | inl p3 => rfl
          | inr p3 => rfl
theorem lack_e {s : Sh} {pa : Pa} {x : Nat} {th : Nat → Bool} (hth : ∀ f, f < s.1 → s.2.2.1 f = pa.2.1 x → th f = pB (hasN pa x f)) : lackN s pa x ↔ lkO s (pa.2.1 x) th := by
  constructor
  · rintro ⟨f, h1, h2, h3, h4⟩
    exact ⟨f, h1, h2, by rw [hth f h1 h2]; exact pB_f h4, h3⟩
  · rintro ⟨f, h1, h2, h3, h4⟩
    exact ⟨f, h1, h2, h4, fun z => by rw [hth f h1 h2, pB_t z] at h3; cases h3⟩
def gsP (ps : List Nat) : List Nat := (0 :: ps).reverse
theorem gsP_app (ps : List Nat) (y : Nat) : gsP (ps ++ [y]) = y :: gsP ps := by unfold gsP; simp
theorem gsP_hd : ∀ (ps : List Nat), ∃ xs, gsP ps = lst 0 ps :: xs ∧ xs.length = ps.length := by
  intro ps
  rcases List.eq_nil_or_concat ps with e | ⟨l, y, e⟩
  · subst e; exact ⟨[], rfl, rfl⟩
  · rw [List.concat_eq_append] at e
    subst e
    rw [gsP_app, lst_app]
    exact ⟨gsP l, rfl, by unfold gsP; simp⟩
