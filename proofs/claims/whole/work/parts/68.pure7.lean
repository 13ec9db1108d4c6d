/-! blocks of rows in hand -/
theorem rwQ_hd {M : Nat → Nat} {pa : Pa} {i : Nat} : ∀ (r : List Nat) (x t lev ag : Nat), ∃ w ws, rwQ M pa i [] r x t lev ag = w :: ws ∧ w.1 = lev ∧ t ≤ w.2.1 := by
  intro r
  induction r with
  | nil => intro x t lev ag; exact ⟨_, [], rfl, rfl, Nat.le_refl _⟩
  | cons f fs ih =>
    intro x t lev ag
    rw [rwQ_c]
    cases hc : ch pa x f (x + 1) with
    | nil => rw [if_neg List.not_mem_nil]; exact ⟨_, [], rfl, rfl, Nat.le_refl _⟩
    | cons y ys =>
      obtain ⟨w, ws, e1, e2, e3⟩ := ih y (t + dM M f) lev (ag + mM M f)
      show ∃ w ws, rwQ M pa i [] fs y (t + dM M f) lev (ag + mM M f) ++ _ = w :: ws ∧ _
      rw [e1]
      exact ⟨w, _, rfl, e2, by omega⟩
theorem drop_hd {R : List Row} {p : Nat} {w : Row} {ws : List Row} (h : R.drop p = w :: ws) : p < R.length ∧ rowAt R p = w := by
  have hp : p < R.length := by
    rcases Nat.lt_or_ge p R.length with z | z
    · exact z
    · rw [List.drop_eq_nil_of_le z] at h; cases h
  refine ⟨hp, ?_⟩
  rw [List.drop_eq_getElem_cons hp] at h
  have := (List.cons.inj h).1
  unfold rowAt
  rw [List.getD_eq_getElem?_getD, List.getElem?_eq_getElem hp, Option.getD_some, this]
theorem drop_nx {R P Q : List Row} {p : Nat} (h : R.drop p = P ++ Q) : R.drop (p + P.length) = Q := by
  rw [← List.drop_drop, h, List.drop_left]
def below (s : Sh) (o : Option Nat) (c : Nat) : Prop := ∃ g, g < s.1 ∧ s.2.2.1 g = o ∧ g ∈ rdl s c
def blk (s : Sh) (pa : Pa) (i x : Nat) (gl : List Nat) (lev c : Nat) : List Row := rwQ s.2.2.2.2.2.1 pa i [] ((road s c).drop gl.length) x (dc s.2.2.2.2.2.1 gl) lev (mc s.2.2.2.2.2.1 gl)
noncomputable def hAv (s : Sh) (bits : Int32) (pa : Pa) (i x : Nat) (gl : List Nat) (lev : Nat) (o : Option Nat) (h : Nat → Nat) : Nat → Nat := fun c => if pB (bitOn bits c ∧ below s o c) = true then h c + (blk s pa i x gl lev c).length else h c
/-- what stands behind the rows of a node -/
def HdLe (B : List Row) (a : Nat) : Prop := ∀ r, B.head? = some r → r.1 ≤ a
def HBk (s : Sh) (bits : Int32) (pa : Pa) (i : Nat) (RR : Nat → List Row) (x : Nat) (gl : List Nat) (lev : Nat) (o : Option Nat) (h : Nat → Nat) : Prop := ∀ c, c < s.2.1 → bitOn bits c → below s o c → ∃ B, (RR c).drop (h c) = blk s pa i x gl lev c ++ B ∧ HdLe B (mc s.2.2.2.2.2.1 gl)
/-- the rows of the parts ys of a field -/
def fbk (s : Sh) (pa : Pa) (i f : Nat) (gl : List Nat) (lev : Nat) (ys : List Nat) (c : Nat) : List Row := rstP (fun y l => rwQ s.2.2.2.2.2.1 pa i [] ((road s c).drop (gl.length + 1)) y (dc s.2.2.2.2.2.1 gl + dM s.2.2.2.2.2.1 f) l (mc s.2.2.2.2.2.1 gl + mM s.2.2.2.2.2.1 f)) [] lev (mc s.2.2.2.2.2.1 gl + mM s.2.2.2.2.2.1 f) ys
theorem dc_s (M : Nat → Nat) (gl : List Nat) (f : Nat) : dc M (gl ++ [f]) = dc M gl + dM M f := by rw [dc_app, dc_k]; rfl
theorem mc_s (M : Nat → Nat) (gl : List Nat) (f : Nat) : mc M (gl ++ [f]) = mc M gl + mM M f := by rw [mc_app, mc_k]; rfl
theorem blk_f {s : Sh} {gs : List Nat} {en : Nat → Nat} {lo : Nat → Option Nat} (hV : ShV s gs en lo) {pa : Pa} {i x f c lev : Nat} {gl : List Nat} {o : Option Nat} (hc : c < s.2.1) (hg : Chn s.2.2.1 o gl.reverse) (hf : f ∈ rdl s c) (hW : s.2.2.1 f = o) : (road s c).drop gl.length = f :: (road s c).drop (gl.length + 1) ∧ (ch pa x f (x + 1) ≠ [] → blk s pa i x gl lev c = fbk s pa i f gl lev (ch pa x f (x + 1)) c) ∧ (ch pa x f (x + 1) = [] → blk s pa i x gl lev c = [(lev, dc s.2.2.2.2.2.1 gl, false, lN 0, i)]) := by
  obtain ⟨suf, hr⟩ := road_hit hV hc hg hf hW
  have e1 : (road s c).drop gl.length = f :: suf := by rw [hr, List.drop_left]
  have e2 : (road s c).drop (gl.length + 1) = suf := by rw [hr, ← List.drop_drop, List.drop_left]; rfl
  refine ⟨by rw [e1, e2], fun hne => ?_, fun he => ?_⟩
  · unfold blk fbk
    rw [e1, e2, rwQ_c]
    exact rstP_eq (fun _ _ _ => rfl) (fun z => absurd z hne)
  · unfold blk
    rw [e1, rwQ_c, he, if_neg List.not_mem_nil]; rfl
theorem fbk_cons (s : Sh) (pa : Pa) (i f : Nat) (gl : List Nat) (lev y : Nat) (ys : List Nat) (c : Nat) : fbk s pa i f gl lev (y :: ys) c = blk s pa i y (gl ++ [f]) lev c ++ ys.flatMap (fun z => blk s pa i z (gl ++ [f]) (mc s.2.2.2.2.2.1 gl + mM s.2.2.2.2.2.1 f) c) := by
  unfold fbk blk
  rw [dc_s, mc_s, List.length_append]
  rfl
theorem fbk_next (s : Sh) (pa : Pa) (i f : Nat) (gl : List Nat) (y : Nat) (ys : List Nat) (c : Nat) : (y :: ys).flatMap (fun z => blk s pa i z (gl ++ [f]) (mc s.2.2.2.2.2.1 gl + mM s.2.2.2.2.2.1 f) c) = fbk s pa i f gl (mc s.2.2.2.2.2.1 gl + mM s.2.2.2.2.2.1 f) (y :: ys) c := by rw [fbk_cons]; rfl
theorem blk_hd {s : Sh} {pa : Pa} {i x lev c : Nat} {gl : List Nat} : ∃ w ws, blk s pa i x gl lev c = w :: ws ∧ w.1 = lev ∧ dc s.2.2.2.2.2.1 gl ≤ w.2.1 := rwQ_hd _ _ _ _ _
/-- a group on a leaf's road has a part on it -/
theorem below_some {s : Sh} {gs : List Nat} {en : Nat → Nat} {lo : Nat → Option Nat} (hV : ShV s gs en lo) (hWl : ∀ f g, f < s.1 → s.2.2.1 f = some g → g < f) {c f : Nat} (hc : c < s.2.1) (hk : s.2.2.2.2.1 f = 2) : below s (some f) c ↔ f ∈ rdl s c := by
  obtain ⟨h1, h2⟩ := hV.rd hc
  constructor
  · rintro ⟨g, g1, g2, g3⟩
    obtain ⟨a, l', e1, e2⟩ := Chn.mem h1 g3
    rw [g2] at e2
    cases l' with
    | nil => cases e2
    | cons b l' =>
      have := Option.some.inj e2.1
      subst this
      rw [e1]; simp
  · intro hf
    have hne : f ≠ s.2.2.2.2.2.2 c := fun e => (hV.2.2.2.2.2.2.1 c hc).2.1 (e ▸ hk)
    have : ∀ (l : List Nat) (t : Nat), t < s.1 → Chn s.2.2.1 (some t) l → f ∈ l → f ≠ t → ∃ g, g < s.1 ∧ s.2.2.1 g = some f ∧ g ∈ l := by
      intro l
      induction l with
      | nil => intro t _ h; cases h
      | cons a l ih =>
        intro t ht h hf hne
        have ea := Option.some.inj h.1
        subst ea
        have hf2 : f ∈ l := (List.mem_cons.mp hf).resolve_left hne
        cases hw : s.2.2.1 t with
        | none =>
          have h2 := h.2
          rw [hw] at h2
          have : l = [] := Chn.uniq h2 (show Chn s.2.2.1 none [] from rfl)
          rw [this] at hf2; cases hf2
        | some t' =>
          have h2 := h.2
          rw [hw] at h2
          by_cases e : f = t'
          · subst e; exact ⟨t, ht, hw, List.mem_cons_self⟩
          · obtain ⟨g, g1, g2, g3⟩ := ih t' (by have := hWl t t' ht hw; omega) h2 hf2 e
            exact ⟨g, g1, g2, List.mem_cons_of_mem _ g3⟩
    exact this _ _ (hV.2.2.2.2.2.2.1 c hc).1 h1 hf hne
theorem below_leaf {s : Sh} {gs : List Nat} {en : Nat → Nat} {lo : Nat → Option Nat} (hV : ShV s gs en lo) {c f : Nat} (hc : c < s.2.1) (hf : f ∈ rdl s c) (hk : s.2.2.2.2.1 f ≠ 2) {o : Option Nat} {gl : List Nat} (hg : Chn s.2.2.1 o gl.reverse) (hW : s.2.2.1 f = o) : s.2.2.2.2.2.2 c = f ∧ (road s c).drop (gl.length + 1) = [] := by
  have e := rdl_leaf hV hc hf hk
  refine ⟨e.symm, ?_⟩
  have h1 := (hV.rd hc).1
  rw [← e] at h1
  have h2 := Chn.uniq h1 (show Chn s.2.2.1 (some f) (f :: gl.reverse) from ⟨rfl, by rw [hW]; exact hg⟩)
  have hr : road s c = gl ++ [f] := by unfold road; rw [h2]; simp
  rw [hr, ← List.drop_drop, List.drop_left]; rfl
