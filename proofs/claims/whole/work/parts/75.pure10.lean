/-! what the answers need of shape and rows -/
def PShp (s : Sh) (en : Nat → Nat) (lo : Nat → Option Nat) : Prop := ShV s [] en lo ∧ s.1 ≤ 60 ∧ s.2.1 ≤ 12 ∧ (∀ f g, f < s.1 → s.2.2.1 f = some g → g < f) ∧ ∀ f, f < s.1 → s.2.2.2.1 f < 27 ^ 8
theorem PShp.of {s : Sh} {en : Nat → Nat} {lo : Nat → Option Nat} {n p : Nat} (hV : ShV s [] en lo) (hP : PI n p s []) : PShp s en lo := by
  obtain ⟨h1, h2, h3, h4, h5, h6, h7, h8, h9⟩ := hP
  have : ([] : List Nat).length = 0 := rfl
  exact ⟨hV, by omega, h5, h8, h7⟩
theorem PShp.sg {s : Sh} {en : Nat → Nat} {lo : Nat → Option Nat} (h : PShp s en lo) : SG s := by
  obtain ⟨hV, h60, h12, hWl, hNb⟩ := h
  refine ⟨⟨h60, hNb, fun f hf g hg => by have := hWl f g hf hg; omega, fun f hf => ⟨(hV.2.2.1 f hf).1, (hV.2.2.1 f hf).2.1⟩⟩, h12, ⟨fun f => (upF s.2.2.1 6 (some f)).length - 1, fun f hf => ⟨fun hW => ?_, fun g hg => ?_, fun hK => ?_⟩⟩, fun c hc => ?_⟩
  · show (upF s.2.2.1 6 (some f)).length - 1 = 0
    rw [Chn.uniq (hV.up hf).1 (show Chn s.2.2.1 (some f) [f] from ⟨rfl, hW⟩)]; rfl
  · have hgf := hWl f g hf hg
    have hgs : g < s.1 := by omega
    have e : upF s.2.2.1 6 (some f) = f :: upF s.2.2.1 6 (some g) := Chn.uniq (hV.up hf).1 ⟨rfl, by rw [hg]; exact (hV.up hgs).1⟩
    refine ⟨hgs, ?_⟩
    have hp : 1 ≤ (upF s.2.2.1 6 (some g)).length := by
      cases hu : upF s.2.2.1 6 (some g) with
      | nil => have := (hV.up hgs).1; rw [hu] at this; cases this
      | cons a l => simp
    show (upF s.2.2.1 6 (some f)).length - 1 = (upF s.2.2.1 6 (some g)).length - 1 + 1
    rw [e]; simp; omega
  · obtain ⟨l, l1, l2, l3, l4⟩ := hV.2.2.2.1 f hf
    have := l3 hK
    show (upF s.2.2.1 6 (some f)).length - 1 ≤ 3
    rw [Chn.uniq (hV.up hf).1 l1]; omega
  · obtain ⟨h1, h2⟩ := hV.rd hc
    exact ⟨h1, fun f hf => Nat.lt_of_le_of_lt (Chn.le hWl (hV.2.2.2.2.2.2.1 c hc).1 h1 f hf) (hV.2.2.2.2.2.2.1 c hc).1, h2, (hV.2.2.2.2.2.2.1 c hc).1⟩
/-- rows are small -/
theorem rwQ_sm {M : Nat → Nat} {pa : Pa} {i : Nat} {gs : List Nat} : ∀ (r : List Nat) (x t lev ag : Nat), ∀ q ∈ rwQ M pa i gs r x t lev ag, (q.1 ≤ lev ∨ q.1 ≤ ag + mc M r) ∧ q.2.1 ≤ t + dc M r := by
  intro r
  induction r with
  | nil => intro x t lev ag q hq; rw [rwQ, List.mem_singleton] at hq; subst hq; exact ⟨Or.inl (Nat.le_refl _), by rw [dc_n]; exact Nat.le_refl _⟩
  | cons f fs ih =>
    intro x t lev ag q hq
    rw [dc_k, mc_k]
    rw [rwQ_c] at hq
    cases hc : ch pa x f (x + 1) with
    | nil =>
      rw [hc] at hq
      have hq' : q ∈ (if x ∈ gs then [] else [((lev, t, false, lN 0, i) : Row)]) := hq
      split at hq'
      · cases hq'
      · rw [List.mem_singleton.mp hq']; exact ⟨Or.inl (Nat.le_refl _), by show t ≤ _; omega⟩
    | cons y ys =>
      rw [hc] at hq
      rcases List.mem_append.mp hq with z | z
      · obtain ⟨h1, h2⟩ := ih _ _ _ _ q z
        exact ⟨h1.elim Or.inl (fun w => Or.inr (by omega)), by omega⟩
      · obtain ⟨a, -, ha⟩ := List.mem_flatMap.mp z
        obtain ⟨h1, h2⟩ := ih _ _ _ _ q ha
        exact ⟨Or.inr (h1.elim (fun w => by omega) (fun w => by omega)), by omega⟩
/-- a row has a value just when it is told to the end -/
theorem rwQ_hs {s : Sh} {en : Nat → Nat} {lo : Nat → Option Nat} {pa : Pa} {i c z9 : Nat} (hS : PShp s en lo) (hc : c < s.2.1) (h : TVd s pa [] z9) : ∀ (r gl : List Nat) (x lev ag : Nat), road s c = gl ++ r → Chn s.2.2.1 (pa.2.1 x) gl.reverse → x < pa.1 → ∀ q ∈ rwQ s.2.2.2.2.2.1 pa i [] r x (dc s.2.2.2.2.2.1 gl) lev ag, q.2.2.1 = decide (q.2.1 = dc s.2.2.2.2.2.1 (road s c)) := by
  obtain ⟨hV, h60, h12, hWl, hNb⟩ := hS
  intro r
  induction r with
  | nil =>
    intro gl x lev ag hr hx hxl q hq
    rw [rwQ, List.mem_singleton] at hq
    rw [hq, hr, List.append_nil]; simp
  | cons f fs ih =>
    intro gl x lev ag hr hx hxl q hq
    obtain ⟨k1, k2, k3⟩ := road_back hV hc hx hr
    have hfs : f < s.1 := Nat.lt_of_le_of_lt (Chn.le hWl (hV.2.2.2.2.2.2.1 c hc).1 (hV.rd hc).1 f k1) (hV.2.2.2.2.2.2.1 c hc).1
    rw [rwQ_c, if_neg List.not_mem_nil] at hq
    have hch : ∀ y, y ∈ ch pa x f (x + 1) → ∀ l a, ∀ q ∈ rwQ s.2.2.2.2.2.1 pa i [] fs y (dc s.2.2.2.2.2.1 gl + dM s.2.2.2.2.2.1 f) l a, q.2.2.1 = decide (q.2.1 = dc s.2.2.2.2.2.1 (road s c)) := fun y hy l a q hq => by
      obtain ⟨a1, a2, a3, a4⟩ := mem_ch.mp hy
      rw [← dc_s] at hq
      exact ih (gl ++ [f]) y l a (by rw [hr]; simp) (by rw [a4, List.reverse_append]; exact ⟨rfl, by rw [k2]; exact hx⟩) a2 q hq
    cases hcc : ch pa x f (x + 1) with
    | nil =>
      rw [hcc] at hq
      have hq' : q ∈ [((lev, dc s.2.2.2.2.2.1 gl, false, lN 0, i) : Row)] := hq
      have hm : s.2.2.2.2.2.1 f ≠ 0 := fun hm => h.2.2.1 x hxl List.not_mem_nil f hfs k2 hm hcc
      rw [List.mem_singleton.mp hq', hr, dc_app, dc_k]
      have : dM s.2.2.2.2.2.1 f = 1 := by unfold dM; rw [if_neg hm]
      show false = decide (dc s.2.2.2.2.2.1 gl = _)
      rw [this]; symm; simp
    | cons y ys =>
      rw [hcc] at hq
      rcases List.mem_append.mp hq with z | z
      · exact hch y (by rw [hcc]; exact List.mem_cons_self) _ _ q z
      · obtain ⟨a, ha1, ha2⟩ := List.mem_flatMap.mp z
        exact hch a (by rw [hcc]; exact List.mem_cons_of_mem _ ha1) _ _ q ha2
/-! a TABLE, PAPER by PAPER -/
theorem tbl_mem {M : Nat → Nat} {r : List Nat} {pp : Nat → Pa} : ∀ (n : Nat) (q : Row), q ∈ tbl M r pp n → ∃ i, i < n ∧ q ∈ rwG M (pp i) i r 0 0 0 0 := by
  intro n
  induction n with
  | zero => intro q hq; cases hq
  | succ n ih =>
    intro q hq
    rcases List.mem_append.mp hq with z | z
    · obtain ⟨i, h1, h2⟩ := ih q z; exact ⟨i, by omega, h2⟩
    · exact ⟨n, by omega, z⟩
/-- PAPERS as they are kept -/
def PPs (s : Sh) (ps : PS) : Prop := ps.1 ≤ 30 ∧ ∀ i, i < ps.1 → PTv s (ps.2 i) ∧ PaOk s.1 (ps.2 i) ∧ 4 * (ps.2 i).1 ≤ 404 ∧ wsm s (ps.2 i) (ps.2 i).1 ≤ 400 ∧ ∀ c, c < s.2.1 → ∀ j, (rwG s.2.2.2.2.2.1 (ps.2 i) j (road s c) 0 0 0 0).length ≤ 100
theorem tbl_len100 {s : Sh} {ps : PS} (h : PPs s ps) {c : Nat} (hc : c < s.2.1) : ∀ n, n ≤ ps.1 → (tbl s.2.2.2.2.2.1 (road s c) ps.2 n).length ≤ 100 * n := by
  intro n
  induction n with
  | zero => intro _; exact Nat.le_refl _
  | succ n ih =>
    intro hn
    have h1 := ih (by omega)
    have h2 := (h.2 n (by omega)).2.2.2.2 c hc n
    rw [tbl, List.length_append]; omega
theorem rwG_Q {s : Sh} {en : Nat → Nat} {lo : Nat → Option Nat} (hV : ShV s [] en lo) {c : Nat} (hc : c < s.2.1) (pa : Pa) (i : Nat) : rwG s.2.2.2.2.2.1 pa i (road s c) 0 0 0 0 = rwQ s.2.2.2.2.2.1 pa i [] (road s c) 0 0 0 0 := by
  obtain ⟨f, fs, hr⟩ := road_ne hV hc
  rw [hr]; exact rwQ_G _ _ _ _ _ _ _ _ _
theorem tOf_ok {s : Sh} {en : Nat → Nat} {lo : Nat → Option Nat} {ps : PS} (hS : PShp s en lo) (h : PPs s ps) {c : Nat} (hc : c < s.2.1) : RwOk (tOf s ps c) ∧ HsOk (tOf s ps c) (dc s.2.2.2.2.2.1 (road s c)) ∧ (road s c).length ≤ 5 ∧ ∀ k, k < (tOf s ps c).length → (rowAt (tOf s ps c) k).2.2.2.2 < ps.1 := by
  have h5 : (road s c).length ≤ 5 := by have := (hS.1.rd hc).2; have e : (road s c).length = (rdl s c).length := List.length_reverse; omega
  have hl := tbl_len100 h hc ps.1 (Nat.le_refl _)
  have h30 := h.1
  have hrow : ∀ k, k < (tOf s ps c).length → ∃ i, i < ps.1 ∧ rowAt (tOf s ps c) k ∈ rwQ s.2.2.2.2.2.1 (ps.2 i) i [] (road s c) 0 0 0 0 := fun k hk => by
    obtain ⟨i, h1, h2⟩ := tbl_mem ps.1 _ (rowAt_mem hk)
    rw [rwG_Q hS.1 hc] at h2
    exact ⟨i, h1, h2⟩
  have hpap : ∀ k, k < (tOf s ps c).length → (rowAt (tOf s ps c) k).2.2.2.2 < ps.1 := fun k hk => by
    obtain ⟨i, h1, h2⟩ := hrow k hk
    rw [rwQ_pap _ _ _ _ _ _ h2]; exact h1
  refine ⟨⟨by unfold tOf; omega, fun k hk => ?_⟩, fun k hk => ?_, h5, hpap⟩
  · obtain ⟨i, h1, h2⟩ := hrow k hk
    obtain ⟨a1, a2⟩ := rwQ_sm _ _ _ _ _ _ h2
    have m1 := mc_le s.2.2.2.2.2.1 (road s c)
    have m2 := dc_le s.2.2.2.2.2.1 (road s c)
    have := hpap k hk
    exact ⟨by rcases a1 with z | z <;> omega, by omega, by omega⟩
  · obtain ⟨i, h1, h2⟩ := hrow k hk
    obtain ⟨⟨⟨z9, hT⟩, t1, t2, t3, t4⟩, -⟩ := h.2 i h1
    exact rwQ_hs hS hc hT (road s c) [] 0 0 0 rfl (by rw [t1]; rfl) t3 _ h2
/-! a PAPER is dropped -/
theorem rwQ_sh {M : Nat → Nat} {pa : Pa} {n i : Nat} {gs : List Nat} (hin : i < n) : ∀ (r : List Nat) (x t lev ag : Nat), (rwQ M pa n gs r x t lev ag).map (shR i) = rwQ M pa (n - 1) gs r x t lev ag := by
  have h1 : ∀ a b c d, shR i (a, b, c, d, n) = (a, b, c, d, n - 1) := fun a b c d => by unfold shR; rw [if_pos hin]
  intro r
  induction r with
  | nil => intro x t lev ag; rw [rwQ, rwQ, List.map_singleton, h1]
  | cons f fs ih =>
    intro x t lev ag
    rw [rwQ_c, rwQ_c]
    cases hc : ch pa x f (x + 1) with
    | nil =>
      show (if x ∈ gs then [] else [((lev, t, false, lN 0, n) : Row)]).map (shR i) = (if x ∈ gs then [] else [((lev, t, false, lN 0, n - 1) : Row)])
      by_cases e : x ∈ gs
      · rw [if_pos e, if_pos e]; rfl
      · rw [if_neg e, if_neg e, List.map_singleton, h1]
    | cons y ys =>
      show (rwQ M pa n gs fs y _ _ _ ++ ys.flatMap _).map (shR i) = rwQ M pa (n - 1) gs fs y _ _ _ ++ ys.flatMap _
      rw [List.map_append, ih, map_fm]
      congr 1
      exact congrArg (fun F => ys.flatMap F) (funext (fun z => ih z _ _ _))
theorem fgR_ne {i n : Nat} {R : List Row} (hne : n ≠ i) (h : ∀ q ∈ R, q.2.2.2.2 = n) : fgR i R = R.map (shR i) := by
  unfold fgR
  rw [List.filter_eq_self.mpr (fun r hr => by simp [h r hr, hne])]
theorem fgR_eq {i : Nat} {R : List Row} (h : ∀ q ∈ R, q.2.2.2.2 = i) : fgR i R = [] := by
  unfold fgR
  rw [List.filter_eq_nil_iff.mpr (fun r hr => by simp [h r hr])]; rfl
theorem map_shR {i n : Nat} (hin : n < i) {R : List Row} (h : ∀ q ∈ R, q.2.2.2.2 = n) : R.map (shR i) = R := by
  induction R with
  | nil => rfl
  | cons r R ih =>
    rw [List.map_cons, ih (fun q hq => h q (List.mem_cons_of_mem _ hq))]
    have := h r List.mem_cons_self
    unfold shR
    rw [if_neg (by omega)]
theorem tbl_drop {s : Sh} {en : Nat → Nat} {lo : Nat → Option Nat} {ps : PS} {i c : Nat} (hV : ShV s [] en lo) (hc : c < s.2.1) : (∀ n, n ≤ i → tbl s.2.2.2.2.2.1 (road s c) (dropP ps i).2 n = tbl s.2.2.2.2.2.1 (road s c) ps.2 n ∧ fgR i (tbl s.2.2.2.2.2.1 (road s c) ps.2 n) = tbl s.2.2.2.2.2.1 (road s c) ps.2 n) ∧ ∀ k, tbl s.2.2.2.2.2.1 (road s c) (dropP ps i).2 (i + k) = fgR i (tbl s.2.2.2.2.2.1 (road s c) ps.2 (i + k + 1)) := by
  have hpap : ∀ (pa : Pa) (n : Nat), ∀ q ∈ rwG s.2.2.2.2.2.1 pa n (road s c) 0 0 0 0, q.2.2.2.2 = n := fun pa n q hq => by rw [rwG_Q hV hc] at hq; exact rwQ_pap _ _ _ _ _ q hq
  have hlo : ∀ n, n ≤ i → tbl s.2.2.2.2.2.1 (road s c) (dropP ps i).2 n = tbl s.2.2.2.2.2.1 (road s c) ps.2 n ∧ fgR i (tbl s.2.2.2.2.2.1 (road s c) ps.2 n) = tbl s.2.2.2.2.2.1 (road s c) ps.2 n := by
    intro n
    induction n with
    | zero => intro _; exact ⟨rfl, rfl⟩
    | succ n ih =>
      intro hn
      obtain ⟨h1, h2⟩ := ih (by omega)
      have e : (dropP ps i).2 n = ps.2 n := by show (if n < i then ps.2 n else _) = _; rw [if_pos (by omega)]
      refine ⟨?_, ?_⟩
      · rw [tbl, tbl, h1, e]
      · rw [tbl, fgR_app, h2, fgR_ne (n := n) (by omega) (hpap _ _), map_shR (by omega) (hpap _ _)]
  refine ⟨hlo, fun k => ?_⟩
  induction k with
  | zero =>
    rw [Nat.add_zero, (hlo i (Nat.le_refl _)).1, tbl, fgR_app, (hlo i (Nat.le_refl _)).2, fgR_eq (hpap _ _), List.append_nil]
  | succ k ih =>
    have e : (dropP ps i).2 (i + k) = ps.2 (i + k + 1) := by show (if i + k < i then _ else ps.2 (i + k + 1)) = _; rw [if_neg (by omega)]
    show tbl _ _ _ (i + k) ++ rwG _ ((dropP ps i).2 (i + k)) (i + k) _ 0 0 0 0 = fgR i (tbl _ _ _ (i + k + 1) ++ rwG _ (ps.2 (i + k + 1)) (i + k + 1) _ 0 0 0 0)
    rw [ih, e, fgR_app, fgR_ne (n := i + k + 1) (by omega) (hpap _ _), rwG_Q hV hc, rwG_Q hV hc, rwQ_sh (by omega), Nat.add_sub_cancel]
theorem tOf_drop {s : Sh} {en : Nat → Nat} {lo : Nat → Option Nat} {ps : PS} {i c : Nat} (hV : ShV s [] en lo) (hc : c < s.2.1) (hi : i < ps.1) : tOf s (dropP ps i) c = fgR i (tOf s ps c) := by
  have := (tbl_drop (ps := ps) (i := i) hV hc).2 (ps.1 - 1 - i)
  unfold tOf
  rw [show i + (ps.1 - 1 - i) = ps.1 - 1 by omega, show ps.1 - 1 + 1 = ps.1 by omega] at this
  exact this
theorem PPs.drop {s : Sh} {ps : PS} (h : PPs s ps) (i : Nat) : PPs s (dropP ps i) := by
  refine ⟨by show ps.1 - 1 ≤ 30; have := h.1; omega, fun k hk => ?_⟩
  have hk' : k < ps.1 - 1 := hk
  show PTv s (if k < i then ps.2 k else ps.2 (k + 1)) ∧ _
  by_cases e : k < i
  · rw [show (dropP ps i).2 k = ps.2 k from if_pos e, if_pos e]; exact h.2 k (by omega)
  · rw [show (dropP ps i).2 k = ps.2 (k + 1) from if_neg e, if_neg e]; exact h.2 (k + 1) (by omega)
