/-! what lacks, laid in one row a leaf -/
theorem rdl_u {s : Sh} {gs : List Nat} {en : Nat → Nat} {lo : Nat → Option Nat} (hV : ShV s gs en lo) {c f f' : Nat} (hc : c < s.2.1) {o : Option Nat} {gl : List Nat} (hg : Chn s.2.2.1 o gl.reverse) (h1 : f ∈ rdl s c) (h2 : s.2.2.1 f = o) (h3 : f' ∈ rdl s c) (h4 : s.2.2.1 f' = o) : f = f' := by
  obtain ⟨a, ha⟩ := road_hit hV hc hg h1 h2
  obtain ⟨a', ha'⟩ := road_hit hV hc hg h3 h4
  rw [ha] at ha'
  have := List.append_cancel_left ha'
  simp at this
  exact this.1
def lkE (s : Sh) (o : Option Nat) (th : Nat → Bool) (c k : Nat) : Prop := ∃ f, f < k ∧ s.2.2.1 f = o ∧ th f = false ∧ f ∈ rdl s c
theorem lkR_eq {s : Sh} {en : Nat → Nat} {lo : Nat → Option Nat} (hV : ShV s [] en lo) {c : Nat} (hc : c < s.2.1) {o : Option Nat} {gl : List Nat} (hg : Chn s.2.2.1 o gl.reverse) {th : Nat → Bool} {r : Row} {RR : Nat → List Row} : ∀ k, k ≤ s.1 → lkR s en o th r RR k c = RR c ++ (if pB (lkE s o th c k) = true then [r] else []) := by
  intro k
  induction k with
  | zero => intro _; rw [if_neg (by rw [pB_f (fun ⟨f, h, _⟩ => absurd h (Nat.not_lt_zero _))]; decide)]; simp [lkR]
  | succ k ih =>
    intro hk
    have ih' := ih (by omega)
    rw [lkR]
    by_cases h : s.2.2.1 k = o ∧ th k = false
    · rw [if_pos h, lkL]
      by_cases h2 : k ∈ rdl s c
      · rw [if_pos ⟨hc, (rdl_on hV hc (by omega)).mp h2⟩, ih', if_neg, if_pos (pB_t ⟨k, by omega, h.1, h.2, h2⟩), List.append_nil]
        rw [pB_f]
        · decide
        · rintro ⟨f, f1, f2, f3, f4⟩
          have := rdl_u hV hc hg f4 f2 h2 h.1
          omega
      · rw [if_neg (fun z => h2 ((rdl_on hV hc (by omega)).mpr z.2)), ih']
        congr 1
        rw [pB_c (show lkE s o th c k ↔ lkE s o th c (k + 1) from ⟨fun ⟨f, f1, f2⟩ => ⟨f, by omega, f2⟩, fun ⟨f, f1, f2⟩ => ⟨f, by by_cases e : f = k; subst e; exact absurd f2.2.2 h2; omega, f2⟩⟩)]
    · rw [if_neg h, ih']
      congr 1
      rw [pB_c (show lkE s o th c k ↔ lkE s o th c (k + 1) from ⟨fun ⟨f, f1, f2⟩ => ⟨f, by omega, f2⟩, fun ⟨f, f1, f2⟩ => ⟨f, by by_cases e : f = k; subst e; exact absurd ⟨f2.1, f2.2.1⟩ h; omega, f2⟩⟩)]
theorem lkR_at {s : Sh} {en : Nat → Nat} {lo : Nat → Option Nat} (hV : ShV s [] en lo) {c f : Nat} (hc : c < s.2.1) {o : Option Nat} {gl : List Nat} (hg : Chn s.2.2.1 o gl.reverse) {th : Nat → Bool} {r : Row} {RR : Nat → List Row} (hf : f < s.1) (hW : s.2.2.1 f = o) (hr : f ∈ rdl s c) : lkR s en o th r RR f c = RR c := by
  rw [lkR_eq hV hc hg f (by omega), if_neg, List.append_nil]
  rw [pB_f]
  · decide
  · rintro ⟨f', f1, f2, f3, f4⟩
    have := rdl_u hV hc hg f4 f2 hr hW
    omega
theorem road_ne {s : Sh} {gs : List Nat} {en : Nat → Nat} {lo : Nat → Option Nat} (hV : ShV s gs en lo) {c : Nat} (hc : c < s.2.1) : ∃ f fs, road s c = f :: fs := by
  obtain ⟨h1, -⟩ := hV.rd hc
  cases hr : road s c with
  | nil =>
    have : rdl s c = [] := by have : (road s c).reverse = rdl s c := List.reverse_reverse _; rw [← this, hr]; rfl
    rw [this] at h1; cases h1
  | cons f fs => exact ⟨f, fs, rfl⟩
/-- at the end of the innermost node -/
theorem REL.rows {s : Sh} {en : Nat → Nat} {lo : Nat → Option Nat} {i x dep c : Nat} {R0 RR : Nat → List Row} {pa : Pa} {ps S' : List Nat} {o : Option Nat} {th : Nat → Bool} {lv : Nat → Nat} (h : REL s i R0 pa ps x o dep th lv RR) (hV : ShV s [] en lo) (hWl : ∀ f g, f < s.1 → s.2.2.1 f = some g → g < f) (hc : c < s.2.1) (hS' : ∀ k, k < pa.1 → (k ∈ S' ↔ k ∈ 0 :: ps ∧ k ≠ lst 0 ps)) :
    rwQ s.2.2.2.2.2.1 pa i S' (road s c) 0 0 0 0 = rwQ s.2.2.2.2.2.1 pa i (0 :: ps) (road s c) 0 0 0 0 ++ (if pB (lkE s o th c s.1) = true then [(lv dep, dgo s o, false, lN 0, i)] else []) ∧ lkR s en o th (lv dep, dgo s o, false, lN 0, i) RR s.1 c = R0 c ++ rwQ s.2.2.2.2.2.1 pa i S' (road s c) 0 0 0 0 := by
  obtain ⟨gl, e1, e2⟩ := h.gl
  have hlv := h.lv
  have ho := h.ho
  obtain ⟨h1, ⟨h2, h2b, h2c⟩, ⟨h3, h3b⟩, h4, h5, h6⟩ := h
  have key : rwQ s.2.2.2.2.2.1 pa i S' (road s c) 0 0 0 0 = rwQ s.2.2.2.2.2.1 pa i (0 :: ps) (road s c) 0 0 0 0 ++ (if pB (lkE s o th c s.1) = true then [(lv dep, dgo s o, false, lN 0, i)] else []) := by
    rw [rwQ_end h1 h2b h2c hS']
    congr 1
    by_cases hr : ∃ suf, road s c = gl ++ suf
    · obtain ⟨suf, hr⟩ := hr
      rw [hr, DD_hit ps gl 0 suf 0 0 0 e1]
      cases suf with
      | nil =>
        rw [if_neg, dC]
        rw [pB_f]
        · decide
        · rintro ⟨f, f1, f2, f3, f4⟩
          obtain ⟨a, ha⟩ := road_hit hV hc e2 f4 f2
          rw [hr] at ha
          have := congrArg List.length ha
          simp at this
      | cons g fs =>
        obtain ⟨k1, k2, k3⟩ := road_back hV hc e2 hr
        have hgs : g < s.1 := Nat.lt_of_le_of_lt (Chn.le hWl (hV.2.2.2.2.2.2.1 c hc).1 (hV.rd hc).1 g k1) (hV.2.2.2.2.2.2.1 c hc).1
        have hth : th g = pB (hasN pa (lst 0 ps) g) := h4 _ (lst_mem ps 0) g hgs (k2.trans h3)
        rw [dC]
        by_cases e9 : ch pa (lst 0 ps) g (lst 0 ps + 1) = []
        · have : th g = false := by rw [hth]; exact pB_f (fun z => hasN_ch.mp z e9)
          rw [if_pos e9, if_pos (pB_t ⟨g, hgs, k2, this, k1⟩), hlv, dgo_gl hV ho e2, Nat.zero_add]
        · have : th g = true := by rw [hth]; exact pB_t (hasN_ch.mpr e9)
          rw [if_neg e9, if_neg]
          rw [pB_f]
          · decide
          · rintro ⟨f, f1, f2, f3, f4⟩
            have := rdl_u hV hc e2 f4 f2 k1 k2
            subst this
            rw [this] at f3; cases f3
    · rw [DD_miss ps gl 0 _ 0 0 0 e1 (fun suf z => hr ⟨suf, z⟩), if_neg]
      rw [pB_f]
      · decide
      · rintro ⟨f, f1, f2, f3, f4⟩
        obtain ⟨a, ha⟩ := road_hit hV hc e2 f4 f2
        exact hr ⟨_, ha⟩
  refine ⟨key, ?_⟩
  rw [lkR_eq hV hc e2 s.1 (Nat.le_refl _), key, (h6 c hc).1, List.append_assoc]
/-- the innermost group is closed -/
theorem REL.close {s : Sh} {en : Nat → Nat} {lo : Nat → Option Nat} {i x dep g x0 p1 : Nat} {R0 RR : Nat → List Row} {pa : Pa} {ps : List Nat} {th : Nat → Bool} {lv : Nat → Nat} (h : REL s i R0 pa (ps ++ [x0]) x (some g) dep th lv RR) (hV : ShV s [] en lo) (hWl : ∀ f g, f < s.1 → s.2.2.1 f = some g → g < f) (hp : x + 2 ≤ p1) : REL s i R0 pa ps p1 (s.2.2.1 g) (dep - 1) th lv (lkR s en (some g) th (lv dep, dgo s (some g), false, lN 0, i) RR s.1) := by
  have hr := fun c (hc : c < s.2.1) => h.rows (S' := 0 :: ps) hV hWl hc
  obtain ⟨h1, ⟨h2, h2b, h2c⟩, ⟨h3, h3b⟩, h4, h5, h6⟩ := h
  obtain ⟨q1, q2⟩ := PthOk.app.mp h1
  obtain ⟨r1, r2, r3, r4, ⟨g', g1, g2, g3, g4⟩, -⟩ := q2
  rw [lst_app, g1] at h3
  cases h3
  have hgt : ∀ k ∈ 0 :: ps, k < x0 := fun k hk => by have := q1.le_lst k hk; omega
  have hS' : ∀ k, k < pa.1 → (k ∈ 0 :: ps ↔ k ∈ 0 :: (ps ++ [x0]) ∧ k ≠ lst 0 (ps ++ [x0])) := fun k hk => by
    rw [lst_app]
    constructor
    · intro z
      refine ⟨?_, fun e => by have := hgt k z; omega⟩
      rcases List.mem_cons.mp z with e | e
      · rw [e]; exact List.mem_cons_self
      · exact List.mem_cons_of_mem _ (List.mem_append_left _ e)
    · rintro ⟨z, hne⟩
      rcases List.mem_cons.mp z with e | e
      · rw [e]; exact List.mem_cons_self
      · rcases List.mem_append.mp e with e | e
        · exact List.mem_cons_of_mem _ e
        · exact absurd (List.mem_singleton.mp e) hne
  have hlen : (ps ++ [x0]).length = ps.length + 1 := by simp
  refine ⟨q1, ⟨h2, h2b, h2c⟩, ⟨g2, by omega⟩, fun y hy f hf hW => h4 y ?_ f hf hW, fun j hj => ?_, fun c hc => ?_⟩
  · rcases List.mem_cons.mp hy with e | e
    · rw [e]; exact List.mem_cons_self
    · exact List.mem_cons_of_mem _ (List.mem_append_left _ e)
  · rw [h5 j (by omega), List.take_append_of_le_length hj]
  · obtain ⟨k1, k2⟩ := hr c hc hS'
    refine ⟨k2, ?_⟩
    have := (h6 c hc).2
    rw [k1, List.length_append]
    split <;> simp <;> omega
/-- the PAPER is at its end -/
theorem REL.fin {s : Sh} {en : Nat → Nat} {lo : Nat → Option Nat} {i x dep : Nat} {R0 RR : Nat → List Row} {pa : Pa} {th : Nat → Bool} {lv : Nat → Nat} (h : REL s i R0 pa [] x none dep th lv RR) (hV : ShV s [] en lo) (hWl : ∀ f g, f < s.1 → s.2.2.1 f = some g → g < f) (hx : x ≤ 400) {c : Nat} (hc : c < s.2.1) : lkR s en none th (lv dep, dgo s none, false, lN 0, i) RR s.1 c = R0 c ++ rwG s.2.2.2.2.2.1 pa i (road s c) 0 0 0 0 ∧ (rwG s.2.2.2.2.2.1 pa i (road s c) 0 0 0 0).length ≤ 100 := by
  obtain ⟨k1, k2⟩ := h.rows (S' := []) hV hWl hc (fun k hk => by simp [lst])
  obtain ⟨f, fs, hr⟩ := road_ne hV hc
  have e : rwG s.2.2.2.2.2.1 pa i (road s c) 0 0 0 0 = rwQ s.2.2.2.2.2.1 pa i [] (road s c) 0 0 0 0 := by rw [hr]; exact rwQ_G _ _ _ _ _ _ _ _ _
  rw [e]
  refine ⟨k2, ?_⟩
  have h6 := (h.2.2.2.2.2 c hc).2
  rw [k1, List.length_append]
  by_cases hp : pB (lkE s none th c s.1) = true
  · obtain ⟨f', f1, f2, f3, f4⟩ := pB_of hp
    obtain ⟨gl, e1, e2⟩ := h.gl
    obtain ⟨a, ha⟩ := road_hit hV hc e2 f4 f2
    have hgl : gl = [] := by simpa using e1
    rw [hgl, hr] at ha
    have ef : f = f' := by simp at ha; exact ha.1
    subst ef
    have hth : th f = pB (hasN pa 0 f) := h.2.2.2.1 0 List.mem_cons_self f f1 (by rw [h.2.1.1]; exact f2)
    have hch : ch pa 0 f 1 = [] := Classical.byContradiction (fun z => by rw [hth, pB_t (hasN_ch.mpr z)] at f3; cases f3)
    have : rwQ s.2.2.2.2.2.1 pa i [0] (road s c) 0 0 0 0 = [] := by
      rw [hr, rwQ_c, hch, if_pos List.mem_cons_self]; rfl
    rw [this, if_pos hp]; simp
  · rw [if_neg hp]; simp; omega
