/-! ROWS while a PAPER is read: what lacks is not told for the nodes gs -/
theorem mem_chF {pa : Pa} {x f : Nat} : ∀ (k lk y : Nat), y ∈ chF pa x f k lk ↔ lk ≤ y ∧ y < lk + k ∧ pa.2.2.1 y = some x ∧ pa.2.1 y = some f := by
  intro k
  induction k with
  | zero => intro lk y; exact ⟨fun h => absurd h List.not_mem_nil, fun h => absurd h.2.1 (by omega)⟩
  | succ k ih =>
    intro lk y
    rw [chF]
    by_cases h : pa.2.2.1 lk = some x ∧ pa.2.1 lk = some f
    · rw [if_pos h, List.mem_cons, ih]
      constructor
      · rintro (e | e)
        · subst e; exact ⟨Nat.le_refl _, by omega, h⟩
        · exact ⟨by omega, by omega, e.2.2⟩
      · intro e
        by_cases e2 : y = lk
        · exact Or.inl e2
        · exact Or.inr ⟨by omega, by omega, e.2.2⟩
    · rw [if_neg h, ih]
      constructor
      · intro e; exact ⟨by omega, by omega, e.2.2⟩
      · intro e
        have e2 : y ≠ lk := fun z => h (z ▸ e.2.2)
        exact ⟨by omega, by omega, e.2.2⟩
theorem mem_ch {pa : Pa} {x f lk y : Nat} : y ∈ ch pa x f lk ↔ lk ≤ y ∧ y < pa.1 ∧ pa.2.2.1 y = some x ∧ pa.2.1 y = some f := by
  unfold ch
  rw [mem_chF]
  constructor
  · intro h; exact ⟨h.1, by omega, h.2.2⟩
  · intro h; exact ⟨h.1, by omega, h.2.2⟩
theorem chF_app {pa : Pa} {x f : Nat} : ∀ (k m lk : Nat), chF pa x f (k + m) lk = chF pa x f k lk ++ chF pa x f m (lk + k) := by
  intro k
  induction k with
  | zero => intro m lk; simp [chF]
  | succ k ih =>
    intro m lk
    rw [show k + 1 + m = (k + m) + 1 by omega, chF, chF, ih]
    split
    · rw [show lk + 1 + k = lk + (k + 1) by omega]; rfl
    · rw [show lk + 1 + k = lk + (k + 1) by omega]
theorem chF_eq {pa pa' : Pa} {x f : Nat} : ∀ (k lk : Nat), (∀ y, lk ≤ y → y < lk + k → ((pa'.2.2.1 y = some x ∧ pa'.2.1 y = some f) ↔ (pa.2.2.1 y = some x ∧ pa.2.1 y = some f))) → chF pa' x f k lk = chF pa x f k lk := by
  intro k
  induction k with
  | zero => intro lk _; rfl
  | succ k ih =>
    intro lk h
    rw [chF, chF, ih (lk + 1) (fun y h1 h2 => h y (by omega) (by omega))]
    have h0 := h lk (Nat.le_refl _) (by omega)
    by_cases e : pa.2.2.1 lk = some x ∧ pa.2.1 lk = some f
    · rw [if_pos e, if_pos (h0.mpr e)]
    · rw [if_neg e, if_neg (fun z => e (h0.mp z))]
theorem ch_add {pa : Pa} {fo xo : Option Nat} {v : Int64} {x f lk : Nat} (h : lk ≤ pa.1) : ch (addN pa fo xo v) x f lk = ch pa x f lk ++ if xo = some x ∧ fo = some f then [pa.1] else [] := by
  unfold ch
  have e1 : (addN pa fo xo v).1 - lk = (pa.1 - lk) + 1 := by show pa.1 + 1 - lk = _; omega
  rw [e1, chF_app]
  have e2 : chF (addN pa fo xo v) x f (pa.1 - lk) lk = chF pa x f (pa.1 - lk) lk := chF_eq _ _ (fun y h1 h2 => by
    have hy : y ≠ pa.1 := by omega
    show (va_up pa.2.2.1 pa.1 xo y = some x ∧ va_up pa.2.1 pa.1 fo y = some f) ↔ _
    rw [upn hy, upn hy])
  rw [e2, show lk + (pa.1 - lk) = pa.1 by omega]
  congr 1
  show (if va_up pa.2.2.1 pa.1 xo pa.1 = some x ∧ va_up pa.2.1 pa.1 fo pa.1 = some f then [pa.1] else []) = _
  rw [ups, ups]
theorem hasN_ch {pa : Pa} {x f : Nat} : hasN pa x f ↔ ch pa x f (x + 1) ≠ [] := by
  constructor
  · rintro ⟨k, h1, h2, h3, h4⟩ e
    have : k ∈ ch pa x f (x + 1) := mem_ch.mpr ⟨h2, h1, h3, h4⟩
    rw [e] at this; cases this
  · intro h
    cases hc : ch pa x f (x + 1) with
    | nil => exact absurd hc h
    | cons y ys =>
      have : y ∈ ch pa x f (x + 1) := by rw [hc]; exact List.mem_cons_self
      obtain ⟨h1, h2, h3, h4⟩ := mem_ch.mp this
      exact ⟨y, h2, h1, h3, h4⟩
theorem chF_last {pa : Pa} {x f y : Nat} : ∀ (k lk : Nat), y ∈ chF pa x f k lk → (∀ z ∈ chF pa x f k lk, z ≤ y) → ∃ a, chF pa x f k lk = a ++ [y] ∧ ∀ z ∈ a, z < y := by
  intro k
  induction k with
  | zero => intro lk h; cases h
  | succ k ih =>
    intro lk h1 h2
    rw [chF] at h1 h2 ⊢
    by_cases e : pa.2.2.1 lk = some x ∧ pa.2.1 lk = some f
    · rw [if_pos e] at h1 h2 ⊢
      rcases List.mem_cons.mp h1 with q | q
      · have hn : chF pa x f k (lk + 1) = [] := by
          cases hc : chF pa x f k (lk + 1) with
          | nil => rfl
          | cons z zs =>
            have hz : z ∈ chF pa x f k (lk + 1) := by rw [hc]; exact List.mem_cons_self
            have := (mem_chF _ _ _).mp hz
            have := h2 z (List.mem_cons_of_mem _ hz)
            omega
        exact ⟨[], by rw [hn, q]; rfl, fun z hz => absurd hz List.not_mem_nil⟩
      · obtain ⟨a, ha, hl⟩ := ih (lk + 1) q (fun z hz => h2 z (List.mem_cons_of_mem _ hz))
        have := (mem_chF _ _ _).mp q
        exact ⟨lk :: a, by rw [ha]; rfl, fun z hz => (List.mem_cons.mp hz).elim (fun e => by omega) (hl z)⟩
    · rw [if_neg e] at h1 h2 ⊢
      exact ih (lk + 1) h1 h2
theorem ch_last {pa : Pa} {x f y lk : Nat} (h1 : y ∈ ch pa x f lk) (h2 : ∀ z ∈ ch pa x f lk, z ≤ y) : ∃ a, ch pa x f lk = a ++ [y] ∧ ∀ z ∈ a, z < y := chF_last _ _ h1 h2
def dM (M : Nat → Nat) (f : Nat) : Nat := if M f = 0 then 0 else 1
def mM (M : Nat → Nat) (f : Nat) : Nat := if M f = 2 then 1 else 0
def rstP (body : Nat → Nat → List Row) (lack : List Row) (lev ag : Nat) : List Nat → List Row
  | [] => lack
  | y :: ys => body y lev ++ ys.flatMap (fun z => body z ag)
def rwQ (M : Nat → Nat) (pa : Pa) (i : Nat) (gs : List Nat) : List Nat → Nat → Nat → Nat → Nat → List Row
  | [], y, t, lev, _ => [(lev, t, true, pa.2.2.2 y, i)]
  | f :: fs, x, t, lev, ag => rstP (fun y lv => rwQ M pa i gs fs y (t + dM M f) lv (ag + mM M f)) (if x ∈ gs then [] else [(lev, t, false, lN 0, i)]) lev (ag + mM M f) (ch pa x f (x + 1))
theorem rwQ_c (M : Nat → Nat) (pa : Pa) (i : Nat) (gs : List Nat) (f : Nat) (fs : List Nat) (x t lev ag : Nat) : rwQ M pa i gs (f :: fs) x t lev ag = rstP (fun y lv => rwQ M pa i gs fs y (t + dM M f) lv (ag + mM M f)) (if x ∈ gs then [] else [(lev, t, false, lN 0, i)]) lev (ag + mM M f) (ch pa x f (x + 1)) := rfl
theorem rst_P (body : Nat → Nat → List Row) (lack : Row) (lev ag : Nat) (ys : List Nat) : rst body lack lev ag 0 ys = rstP body [lack] lev ag ys := by
  cases ys with
  | nil => rfl
  | cons y ys => rfl
theorem rwQ_G (M : Nat → Nat) (pa : Pa) (i : Nat) : ∀ (fs : List Nat) (f x t lev ag : Nat), rwG M pa i (f :: fs) x t lev ag = rwQ M pa i [] (f :: fs) x t lev ag := by
  intro fs
  induction fs with
  | nil =>
    intro f x t lev ag
    rw [rwG_eq, rwQ_c, rst_P, if_neg List.not_mem_nil]; rfl
  | cons g fs ih =>
    intro f x t lev ag
    rw [rwG_eq, rwQ_c, rst_P, if_neg List.not_mem_nil]
    congr 1
    funext y lv
    exact ih g y _ lv _
theorem rstP_app (body : Nat → Nat → List Row) (lack : List Row) (lev ag y : Nat) (ys : List Nat) : rstP body lack lev ag (ys ++ [y]) = (if ys = [] then [] else rstP body lack lev ag ys) ++ body y (if ys = [] then lev else ag) := by
  cases ys with
  | nil => simp [rstP]
  | cons a ys => simp [rstP, List.flatMap_append]
theorem rstP_eq {body body' : Nat → Nat → List Row} {lack lack' : List Row} {lev ag : Nat} : ∀ {ys : List Nat}, (∀ y ∈ ys, ∀ l, body' y l = body y l) → (ys = [] → lack' = lack) → rstP body' lack' lev ag ys = rstP body lack lev ag ys
  | [], _, h => h rfl
  | y :: ys, h, _ => by
    show body' y lev ++ ys.flatMap (fun z => body' z ag) = body y lev ++ ys.flatMap (fun z => body z ag)
    rw [h y List.mem_cons_self]
    congr 1
    have : ∀ l : List Nat, (∀ z ∈ l, z ∈ ys) → l.flatMap (fun z => body' z ag) = l.flatMap (fun z => body z ag) := by
      intro l
      induction l with
      | nil => intro _; rfl
      | cons a l ih => intro hl; rw [List.flatMap_cons, List.flatMap_cons, h a (List.mem_cons_of_mem _ (hl a List.mem_cons_self)), ih (fun z hz => hl z (List.mem_cons_of_mem _ hz))]
    exact this ys (fun z hz => hz)
/-- nodes whose rows stay -/
def ClQ (pa pa' : Pa) (gs gs' : List Nat) (Cl : Nat → Prop) : Prop := ∀ y, Cl y → (∀ f, ch pa' y f (y + 1) = ch pa y f (y + 1)) ∧ (∀ f, ∀ z ∈ ch pa y f (y + 1), Cl z) ∧ (y ∈ gs' ↔ y ∈ gs) ∧ pa'.2.2.2 y = pa.2.2.2 y
theorem rwQ_cl {M : Nat → Nat} {pa pa' : Pa} {i : Nat} {gs gs' : List Nat} {Cl : Nat → Prop} (h : ClQ pa pa' gs gs' Cl) : ∀ (r : List Nat) (y t lev ag : Nat), Cl y → rwQ M pa' i gs' r y t lev ag = rwQ M pa i gs r y t lev ag := by
  intro r
  induction r with
  | nil => intro y t lev ag hy; rw [rwQ, rwQ, (h y hy).2.2.2]
  | cons f fs ih =>
    intro y t lev ag hy
    obtain ⟨h1, h2, h3, h4⟩ := h y hy
    rw [rwQ_c, rwQ_c, h1]
    refine rstP_eq (fun z hz l => ih z _ l _ (h2 f z hz)) (fun _ => ?_)
    by_cases e : y ∈ gs
    · rw [if_pos e, if_pos (h3.mpr e)]
    · rw [if_neg e, if_neg (fun z => e (h3.mp z))]
/-- the way down to the node x -/
def SpQ (pa pa' : Pa) (gs gs' : List Nat) (Cl : Nat → Prop) (x : Nat) : Nat → List Nat → Prop
  | z, [] => z = x
  | z, y :: ps => z ∈ gs ∧ z ∈ gs' ∧ (∀ f, ch pa' z f (z + 1) = ch pa z f (z + 1)) ∧ pa'.2.2.2 z = pa.2.2.2 z ∧ (∃ g, pa.2.1 y = some g ∧ (∃ a, ch pa z g (z + 1) = a ++ [y] ∧ ∀ k ∈ a, Cl k) ∧ ∀ f, f ≠ g → ∀ k ∈ ch pa z f (z + 1), Cl k) ∧ SpQ pa pa' gs gs' Cl x y ps
def DD (pa : Pa) (M : Nat → Nat) (δ : List Nat → Nat → Nat → Nat → List Row) : Nat → List Nat → List Nat → Nat → Nat → Nat → List Row
  | _, [], r, t, lev, ag => δ r t lev ag
  | _, _ :: _, [], _, _, _ => []
  | z, y :: ps, f :: fs, t, lev, ag => if pa.2.1 y = some f then DD pa M δ y ps fs (t + dM M f) (if ch pa z f (z + 1) = [y] then lev else ag + mM M f) (ag + mM M f) else []
theorem rwQ_sp {M : Nat → Nat} {pa pa' : Pa} {i x : Nat} {gs gs' : List Nat} {Cl : Nat → Prop} {δ : List Nat → Nat → Nat → Nat → List Row} (h : ClQ pa pa' gs gs' Cl) (hx : ∀ r t lev ag, rwQ M pa' i gs' r x t lev ag = rwQ M pa i gs r x t lev ag ++ δ r t lev ag) : ∀ (ps : List Nat) (z : Nat) (r : List Nat) (t lev ag : Nat), SpQ pa pa' gs gs' Cl x z ps → rwQ M pa' i gs' r z t lev ag = rwQ M pa i gs r z t lev ag ++ DD pa M δ z ps r t lev ag := by
  intro ps
  induction ps with
  | nil => intro z r t lev ag hs; rw [show z = x from hs]; exact hx r t lev ag
  | cons y ps ih =>
    intro z r t lev ag hs
    obtain ⟨s1, s2, s3, s4, ⟨g, g1, ⟨a, g2, g3⟩, g4⟩, s6⟩ := hs
    cases r with
    | nil => rw [rwQ, rwQ, s4]; simp [DD]
    | cons f fs =>
      rw [rwQ_c, rwQ_c, s3, if_pos s1, if_pos s2, DD, g1]
      by_cases e : f = g
      · subst e
        rw [if_pos rfl, g2, rstP_app, rstP_app]
        have e1 : (if a = [] then [] else rstP (fun y lv => rwQ M pa' i gs' fs y (t + dM M f) lv (ag + mM M f)) [] lev (ag + mM M f) a) = (if a = [] then [] else rstP (fun y lv => rwQ M pa i gs fs y (t + dM M f) lv (ag + mM M f)) [] lev (ag + mM M f) a) := by
          split
          · rfl
          · exact rstP_eq (fun z hz l => rwQ_cl h fs z _ l _ (g3 z hz)) (fun _ => rfl)
        rw [e1]
        have e2 : (if a ++ [y] = [y] then lev else ag + mM M f) = (if a = [] then lev else ag + mM M f) := by
          by_cases ea : a = []
          · rw [if_pos ea, if_pos (by rw [ea]; rfl)]
          · rw [if_neg ea, if_neg (fun z => ea (by cases a with
              | nil => rfl
              | cons b a => simp at z))]
        rw [e2, ih y fs _ _ _ s6, List.append_assoc]
      · rw [if_neg (fun z => e (Option.some.inj z).symm), List.append_nil]
        exact rstP_eq (fun z hz l => rwQ_cl h fs z _ l _ (g4 f e z hz)) (fun _ => rfl)
/-- the level with which the innermost node comes -/
def LVl (pa : Pa) (M : Nat → Nat) : Nat → List Nat → Nat → Nat → Nat
  | _, [], lev, _ => lev
  | z, y :: ps, lev, ag => match pa.2.1 y with
    | none => 0
    | some g => LVl pa M y ps (if ch pa z g (z + 1) = [y] then lev else ag + mM M g) (ag + mM M g)
theorem dc_k (M : Nat → Nat) (f : Nat) (l : List Nat) : dc M (f :: l) = dM M f + dc M l := by rw [dc_c]; unfold dM; omega
theorem mc_k (M : Nat → Nat) (f : Nat) (l : List Nat) : mc M (f :: l) = mM M f + mc M l := by rw [mc_c]; unfold mM; omega
theorem DD_hit {pa : Pa} {M : Nat → Nat} {δ : List Nat → Nat → Nat → Nat → List Row} : ∀ (ps gl : List Nat) (z : Nat) (suf : List Nat) (t lev ag : Nat), ps.map pa.2.1 = gl.map some → DD pa M δ z ps (gl ++ suf) t lev ag = δ suf (t + dc M gl) (LVl pa M z ps lev ag) (ag + mc M gl) := by
  intro ps
  induction ps with
  | nil =>
    intro gl z suf t lev ag h
    cases gl with
    | nil => rfl
    | cons g gl => simp at h
  | cons y ps ih =>
    intro gl z suf t lev ag h
    cases gl with
    | nil => simp at h
    | cons g gl =>
      simp only [List.map_cons, List.cons.injEq] at h
      show DD pa M δ z (y :: ps) (g :: (gl ++ suf)) t lev ag = _
      rw [DD, if_pos h.1, ih gl y suf _ _ _ h.2, LVl, h.1, dc_k, mc_k, Nat.add_assoc, Nat.add_assoc]
theorem DD_miss {pa : Pa} {M : Nat → Nat} {δ : List Nat → Nat → Nat → Nat → List Row} : ∀ (ps gl : List Nat) (z : Nat) (r : List Nat) (t lev ag : Nat), ps.map pa.2.1 = gl.map some → (∀ suf, r ≠ gl ++ suf) → DD pa M δ z ps r t lev ag = [] := by
  intro ps
  induction ps with
  | nil =>
    intro gl z r t lev ag h hn
    cases gl with
    | nil => exact absurd rfl (hn r)
    | cons g gl => simp at h
  | cons y ps ih =>
    intro gl z r t lev ag h hn
    cases gl with
    | nil => simp at h
    | cons g gl =>
      simp only [List.map_cons, List.cons.injEq] at h
      cases r with
      | nil => rfl
      | cons f fs =>
        rw [DD]
        by_cases e : pa.2.1 y = some f
        · rw [if_pos e]
          have e2 : f = g := Option.some.inj (e.symm.trans h.1)
          subst e2
          exact ih gl y fs _ _ _ h.2 (fun suf z => hn suf (by rw [z]; rfl))
        · rw [if_neg e]
