/-! BOTH: stretches are nodes -/
theorem shM_ge {en A : Nat → Nat} {fa fb : Nat} : ∀ (n k : Nat), k < n → ((k ≤ fa ∧ fa < en k) ∧ (k ≤ fb ∧ fb < en k)) → A k ≤ shM en A fa fb n := by
  intro n
  induction n with
  | zero => intro k hk; exact absurd hk (Nat.not_lt_zero _)
  | succ n ih =>
    intro k hk h
    rw [shM]
    by_cases e : k = n
    · subst e; rw [if_pos h]; omega
    · have := ih k (by omega) h
      split <;> omega
theorem shM_le2 {en A : Nat → Nat} {fa fb B : Nat} : ∀ (n : Nat), (∀ k, k < n → ((k ≤ fa ∧ fa < en k) ∧ (k ≤ fb ∧ fb < en k)) → A k ≤ B) → shM en A fa fb n ≤ B := by
  intro n
  induction n with
  | zero => intro _; exact Nat.zero_le _
  | succ n ih =>
    intro h
    have h1 := ih (fun k hk => h k (by omega))
    rw [shM]
    split
    · rename_i hc; have := h n (by omega) hc; omega
    · exact h1
theorem mc_zero {M : Nat → Nat} {l : List Nat} (h : ∀ e ∈ l, M e ≠ 2) : mc M l = 0 := by
  unfold mc
  rw [List.filter_eq_nil_iff.mpr (fun e he => by have := h e he; simp [this])]; rfl
theorem chn_up {s : Sh} {gs : List Nat} {en : Nat → Nat} {lo : Nat → Option Nat} (hV : ShV s gs en lo) {k : Nat} (hk : k < s.1) {l : List Nat} (h : Chn s.2.2.1 (s.2.2.1 k) l) : upF s.2.2.1 6 (some k) = k :: l := Chn.uniq (hV.up hk).1 ⟨rfl, h⟩
def lvG (s : Sh) (a b : Nat) : Nat := match grp s a b with
  | none => 0
  | some g => mc s.2.2.2.2.2.1 (upF s.2.2.1 6 (some g))
theorem lv_grp {s : Sh} {en : Nat → Nat} {lo : Nat → Option Nat} (hV : ShV s [] en lo) (hWl : ∀ f g, f < s.1 → s.2.2.1 f = some g → g < f) {a b : Nat} (ha : a < s.2.1) (hb : b < s.2.1) : shM en (fun f => mc s.2.2.2.2.2.1 (upF s.2.2.1 6 (some f))) (s.2.2.2.2.2.2 a) (s.2.2.2.2.2.2 b) s.1 = lvG s a b := by
  have hlta : ∀ f ∈ rdl s a, f < s.1 := fun f hf => Nat.lt_of_le_of_lt (Chn.le hWl (hV.2.2.2.2.2.2.1 a ha).1 (hV.rd ha).1 f hf) (hV.2.2.2.2.2.2.1 a ha).1
  have hcom : ∀ k, k < s.1 → (((k ≤ s.2.2.2.2.2.2 a ∧ s.2.2.2.2.2.2 a < en k) ∧ (k ≤ s.2.2.2.2.2.2 b ∧ s.2.2.2.2.2.2 b < en k)) ↔ (k ∈ rdl s a ∧ k ∈ rdl s b)) := fun k hk => by rw [rdl_on hV ha hk, rdl_on hV hb hk]
  -- the chain of what is on both roads is on both
  have hup : ∀ k, k ∈ rdl s b → ∀ l, Chn s.2.2.1 (s.2.2.1 k) l → ∀ e ∈ l, e ∈ rdl s b := fun k hk l hl e he => by
    obtain ⟨p, l', e1, e2⟩ := Chn.mem (hV.rd hb).1 hk
    rw [Chn.uniq hl e2] at he
    rw [e1]; simp [he]
  unfold lvG
  cases hg : grp s a b with
  | none =>
    have hno : ∀ e ∈ rdl s a, e ∈ rdl s b → s.2.2.2.2.2.1 e ≠ 2 := fun e h1 h2 h3 => by
      have := List.find?_eq_none.mp hg e h1
      simp [h3, h2] at this
    refine Nat.le_zero.mp (shM_le2 s.1 (fun k hk hc => ?_))
    obtain ⟨c1, c2⟩ := (hcom k hk).mp hc
    obtain ⟨p, l, e1, e2⟩ := Chn.mem (hV.rd ha).1 c1
    show mc _ (upF s.2.2.1 6 (some k)) ≤ 0
    rw [chn_up hV hk e2, mc_zero]
    · exact Nat.le_refl _
    · intro e he
      refine hno e (by rw [e1]; exact List.mem_append_right _ he) ?_
      rcases List.mem_cons.mp he with q | q
      · rw [q]; exact c2
      · exact hup k c2 l e2 e q
  | some g =>
    obtain ⟨hp, as, bs, h1, h2⟩ := List.find?_eq_some_iff_append.mp hg
    simp only [decide_eq_true_eq] at hp
    have hga : g ∈ rdl s a := by rw [h1]; simp
    have hgs := hlta g hga
    have hcb : Chn s.2.2.1 (s.2.2.1 g) bs := Chn.suf (h1 ▸ (hV.rd ha).1)
    have hug := chn_up hV hgs hcb
    show _ = mc _ (upF s.2.2.1 6 (some g))
    refine Nat.le_antisymm (shM_le2 s.1 (fun k hk hc => ?_)) (shM_ge (A := fun f => mc s.2.2.2.2.2.1 (upF s.2.2.1 6 (some f))) s.1 g hgs ((hcom g hgs).mpr ⟨hga, hp.2⟩))
    obtain ⟨c1, c2⟩ := (hcom k hk).mp hc
    show mc _ (upF s.2.2.1 6 (some k)) ≤ mc _ (upF s.2.2.1 6 (some g))
    rw [h1] at c1
    rcases List.mem_append.mp c1 with q | q
    · obtain ⟨p, r, hpr⟩ := List.append_of_mem q
      have e2 : Chn s.2.2.1 (s.2.2.1 k) (r ++ g :: bs) := by
        have := (hV.rd ha).1
        rw [h1, hpr, List.append_assoc, List.cons_append] at this
        exact Chn.suf this
      rw [chn_up hV hk e2, hug, show k :: (r ++ g :: bs) = (k :: r) ++ (g :: bs) from rfl, mc_app, mc_zero]
      · omega
      · intro e he hm
        have hea : e ∈ as := by rw [hpr]; exact List.mem_append_right _ he
        have heb : e ∈ rdl s b := by
          rcases List.mem_cons.mp he with z | z
          · rw [z]; exact c2
          · exact hup k c2 _ e2 e (List.mem_append_left _ z)
        have := h2 e hea
        simp [hm, heb] at this
    · have hch : Chn s.2.2.1 (some g) (g :: bs) := ⟨rfl, hcb⟩
      obtain ⟨p, l, e1, e2⟩ := Chn.mem hch q
      rw [chn_up hV hk e2, hug, e1, mc_app]; omega
/-- the roads of both, from the shared many on -/
theorem road_grp {s : Sh} {en : Nat → Nat} {lo : Nat → Option Nat} (hV : ShV s [] en lo) (hWl : ∀ f g, f < s.1 → s.2.2.1 f = some g → g < f) {a b : Nat} (ha : a < s.2.1) (hb : b < s.2.1) : ∃ pre sa sb, road s a = pre ++ sa ∧ road s b = pre ++ sb ∧ mc s.2.2.2.2.2.1 pre = lvG s a b ∧ Chn s.2.2.1 (grp s a b) pre.reverse ∧ ∀ g, grp s a b = some g → g < s.1 := by
  unfold lvG
  cases hg : grp s a b with
  | none => exact ⟨[], road s a, road s b, rfl, rfl, rfl, rfl, fun g hg => by cases hg⟩
  | some g =>
    obtain ⟨hp, as, bs, h1, h2⟩ := List.find?_eq_some_iff_append.mp hg
    simp only [decide_eq_true_eq] at hp
    have hga : g ∈ rdl s a := by rw [h1]; simp
    have hgs : g < s.1 := Nat.lt_of_le_of_lt (Chn.le hWl (hV.2.2.2.2.2.2.1 a ha).1 (hV.rd ha).1 g hga) (hV.2.2.2.2.2.2.1 a ha).1
    have hcb : Chn s.2.2.1 (s.2.2.1 g) bs := Chn.suf (h1 ▸ (hV.rd ha).1)
    obtain ⟨as', bs', e1, e2⟩ := Chn.mem (hV.rd hb).1 hp.2
    rw [Chn.uniq e2 hcb] at e1
    refine ⟨(g :: bs).reverse, as.reverse, as'.reverse, by unfold road; rw [h1]; simp, by unfold road; rw [e1]; simp, ?_, ?_, fun g' hg' => by cases hg'; exact hgs⟩
    · show mc _ (g :: bs).reverse = mc _ (upF s.2.2.1 6 (some g))
      rw [mc_rev, chn_up hV hgs hcb]
    · rw [List.reverse_reverse]; exact ⟨rfl, hcb⟩
/-- rows by nodes at the end of pre -/
def bkQ (M : Nat → Nat) (pa : Pa) (i : Nat) (suf : List Nat) : List Nat → Nat → Nat → Nat → Nat → List (List Row)
  | [], x, t, lev, ag => [rwQ M pa i [] suf x t lev ag]
  | f :: fs, x, t, lev, ag => match ch pa x f (x + 1) with
    | [] => [[(lev, t, false, lN 0, i)]]
    | y :: ys => bkQ M pa i suf fs y (t + dM M f) lev (ag + mM M f) ++ ys.flatMap (fun z => bkQ M pa i suf fs z (t + dM M f) (ag + mM M f) (ag + mM M f))
theorem flat_fm {α β : Type} (g : α → List (List β)) : ∀ ys : List α, (ys.flatMap g).flatten = ys.flatMap (fun z => (g z).flatten) := by
  intro ys
  induction ys with
  | nil => rfl
  | cons y ys ih => rw [List.flatMap_cons, List.flatMap_cons, List.flatten_append, ih]
theorem bkQ_flat {M : Nat → Nat} {pa : Pa} {i : Nat} {suf : List Nat} : ∀ (pre : List Nat) (x t lev ag : Nat), (bkQ M pa i suf pre x t lev ag).flatten = rwQ M pa i [] (pre ++ suf) x t lev ag := by
  intro pre
  induction pre with
  | nil => intro x t lev ag; simp [bkQ]
  | cons f fs ih =>
    intro x t lev ag
    rw [bkQ, List.cons_append, rwQ_c, if_neg List.not_mem_nil]
    cases hc : ch pa x f (x + 1) with
    | nil => simp [rstP]
    | cons y ys =>
      show (bkQ M pa i suf fs y _ _ _ ++ _).flatten = rwQ M pa i [] (fs ++ suf) y _ _ _ ++ _
      rw [List.flatten_append, ih, flat_fm]
      congr 1
      exact congrArg (fun F => ys.flatMap F) (funext (fun z => ih z _ _ _))
/-- one part each, but for many -/
def OneP (M : Nat → Nat) (pa : Pa) : Prop := ∀ x f y ys, ch pa x f (x + 1) = y :: ys → ys ≠ [] → M f = 2
theorem TVd.one {s : Sh} {pa : Pa} {S : List Nat} {x : Nat} (h : TVd s pa S x) : OneP s.2.2.2.2.2.1 pa := fun x f y ys hc hne => Classical.byContradiction (fun hm => by
  cases ys with
  | nil => exact hne rfl
  | cons z zs =>
    have h1 : y ∈ ch pa x f (x + 1) := by rw [hc]; simp
    have h2 : z ∈ ch pa x f (x + 1) := by rw [hc]; simp
    obtain ⟨a1, a2, a3, a4⟩ := mem_ch.mp h1
    obtain ⟨b1, b2, b3, b4⟩ := mem_ch.mp h2
    have e := h.2.1 y z x f a2 b2 a3 b3 a4 b4 hm
    have hnd := ch_nd pa x f (x + 1)
    rw [hc] at hnd
    have := (List.pairwise_cons.mp hnd).1 z List.mem_cons_self
    omega)
theorem rwQ_tl {M : Nat → Nat} {pa : Pa} {i : Nat} (hO : OneP M pa) : ∀ (suf : List Nat) (x t lev ag : Nat), ∃ r bt, rwQ M pa i [] suf x t lev ag = r :: bt ∧ r.1 = lev ∧ ∀ q ∈ bt, ag < q.1 := by
  intro suf
  induction suf with
  | nil => intro x t lev ag; exact ⟨_, [], rfl, rfl, fun q hq => by cases hq⟩
  | cons f fs ih =>
    intro x t lev ag
    rw [rwQ_c, if_neg List.not_mem_nil]
    cases hc : ch pa x f (x + 1) with
    | nil => exact ⟨_, [], rfl, rfl, fun q hq => by cases hq⟩
    | cons y ys =>
      obtain ⟨r, bt, e1, e2, e3⟩ := ih y (t + dM M f) lev (ag + mM M f)
      show ∃ r bt, rwQ M pa i [] fs y (t + dM M f) lev (ag + mM M f) ++ _ = r :: bt ∧ _
      rw [e1]
      refine ⟨r, _, rfl, e2, fun q hq => ?_⟩
      rcases List.mem_append.mp hq with z | z
      · have := e3 q z; omega
      · obtain ⟨z0, hz0, hz1⟩ := List.mem_flatMap.mp z
        have hm : M f = 2 := hO x f y ys hc (fun e => by rw [e] at hz0; cases hz0)
        have hmM : mM M f = 1 := by unfold mM; rw [if_pos hm]
        obtain ⟨r2, bt2, f1, f2, f3⟩ := ih z0 (t + dM M f) (ag + mM M f) (ag + mM M f)
        have hz1' : q ∈ rwQ M pa i [] fs z0 (t + dM M f) (ag + mM M f) (ag + mM M f) := hz1
        rw [f1] at hz1'
        rcases List.mem_cons.mp hz1' with w | w
        · rw [w, f2]; omega
        · have := f3 q w; omega
def GBk (lv : Nat) (B : List Row) : Prop := ∃ r bt, B = r :: bt ∧ r.1 ≤ lv ∧ ∀ q ∈ bt, lv < q.1
theorem bkQ_gb {M : Nat → Nat} {pa : Pa} {i : Nat} {suf : List Nat} (hO : OneP M pa) : ∀ (pre : List Nat) (x t lev ag : Nat), lev ≤ ag → ∀ B ∈ bkQ M pa i suf pre x t lev ag, GBk (ag + mc M pre) B := by
  intro pre
  induction pre with
  | nil =>
    intro x t lev ag hl B hB
    rw [bkQ, List.mem_singleton] at hB
    obtain ⟨r, bt, e1, e2, e3⟩ := rwQ_tl (i := i) hO suf x t lev ag
    rw [hB, mc_n]
    exact ⟨r, bt, e1, by omega, e3⟩
  | cons f fs ih =>
    intro x t lev ag hl B hB
    rw [bkQ] at hB
    rw [mc_k, ← Nat.add_assoc]
    cases hc : ch pa x f (x + 1) with
    | nil =>
      rw [hc] at hB
      rw [List.mem_singleton.mp hB]
      exact ⟨_, [], rfl, by show lev ≤ _; omega, fun q hq => by cases hq⟩
    | cons y ys =>
      rw [hc] at hB
      rcases List.mem_append.mp hB with z | z
      · exact ih y _ lev _ (by omega) B z
      · obtain ⟨z0, hz0, hz1⟩ := List.mem_flatMap.mp z
        exact ih z0 _ _ _ (Nat.le_refl _) B hz1
/-- the nodes at the end of pre, or what lacks on the way -/
def itQ (pa : Pa) : List Nat → Nat → List (Option Nat)
  | [], x => [some x]
  | f :: fs, x => match ch pa x f (x + 1) with
    | [] => [none]
    | y :: ys => itQ pa fs y ++ ys.flatMap (itQ pa fs)
def dsQ (pa : Pa) : List Nat → Nat → List Nat
  | [], y => [y]
  | f :: fs, y => (ch pa y f (y + 1)).flatMap (dsQ pa fs)
def hsB (B : List Row) (v : Int64) : Prop := ∃ r ∈ B, r.2.2.1 = true ∧ r.2.2.2.1 = v
theorem hsB_rw {M : Nat → Nat} {pa : Pa} {i : Nat} {v : Int64} : ∀ (suf : List Nat) (x t lev ag : Nat), hsB (rwQ M pa i [] suf x t lev ag) v ↔ ∃ z ∈ dsQ pa suf x, pa.2.2.2 z = v := by
  intro suf
  induction suf with
  | nil =>
    intro x t lev ag
    constructor
    · rintro ⟨r, hr, h1, h2⟩
      rw [rwQ, List.mem_singleton] at hr
      subst hr
      exact ⟨x, by simp [dsQ], h2⟩
    · rintro ⟨z, hz, h⟩
      have : z = x := by simpa [dsQ] using hz
      subst this
      exact ⟨_, by rw [rwQ]; exact List.mem_cons_self, rfl, h⟩
  | cons f fs ih =>
    intro x t lev ag
    rw [rwQ_c, if_neg List.not_mem_nil, dsQ]
    cases hc : ch pa x f (x + 1) with
    | nil =>
      constructor
      · rintro ⟨r, hr, h1, h2⟩
        have hr' : r ∈ [((lev, t, false, lN 0, i) : Row)] := hr
        rw [List.mem_singleton.mp hr'] at h1; cases h1
      · rintro ⟨z, hz, h⟩; cases hz
    | cons y ys =>
      constructor
      · rintro ⟨r, hr, h1, h2⟩
        rcases List.mem_append.mp hr with z | z
        · obtain ⟨z1, z2, z3⟩ := (ih y _ _ _).mp ⟨r, z, h1, h2⟩
          exact ⟨z1, List.mem_flatMap.mpr ⟨y, List.mem_cons_self, z2⟩, z3⟩
        · obtain ⟨y2, w1, w2⟩ := List.mem_flatMap.mp z
          obtain ⟨z1, z2, z3⟩ := (ih y2 _ _ _).mp ⟨r, w2, h1, h2⟩
          exact ⟨z1, List.mem_flatMap.mpr ⟨y2, List.mem_cons_of_mem _ w1, z2⟩, z3⟩
      · rintro ⟨z, hz, h⟩
        obtain ⟨y2, w1, w2⟩ := List.mem_flatMap.mp hz
        rcases List.mem_cons.mp w1 with e | e
        · subst e
          obtain ⟨r, r1, r2, r3⟩ := (ih y2 (t + dM M f) lev (ag + mM M f)).mpr ⟨z, w2, h⟩
          exact ⟨r, List.mem_append_left _ r1, r2, r3⟩
        · obtain ⟨r, r1, r2, r3⟩ := (ih y2 (t + dM M f) (ag + mM M f) (ag + mM M f)).mpr ⟨z, w2, h⟩
          exact ⟨r, List.mem_append_right _ (List.mem_flatMap.mpr ⟨y2, e, r1⟩), r2, r3⟩
noncomputable def itB (pa : Pa) (suf : List Nat) (v : Int64) (o : Option Nat) : Bool := match o with
  | none => false
  | some y => pB (∃ z ∈ dsQ pa suf y, pa.2.2.2 z = v)
theorem map_fm {α β γ : Type} (g : α → List β) (F : β → γ) (ys : List α) : (ys.flatMap g).map F = ys.flatMap (fun z => (g z).map F) := by
  induction ys with
  | nil => rfl
  | cons y ys ih => rw [List.flatMap_cons, List.flatMap_cons, List.map_append, ih]
theorem bkQ_it {M : Nat → Nat} {pa : Pa} {i : Nat} {suf : List Nat} {v : Int64} : ∀ (pre : List Nat) (x t lev ag : Nat), (bkQ M pa i suf pre x t lev ag).map (fun B => pB (hsB B v)) = (itQ pa pre x).map (itB pa suf v) := by
  intro pre
  induction pre with
  | nil =>
    intro x t lev ag
    rw [bkQ, itQ]
    show [pB (hsB (rwQ M pa i [] suf x t lev ag) v)] = [pB (∃ z ∈ dsQ pa suf x, pa.2.2.2 z = v)]
    rw [pB_c (hsB_rw suf x t lev ag)]
  | cons f fs ih =>
    intro x t lev ag
    rw [bkQ, itQ]
    cases hc : ch pa x f (x + 1) with
    | nil =>
      show [pB (hsB [(lev, t, false, lN 0, i)] v)] = [false]
      rw [pB_f (fun ⟨r, r1, r2, r3⟩ => by rw [List.mem_singleton.mp r1] at r2; cases r2)]
    | cons y ys =>
      show (bkQ M pa i suf fs y _ _ _ ++ _).map _ = (itQ pa fs y ++ ys.flatMap (itQ pa fs)).map _
      rw [List.map_append, List.map_append, ih, map_fm, map_fm]
      congr 1
      exact congrArg (fun F => ys.flatMap F) (funext (fun z => ih z _ _ _))
/-! counting -/
def cz : List Bool → List Bool → Nat
  | a :: as, b :: bs => (if (a && b) = true then 1 else 0) + cz as bs
  | _, _ => 0
theorem cz_app : ∀ (a a' b b' : List Bool), a.length = b.length → cz (a ++ a') (b ++ b') = cz a b + cz a' b'
  | [], a', [], b', _ => by simp [cz]
  | [], _, _ :: _, _, h => by simp at h
  | _ :: _, _, [], _, h => by simp at h
  | x :: a, a', y :: b, b', h => by
    show (if (x && y) = true then 1 else 0) + cz (a ++ a') (b ++ b') = (if (x && y) = true then 1 else 0) + cz a b + cz a' b'
    rw [cz_app a a' b b' (by simpa using h)]; omega
theorem cz_map {α : Type} (f g : α → Bool) : ∀ l : List α, cz (l.map f) (l.map g) = (l.filter (fun x => f x && g x)).length
  | [] => rfl
  | x :: l => by
    show (if (f x && g x) = true then 1 else 0) + cz (l.map f) (l.map g) = _
    rw [cz_map f g l, List.filter_cons]
    by_cases h : (f x && g x) = true
    · rw [if_pos h, if_pos h]; simp; omega
    · rw [if_neg h, if_neg h]; simp
theorem stF_skip {R : List Row} {lv : Nat} : ∀ (m f e : Nat), m ≤ f → (∀ j, e ≤ j → j < e + m → lv < (rowAt R j).1) → stF R lv f e = stF R lv (f - m) (e + m) := by
  intro m
  induction m with
  | zero => intro f e _ _; rfl
  | succ m ih =>
    intro f e hm h
    obtain ⟨f', hf⟩ : ∃ f', f = f' + 1 := ⟨f - 1, by omega⟩
    subst hf
    have h0 := h e (Nat.le_refl _) (by omega)
    show (if (rowAt R e).1 ≤ lv then e else stF R lv f' (e + 1)) = _
    rw [if_neg (by omega), ih f' (e + 1) (by omega) (fun j h1 h2 => h j (by omega) (by omega)), show f' + 1 - (m + 1) = f' - m by omega, show e + 1 + m = e + (m + 1) by omega]
/-- a stretch is a block -/
theorem stE_blk {P B Q : List Row} {lv : Nat} (hB : GBk lv B) (hQ : Q = [] ∨ ∃ r q, Q = r :: q ∧ r.1 ≤ lv) : stE (P ++ (B ++ Q)) lv P.length = P.length + B.length := by
  obtain ⟨r, bt, rfl, h1, h2⟩ := hB
  unfold stE
  have hl : (P ++ (r :: bt ++ Q)).length = P.length + (bt.length + 1) + Q.length := by simp; omega
  have hrow : ∀ j, P.length + 1 ≤ j → j < P.length + 1 + bt.length → lv < (rowAt (P ++ (r :: bt ++ Q)) j).1 := fun j a1 a2 => by
    rw [rowAt_r (by omega)]
    have : rowAt (r :: bt ++ Q) (j - P.length) = rowAt bt (j - P.length - 1) := by
      obtain ⟨k, hk⟩ : ∃ k, j - P.length = k + 1 := ⟨j - P.length - 1, by omega⟩
      rw [hk]
      show rowAt (r :: (bt ++ Q)) (k + 1) = _
      rw [show rowAt (r :: (bt ++ Q)) (k + 1) = rowAt (bt ++ Q) k from rfl, rowAt_l (by omega)]; rfl
    rw [this]
    exact h2 _ (rowAt_mem (by omega))
  rw [stF_skip bt.length _ _ (by rw [hl]; omega) hrow, hl]
  rcases hQ with e | ⟨r2, q, e, hr2⟩
  · subst e
    rw [show P.length + (bt.length + 1) + ([] : List Row).length - (P.length + 1) - bt.length = 0 by simp; omega]
    show (P ++ (r :: bt ++ [])).length = _
    simp
  · subst e
    rw [show P.length + (bt.length + 1) + (r2 :: q).length - (P.length + 1) - bt.length = q.length + 1 by simp; omega]
    show (if (rowAt (P ++ (r :: bt ++ r2 :: q)) (P.length + 1 + bt.length)).1 ≤ lv then _ else _) = _
    rw [if_pos]
    · simp; omega
    · rw [rowAt_r (by omega), rowAt_r (by simp; omega)]
      simp only [List.length_cons]
      rw [show P.length + 1 + bt.length - P.length - (bt.length + 1) = 0 by omega]
      exact hr2
theorem i64_eq {a b : Int64} (h1 : a ≤ b) (h2 : b ≤ a) : b = a := by
  have k1 := Int64.le_iff_toInt_le.mp h1
  have k2 := Int64.le_iff_toInt_le.mp h2
  exact Int64.toInt_inj.mp (by omega)
theorem hold_blk {P B Q : List Row} {lv : Nat} {v : Int64} (hB : GBk lv B) (hQ : Q = [] ∨ ∃ r q, Q = r :: q ∧ r.1 ≤ lv) : hold (P ++ (B ++ Q)) lv v P.length ↔ hsB B v := by
  unfold hold
  rw [stE_blk hB hQ]
  have haP : ∀ r, P.length ≤ r → r < P.length + B.length → (aP (P ++ (B ++ Q)) v v r = true ↔ ((rowAt B (r - P.length)).2.2.1 = true ∧ (rowAt B (r - P.length)).2.2.2.1 = v)) := fun r h1 h2 => by
    unfold aP
    rw [rowAt_r h1, rowAt_l (by omega)]
    simp only [Bool.and_eq_true, decide_eq_true_eq]
    constructor
    · rintro ⟨⟨q1, q2⟩, q3⟩; exact ⟨q1, i64_eq q2 q3⟩
    · rintro ⟨q1, q2⟩; rw [q2]; exact ⟨⟨q1, Int64.le_refl _⟩, Int64.le_refl _⟩
  constructor
  · rintro ⟨r, h1, h2, h3⟩
    obtain ⟨q1, q2⟩ := (haP r h1 h2).mp h3
    exact ⟨_, rowAt_mem (show r - P.length < B.length by omega), q1, q2⟩
  · rintro ⟨r, hr, h1, h2⟩
    obtain ⟨k, hk, e⟩ := List.getElem_of_mem hr
    have e2 : rowAt B k = r := by unfold rowAt; rw [List.getD_eq_getElem?_getD, List.getElem?_eq_getElem hk, Option.getD_some, e]
    refine ⟨P.length + k, by omega, by omega, (haP _ (by omega) (by omega)).mpr ?_⟩
    rw [show P.length + k - P.length = k by omega, e2]
    exact ⟨h1, h2⟩
theorem bcC_skip {Ra Rb : List Row} {lv : Nat} {v w : Int64} : ∀ (m n k o : Nat), (∀ j, k ≤ j → j < k + m → lv < (rowAt Ra j).1) → bcC Ra Rb lv v w (m + n) k o = bcC Ra Rb lv v w n (k + m) o := by
  intro m
  induction m with
  | zero => intro n k o _; rw [Nat.zero_add]; rfl
  | succ m ih =>
    intro n k o h
    have h0 := h k (Nat.le_refl _) (by omega)
    rw [show m + 1 + n = (m + n) + 1 by omega, bcC, if_neg (by omega), ih n (k + 1) o (fun j h1 h2 => h j (by omega) (by omega)), show k + 1 + m = k + (m + 1) by omega]
theorem bcC_blk {lv : Nat} {v w : Int64} : ∀ (As Bs : List (List Row)) (Pa Pb : List Row), (∀ B ∈ As, GBk lv B) → (∀ B ∈ Bs, GBk lv B) → As.length = Bs.length → bcC (Pa ++ As.flatten) (Pb ++ Bs.flatten) lv v w As.flatten.length Pa.length Pb.length = cz (As.map (fun B => pB (hsB B v))) (Bs.map (fun B => pB (hsB B w)))
  | [], [], Pa, Pb, _, _, _ => rfl
  | [], _ :: _, _, _, _, _, h => by simp at h
  | _ :: _, [], _, _, _, _, h => by simp at h
  | A :: As, B :: Bs, Pa, Pb, hA, hB, hl => by
    have hgA := hA A List.mem_cons_self
    have hgB := hB B List.mem_cons_self
    have hnext : ∀ (Xs : List (List Row)), (∀ C ∈ Xs, GBk lv C) → Xs.flatten = [] ∨ ∃ r q, Xs.flatten = r :: q ∧ r.1 ≤ lv := fun Xs hX => by
      cases Xs with
      | nil => exact Or.inl rfl
      | cons C Xs =>
        obtain ⟨r, bt, e, h1, h2⟩ := hX C List.mem_cons_self
        exact Or.inr ⟨r, bt ++ Xs.flatten, by rw [List.flatten_cons, e]; rfl, h1⟩
    have qA := hnext As (fun C hC => hA C (List.mem_cons_of_mem _ hC))
    have qB := hnext Bs (fun C hC => hB C (List.mem_cons_of_mem _ hC))
    rw [List.flatten_cons, List.flatten_cons, List.length_append]
    have hha := hold_blk (P := Pa) (v := v) hgA qA
    have hhb := hold_blk (P := Pb) (v := w) hgB qB
    have hse := stE_blk (P := Pb) hgB qB
    obtain ⟨r, bt, e, h1, h2⟩ := hgA
    have hr0 : rowAt (Pa ++ (A ++ As.flatten)) Pa.length = r := by rw [rowAt_r (Nat.le_refl _), Nat.sub_self, e]; rfl
    have hAl : A.length + As.flatten.length = (bt.length + As.flatten.length) + 1 := by rw [e]; simp; omega
    rw [hAl, bcC, hr0, if_pos h1, hse, bcC_skip]
    · have e1 : Pa.length + 1 + bt.length = (Pa ++ A).length := by rw [e]; simp; omega
      have e2 : Pb.length + B.length = (Pb ++ B).length := by simp
      rw [e1, e2, ← List.append_assoc, ← List.append_assoc, bcC_blk As Bs (Pa ++ A) (Pb ++ B) (fun C hC => hA C (List.mem_cons_of_mem _ hC)) (fun C hC => hB C (List.mem_cons_of_mem _ hC)) (by simpa using hl)]
      rw [List.map_cons, List.map_cons]
      show _ = (if (pB (hsB A v) && pB (hsB B w)) = true then 1 else 0) + _
      congr 1
      rw [List.append_assoc, List.append_assoc, pB_c (and_congr hha hhb)]
      by_cases c1 : hsB A v
      · by_cases c2 : hsB B w
        · rw [if_pos (pB_t ⟨c1, c2⟩), pB_t c1, pB_t c2]; rfl
        · rw [if_neg (by rw [pB_f (fun z => c2 z.2)]; decide), pB_t c1, pB_f c2]; rfl
      · rw [if_neg (by rw [pB_f (fun z => c1 z.1)]; decide), pB_f c1]; rfl
    · intro j a1 a2
      rw [rowAt_r (by omega), rowAt_l (by rw [e]; simp; omega), e]
      obtain ⟨k, hk⟩ : ∃ k, j - Pa.length = k + 1 := ⟨j - Pa.length - 1, by omega⟩
      rw [hk]
      show lv < (rowAt bt k).1
      exact h2 _ (rowAt_mem (by omega))
