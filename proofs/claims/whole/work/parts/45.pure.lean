/-! what a SHAPE is while it is read: gs the unclosed groups, en where parts end, lo the leaf that a field is -/
theorem Chn.uniq {W : Nat → Option Nat} : ∀ {l l' : List Nat} {o : Option Nat}, Chn W o l → Chn W o l' → l = l'
  | [], [], _, _, _ => rfl
  | [], x :: l', o, h, k => by rw [show o = none from h] at k; cases k.1
  | x :: l, [], o, h, k => by rw [show o = none from k] at h; cases h.1
  | x :: l, y :: l', o, h, k => by
    have e : x = y := Option.some.inj (h.1.symm.trans k.1)
    subst e
    rw [Chn.uniq h.2 k.2]
theorem Chn.le {W : Nat → Option Nat} {n : Nat} (hW : ∀ f g, f < n → W f = some g → g < f) : ∀ {l : List Nat} {f : Nat}, f < n → Chn W (some f) l → ∀ x ∈ l, x ≤ f
  | [], _, _, h, _, _ => by cases h
  | y :: l, f, hf, h, x, hx => by
    have e : f = y := Option.some.inj h.1
    subst e
    rcases List.mem_cons.mp hx with e | e
    · rw [e]; exact Nat.le_refl _
    · cases hw : W f with
      | none =>
        have h2 := h.2
        rw [hw] at h2
        cases l with
        | nil => cases e
        | cons z l => cases h2.1
      | some g =>
        have h2 := h.2
        rw [hw] at h2
        have hg := hW f g hf hw
        have := Chn.le hW (by omega) h2 x e
        omega
theorem Chn.up {W : Nat → Option Nat} {n : Nat} (hW : ∀ f g, f < n → W f = some g → g < f) (o : Option Nat) : ∀ {l : List Nat} {f : Nat}, f < n → (Chn (va_up W n o) (some f) l ↔ Chn W (some f) l)
  | [], _, _ => ⟨fun h => h, fun h => h⟩
  | y :: l, f, hf => by
    constructor
    · intro h
      refine ⟨h.1, ?_⟩
      have e : f = y := Option.some.inj h.1
      subst e
      have h2 := h.2
      rw [show va_up W n o f = W f from if_neg (by omega)] at h2
      cases hw : W f with
      | none => rw [hw] at h2; cases l with
        | nil => rfl
        | cons z l => cases h2.1
      | some g => rw [hw] at h2; exact (Chn.up hW o (by have := hW f g hf hw; omega)).mp h2
    · intro h
      refine ⟨h.1, ?_⟩
      have e : f = y := Option.some.inj h.1
      subst e
      rw [show va_up W n o f = W f from if_neg (by omega)]
      have h2 := h.2
      cases hw : W f with
      | none => rw [hw] at h2; cases l with
        | nil => rfl
        | cons z l => cases h2.1
      | some g => rw [hw] at h2; exact (Chn.up hW o (by have := hW f g hf hw; omega)).mpr h2
theorem Chn.upo {W : Nat → Option Nat} {n : Nat} (hW : ∀ f g, f < n → W f = some g → g < f) (o q : Option Nat) (hq : ∀ g, q = some g → g < n) {l : List Nat} : Chn (va_up W n o) q l ↔ Chn W q l := by
  cases q with
  | none => cases l with
    | nil => exact ⟨fun h => h, fun h => h⟩
    | cons x l => exact ⟨fun h => (by cases h.1), fun h => (by cases h.1)⟩
  | some g => exact Chn.up hW o (hq g rfl)
/-- a word's number: no letter is missing in it -/
def WdOk (w : Nat) : Prop := ∀ k, 27 ^ k ≤ w → w / 27 ^ k % 27 ≠ 0
theorem WdOk.step {w d : Nat} (h : WdOk w) (h1 : 0 < d) (h2 : d < 27) : WdOk (27 * w + d) := by
  intro k hk
  cases k with
  | zero => simp; omega
  | succ k =>
    rw [Nat.pow_succ, Nat.mul_comm] at hk
    have h3 : 27 ^ k ≤ w := by omega
    rw [Nat.pow_succ, Nat.mul_comm (27 ^ k) 27, ← Nat.div_div_eq_div_mul, show (27 * w + d) / 27 = w by omega]
    exact h k h3
theorem wc_ok {b : Nat → Nat} {p : Nat} : ∀ k, (∀ j, p ≤ j → j < p + k → isL (b j) = true) → WdOk (wc b p (p + k)) := by
  intro k
  induction k with
  | zero => intro _; rw [Nat.add_zero, wc_self]; intro k hk; have := Nat.pow_pos (n := k) (show 0 < 27 by decide); omega
  | succ k ih =>
    intro h
    rw [← Nat.add_assoc, wc_step (by omega)]
    have hl := h (p + k) (by omega) (by omega)
    unfold isL at hl
    simp at hl
    exact (ih (fun j a c => h j a (by omega))).step (by omega) (by omega)
theorem wc_pos {b : Nat → Nat} {n q : Nat} (h : ¬ we b n q = q) : 0 < wc b q (we b n q) := by
  have h1 := we_ge b n q
  obtain ⟨e, he⟩ : ∃ e, we b n q = e + 1 := ⟨we b n q - 1, by omega⟩
  have hl := we_letters (b := b) (n := n) _ q rfl e (by omega) (by omega)
  rw [he, wc_step (by omega)]
  unfold isL at hl
  simp at hl
  omega
theorem wc_wd {b : Nat → Nat} {n q : Nat} : WdOk (wc b q (we b n q)) := by
  have h1 := we_ge b n q
  have := wc_ok (b := b) (p := q) (we b n q - q) (fun j a c => we_letters (n := n) _ q rfl j a (by omega))
  rw [show q + (we b n q - q) = we b n q by omega] at this
  exact this
def ShV (s : Sh) (gs : List Nat) (en : Nat → Nat) (lo : Nat → Option Nat) : Prop :=
  Chn s.2.2.1 gs.head? gs ∧
  (∀ f, s.1 ≤ f → s.2.2.2.2.2.1 f = 0) ∧
  (∀ f, f < s.1 → s.2.2.2.2.1 f ≤ 2 ∧ s.2.2.2.2.2.1 f ≤ 2 ∧ en f ≤ s.1) ∧
  (∀ f, f < s.1 → ∃ l, Chn s.2.2.1 (some f) l ∧ l.length ≤ 5 ∧ (s.2.2.2.2.1 f = 2 → l.length ≤ 4) ∧ ∀ x ∈ l, x ≠ f → s.2.2.2.2.1 x = 2) ∧
  (∀ f, f < s.1 → f ∉ gs → f < en f ∧ (s.2.2.2.2.1 f = 2 → f + 1 < en f) ∧ ∀ g, g < s.1 → ∀ l, Chn s.2.2.1 (some g) l → (f ∈ l ↔ f ≤ g ∧ g < en f)) ∧
  (∀ f, f ∈ gs → s.2.2.2.2.1 f = 2 ∧ ∀ g, g < s.1 → ∀ l, Chn s.2.2.1 (some g) l → (f ∈ l ↔ f ≤ g)) ∧
  (∀ c, c < s.2.1 → s.2.2.2.2.2.2 c < s.1 ∧ s.2.2.2.2.1 (s.2.2.2.2.2.2 c) ≠ 2 ∧ lo (s.2.2.2.2.2.2 c) = some c) ∧
  (∀ f, f < s.1 → (s.2.2.2.2.1 f = 2 → lo f = none) ∧ (s.2.2.2.2.1 f ≠ 2 → ∃ c, c < s.2.1 ∧ s.2.2.2.2.2.2 c = f ∧ lo f = some c)) ∧
  (∀ c c', c < c' → c' < s.2.1 → s.2.2.2.2.2.2 c < s.2.2.2.2.2.2 c') ∧
  (∀ f g, f < s.1 → g < s.1 → s.2.2.1 f = s.2.2.1 g → s.2.2.2.1 f = s.2.2.2.1 g → f = g) ∧
  (∀ f, f < s.1 → WdOk (s.2.2.2.1 f) ∧ 0 < s.2.2.2.1 f)
theorem ShV0 : ShV Sh0 [] (fun _ => 0) (fun _ => none) := by
  refine ⟨rfl, fun _ _ => rfl, fun f hf => absurd hf (Nat.not_lt_zero _), fun f hf => absurd hf (Nat.not_lt_zero _), fun f hf => absurd hf (Nat.not_lt_zero _), fun f hf => absurd hf List.not_mem_nil, fun f hf => absurd hf (Nat.not_lt_zero _), fun f hf => absurd hf (Nat.not_lt_zero _), fun c c' _ hf => absurd hf (Nat.not_lt_zero _), fun f g hf => absurd hf (Nat.not_lt_zero _), fun f hf => absurd hf (Nat.not_lt_zero _)⟩
theorem up_ne {α : Type} {f : Nat → α} {k j : Nat} {v : α} (h : j ≠ k) : va_up f k v j = f j := if_neg h
theorem up_eq {α : Type} {f : Nat → α} {k : Nat} {v : α} : va_up f k v k = v := if_pos rfl
/-- a leaf is added -/
theorem ShV.leaf {s : Sh} {gs : List Nat} {en : Nat → Nat} {lo : Nat → Option Nat} (h : ShV s gs en lo) (hW : ∀ f g, f < s.1 → s.2.2.1 f = some g → g < f) (hg : ∀ g ∈ gs, g < s.1) (hl4 : gs.length ≤ 4) {w kd m : Nat} (hkd : kd < 2) (hm : m ≤ 2) (hw : WdOk w) (hw0 : 0 < w) (hd : dupF s.2.2.1 s.2.2.2.1 gs.head? w s.1 = false) :
    ShV (s.1 + 1, s.2.1 + 1, va_up s.2.2.1 s.1 gs.head?, va_up s.2.2.2.1 s.1 w, va_up s.2.2.2.2.1 s.1 kd, va_up s.2.2.2.2.2.1 s.1 m, va_up s.2.2.2.2.2.2 s.2.1 s.1) gs (va_up en s.1 (s.1 + 1)) (va_up lo s.1 (some s.2.1)) := by
  obtain ⟨v1, v2, v3, v4, v5, v6, v7, v8, v9, v10, v11⟩ := h
  have hh : ∀ g, gs.head? = some g → g < s.1 := fun g hg9 => hg g (List.mem_of_mem_head? hg9)
  have c1 : Chn (va_up s.2.2.1 s.1 gs.head?) gs.head? gs := (Chn.upo hW _ _ hh).mpr v1
  have c2 : Chn (va_up s.2.2.1 s.1 gs.head?) (some s.1) (s.1 :: gs) := ⟨rfl, by rw [up_eq]; exact c1⟩
  have c3 : ∀ {g : Nat} {l : List Nat}, g < s.1 → (Chn (va_up s.2.2.1 s.1 gs.head?) (some g) l ↔ Chn s.2.2.1 (some g) l) := fun hg9 => Chn.up hW _ hg9
  refine ⟨c1, fun f hf => ?_, fun f hf => ?_, fun f hf => ?_, fun f hf hfg => ?_, fun f hf => ?_, fun c hc => ?_, fun f hf => ?_, fun c c' h1 h2 => ?_, fun f g h1 h2 h3 h4 => ?_, fun f hf => ?_⟩
  · have hf' : s.1 + 1 ≤ f := hf
    show va_up s.2.2.2.2.2.1 s.1 m f = 0
    rw [up_ne (by omega)]; exact v2 f (by omega)
  · have hf' : f < s.1 + 1 := hf
    show va_up s.2.2.2.2.1 s.1 kd f ≤ 2 ∧ va_up s.2.2.2.2.2.1 s.1 m f ≤ 2 ∧ va_up en s.1 (s.1 + 1) f ≤ s.1 + 1
    by_cases e : f = s.1
    · subst e; rw [up_eq, up_eq, up_eq]; omega
    · rw [up_ne e, up_ne e, up_ne e]; have := v3 f (by omega); omega
  · have hf' : f < s.1 + 1 := hf
    show ∃ l, Chn (va_up s.2.2.1 s.1 gs.head?) (some f) l ∧ l.length ≤ 5 ∧ (va_up s.2.2.2.2.1 s.1 kd f = 2 → l.length ≤ 4) ∧ ∀ x ∈ l, x ≠ f → va_up s.2.2.2.2.1 s.1 kd x = 2
    by_cases e : f = s.1
    · subst e
      refine ⟨_, c2, by simp; omega, fun z => by rw [up_eq] at z; omega, fun x hx hxf => ?_⟩
      rcases List.mem_cons.mp hx with q | q
      · exact absurd q hxf
      · rw [up_ne hxf]; exact (v6 x q).1
    · obtain ⟨l, l1, l2, l3, l4⟩ := v4 f (by omega)
      refine ⟨l, (c3 (by omega)).mpr l1, l2, fun z => l3 (by rw [up_ne e] at z; exact z), fun x hx hxf => ?_⟩
      have := Chn.le hW (by omega) l1 x hx
      rw [up_ne (by omega)]; exact l4 x hx hxf
  · have hf' : f < s.1 + 1 := hf
    show f < va_up en s.1 (s.1 + 1) f ∧ (va_up s.2.2.2.2.1 s.1 kd f = 2 → f + 1 < va_up en s.1 (s.1 + 1) f) ∧ ∀ g, g < s.1 + 1 → ∀ l, Chn (va_up s.2.2.1 s.1 gs.head?) (some g) l → (f ∈ l ↔ f ≤ g ∧ g < va_up en s.1 (s.1 + 1) f)
    by_cases e : f = s.1
    · subst e
      rw [up_eq, up_eq]
      refine ⟨by omega, fun z => by omega, fun g hg9 l hl => ?_⟩
      by_cases e2 : g = s.1
      · subst e2
        rw [Chn.uniq hl c2]
        exact ⟨fun _ => by omega, fun _ => List.mem_cons_self⟩
      · have := Chn.le hW (by omega) ((c3 (by omega)).mp hl) s.1
        exact ⟨fun z => by have := this z; omega, fun z => by omega⟩
    · rw [up_ne e, up_ne e]
      obtain ⟨k1, k2, k3⟩ := v5 f (by omega) hfg
      refine ⟨k1, k2, fun g hg9 l hl => ?_⟩
      by_cases e2 : g = s.1
      · subst e2
        rw [Chn.uniq hl c2]
        have := (v3 f (by omega)).2.2
        exact ⟨fun z => by rcases List.mem_cons.mp z with q | q; exact absurd q e; exact absurd q hfg, fun z => by omega⟩
      · exact k3 g (by omega) l ((c3 (by omega)).mp hl)
  · show va_up s.2.2.2.2.1 s.1 kd f = 2 ∧ ∀ g, g < s.1 + 1 → ∀ l, Chn (va_up s.2.2.1 s.1 gs.head?) (some g) l → (f ∈ l ↔ f ≤ g)
    have hfs := hg f hf
    obtain ⟨k1, k2⟩ := v6 f hf
    refine ⟨by rw [up_ne (by omega)]; exact k1, fun g hg9 l hl => ?_⟩
    by_cases e2 : g = s.1
    · subst e2
      rw [Chn.uniq hl c2]
      exact ⟨fun _ => by omega, fun _ => List.mem_cons_of_mem _ hf⟩
    · exact k2 g (by omega) l ((c3 (by omega)).mp hl)
  · have hc' : c < s.2.1 + 1 := hc
    show va_up s.2.2.2.2.2.2 s.2.1 s.1 c < s.1 + 1 ∧ va_up s.2.2.2.2.1 s.1 kd (va_up s.2.2.2.2.2.2 s.2.1 s.1 c) ≠ 2 ∧ va_up lo s.1 (some s.2.1) (va_up s.2.2.2.2.2.2 s.2.1 s.1 c) = some c
    by_cases e : c = s.2.1
    · subst e; rw [up_eq, up_eq, up_eq]; exact ⟨by omega, by omega, rfl⟩
    · obtain ⟨k1, k2, k3⟩ := v7 c (by omega)
      rw [up_ne e, up_ne (by omega), up_ne (by omega)]; exact ⟨by omega, k2, k3⟩
  · have hf' : f < s.1 + 1 := hf
    show (va_up s.2.2.2.2.1 s.1 kd f = 2 → va_up lo s.1 (some s.2.1) f = none) ∧ (va_up s.2.2.2.2.1 s.1 kd f ≠ 2 → ∃ c, c < s.2.1 + 1 ∧ va_up s.2.2.2.2.2.2 s.2.1 s.1 c = f ∧ va_up lo s.1 (some s.2.1) f = some c)
    by_cases e : f = s.1
    · subst e; rw [up_eq, up_eq]; exact ⟨fun z => by omega, fun _ => ⟨s.2.1, by omega, up_eq, rfl⟩⟩
    · rw [up_ne e, up_ne e]
      obtain ⟨k1, k2⟩ := v8 f (by omega)
      refine ⟨k1, fun z => ?_⟩
      obtain ⟨c, h1, h2, h3⟩ := k2 z
      exact ⟨c, by omega, by rw [up_ne (by omega)]; exact h2, h3⟩
  · have h2' : c' < s.2.1 + 1 := h2
    show va_up s.2.2.2.2.2.2 s.2.1 s.1 c < va_up s.2.2.2.2.2.2 s.2.1 s.1 c'
    by_cases e : c' = s.2.1
    · subst e; rw [up_eq, up_ne (by omega)]; exact (v7 c h1).1
    · rw [up_ne (by omega), up_ne (by omega)]; exact v9 c c' h1 (by omega)
  · have h1' : f < s.1 + 1 := h1
    have h2' : g < s.1 + 1 := h2
    have h3' : va_up s.2.2.1 s.1 gs.head? f = va_up s.2.2.1 s.1 gs.head? g := h3
    have h4' : va_up s.2.2.2.1 s.1 w f = va_up s.2.2.2.1 s.1 w g := h4
    have hno := (dupF_iff s.2.2.1 s.2.2.2.1 gs.head? w s.1).mp hd
    by_cases e : f = s.1
    · by_cases e2 : g = s.1
      · omega
      · subst e; rw [up_eq, up_ne e2] at h3' h4'; exact absurd ⟨h3'.symm, h4'.symm⟩ (hno g (by omega))
    · by_cases e2 : g = s.1
      · subst e2; rw [up_eq, up_ne e] at h3' h4'; exact absurd ⟨h3', h4'⟩ (hno f (by omega))
      · rw [up_ne e, up_ne e2] at h3' h4'; exact v10 f g (by omega) (by omega) h3' h4'
  · have hf' : f < s.1 + 1 := hf
    show WdOk (va_up s.2.2.2.1 s.1 w f) ∧ 0 < va_up s.2.2.2.1 s.1 w f
    by_cases e : f = s.1
    · subst e; rw [up_eq]; exact ⟨hw, hw0⟩
    · rw [up_ne e]; exact v11 f (by omega)
/-- a group is opened -/
theorem ShV.opn {s : Sh} {gs : List Nat} {en : Nat → Nat} {lo : Nat → Option Nat} (h : ShV s gs en lo) (hW : ∀ f g, f < s.1 → s.2.2.1 f = some g → g < f) (hg : ∀ g ∈ gs, g < s.1) (hl4 : gs.length ≤ 3) {w : Nat} (hw : WdOk w) (hw0 : 0 < w) (hd : dupF s.2.2.1 s.2.2.2.1 gs.head? w s.1 = false) :
    ShV (s.1 + 1, s.2.1, va_up s.2.2.1 s.1 gs.head?, va_up s.2.2.2.1 s.1 w, va_up s.2.2.2.2.1 s.1 2, s.2.2.2.2.2.1, s.2.2.2.2.2.2) (s.1 :: gs) (va_up en s.1 (s.1 + 1)) (va_up lo s.1 none) := by
  obtain ⟨v1, v2, v3, v4, v5, v6, v7, v8, v9, v10, v11⟩ := h
  have hh : ∀ g, gs.head? = some g → g < s.1 := fun g hg9 => hg g (List.mem_of_mem_head? hg9)
  have c1 : Chn (va_up s.2.2.1 s.1 gs.head?) gs.head? gs := (Chn.upo hW _ _ hh).mpr v1
  have c2 : Chn (va_up s.2.2.1 s.1 gs.head?) (some s.1) (s.1 :: gs) := ⟨rfl, by rw [up_eq]; exact c1⟩
  have c3 : ∀ {g : Nat} {l : List Nat}, g < s.1 → (Chn (va_up s.2.2.1 s.1 gs.head?) (some g) l ↔ Chn s.2.2.1 (some g) l) := fun hg9 => Chn.up hW _ hg9
  refine ⟨c2, fun f hf => ?_, fun f hf => ?_, fun f hf => ?_, fun f hf hfg => ?_, fun f hf => ?_, fun c hc => ?_, fun f hf => ?_, v9, fun f g h1 h2 h3 h4 => ?_, fun f hf => ?_⟩
  · have hf' : s.1 + 1 ≤ f := hf
    exact v2 f (by omega)
  · have hf' : f < s.1 + 1 := hf
    show va_up s.2.2.2.2.1 s.1 2 f ≤ 2 ∧ s.2.2.2.2.2.1 f ≤ 2 ∧ va_up en s.1 (s.1 + 1) f ≤ s.1 + 1
    by_cases e : f = s.1
    · subst e; rw [up_eq, up_eq, v2 s.1 (Nat.le_refl _)]; omega
    · rw [up_ne e, up_ne e]; have := v3 f (by omega); omega
  · have hf' : f < s.1 + 1 := hf
    show ∃ l, Chn (va_up s.2.2.1 s.1 gs.head?) (some f) l ∧ l.length ≤ 5 ∧ (va_up s.2.2.2.2.1 s.1 2 f = 2 → l.length ≤ 4) ∧ ∀ x ∈ l, x ≠ f → va_up s.2.2.2.2.1 s.1 2 x = 2
    by_cases e : f = s.1
    · subst e
      refine ⟨_, c2, by simp; omega, fun z => by simp; omega, fun x hx hxf => ?_⟩
      rcases List.mem_cons.mp hx with q | q
      · exact absurd q hxf
      · rw [up_ne hxf]; exact (v6 x q).1
    · obtain ⟨l, l1, l2, l3, l4⟩ := v4 f (by omega)
      refine ⟨l, (c3 (by omega)).mpr l1, l2, fun z => l3 (by rw [up_ne e] at z; exact z), fun x hx hxf => ?_⟩
      have := Chn.le hW (by omega) l1 x hx
      rw [up_ne (by omega)]; exact l4 x hx hxf
  · have hf' : f < s.1 + 1 := hf
    show f < va_up en s.1 (s.1 + 1) f ∧ (va_up s.2.2.2.2.1 s.1 2 f = 2 → f + 1 < va_up en s.1 (s.1 + 1) f) ∧ ∀ g, g < s.1 + 1 → ∀ l, Chn (va_up s.2.2.1 s.1 gs.head?) (some g) l → (f ∈ l ↔ f ≤ g ∧ g < va_up en s.1 (s.1 + 1) f)
    have e : f ≠ s.1 := fun z => hfg (by rw [z]; exact List.mem_cons_self)
    have hfg' : f ∉ gs := fun z => hfg (List.mem_cons_of_mem _ z)
    rw [up_ne e, up_ne e]
    obtain ⟨k1, k2, k3⟩ := v5 f (by omega) hfg'
    refine ⟨k1, k2, fun g hg9 l hl => ?_⟩
    by_cases e2 : g = s.1
    · subst e2
      rw [Chn.uniq hl c2]
      have := (v3 f (by omega)).2.2
      exact ⟨fun z => absurd z hfg, fun z => by omega⟩
    · exact k3 g (by omega) l ((c3 (by omega)).mp hl)
  · show va_up s.2.2.2.2.1 s.1 2 f = 2 ∧ ∀ g, g < s.1 + 1 → ∀ l, Chn (va_up s.2.2.1 s.1 gs.head?) (some g) l → (f ∈ l ↔ f ≤ g)
    by_cases e : f = s.1
    · subst e
      refine ⟨up_eq, fun g hg9 l hl => ?_⟩
      by_cases e2 : g = s.1
      · subst e2
        rw [Chn.uniq hl c2]
        exact ⟨fun _ => by omega, fun _ => List.mem_cons_self⟩
      · have := Chn.le hW (by omega) ((c3 (by omega)).mp hl) s.1
        exact ⟨fun z => by have := this z; omega, fun z => by omega⟩
    · have hf2 : f ∈ gs := (List.mem_cons.mp hf).resolve_left e
      have hfs := hg f hf2
      obtain ⟨k1, k2⟩ := v6 f hf2
      refine ⟨by rw [up_ne e]; exact k1, fun g hg9 l hl => ?_⟩
      by_cases e2 : g = s.1
      · subst e2
        rw [Chn.uniq hl c2]
        exact ⟨fun _ => by omega, fun _ => hf⟩
      · exact k2 g (by omega) l ((c3 (by omega)).mp hl)
  · obtain ⟨k1, k2, k3⟩ := v7 c hc
    show s.2.2.2.2.2.2 c < s.1 + 1 ∧ va_up s.2.2.2.2.1 s.1 2 (s.2.2.2.2.2.2 c) ≠ 2 ∧ va_up lo s.1 none (s.2.2.2.2.2.2 c) = some c
    rw [up_ne (by omega), up_ne (by omega)]; exact ⟨by omega, k2, k3⟩
  · have hf' : f < s.1 + 1 := hf
    show (va_up s.2.2.2.2.1 s.1 2 f = 2 → va_up lo s.1 none f = none) ∧ (va_up s.2.2.2.2.1 s.1 2 f ≠ 2 → ∃ c, c < s.2.1 ∧ s.2.2.2.2.2.2 c = f ∧ va_up lo s.1 none f = some c)
    by_cases e : f = s.1
    · subst e; rw [up_eq, up_eq]; exact ⟨fun _ => rfl, fun z => absurd rfl z⟩
    · rw [up_ne e, up_ne e]; exact v8 f (by omega)
  · have h1' : f < s.1 + 1 := h1
    have h2' : g < s.1 + 1 := h2
    have h3' : va_up s.2.2.1 s.1 gs.head? f = va_up s.2.2.1 s.1 gs.head? g := h3
    have h4' : va_up s.2.2.2.1 s.1 w f = va_up s.2.2.2.1 s.1 w g := h4
    have hno := (dupF_iff s.2.2.1 s.2.2.2.1 gs.head? w s.1).mp hd
    by_cases e : f = s.1
    · by_cases e2 : g = s.1
      · omega
      · subst e; rw [up_eq, up_ne e2] at h3' h4'; exact absurd ⟨h3'.symm, h4'.symm⟩ (hno g (by omega))
    · by_cases e2 : g = s.1
      · subst e2; rw [up_eq, up_ne e] at h3' h4'; exact absurd ⟨h3', h4'⟩ (hno f (by omega))
      · rw [up_ne e, up_ne e2] at h3' h4'; exact v10 f g (by omega) (by omega) h3' h4'
  · have hf' : f < s.1 + 1 := hf
    show WdOk (va_up s.2.2.2.1 s.1 w f) ∧ 0 < va_up s.2.2.2.1 s.1 w f
    by_cases e : f = s.1
    · subst e; rw [up_eq]; exact ⟨hw, hw0⟩
    · rw [up_ne e]; exact v11 f (by omega)
/-- a group is closed -/
theorem ShV.close {s : Sh} {g : Nat} {gs : List Nat} {en : Nat → Nat} {lo : Nat → Option Nat} (h : ShV s (g :: gs) en lo) (hW : ∀ f g, f < s.1 → s.2.2.1 f = some g → g < f) (hp : (g :: gs).Pairwise (fun x y => y < x)) (hg : g < s.1) (hne : ¬ s.1 = g + 1) {m : Nat} (hm : m ≤ 2) :
    ShV (s.1, s.2.1, s.2.2.1, s.2.2.2.1, s.2.2.2.2.1, va_up s.2.2.2.2.2.1 g m, s.2.2.2.2.2.2) gs (va_up en g s.1) lo := by
  obtain ⟨v1, v2, v3, v4, v5, v6, v7, v8, v9, v10, v11⟩ := h
  have hgn : g ∉ gs := fun z => by have := (List.pairwise_cons.mp hp).1 g z; omega
  have c1 : Chn s.2.2.1 gs.head? gs := by
    have h2 := v1.2
    have : s.2.2.1 g = gs.head? := by
      cases gs with
      | nil => exact h2
      | cons x l => exact h2.1
    rw [this] at h2; exact h2
  refine ⟨c1, fun f hf => ?_, fun f hf => ?_, v4, fun f hf hfg => ?_, fun f hf => v6 f (List.mem_cons_of_mem _ hf), v7, v8, v9, v10, v11⟩
  · have hf' : s.1 ≤ f := hf
    show va_up s.2.2.2.2.2.1 g m f = 0
    rw [up_ne (by omega)]; exact v2 f hf
  · have := v3 f hf
    show s.2.2.2.2.1 f ≤ 2 ∧ va_up s.2.2.2.2.2.1 g m f ≤ 2 ∧ va_up en g s.1 f ≤ s.1
    by_cases e : f = g
    · subst e; rw [up_eq, up_eq]; omega
    · rw [up_ne e, up_ne e]; exact this
  · show f < va_up en g s.1 f ∧ (s.2.2.2.2.1 f = 2 → f + 1 < va_up en g s.1 f) ∧ ∀ g', g' < s.1 → ∀ l, Chn s.2.2.1 (some g') l → (f ∈ l ↔ f ≤ g' ∧ g' < va_up en g s.1 f)
    have hf' : f < s.1 := hf
    by_cases e : f = g
    · subst e
      rw [up_eq]
      obtain ⟨k1, k2⟩ := v6 f List.mem_cons_self
      exact ⟨hg, fun _ => by omega, fun g' hg' l hl => ⟨fun z => ⟨(k2 g' hg' l hl).mp z, hg'⟩, fun z => (k2 g' hg' l hl).mpr z.1⟩⟩
    · rw [up_ne e]; exact v5 f hf (fun z => (List.mem_cons.mp z).elim e hfg)
