/-! reads through writes -/
theorem q_K_i (T : TH) (g a : Nat) (v : Int32) : e_K (s_i T g a v) = e_K T := rfl
theorem q_K_l (T : TH) (g a : Nat) (v : Int64) : e_K (s_l T g a v) = e_K T := rfl
theorem q_K_r (T : TH) (g a : Nat) (v : Option Nat) : e_K (s_r T g a v) = e_K T := rfl
theorem q_K_ai (T : TH) (g a : Nat) (v : Int32) : e_K (s_ai T g a v) = e_K T := rfl
theorem q_K_al (T : TH) (g a : Nat) (v : Int64) : e_K (s_al T g a v) = e_K T := rfl
theorem q_K_ar (T : TH) (g a : Nat) (v : Option Nat) : e_K (s_ar T g a v) = e_K T := rfl
theorem q_i_i (T : TH) (g a : Nat) (v : Int32) (g' a' : Nat) : e_i (s_i T g a v) g' a' = if g' = g ∧ a' = a then v else e_i T g' a' := rfl
theorem q_i_l (T : TH) (g a : Nat) (v : Int64) : e_i (s_l T g a v) = e_i T := rfl
theorem q_i_r (T : TH) (g a : Nat) (v : Option Nat) : e_i (s_r T g a v) = e_i T := rfl
theorem q_i_ai (T : TH) (g a : Nat) (v : Int32) : e_i (s_ai T g a v) = e_i T := rfl
theorem q_i_al (T : TH) (g a : Nat) (v : Int64) : e_i (s_al T g a v) = e_i T := rfl
theorem q_i_ar (T : TH) (g a : Nat) (v : Option Nat) : e_i (s_ar T g a v) = e_i T := rfl
theorem q_l_i (T : TH) (g a : Nat) (v : Int32) : e_l (s_i T g a v) = e_l T := rfl
theorem q_l_l (T : TH) (g a : Nat) (v : Int64) (g' a' : Nat) : e_l (s_l T g a v) g' a' = if g' = g ∧ a' = a then v else e_l T g' a' := rfl
theorem q_l_r (T : TH) (g a : Nat) (v : Option Nat) : e_l (s_r T g a v) = e_l T := rfl
theorem q_l_ai (T : TH) (g a : Nat) (v : Int32) : e_l (s_ai T g a v) = e_l T := rfl
theorem q_l_al (T : TH) (g a : Nat) (v : Int64) : e_l (s_al T g a v) = e_l T := rfl
theorem q_l_ar (T : TH) (g a : Nat) (v : Option Nat) : e_l (s_ar T g a v) = e_l T := rfl
theorem q_r_i (T : TH) (g a : Nat) (v : Int32) : e_r (s_i T g a v) = e_r T := rfl
theorem q_r_l (T : TH) (g a : Nat) (v : Int64) : e_r (s_l T g a v) = e_r T := rfl
theorem q_r_r (T : TH) (g a : Nat) (v : Option Nat) (g' a' : Nat) : e_r (s_r T g a v) g' a' = if g' = g ∧ a' = a then v else e_r T g' a' := rfl
theorem q_r_ai (T : TH) (g a : Nat) (v : Int32) : e_r (s_ai T g a v) = e_r T := rfl
theorem q_r_al (T : TH) (g a : Nat) (v : Int64) : e_r (s_al T g a v) = e_r T := rfl
theorem q_r_ar (T : TH) (g a : Nat) (v : Option Nat) : e_r (s_ar T g a v) = e_r T := rfl
theorem q_ai_i (T : TH) (g a : Nat) (v : Int32) : e_ai (s_i T g a v) = e_ai T := rfl
theorem q_ai_l (T : TH) (g a : Nat) (v : Int64) : e_ai (s_l T g a v) = e_ai T := rfl
theorem q_ai_r (T : TH) (g a : Nat) (v : Option Nat) : e_ai (s_r T g a v) = e_ai T := rfl
theorem q_ai_ai (T : TH) (g a : Nat) (v : Int32) (g' a' : Nat) : e_ai (s_ai T g a v) g' a' = if g' = g ∧ a' = a then v else e_ai T g' a' := rfl
theorem q_ai_al (T : TH) (g a : Nat) (v : Int64) : e_ai (s_al T g a v) = e_ai T := rfl
theorem q_ai_ar (T : TH) (g a : Nat) (v : Option Nat) : e_ai (s_ar T g a v) = e_ai T := rfl
theorem q_al_i (T : TH) (g a : Nat) (v : Int32) : e_al (s_i T g a v) = e_al T := rfl
theorem q_al_l (T : TH) (g a : Nat) (v : Int64) : e_al (s_l T g a v) = e_al T := rfl
theorem q_al_r (T : TH) (g a : Nat) (v : Option Nat) : e_al (s_r T g a v) = e_al T := rfl
theorem q_al_ai (T : TH) (g a : Nat) (v : Int32) : e_al (s_ai T g a v) = e_al T := rfl
theorem q_al_al (T : TH) (g a : Nat) (v : Int64) (g' a' : Nat) : e_al (s_al T g a v) g' a' = if g' = g ∧ a' = a then v else e_al T g' a' := rfl
theorem q_al_ar (T : TH) (g a : Nat) (v : Option Nat) : e_al (s_ar T g a v) = e_al T := rfl
theorem q_ar_i (T : TH) (g a : Nat) (v : Int32) : e_ar (s_i T g a v) = e_ar T := rfl
theorem q_ar_l (T : TH) (g a : Nat) (v : Int64) : e_ar (s_l T g a v) = e_ar T := rfl
theorem q_ar_r (T : TH) (g a : Nat) (v : Option Nat) : e_ar (s_r T g a v) = e_ar T := rfl
theorem q_ar_ai (T : TH) (g a : Nat) (v : Int32) : e_ar (s_ai T g a v) = e_ar T := rfl
theorem q_ar_al (T : TH) (g a : Nat) (v : Int64) : e_ar (s_al T g a v) = e_ar T := rfl
theorem q_ar_ar (T : TH) (g a : Nat) (v : Option Nat) (g' a' : Nat) : e_ar (s_ar T g a v) g' a' = if g' = g ∧ a' = a then v else e_ar T g' a' := rfl
theorem q_len_i (T : TH) (g a : Nat) (v : Int32) : e_len (s_i T g a v) = e_len T := rfl
theorem q_len_l (T : TH) (g a : Nat) (v : Int64) : e_len (s_l T g a v) = e_len T := rfl
theorem q_len_r (T : TH) (g a : Nat) (v : Option Nat) : e_len (s_r T g a v) = e_len T := rfl
theorem q_len_ai (T : TH) (g a : Nat) (v : Int32) : e_len (s_ai T g a v) = e_len T := rfl
theorem q_len_al (T : TH) (g a : Nat) (v : Int64) : e_len (s_al T g a v) = e_len T := rfl
theorem q_len_ar (T : TH) (g a : Nat) (v : Option Nat) : e_len (s_ar T g a v) = e_len T := rfl
theorem q_n_i (T : TH) (g a : Nat) (v : Int32) : e_n (s_i T g a v) = e_n T := rfl
theorem q_n_l (T : TH) (g a : Nat) (v : Int64) : e_n (s_l T g a v) = e_n T := rfl
theorem q_n_r (T : TH) (g a : Nat) (v : Option Nat) : e_n (s_r T g a v) = e_n T := rfl
theorem q_n_ai (T : TH) (g a : Nat) (v : Int32) : e_n (s_ai T g a v) = e_n T := rfl
theorem q_n_al (T : TH) (g a : Nat) (v : Int64) : e_n (s_al T g a v) = e_n T := rfl
theorem q_n_ar (T : TH) (g a : Nat) (v : Option Nat) : e_n (s_ar T g a v) = e_n T := rfl
theorem q_s_i (T : TH) (g a : Nat) (v : Int32) : e_s (s_i T g a v) = e_s T := rfl
theorem q_s_l (T : TH) (g a : Nat) (v : Int64) : e_s (s_l T g a v) = e_s T := rfl
theorem q_s_r (T : TH) (g a : Nat) (v : Option Nat) : e_s (s_r T g a v) = e_s T := rfl
theorem q_s_ai (T : TH) (g a : Nat) (v : Int32) : e_s (s_ai T g a v) = e_s T := rfl
theorem q_s_al (T : TH) (g a : Nat) (v : Int64) : e_s (s_al T g a v) = e_s T := rfl
theorem q_s_ar (T : TH) (g a : Nat) (v : Option Nat) : e_s (s_ar T g a v) = e_s T := rfl
theorem q_sc_i (T : TH) (g a : Nat) (v : Int32) : e_sc (s_i T g a v) = e_sc T := rfl
theorem q_sc_l (T : TH) (g a : Nat) (v : Int64) : e_sc (s_l T g a v) = e_sc T := rfl
theorem q_sc_r (T : TH) (g a : Nat) (v : Option Nat) : e_sc (s_r T g a v) = e_sc T := rfl
theorem q_sc_ai (T : TH) (g a : Nat) (v : Int32) : e_sc (s_ai T g a v) = e_sc T := rfl
theorem q_sc_al (T : TH) (g a : Nat) (v : Int64) : e_sc (s_al T g a v) = e_sc T := rfl
theorem q_sc_ar (T : TH) (g a : Nat) (v : Option Nat) : e_sc (s_ar T g a v) = e_sc T := rfl
/-- what a reading method of the reference may change: these int fields of its object, these rows -/
def FrM (fs as : List Nat) (T T' : TH) : Prop := e_K T' = e_K T ∧ e_r T' = e_r T ∧ e_len T' = e_len T ∧ e_l T' = e_l T ∧ e_ar T' = e_ar T ∧ e_n T' = e_n T ∧ e_s T' = e_s T ∧ e_sc T' = e_sc T ∧ (∀ g a, ¬ (a = 88 ∧ g ∈ fs) → e_i T' g a = e_i T g a) ∧ (∀ a, a ∉ as → e_ai T' a = e_ai T a) ∧ ∀ a, a ∉ as → e_al T' a = e_al T a
theorem FrM.rf {fs as : List Nat} {T : TH} : FrM fs as T T := ⟨rfl, rfl, rfl, rfl, rfl, rfl, rfl, rfl, fun _ _ _ => rfl, fun _ _ => rfl, fun _ _ => rfl⟩
theorem FrM.tr {fs as : List Nat} {T T1 T2 : TH} (h : FrM fs as T T1) (k : FrM fs as T1 T2) : FrM fs as T T2 := by
  obtain ⟨h1, h2, h3, h4, h5, h6, h7, h8, h9, h10, h11⟩ := h
  obtain ⟨k1, k2, k3, k4, k5, k6, k7, k8, k9, k10, k11⟩ := k
  exact ⟨k1.trans h1, k2.trans h2, k3.trans h3, k4.trans h4, k5.trans h5, k6.trans h6, k7.trans h7, k8.trans h8, fun g a q => (k9 g a q).trans (h9 g a q), fun a q => (k10 a q).trans (h10 a q), fun a q => (k11 a q).trans (h11 a q)⟩
theorem FrM.si {fs as : List Nat} {T T1 : TH} (h : FrM fs as T T1) {g : Nat} (hg : g ∈ fs) (v : Int32) : FrM fs as T (s_i T1 g 88 v) := by
  obtain ⟨h1, h2, h3, h4, h5, h6, h7, h8, h9, h10, h11⟩ := h
  refine ⟨h1, h2, h3, h4, h5, h6, h7, h8, fun g' a q => ?_, h10, h11⟩
  rw [q_i_i, if_neg (fun (z : g' = g ∧ a = 88) => q ⟨z.2, z.1 ▸ hg⟩)]
  exact h9 g' a q
theorem FrM.sai {fs as : List Nat} {T T1 : TH} (h : FrM fs as T T1) {a : Nat} (ha : a ∈ as) (j : Nat) (v : Int32) : FrM fs as T (s_ai T1 a j v) := by
  obtain ⟨h1, h2, h3, h4, h5, h6, h7, h8, h9, h10, h11⟩ := h
  refine ⟨h1, h2, h3, h4, h5, h6, h7, h8, h9, fun b q => ?_, h11⟩
  rw [← h10 b q]
  funext i
  rw [q_ai_ai, if_neg (fun (z : b = a ∧ i = j) => q (z.1 ▸ ha))]
theorem FrM.sal {fs as : List Nat} {T T1 : TH} (h : FrM fs as T T1) {a : Nat} (ha : a ∈ as) (j : Nat) (v : Int64) : FrM fs as T (s_al T1 a j v) := by
  obtain ⟨h1, h2, h3, h4, h5, h6, h7, h8, h9, h10, h11⟩ := h
  refine ⟨h1, h2, h3, h4, h5, h6, h7, h8, h9, h10, fun b q => ?_⟩
  rw [← h11 b q]
  funext i
  rw [q_al_al, if_neg (fun (z : b = a ∧ i = j) => q (z.1 ▸ ha))]
theorem FrM.mono {fs as fs' as' : List Nat} {T T1 : TH} (h : FrM fs as T T1) (h1 : ∀ g ∈ fs, g ∈ fs') (h2 : ∀ a ∈ as, a ∈ as') : FrM fs' as' T T1 :=
  ⟨h.1, h.2.1, h.2.2.1, h.2.2.2.1, h.2.2.2.2.1, h.2.2.2.2.2.1, h.2.2.2.2.2.2.1, h.2.2.2.2.2.2.2.1, fun g a q => h.2.2.2.2.2.2.2.2.1 g a (fun z => q ⟨z.1, h1 g z.2⟩), fun a q => h.2.2.2.2.2.2.2.2.2.1 a (fun z => q (h2 a z)), fun a q => h.2.2.2.2.2.2.2.2.2.2 a (fun z => q (h2 a z))⟩
theorem FrM.i {fs as : List Nat} {T T' : TH} (h : FrM fs as T T') {g a : Nat} (q : ¬ (a = 88 ∧ g ∈ fs)) : e_i T' g a = e_i T g a := h.2.2.2.2.2.2.2.2.1 g a q
theorem FrM.ai {fs as : List Nat} {T T' : TH} (h : FrM fs as T T') {a : Nat} (q : a ∉ as) : e_ai T' a = e_ai T a := h.2.2.2.2.2.2.2.2.2.1 a q
theorem FrM.al {fs as : List Nat} {T T' : TH} (h : FrM fs as T T') {a : Nat} (q : a ∉ as) : e_al T' a = e_al T a := h.2.2.2.2.2.2.2.2.2.2 a q
theorem FrM.mi {fs as : List Nat} {T T' : TH} (h : FrM fs as T T') (hM : MI T) : MI T' := by
  unfold MI
  rw [h.1, h.2.1, h.2.2.1, h.2.2.2.1]
  exact hM
/-! THE SHAPE's TEXT, as a function: fields, leaves; of each field its group, name, kind, mark; of each leaf its field -/
abbrev Sh : Type := Nat × Nat × (Nat → Option Nat) × (Nat → Nat) × (Nat → Nat) × (Nat → Nat) × (Nat → Nat)
/-- the word from q to e, if it has no more than eight letters -/
def wd (b : Nat → Nat) (q e : Nat) : Option Nat := if 8 < e - q then none else some (wc b q e)
def mkOf (v : Option Nat) : Option Nat := if v = some w_one then some 0 else if v = some w_opt then some 1 else if v = some w_many then some 2 else none
def kdOf (v : Option Nat) : Option Nat := if v = some w_num then some 0 else if v = some w_word then some 1 else none
def isKw (v : Nat) : Bool := v == w_num || v == w_word || v == w_one || v == w_opt || v == w_many
/-- a mark and its ; from p on: what is wrong, or the mark and the place behind -/
def pMark (b : Nat → Nat) (n p : Nat) : (Nat × Nat) ⊕ (Nat × Nat) :=
  if we b n (sk b n p) = sk b n p then .inl (1, sk b n p) else
  match mkOf (wd b (sk b n p) (we b n (sk b n p))) with
  | none => .inl (1, sk b n p)
  | some m => if sk b n (we b n (sk b n p)) < n ∧ b (sk b n (we b n (sk b n p))) = 59 then .inr (m, sk b n (we b n (sk b n p)) + 1) else .inl (1, sk b n (we b n (sk b n p)))
/-- whether the name is in the group already: among the first k fields -/
def dupF (W : Nat → Option Nat) (N : Nat → Nat) (o : Option Nat) (v : Nat) : Nat → Bool
  | 0 => false
  | k + 1 => dupF W N o v k || (decide (W k = o) && decide (N k = v))
def pField (b : Nat → Nat) (n q : Nat) (s : Sh) (gs : List Nat) : (Nat × Nat) ⊕ (Nat × Sh × List Nat) :=
  if we b n q = q then .inl (1, q) else if q + 8 < we b n q then .inl (1, q + 8) else
  if isKw (wc b q (we b n q)) = true then .inl (1, q) else
  if dupF s.2.2.1 s.2.2.2.1 gs.head? (wc b q (we b n q)) s.1 = true then .inl (2, q) else
  if sk b n (we b n q) < n ∧ b (sk b n (we b n q)) = 91 then
    if gs.length = 4 then .inl (3, sk b n (we b n q))
    else .inr (sk b n (we b n q) + 1, (s.1 + 1, s.2.1, va_up s.2.2.1 s.1 gs.head?, va_up s.2.2.2.1 s.1 (wc b q (we b n q)), va_up s.2.2.2.2.1 s.1 2, s.2.2.2.2.2.1, s.2.2.2.2.2.2), s.1 :: gs)
  else
  if we b n (sk b n (we b n q)) = sk b n (we b n q) then .inl (1, sk b n (we b n q)) else
  match kdOf (wd b (sk b n (we b n q)) (we b n (sk b n (we b n q)))) with
  | none => .inl (1, sk b n (we b n q))
  | some kd => if s.2.1 = 12 then .inl (3, sk b n (we b n q)) else
    match pMark b n (we b n (sk b n (we b n q))) with
    | .inl x => .inl x
    | .inr (m, p') => .inr (p', (s.1 + 1, s.2.1 + 1, va_up s.2.2.1 s.1 gs.head?, va_up s.2.2.2.1 s.1 (wc b q (we b n q)), va_up s.2.2.2.2.1 s.1 kd, va_up s.2.2.2.2.2.1 s.1 m, va_up s.2.2.2.2.2.2 s.2.1 s.1), gs)
def pStep (b : Nat → Nat) (n p : Nat) (s : Sh) (gs : List Nat) : (Nat × Nat) ⊕ Option (Nat × Sh × List Nat) :=
  if n ≤ sk b n p then (if gs ≠ [] then .inl (1, sk b n p) else if s.1 = 0 then .inl (3, sk b n p) else .inr none) else
  match gs with
  | g :: gs' =>
    if b (sk b n p) = 93 then
      if s.1 = g + 1 then .inl (3, sk b n p) else
      match pMark b n (sk b n p + 1) with
      | .inl x => .inl x
      | .inr (m, p') => .inr (some (p', (s.1, s.2.1, s.2.2.1, s.2.2.2.1, s.2.2.2.2.1, va_up s.2.2.2.2.2.1 g m, s.2.2.2.2.2.2), gs'))
    else (pField b n (sk b n p) s gs).map id some
  | [] => (pField b n (sk b n p) s []).map id some
def pLoop (b : Nat → Nat) (n : Nat) : Nat → Nat → Sh → List Nat → (Nat × Nat) ⊕ Sh
  | 0, _, _, _ => .inl (0, 0)
  | f + 1, p, s, gs => match pStep b n p s gs with
    | .inl x => .inl x
    | .inr none => .inr s
    | .inr (some (p', s', gs')) => pLoop b n f p' s' gs'
def Sh0 : Sh := (0, 0, fun _ => none, fun _ => 0, fun _ => 0, fun _ => 0, fun _ => 0)
def pShape (b : Nat → Nat) (n : Nat) : (Nat × Nat) ⊕ Sh := pLoop b n (n + 1) 0 Sh0 []
/-! facts of words -/
theorem wd_lt {b : Nat → Nat} {n q : Nat} {v : Nat} (h : wd b q (we b n q) = some v) : v < 27 ^ 8 := by
  unfold wd at h
  split at h
  · cases h
  · cases h
    have h1 := we_ge b n q
    have h2 := wc_lt (b := b) (p := q) (we b n q - q) (fun j a c => we_letters (n := n) _ q rfl j a (by omega))
    rw [show q + (we b n q - q) = we b n q by omega] at h2
    exact Nat.lt_of_lt_of_le h2 (Nat.pow_le_pow_right (by omega) (by omega))
theorem wc_lt8 {b : Nat → Nat} {n q : Nat} (h : we b n q ≤ q + 8) : wc b q (we b n q) < 27 ^ 8 := wd_lt (b := b) (n := n) (q := q) (by unfold wd; rw [if_neg (by omega)])
theorem p278 : 27 ^ 8 = 282429536481 := by decide
theorem lN_m1 {a : Nat} (h : a < 2 ^ 63) : ¬ lN a = -1 := by
  intro e
  have h1 := pk_lT h
  rw [e] at h1
  have h2 : (-1 : Int64).toInt = -1 := rfl
  omega
theorem wv_iff {b : Nat → Nat} {n q c : Nat} (hc : c < 2 ^ 63) : wv b q (we b n q) = lN c ↔ wd b q (we b n q) = some c := by
  unfold wv
  cases hw : wd b q (we b n q) with
  | none =>
    have : 8 < we b n q - q := by unfold wd at hw; split at hw; assumption; cases hw
    rw [if_pos this]
    exact ⟨fun e => absurd e.symm (lN_m1 hc), fun e => by cases e⟩
  | some v =>
    have hv := wd_lt hw
    rw [p278] at hv
    have h1 : ¬ 8 < we b n q - q ∧ wc b q (we b n q) = v := by unfold wd at hw; split at hw; cases hw; cases hw; exact ⟨by assumption, rfl⟩
    rw [if_neg h1.1, h1.2, pk_lEQ (by omega) hc]
    exact ⟨fun e => by rw [e], fun e => by cases e; rfl⟩
