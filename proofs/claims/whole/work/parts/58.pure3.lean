/-! the way down to the innermost node, and what is added there -/
def PthOk (s : Sh) (pa : Pa) : Nat → List Nat → Prop
  | _, [] => True
  | z, y :: ps => pa.2.2.1 y = some z ∧ z < y ∧ y < pa.1 ∧ (∀ k, k < pa.1 → pa.2.2.1 k = some z → k ≤ y) ∧ (∃ g, pa.2.1 y = some g ∧ s.2.2.1 g = pa.2.1 z ∧ g < s.1 ∧ s.2.2.2.2.1 g = 2) ∧ PthOk s pa y ps
def lst : Nat → List Nat → Nat
  | z, [] => z
  | _, y :: ps => lst y ps
theorem lst_mem : ∀ (ps : List Nat) (z : Nat), lst z ps ∈ z :: ps
  | [], _ => List.mem_cons_self
  | y :: ps, z => List.mem_cons_of_mem _ (lst_mem ps y)
theorem lst_app : ∀ (ps : List Nat) (z y : Nat), lst z (ps ++ [y]) = y
  | [], _, _ => rfl
  | a :: ps, _, y => lst_app ps a y
theorem PthOk.gt {s : Sh} {pa : Pa} : ∀ {ps : List Nat} {z : Nat}, PthOk s pa z ps → ∀ k ∈ ps, z < k
  | [], _, _, k, hk => absurd hk List.not_mem_nil
  | y :: ps, z, h, k, hk => by
    rcases List.mem_cons.mp hk with e | e
    · rw [e]; exact h.2.1
    · have := PthOk.gt h.2.2.2.2.2 k e; have := h.2.1; omega
theorem PthOk.lt {s : Sh} {pa : Pa} : ∀ {ps : List Nat} {z : Nat}, PthOk s pa z ps → ∀ k ∈ ps, k < pa.1
  | [], _, _, k, hk => absurd hk List.not_mem_nil
  | y :: ps, z, h, k, hk => by
    rcases List.mem_cons.mp hk with e | e
    · rw [e]; exact h.2.2.1
    · exact PthOk.lt h.2.2.2.2.2 k e
theorem PthOk.par {s : Sh} {pa : Pa} : ∀ {ps : List Nat} {z : Nat}, PthOk s pa z ps → ∀ k ∈ ps, ∃ w ∈ z :: ps, pa.2.2.1 k = some w
  | [], _, _, k, hk => absurd hk List.not_mem_nil
  | y :: ps, z, h, k, hk => by
    rcases List.mem_cons.mp hk with e | e
    · exact ⟨z, List.mem_cons_self, e ▸ h.1⟩
    · obtain ⟨w, h1, h2⟩ := PthOk.par h.2.2.2.2.2 k e
      exact ⟨w, List.mem_cons_of_mem _ h1, h2⟩
theorem PthOk.le_lst {s : Sh} {pa : Pa} : ∀ {ps : List Nat} {z : Nat}, PthOk s pa z ps → ∀ k ∈ z :: ps, k ≤ lst z ps
  | [], z, _, k, hk => by rw [List.mem_singleton.mp hk]; exact Nat.le_refl _
  | y :: ps, z, h, k, hk => by
    rcases List.mem_cons.mp hk with e | e
    · have := PthOk.le_lst h.2.2.2.2.2 y List.mem_cons_self; have := h.2.1; show k ≤ lst y ps; omega
    · exact PthOk.le_lst h.2.2.2.2.2 k e
theorem PthOk.app {s : Sh} {pa : Pa} : ∀ {ps : List Nat} {z y : Nat}, PthOk s pa z (ps ++ [y]) ↔ PthOk s pa z ps ∧ PthOk s pa (lst z ps) [y]
  | [], z, y => ⟨fun h => ⟨trivial, h⟩, fun h => h.2⟩
  | a :: ps, z, y => by
    show (_ ∧ _ ∧ _ ∧ _ ∧ _ ∧ PthOk s pa a (ps ++ [y])) ↔ (_ ∧ _ ∧ _ ∧ _ ∧ _ ∧ PthOk s pa a ps) ∧ PthOk s pa (lst a ps) [y]
    rw [PthOk.app]
    exact ⟨fun h => ⟨⟨h.1, h.2.1, h.2.2.1, h.2.2.2.1, h.2.2.2.2.1, h.2.2.2.2.2.1⟩, h.2.2.2.2.2.2⟩, fun h => ⟨h.1.1, h.1.2.1, h.1.2.2.1, h.1.2.2.2.1, h.1.2.2.2.2.1, h.1.2.2.2.2.2, h.2⟩⟩
theorem PthOk.flds {s : Sh} {pa : Pa} : ∀ {ps : List Nat} {z : Nat} {l : List Nat}, PthOk s pa z ps → Chn s.2.2.1 (pa.2.1 z) l → ∃ gl : List Nat, ps.map pa.2.1 = gl.map some ∧ Chn s.2.2.1 (pa.2.1 (lst z ps)) (gl.reverse ++ l)
  | [], z, l, _, hl => ⟨[], rfl, hl⟩
  | y :: ps, z, l, h, hl => by
    obtain ⟨g, g1, g2, -⟩ := h.2.2.2.2.1
    obtain ⟨gl, k1, k2⟩ := PthOk.flds (l := g :: l) h.2.2.2.2.2 (by rw [g1]; exact ⟨rfl, by rw [g2]; exact hl⟩)
    refine ⟨g :: gl, by rw [List.map_cons, List.map_cons, g1, k1], ?_⟩
    show Chn s.2.2.1 (pa.2.1 (lst y ps)) ((g :: gl).reverse ++ l)
    rw [List.reverse_cons, List.append_assoc]; exact k2
/-- the nodes that are not on the way -/
def ClS (pa : Pa) (S : List Nat) (k : Nat) : Prop := k < pa.1 ∧ k ∉ S
theorem ClS.ch {s : Sh} {pa : Pa} {ps : List Nat} (hP : PthOk s pa 0 ps) (h00 : pa.2.2.1 0 = none) {y f z : Nat} (hy : ClS pa (0 :: ps) y) (hz : z ∈ ch pa y f (y + 1)) : ClS pa (0 :: ps) z := by
  obtain ⟨h1, h2, h3, h4⟩ := mem_ch.mp hz
  refine ⟨h2, fun h => ?_⟩
  rcases List.mem_cons.mp h with e | e
  · rw [e, h00] at h3; cases h3
  · obtain ⟨w, w1, w2⟩ := hP.par z e
    rw [h3] at w2
    exact hy.2 (Option.some.inj w2 ▸ w1)
theorem SpQ.of {s : Sh} {pa pa' : Pa} {S S' : List Nat} {x : Nat} (hS' : ∀ k ∈ S, k ≠ x → k ∈ S') (hch : ∀ k ∈ S, k ≠ x → ∀ f, ch pa' k f (k + 1) = ch pa k f (k + 1)) (hv : ∀ k ∈ S, pa'.2.2.2 k = pa.2.2.2 k) : ∀ (ps : List Nat) (z : Nat), PthOk s pa z ps → (∀ k ∈ S, k ≤ z ∨ k ∈ ps) → (∀ k ∈ z :: ps, k ∈ S) → lst z ps = x → SpQ pa pa' S S' (ClS pa S) x z ps := by
  intro ps
  induction ps with
  | nil => intro z _ _ _ h; exact h
  | cons y ps ih =>
    intro z hP h1 h2 h3
    have hzx : z ≠ x := by
      have := PthOk.le_lst hP.2.2.2.2.2 y List.mem_cons_self
      have := hP.2.1
      have h3' : lst y ps = x := h3
      omega
    have hz := h2 z List.mem_cons_self
    obtain ⟨q1, q2, q3, q4, ⟨g, g1, g2, g3, g4⟩, q6⟩ := hP
    have hcl : ∀ k, z < k → k < y → k < pa.1 → ClS pa S k := fun k a1 a2 a3 => ⟨a3, fun hk => by
      rcases h1 k hk with e | e
      · omega
      · rcases List.mem_cons.mp e with e | e
        · omega
        · have := PthOk.gt q6 k e; omega⟩
    refine ⟨hz, hS' z hz hzx, hch z hz hzx, hv z hz, ⟨g, g1, ?_, fun f hf k hk => ?_⟩, ih y q6 (fun k hk => ?_) (fun k hk => h2 k (List.mem_cons_of_mem _ hk)) h3⟩
    · have hy : y ∈ ch pa z g (z + 1) := mem_ch.mpr ⟨q2, q3, q1, g1⟩
      obtain ⟨a, ha, hl⟩ := ch_last hy (fun k hk => q4 k (mem_ch.mp hk).2.1 (mem_ch.mp hk).2.2.1)
      refine ⟨a, ha, fun k hk => ?_⟩
      have hk2 : k ∈ ch pa z g (z + 1) := by rw [ha]; exact List.mem_append_left _ hk
      obtain ⟨b1, b2, -⟩ := mem_ch.mp hk2
      exact hcl k b1 (hl k hk) b2
    · obtain ⟨b1, b2, b3, b4⟩ := mem_ch.mp hk
      have := q4 k b2 b3
      have hne : k ≠ y := fun e => by rw [e, g1] at b4; exact hf (Option.some.inj b4).symm
      exact hcl k b1 (by omega) b2
    · rcases h1 k hk with e | e
      · exact Or.inl (by omega)
      · rcases List.mem_cons.mp e with e | e
        · exact Or.inl (by omega)
        · exact Or.inr e
/-- what a new node f at x tells -/
def dA (M : Nat → Nat) (pa pa' : Pa) (i : Nat) (S' : List Nat) (f x : Nat) (r : List Nat) (t lev ag : Nat) : List Row := match r with
  | [] => []
  | g :: fs => if g = f then rwQ M pa' i S' fs pa.1 (t + dM M f) (if ch pa x f (x + 1) = [] then lev else ag + mM M f) (ag + mM M f) else []
theorem rwQ_add {s : Sh} {M : Nat → Nat} {pa : Pa} {i f : Nat} {v : Int64} {ps S' : List Nat} (hP : PthOk s pa 0 ps) (h00 : pa.2.2.1 0 = none) (h0 : 0 < pa.1) (hS' : ∀ k, k < pa.1 → (k ∈ S' ↔ k ∈ 0 :: ps)) (r : List Nat) (t lev ag : Nat) :
    rwQ M (addN pa (some f) (some (lst 0 ps)) v) i S' r 0 t lev ag = rwQ M pa i (0 :: ps) r 0 t lev ag ++ DD pa M (dA M pa (addN pa (some f) (some (lst 0 ps)) v) i S' f (lst 0 ps)) 0 ps r t lev ag := by
  have hlt : ∀ k ∈ 0 :: ps, k < pa.1 := fun k hk => (List.mem_cons.mp hk).elim (fun e => by omega) (hP.lt k)
  have hxl := hlt _ (lst_mem ps 0)
  have hcne : ∀ k, k < pa.1 → k ≠ lst 0 ps → ∀ g, ch (addN pa (some f) (some (lst 0 ps)) v) k g (k + 1) = ch pa k g (k + 1) := fun k hk hne g => by
    rw [ch_add (by omega), if_neg (fun z => hne (Option.some.inj z.1).symm), List.append_nil]
  have hval : ∀ k, k < pa.1 → (addN pa (some f) (some (lst 0 ps)) v).2.2.2 k = pa.2.2.2 k := fun k hk => upn (f := pa.2.2.2) (by omega)
  have hcl : ClQ pa (addN pa (some f) (some (lst 0 ps)) v) (0 :: ps) S' (ClS pa (0 :: ps)) := fun y hy =>
    ⟨fun g => hcne y hy.1 (fun e => hy.2 (e ▸ lst_mem ps 0)) g, fun g z hz => hy.ch hP h00 hz, hS' y hy.1, hval y hy.1⟩
  refine rwQ_sp hcl (x := lst 0 ps) (fun r t lev ag => ?_) ps 0 r t lev ag (SpQ.of (fun k hk _ => (hS' k (hlt k hk)).mpr hk) (fun k hk hne g => hcne k (hlt k hk) hne g) (fun k hk => hval k (hlt k hk)) ps 0 hP (fun k hk => (List.mem_cons.mp hk).elim (fun e => Or.inl (by omega)) Or.inr) (fun k hk => hk) rfl)
  cases r with
  | nil => rw [rwQ, rwQ, hval _ hxl]; simp [dA]
  | cons g fs =>
    have hxS := lst_mem ps 0
    have hcx : ∀ h, ∀ z ∈ ch pa (lst 0 ps) h (lst 0 ps + 1), ClS pa (0 :: ps) z := fun h z hz => by
      obtain ⟨b1, b2, -⟩ := mem_ch.mp hz
      exact ⟨b2, fun hk => by have := hP.le_lst z hk; omega⟩
    rw [rwQ_c, rwQ_c, if_pos hxS, if_pos ((hS' _ hxl).mpr hxS), ch_add (by omega), dA]
    by_cases e : g = f
    · subst e
      rw [if_pos ⟨rfl, rfl⟩, if_pos rfl, rstP_app]
      congr 1
      by_cases e2 : ch pa (lst 0 ps) g (lst 0 ps + 1) = []
      · rw [if_pos e2, e2]; rfl
      · rw [if_neg e2]; exact rstP_eq (fun z hz l => rwQ_cl hcl fs z _ l _ (hcx g z hz)) (fun _ => rfl)
    · rw [if_neg (fun z => e (Option.some.inj z.2).symm), if_neg e, List.append_nil, List.append_nil]
      exact rstP_eq (fun z hz l => rwQ_cl hcl fs z _ l _ (hcx g z hz)) (fun _ => rfl)
/-- what the end of x tells -/
def dC (pa : Pa) (i x : Nat) (r : List Nat) (t lev _ag : Nat) : List Row := match r with
  | [] => []
  | g :: _ => if ch pa x g (x + 1) = [] then [(lev, t, false, lN 0, i)] else []
theorem rwQ_end {s : Sh} {M : Nat → Nat} {pa : Pa} {i : Nat} {ps S' : List Nat} (hP : PthOk s pa 0 ps) (h00 : pa.2.2.1 0 = none) (h0 : 0 < pa.1) (hS' : ∀ k, k < pa.1 → (k ∈ S' ↔ k ∈ 0 :: ps ∧ k ≠ lst 0 ps)) (r : List Nat) (t lev ag : Nat) :
    rwQ M pa i S' r 0 t lev ag = rwQ M pa i (0 :: ps) r 0 t lev ag ++ DD pa M (dC pa i (lst 0 ps)) 0 ps r t lev ag := by
  have hlt : ∀ k ∈ 0 :: ps, k < pa.1 := fun k hk => (List.mem_cons.mp hk).elim (fun e => by omega) (hP.lt k)
  have hxl := hlt _ (lst_mem ps 0)
  have hcl : ClQ pa pa (0 :: ps) S' (ClS pa (0 :: ps)) := fun y hy =>
    ⟨fun g => rfl, fun g z hz => hy.ch hP h00 hz, ⟨fun z => ((hS' y hy.1).mp z).1, fun z => absurd z hy.2⟩, rfl⟩
  refine rwQ_sp hcl (x := lst 0 ps) (fun r t lev ag => ?_) ps 0 r t lev ag (SpQ.of (fun k hk hne => (hS' k (hlt k hk)).mpr ⟨hk, hne⟩) (fun k hk hne g => rfl) (fun k hk => rfl) ps 0 hP (fun k hk => (List.mem_cons.mp hk).elim (fun e => Or.inl (by omega)) Or.inr) (fun k hk => hk) rfl)
  cases r with
  | nil => rw [rwQ, rwQ]; simp [dC]
  | cons g fs =>
    have hxS := lst_mem ps 0
    have hcx : ∀ h, ∀ z ∈ ch pa (lst 0 ps) h (lst 0 ps + 1), ClS pa (0 :: ps) z := fun h z hz => by
      obtain ⟨b1, b2, -⟩ := mem_ch.mp hz
      exact ⟨b2, fun hk => by have := hP.le_lst z hk; omega⟩
    rw [rwQ_c, rwQ_c, if_pos hxS, if_neg (fun z => ((hS' _ hxl).mp z).2 rfl), dC]
    by_cases e2 : ch pa (lst 0 ps) g (lst 0 ps + 1) = []
    · rw [if_pos e2, e2]; rfl
    · rw [if_neg e2, List.append_nil]; exact rstP_eq (fun z hz l => rwQ_cl hcl fs z _ l _ (hcx g z hz)) (fun z => absurd z e2)
/-! roads and the way down -/
theorem Chn.mem {W : Nat → Option Nat} : ∀ {l : List Nat} {o : Option Nat} {f : Nat}, Chn W o l → f ∈ l → ∃ a l', l = a ++ f :: l' ∧ Chn W (W f) l'
  | [], _, _, _, h => absurd h List.not_mem_nil
  | x :: l, o, f, h, hf => by
    rcases List.mem_cons.mp hf with e | e
    · exact ⟨[], l, by rw [e]; rfl, by rw [e]; exact h.2⟩
    · obtain ⟨a, l', h1, h2⟩ := Chn.mem h.2 e
      exact ⟨x :: a, l', by rw [h1]; rfl, h2⟩
theorem Chn.suf {W : Nat → Option Nat} : ∀ {a : List Nat} {o : Option Nat} {f : Nat} {l' : List Nat}, Chn W o (a ++ f :: l') → Chn W (W f) l'
  | [], _, _, _, h => h.2
  | _ :: _, _, _, _, h => Chn.suf h.2
theorem Chn.o {W : Nat → Option Nat} : ∀ {l : List Nat} {o o' : Option Nat}, Chn W o l → Chn W o' l → o = o'
  | [], _, _, h, k => h.trans k.symm
  | _ :: _, _, _, h, k => h.1.trans k.1.symm
theorem road_hit {s : Sh} {gs : List Nat} {en : Nat → Nat} {lo : Nat → Option Nat} (hV : ShV s gs en lo) {c f : Nat} (hc : c < s.2.1) {o : Option Nat} {gl : List Nat} (hg : Chn s.2.2.1 o gl.reverse) (hf : f ∈ rdl s c) (hW : s.2.2.1 f = o) : ∃ suf, road s c = gl ++ f :: suf := by
  obtain ⟨h1, h2⟩ := hV.rd hc
  obtain ⟨a, l', e1, e2⟩ := Chn.mem h1 hf
  rw [hW] at e2
  have e3 := Chn.uniq e2 hg
  refine ⟨a.reverse, ?_⟩
  unfold road
  rw [e1, e3]; simp
theorem road_back {s : Sh} {gs : List Nat} {en : Nat → Nat} {lo : Nat → Option Nat} (hV : ShV s gs en lo) {c f : Nat} (hc : c < s.2.1) {o : Option Nat} {gl suf : List Nat} (hg : Chn s.2.2.1 o gl.reverse) (hr : road s c = gl ++ f :: suf) : f ∈ rdl s c ∧ s.2.2.1 f = o ∧ rdl s c = suf.reverse ++ f :: gl.reverse := by
  obtain ⟨h1, h2⟩ := hV.rd hc
  have e : rdl s c = suf.reverse ++ f :: gl.reverse := by
    have : (road s c).reverse = rdl s c := List.reverse_reverse _
    rw [← this, hr]; simp
  rw [e] at h1
  exact ⟨by rw [e]; simp, Chn.o (Chn.suf h1) hg, e⟩
theorem rdl_on {s : Sh} {en : Nat → Nat} {lo : Nat → Option Nat} (hV : ShV s [] en lo) {c f : Nat} (hc : c < s.2.1) (hf : f < s.1) : f ∈ rdl s c ↔ f ≤ s.2.2.2.2.2.2 c ∧ s.2.2.2.2.2.2 c < en f :=
  (hV.2.2.2.2.1 f hf List.not_mem_nil).2.2 _ (hV.2.2.2.2.2.2.1 c hc).1 _ (hV.rd hc).1
theorem rdl_leaf {s : Sh} {gs : List Nat} {en : Nat → Nat} {lo : Nat → Option Nat} (hV : ShV s gs en lo) {c f : Nat} (hc : c < s.2.1) (hf : f ∈ rdl s c) (hk : s.2.2.2.2.1 f ≠ 2) : f = s.2.2.2.2.2.2 c := by
  obtain ⟨l, l1, l2, l3, l4⟩ := hV.2.2.2.1 _ (hV.2.2.2.2.2.2.1 c hc).1
  rw [Chn.uniq (hV.rd hc).1 l1] at hf
  exact Classical.byContradiction (fun z => hk (l4 f hf z))
