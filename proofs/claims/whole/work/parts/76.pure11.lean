/-! where a PAPER's rows begin -/
theorem tbl_split {s : Sh} {en : Nat → Nat} {lo : Nat → Option Nat} {pp : Nat → Pa} {c : Nat} (hV : ShV s [] en lo) (hc : c < s.2.1) (i : Nat) : ∀ k, ∃ Q, tbl s.2.2.2.2.2.1 (road s c) pp (i + 1 + k) = tbl s.2.2.2.2.2.1 (road s c) pp i ++ (rwQ s.2.2.2.2.2.1 (pp i) i [] (road s c) 0 0 0 0 ++ Q) ∧ HdLe Q 0 := by
  intro k
  induction k with
  | zero => exact ⟨[], by rw [Nat.add_zero, tbl, rwG_Q hV hc, List.append_nil], fun r hr => by cases hr⟩
  | succ k ih =>
    obtain ⟨Q, h1, h2⟩ := ih
    refine ⟨Q ++ rwQ s.2.2.2.2.2.1 (pp (i + 1 + k)) (i + 1 + k) [] (road s c) 0 0 0 0, ?_, ?_⟩
    · show tbl _ _ _ (i + 1 + k) ++ rwG _ (pp (i + 1 + k)) (i + 1 + k) _ 0 0 0 0 = _
      rw [h1, rwG_Q hV hc]; simp
    · cases Q with
      | nil =>
        intro r hr
        obtain ⟨w, ws, q1, q2, q3⟩ := rwQ_hd (M := s.2.2.2.2.2.1) (pa := pp (i + 1 + k)) (i := i + 1 + k) (road s c) 0 0 0 0
        rw [List.nil_append, q1] at hr
        have : w = r := by simpa using hr
        rw [← this, q2]; exact Nat.le_refl _
      | cons r Q => intro r' hr; exact h2 r' (by simpa using hr)
theorem fnd_at {p : Nat → Bool} : ∀ (c k j : Nat), k ≤ j → j < k + c → p j = true → (∀ m, k ≤ m → m < j → p m = false) → fnd p c k = some j := by
  intro c
  induction c with
  | zero => intro k j h1 h2; omega
  | succ c ih =>
    intro k j h1 h2 h3 h4
    rw [fnd]
    by_cases e : k = j
    · subst e; rw [if_pos h3]
    · rw [if_neg (by rw [h4 k (Nat.le_refl _) (by omega)]; decide)]
      exact ih (k + 1) j (by omega) (by omega) h3 (fun m a b => h4 m (by omega) b)
theorem text_start {s : Sh} {en : Nat → Nat} {lo : Nat → Option Nat} {ps : PS} {i c : Nat} (hV : ShV s [] en lo) (hc : c < s.2.1) (hi : i < ps.1) : fnd (fun k => decide ((rowAt (tOf s ps c) k).2.2.2.2 = i)) (tOf s ps c).length 0 = some (tbl s.2.2.2.2.2.1 (road s c) ps.2 i).length := by
  obtain ⟨Q, h1, h2⟩ := tbl_split (pp := ps.2) hV hc i (ps.1 - (i + 1))
  rw [show i + 1 + (ps.1 - (i + 1)) = ps.1 by omega] at h1
  obtain ⟨w, ws, q1, q2, q3⟩ := rwQ_hd (M := s.2.2.2.2.2.1) (pa := ps.2 i) (i := i) (road s c) 0 0 0 0
  have hw : w.2.2.2.2 = i := rwQ_pap _ _ _ _ _ w (by rw [q1]; exact List.mem_cons_self)
  have ht : tOf s ps c = tbl s.2.2.2.2.2.1 (road s c) ps.2 i ++ (w :: (ws ++ Q)) := by unfold tOf; rw [h1, q1]; rfl
  rw [ht]
  refine fnd_at _ _ _ (Nat.zero_le _) (by simp) ?_ (fun m _ hm => ?_)
  · rw [rowAt_r (Nat.le_refl _), Nat.sub_self]
    show decide (w.2.2.2.2 = i) = true
    simp [hw]
  · rw [rowAt_l hm]
    obtain ⟨j, j1, j2⟩ := tbl_mem i _ (rowAt_mem hm)
    rw [rwG_Q hV hc] at j2
    have := rwQ_pap _ _ _ _ _ _ j2
    rw [this]; simp; omega
theorem text_blocks {s : Sh} {en : Nat → Nat} {lo : Nat → Option Nat} {ps : PS} {i : Nat} {bits : Int32} (hV : ShV s [] en lo) (hi : i < ps.1) : HBk s bits (ps.2 i) i (fun c => tOf s ps c) 0 [] 0 none (fun c => (tbl s.2.2.2.2.2.1 (road s c) ps.2 i).length) := fun c hc hb hbl => by
  obtain ⟨Q, h1, h2⟩ := tbl_split (pp := ps.2) hV hc i (ps.1 - (i + 1))
  rw [show i + 1 + (ps.1 - (i + 1)) = ps.1 by omega] at h1
  refine ⟨Q, ?_, h2⟩
  show (tbl s.2.2.2.2.2.1 (road s c) ps.2 ps.1).drop _ = rwQ s.2.2.2.2.2.1 (ps.2 i) i [] (road s c) 0 0 0 0 ++ Q
  rw [h1, List.drop_left]
/-! a TEXT takes no more than its PAPER's nodes weigh -/
def dsX (s : Sh) (pa : Pa) : Nat → Nat → List Nat
  | 0, _ => []
  | k + 1, x => (List.range s.1).flatMap (fun f => (ch pa x f (x + 1)).flatMap (fun y => y :: dsX s pa k y))
theorem up_le {nF : Nat} {pa : Pa} (hok : PaOk nF pa) : ∀ z, z < pa.1 → ∀ y ∈ upA pa (z + 1) z, y ≤ z := by
  intro z
  induction z using Nat.strongRecOn with
  | ind z ih =>
    intro hz y hy
    rw [upA_s] at hy
    rcases List.mem_cons.mp hy with e | e
    · omega
    · cases hp : pa.2.2.1 z with
      | none => rw [hp] at e; cases e
      | some w =>
        rw [hp] at e
        have hw := (hok z hz).1 w hp
        have e2 : upA pa z w = upA pa (w + 1) w := upA_f hok z w (w + 1) (by omega) hw (by omega)
        have e' : y ∈ upA pa z w := e
        rw [e2] at e'
        have := ih w hw (by omega) y e'
        omega
theorem up_cmp {nF : Nat} {pa : Pa} (hok : PaOk nF pa) : ∀ z, z < pa.1 → ∀ y1 ∈ upA pa (z + 1) z, ∀ y2 ∈ upA pa (z + 1) z, y1 ∈ upA pa (y2 + 1) y2 ∨ y2 ∈ upA pa (y1 + 1) y1 := by
  intro z
  induction z using Nat.strongRecOn with
  | ind z ih =>
    intro hz y1 h1 y2 h2
    have h1' := h1
    have h2' := h2
    rw [upA_s] at h1 h2
    rcases List.mem_cons.mp h1 with e1 | e1
    · subst e1; exact Or.inr h2'
    · rcases List.mem_cons.mp h2 with e2 | e2
      · subst e2; exact Or.inl h1'
      · cases hp : pa.2.2.1 z with
        | none => rw [hp] at e1; cases e1
        | some w =>
          rw [hp] at e1 e2
          have hw := (hok z hz).1 w hp
          have e9 : upA pa z w = upA pa (w + 1) w := upA_f hok z w (w + 1) (by omega) hw (by omega)
          exact ih w hw (by omega) y1 (e9 ▸ e1) y2 (e9 ▸ e2)
theorem up_sib {nF : Nat} {pa : Pa} (hok : PaOk nF pa) {z y1 y2 x : Nat} (hz : z < pa.1) (h1 : y1 ∈ upA pa (z + 1) z) (h2 : y2 ∈ upA pa (z + 1) z) (p1 : pa.2.2.1 y1 = some x) (p2 : pa.2.2.1 y2 = some x) : y1 = y2 := by
  have l1 := up_le hok z hz y1 h1
  have l2 := up_le hok z hz y2 h2
  have x1 := (hok y1 (by omega)).1 x p1
  have x2 := (hok y2 (by omega)).1 x p2
  have key : ∀ a b, a < pa.1 → b < pa.1 → pa.2.2.1 a = some x → pa.2.2.1 b = some x → x < a → a ∈ upA pa (b + 1) b → a = b := fun a b ha hb pa1 pb1 hxa hm => by
    rw [upA_s, pb1] at hm
    rcases List.mem_cons.mp hm with e | e
    · exact e
    · have hxb := (hok b hb).1 x pb1
      have e9 : upA pa b x = upA pa (x + 1) x := upA_f hok b x (x + 1) (by omega) hxb (by omega)
      have e' : a ∈ upA pa b x := e
      rw [e9] at e'
      have := up_le hok x (by omega) a e'
      omega
  rcases up_cmp hok z hz y1 h1 y2 h2 with q | q
  · exact key y1 y2 (by omega) (by omega) p1 p2 x1 q
  · exact (key y2 y1 (by omega) (by omega) p2 p1 x2 q).symm
theorem dsX_up {nF : Nat} {s : Sh} {pa : Pa} (hok : PaOk nF pa) : ∀ (k x z : Nat), x < pa.1 → z ∈ dsX s pa k x → z < pa.1 ∧ x < z ∧ x ∈ upA pa (z + 1) z := by
  intro k
  induction k with
  | zero => intro x z _ hz; cases hz
  | succ k ih =>
    intro x z hx hz
    obtain ⟨f, -, h1⟩ := List.mem_flatMap.mp hz
    obtain ⟨y, h2, h3⟩ := List.mem_flatMap.mp h1
    obtain ⟨a1, a2, a3, a4⟩ := mem_ch.mp h2
    have hxy : x ∈ upA pa (y + 1) y := up_par hok y a2 y x (by rw [upA_s]; exact List.mem_cons_self) a3
    rcases List.mem_cons.mp h3 with e | e
    · subst e; exact ⟨a2, by omega, hxy⟩
    · obtain ⟨b1, b2, b3⟩ := ih y z a2 e
      exact ⟨b1, by omega, up_par hok z b1 y x b3 a3⟩
theorem dsX_nd {nF : Nat} {s : Sh} {pa : Pa} (hok : PaOk nF pa) : ∀ (k x : Nat), x < pa.1 → (dsX s pa k x).Nodup := by
  intro k
  induction k with
  | zero => intro x _; exact List.nodup_nil
  | succ k ih =>
    intro x hx
    have hin : ∀ f y z, y ∈ ch pa x f (x + 1) → z ∈ y :: dsX s pa k y → z < pa.1 ∧ y ∈ upA pa (z + 1) z := fun f y z hy hz => by
      obtain ⟨a1, a2, a3, a4⟩ := mem_ch.mp hy
      rcases List.mem_cons.mp hz with e | e
      · subst e; exact ⟨a2, by rw [upA_s]; exact List.mem_cons_self⟩
      · obtain ⟨b1, b2, b3⟩ := dsX_up hok k y z a2 e
        exact ⟨b1, b3⟩
    refine nd_fm List.nodup_range (fun f _ => nd_fm ((ch_nd pa x f (x + 1)).imp (fun h e => by omega)) (fun y hy => ?_) (fun y1 h1 y2 h2 z z1 z2 => ?_)) (fun f1 _ f2 _ z z1 z2 => ?_)
    · obtain ⟨a1, a2, a3, a4⟩ := mem_ch.mp hy
      exact List.nodup_cons.mpr ⟨fun z => by have := (dsX_up hok k y y a2 z).2.1; omega, ih y a2⟩
    · obtain ⟨b1, b2⟩ := hin f y1 z h1 z1
      obtain ⟨c1, c2⟩ := hin f y2 z h2 z2
      exact up_sib hok b1 b2 c2 (mem_ch.mp h1).2.2.1 (mem_ch.mp h2).2.2.1
    · obtain ⟨y1, w1, w2⟩ := List.mem_flatMap.mp z1
      obtain ⟨y2, v1, v2⟩ := List.mem_flatMap.mp z2
      obtain ⟨b1, b2⟩ := hin f1 y1 z w1 w2
      obtain ⟨c1, c2⟩ := hin f2 y2 z v1 v2
      have e := up_sib hok b1 b2 c2 (mem_ch.mp w1).2.2.1 (mem_ch.mp v1).2.2.1
      have q1 := (mem_ch.mp w1).2.2.2
      have q2 := (mem_ch.mp v1).2.2.2
      rw [e, q2] at q1
      exact (Option.some.inj q1).symm
def wsl (s : Sh) (pa : Pa) (L : List Nat) : Nat := (L.map (wgt s pa)).sum
theorem wsl_app (s : Sh) (pa : Pa) (a b : List Nat) : wsl s pa (a ++ b) = wsl s pa a + wsl s pa b := by unfold wsl; rw [List.map_append, List.sum_append]
theorem wsl_nd {s : Sh} {pa : Pa} : ∀ (n : Nat) (L : List Nat), L.Nodup → (∀ y ∈ L, y < n) → wsl s pa L ≤ wsm s pa n := by
  intro n
  induction n with
  | zero =>
    intro L _ h
    cases L with
    | nil => exact Nat.le_refl _
    | cons a L => exact absurd (h a List.mem_cons_self) (Nat.not_lt_zero _)
  | succ n ih =>
    intro L hn h
    show _ ≤ wsm s pa n + wgt s pa n
    by_cases hin : n ∈ L
    · have h1 := ih (L.erase n) (hn.erase n) (fun y hy => by have := (hn.mem_erase_iff).mp hy; have := h y this.2; omega)
      have h2 : wsl s pa L = wgt s pa n + wsl s pa (L.erase n) := by
        unfold wsl
        have := ((List.perm_cons_erase hin).map (wgt s pa)).sum_nat
        rw [this]; rfl
      omega
    · have h1 := ih L hn (fun y hy => by have := h y hy; have : y ≠ n := fun e => hin (e ▸ hy); omega)
      omega
theorem txN_len {s : Sh} {pa : Pa} {wn : Nat → Bool} : ∀ (k x : Nat), (txN s pa wn k x).length ≤ wsl s pa (dsX s pa k x) := by
  intro k
  induction k with
  | zero => intro x; exact Nat.zero_le _
  | succ k ih =>
    intro x
    have hit : ∀ f y, pa.2.1 y = some f → (itm s pa f y (txN s pa wn k y)).length ≤ wsl s pa (y :: dsX s pa k y) := fun f y hy => by
      have h1 := ih y
      have h2 : wsl s pa (y :: dsX s pa k y) = wgt s pa y + wsl s pa (dsX s pa k y) := rfl
      rw [h2]
      unfold itm wgt
      rw [hy]
      by_cases hk : s.2.2.2.2.1 f = 2
      · simp [hk]; omega
      · simp [hk]; omega
    have hch : ∀ (ys : List Nat) (f : Nat), (∀ y ∈ ys, pa.2.1 y = some f) → (ys.flatMap (fun y => itm s pa f y (txN s pa wn k y))).length ≤ wsl s pa (ys.flatMap (fun y => y :: dsX s pa k y)) := by
      intro ys f
      induction ys with
      | nil => intro _; exact Nat.zero_le _
      | cons y ys ih2 =>
        intro h
        rw [List.flatMap_cons, List.flatMap_cons, List.length_append, wsl_app]
        have := ih2 (fun z hz => h z (List.mem_cons_of_mem _ hz))
        have := hit f y (h y List.mem_cons_self)
        omega
    have hf : ∀ (m f : Nat), (txFs s pa wn (fun f y => itm s pa f y (txN s pa wn k y)) x m f).length ≤ wsl s pa ((List.range' f m).flatMap (fun f => (ch pa x f (x + 1)).flatMap (fun y => y :: dsX s pa k y))) := by
      intro m
      induction m with
      | zero => intro f; exact Nat.zero_le _
      | succ m ih3 =>
        intro f
        rw [txFs, List.range'_succ, List.flatMap_cons, List.length_append, wsl_app]
        have h1 := ih3 (f + 1)
        have h2 : (seg s pa wn (fun f y => itm s pa f y (txN s pa wn k y)) x f (x + 1)).length ≤ wsl s pa ((ch pa x f (x + 1)).flatMap (fun y => y :: dsX s pa k y)) := by
          unfold seg
          split
          · exact hch _ f (fun y hy => (mem_ch.mp hy).2.2.2)
          · exact Nat.zero_le _
        omega
    have := hf s.1 0
    rw [txN]
    show _ ≤ wsl s pa ((List.range s.1).flatMap _)
    rw [List.range_eq_range']
    exact this
theorem txN_400 {nF : Nat} {s : Sh} {pa : Pa} {wn : Nat → Bool} (hok : PaOk nF pa) (h0 : 0 < pa.1) (hw : wsm s pa pa.1 ≤ 400) (k : Nat) : (txN s pa wn k 0).length ≤ 400 := by
  have h1 := txN_len (s := s) (pa := pa) (wn := wn) k 0
  have h2 := wsl_nd (s := s) (pa := pa) pa.1 (dsX s pa k 0) (dsX_nd hok k 0 h0) (fun y hy => (dsX_up hok k 0 y h0 hy).1)
  omega
theorem PPs.px {s : Sh} {ps : PS} (h : PPs s ps) {i : Nat} (hi : i < ps.1) : PX s (ps.2 i) := by
  obtain ⟨⟨⟨z, hT⟩, t1, t2, t3, t4⟩, hok, -, hw, -⟩ := h.2 i hi
  refine ⟨fun y hy f hf => ?_, t1, t2, fun wn => txN_400 hok t3 hw 5⟩
  obtain ⟨v1, v2⟩ := hT.2.2.2.1 y hy f hf
  exact ⟨v1, fun hk => by obtain ⟨w, w1, w2, w3, w4⟩ := v2 hk; exact ⟨w, w1, w4⟩⟩
theorem PPs.pg {s : Sh} {en : Nat → Nat} {lo : Nat → Option Nat} {ps : PS} (hS : PShp s en lo) (h : PPs s ps) : PG s ps :=
  ⟨⟨h.1, fun i hi => ⟨(h.2 i hi).2.1, (h.2 i hi).2.2.1, (h.2 i hi).1.2.2.2.1⟩⟩, fun c hc => (tOf_ok hS h hc).1⟩
theorem PPs.rq {s : Sh} {en : Nat → Nat} {lo : Nat → Option Nat} {ps : PS} (hS : PShp s en lo) (h : PPs s ps) : RQ s ps := fun c hc => tOf_ok hS h hc
theorem PPs.wz {s : Sh} {en : Nat → Nat} {lo : Nat → Option Nat} {ps : PS} {cu : Nat} (hu : cu = 66 ∨ cu = 77) (hS : PShp s en lo) (h : PPs s ps) : WZ cu s en lo (fun c => tOf s ps c) := ⟨hu, hS.1, ⟨hS.2.1, hS.2.2.1⟩, hS.2.2.2.1, hS.2.2.2.2, fun c hc => ⟨(tOf_ok hS h hc).1, (tOf_ok hS h hc).2.1⟩⟩
/-- a PAPER more -/
theorem rwQ_ln {M : Nat → Nat} {pa : Pa} {i j : Nat} {gs : List Nat} : ∀ (r : List Nat) (x t lev ag : Nat), (rwQ M pa i gs r x t lev ag).length = (rwQ M pa j gs r x t lev ag).length := by
  intro r
  induction r with
  | nil => intro x t lev ag; rfl
  | cons f fs ih =>
    intro x t lev ag
    rw [rwQ_c, rwQ_c]
    cases hc : ch pa x f (x + 1) with
    | nil => show (if x ∈ gs then [] else _).length = (if x ∈ gs then [] else _).length; split <;> rfl
    | cons y ys =>
      show (rwQ M pa i gs fs y _ _ _ ++ ys.flatMap _).length = (rwQ M pa j gs fs y _ _ _ ++ ys.flatMap _).length
      rw [List.length_append, List.length_append, ih y _ _ _]
      congr 1
      clear hc
      induction ys with
      | nil => rfl
      | cons z zs ih2 => rw [List.flatMap_cons, List.flatMap_cons, List.length_append, List.length_append, ih z _ _ _, ih2]
theorem PPs.add {s : Sh} {en : Nat → Nat} {lo : Nat → Option Nat} {ps : PS} {pa : Pa} {n : Nat} (hS : PShp s en lo) (h : PPs s ps) (h30 : ps.1 < 30) (hn : n ≤ 400) (hT : TVd s pa [] (n + 2)) (h1 : pa.2.1 0 = none) (h2 : pa.2.2.1 0 = none) (h3 : 0 < pa.1) (hok : PaOk s.1 pa) (h4 : 4 * pa.1 ≤ 404) (hl : ∀ c, c < s.2.1 → (rwG s.2.2.2.2.2.1 pa ps.1 (road s c) 0 0 0 0).length ≤ 100) : PPs s (addP ps pa) := by
  refine ⟨by show ps.1 + 1 ≤ 30; omega, fun i hi => ?_⟩
  have hi' : i < ps.1 + 1 := hi
  by_cases e : i = ps.1
  · subst e
    rw [show (addP ps pa).2 ps.1 = pa from ups (f := ps.2)]
    refine ⟨⟨⟨_, hT⟩, h1, h2, h3, by omega⟩, hok, h4, ?_, fun c hc j => ?_⟩
    · have := hT.2.2.2.2
      simp at this; omega
    · have := hl c hc
      rw [rwG_Q hS.1 hc] at this ⊢
      rw [rwQ_ln (j := ps.1)]; exact this
  · rw [show (addP ps pa).2 i = ps.2 i from upn (f := ps.2) e]
    exact h.2 i (by omega)
theorem tOf_add {s : Sh} {ps : PS} {pa : Pa} (c : Nat) : tOf s (addP ps pa) c = tOf s ps c ++ rwG s.2.2.2.2.2.1 pa ps.1 (road s c) 0 0 0 0 := by
  unfold tOf
  show tbl _ _ (va_up ps.2 ps.1 pa) ps.1 ++ rwG _ (va_up ps.2 ps.1 pa ps.1) ps.1 _ 0 0 0 0 = _
  rw [ups]
  congr 1
  have : ∀ n, n ≤ ps.1 → tbl s.2.2.2.2.2.1 (road s c) (va_up ps.2 ps.1 pa) n = tbl s.2.2.2.2.2.1 (road s c) ps.2 n := by
    intro n
    induction n with
    | zero => intro _; rfl
    | succ n ih => intro hn; rw [tbl, tbl, ih (by omega), upn (show n ≠ ps.1 by omega)]
  exact this ps.1 (Nat.le_refl _)
