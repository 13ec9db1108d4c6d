/-! nodes below nodes -/
theorem ds_app (pa : Pa) : ∀ (fs : List Nat) (f y : Nat), dsQ pa (fs ++ [f]) y = (dsQ pa fs y).flatMap (fun w => ch pa w f (w + 1)) := by
  intro fs
  induction fs with
  | nil => intro f y; show (ch pa y f (y + 1)).flatMap (dsQ pa []) = [y].flatMap _; simp [dsQ]
  | cons g fs ih =>
    intro f y
    show (ch pa y g (y + 1)).flatMap (dsQ pa (fs ++ [f])) = ((ch pa y g (y + 1)).flatMap (dsQ pa fs)).flatMap _
    rw [show dsQ pa (fs ++ [f]) = (fun z => (dsQ pa fs z).flatMap (fun w => ch pa w f (w + 1))) from funext (fun z => ih f z), List.flatMap_assoc]
theorem up_par {nF : Nat} {pa : Pa} (hok : PaOk nF pa) : ∀ (z : Nat), z < pa.1 → ∀ y' y, y' ∈ upA pa (z + 1) z → pa.2.2.1 y' = some y → y ∈ upA pa (z + 1) z := by
  intro z
  induction z using Nat.strongRecOn with
  | ind z ih =>
    intro hz y' y h1 h2
    rw [upA_s] at h1 ⊢
    cases hp : pa.2.2.1 z with
    | none =>
      rw [hp] at h1
      have : y' = z := by simpa using h1
      rw [this, hp] at h2; cases h2
    | some w =>
      have hw := (hok z hz).1 w hp
      rw [hp] at h1
      have e : upA pa z w = upA pa (w + 1) w := upA_f hok z w (w + 1) (by omega) hw (by omega)
      show y ∈ z :: upA pa z w
      have h1' : y' ∈ z :: upA pa z w := h1
      rw [e] at h1' ⊢
      rcases List.mem_cons.mp h1' with q | q
      · rw [q, hp] at h2
        cases h2
        exact List.mem_cons_of_mem _ (by rw [upA_s]; exact List.mem_cons_self)
      · exact List.mem_cons_of_mem _ (ih w hw (by omega) y' y q h2)
theorem up_root {nF : Nat} {pa : Pa} {s : Sh} {S : List Nat} {x : Nat} (hok : PaOk nF pa) (h : TVd s pa S x) : ∀ (z : Nat), z < pa.1 → 0 ∈ upA pa (z + 1) z := by
  intro z
  induction z using Nat.strongRecOn with
  | ind z ih =>
    intro hz
    rw [upA_s]
    by_cases e : z = 0
    · rw [e]; exact List.mem_cons_self
    · obtain ⟨w, f, h1, h2, -⟩ := h.1 z hz e
      rw [h1]
      have e2 : upA pa z w = upA pa (w + 1) w := upA_f hok z w (w + 1) (by omega) h2 (by omega)
      show 0 ∈ z :: upA pa z w
      rw [e2]
      exact List.mem_cons_of_mem _ (ih w h2 (by omega))
theorem ds_fwd {nF : Nat} {pa : Pa} {s : Sh} {S : List Nat} {x : Nat} (hok : PaOk nF pa) (h : TVd s pa S x) : ∀ (suf gl : List Nat) (y z : Nat), y < pa.1 → Chn s.2.2.1 (pa.2.1 y) gl.reverse → z ∈ dsQ pa suf y → z < pa.1 ∧ Chn s.2.2.1 (pa.2.1 z) (gl ++ suf).reverse ∧ y ∈ upA pa (z + 1) z ∧ y ≤ z := by
  intro suf
  induction suf with
  | nil =>
    intro gl y z hy hc hz
    have e : z = y := by simpa [dsQ] using hz
    subst e
    rw [List.append_nil]
    exact ⟨hy, hc, by rw [upA_s]; exact List.mem_cons_self, Nat.le_refl _⟩
  | cons f fs ih =>
    intro gl y z hy hc hz
    obtain ⟨y', h1, h2⟩ := List.mem_flatMap.mp hz
    obtain ⟨a1, a2, a3, a4⟩ := mem_ch.mp h1
    obtain ⟨w, g, b1, b2, b3, b4, b5⟩ := h.1 y' a2 (by omega)
    rw [a3] at b1; cases b1
    rw [a4] at b3; cases b3
    obtain ⟨c1, c2, c3, c4⟩ := ih (gl ++ [f]) y' z a2 (by rw [a4, List.reverse_append]; exact ⟨rfl, by rw [b5]; exact hc⟩) h2
    refine ⟨c1, by rw [List.append_assoc] at c2; exact c2, up_par hok z c1 y' y c3 a3, by omega⟩
theorem ds_back {nF : Nat} {pa : Pa} {s : Sh} {S : List Nat} {x : Nat} (hok : PaOk nF pa) (h : TVd s pa S x) (h0 : pa.2.2.1 0 = none) : ∀ (z : Nat), z < pa.1 → ∀ (y : Nat) (gl r : List Nat), y ∈ upA pa (z + 1) z → Chn s.2.2.1 (pa.2.1 y) gl.reverse → Chn s.2.2.1 (pa.2.1 z) r.reverse → ∃ suf, r = gl ++ suf ∧ z ∈ dsQ pa suf y := by
  intro z
  induction z using Nat.strongRecOn with
  | ind z ih =>
    intro hz y gl r hy hc hr
    rw [upA_s] at hy
    rcases List.mem_cons.mp hy with e | e
    · subst e
      have e2 := Chn.uniq hr hc
      exact ⟨[], by rw [List.append_nil]; exact List.reverse_inj.mp e2, by simp [dsQ]⟩
    · by_cases e0 : z = 0
      · subst e0; rw [h0] at e; cases e
      · obtain ⟨w, f, h1, h2, h3, h4, h5⟩ := h.1 z hz e0
        rw [h1] at e
        have e2 : upA pa z w = upA pa (w + 1) w := upA_f hok z w (w + 1) (by omega) h2 (by omega)
        have e' : y ∈ upA pa z w := e
        rw [e2] at e'
        rw [h3] at hr
        cases hrr : r.reverse with
        | nil => rw [hrr] at hr; cases hr
        | cons a l =>
          rw [hrr] at hr
          have ea := Option.some.inj hr.1
          subst ea
          have hl := hr.2
          rw [h5] at hl
          obtain ⟨suf, s1, s2⟩ := ih w h2 (by omega) y gl l.reverse e' hc (by rw [List.reverse_reverse]; exact hl)
          have er : r = l.reverse ++ [f] := by
            have := congrArg List.reverse hrr
            rw [List.reverse_reverse] at this
            rw [this]; simp
          refine ⟨suf ++ [f], by rw [er, s1, List.append_assoc], ?_⟩
          rw [ds_app]
          exact List.mem_flatMap.mpr ⟨w, s2, mem_ch.mpr ⟨h2, hz, h1, h3⟩⟩
def upk (pa : Pa) : Nat → Nat → Option Nat
  | 0, z => some z
  | k + 1, z => match pa.2.2.1 z with
    | none => none
    | some w => upk pa k w
theorem upk_s (pa : Pa) : ∀ (k z y p : Nat), upk pa k z = some y → pa.2.2.1 y = some p → upk pa (k + 1) z = some p := by
  intro k
  induction k with
  | zero => intro z y p h1 h2; cases h1; show (match pa.2.2.1 z with | none => none | some w => upk pa 0 w) = some p; rw [h2]; rfl
  | succ k ih =>
    intro z y p h1 h2
    show (match pa.2.2.1 z with | none => none | some w => upk pa (k + 1) w) = some p
    cases hp : pa.2.2.1 z with
    | none => rw [upk, hp] at h1; cases h1
    | some w => rw [upk, hp] at h1; exact ih w y p h1 h2
theorem ds_upk (pa : Pa) : ∀ (suf : List Nat) (y z : Nat), z ∈ dsQ pa suf y → upk pa suf.length z = some y := by
  intro suf
  induction suf with
  | nil => intro y z hz; have : z = y := by simpa [dsQ] using hz
           rw [this]; rfl
  | cons f fs ih =>
    intro y z hz
    obtain ⟨y', h1, h2⟩ := List.mem_flatMap.mp hz
    exact upk_s pa fs.length z y' y (ih y' z h2) (mem_ch.mp h1).2.2.1
theorem nd_fm {α β : Type} {g : α → List β} : ∀ {l : List α}, l.Nodup → (∀ x ∈ l, (g x).Nodup) → (∀ x ∈ l, ∀ y ∈ l, ∀ z, z ∈ g x → z ∈ g y → x = y) → (l.flatMap g).Nodup
  | [], _, _, _ => List.nodup_nil
  | a :: l, hn, h1, h2 => by
    rw [List.flatMap_cons]
    obtain ⟨ha, hl⟩ := List.nodup_cons.mp hn
    refine List.nodup_append.mpr ⟨h1 a List.mem_cons_self, nd_fm hl (fun x hx => h1 x (List.mem_cons_of_mem _ hx)) (fun x hx y hy => h2 x (List.mem_cons_of_mem _ hx) y (List.mem_cons_of_mem _ hy)), fun z hz w hw e => ?_⟩
    subst e
    obtain ⟨b, hb, hzb⟩ := List.mem_flatMap.mp hw
    exact ha ((h2 a List.mem_cons_self b (List.mem_cons_of_mem _ hb) z hz hzb) ▸ hb)
theorem ds_nd (pa : Pa) : ∀ (suf : List Nat) (y : Nat), (dsQ pa suf y).Nodup := by
  intro suf
  induction suf with
  | nil => intro y; simp [dsQ]
  | cons f fs ih =>
    intro y
    refine nd_fm ?_ (fun x _ => ih x) (fun x _ y' _ z h1 h2 => ?_)
    · exact (ch_nd pa y f (y + 1)).imp (fun h e => by omega)
    · have a := ds_upk pa fs x z h1
      have b := ds_upk pa fs y' z h2
      rw [a] at b; exact Option.some.inj b
theorem it_ds (pa : Pa) : ∀ (pre : List Nat) (x : Nat), (itQ pa pre x).filterMap id = dsQ pa pre x := by
  intro pre
  induction pre with
  | nil => intro x; rfl
  | cons f fs ih =>
    intro x
    rw [itQ, dsQ]
    cases hc : ch pa x f (x + 1) with
    | nil => rfl
    | cons y ys =>
      show (itQ pa fs y ++ ys.flatMap (itQ pa fs)).filterMap id = dsQ pa fs y ++ ys.flatMap (dsQ pa fs)
      rw [List.filterMap_append, ih]
      congr 1
      clear hc
      induction ys with
      | nil => rfl
      | cons z zs ih2 => rw [List.flatMap_cons, List.flatMap_cons, List.filterMap_append, ih, ih2]
theorem fm_cnt (F : Option Nat → Bool) (h0 : F none = false) : ∀ l : List (Option Nat), (l.filter F).length = ((l.filterMap id).filter (fun y => F (some y))).length
  | [] => rfl
  | none :: l => by
    rw [List.filter_cons, h0]
    show (l.filter F).length = _
    rw [fm_cnt F h0 l]; rfl
  | some y :: l => by
    rw [List.filter_cons]
    show _ = ((y :: l.filterMap id).filter (fun y => F (some y))).length
    rw [List.filter_cons]
    cases hF : F (some y) with
    | true => simp [fm_cnt F h0 l]
    | false => simp [fm_cnt F h0 l]
theorem cI_list {p : Nat → Bool} : ∀ (n : Nat) (L : List Nat), L.Nodup → (∀ y, y ∈ L ↔ y < n ∧ p y = true) → L.length = cI p n := by
  intro n
  induction n with
  | zero =>
    intro L _ hm
    cases L with
    | nil => rfl
    | cons a L => exact absurd ((hm a).mp List.mem_cons_self).1 (Nat.not_lt_zero _)
  | succ n ih =>
    intro L hn hm
    by_cases hp : p n = true
    · have hin : n ∈ L := (hm n).mpr ⟨Nat.lt_succ_self _, hp⟩
      have h1 := ih (L.erase n) (hn.erase n) (fun y => by
        rw [hn.mem_erase_iff, hm]
        constructor
        · rintro ⟨a, b, c⟩; exact ⟨by omega, c⟩
        · rintro ⟨a, b⟩; exact ⟨by omega, by omega, b⟩)
      rw [List.length_erase_of_mem hin] at h1
      have hpos : 0 < L.length := List.length_pos_of_mem hin
      rw [cI_t hp, ← h1]; omega
    · have h1 := ih L hn (fun y => by
        rw [hm]
        constructor
        · rintro ⟨a, b⟩; exact ⟨by by_cases e : y = n; rw [e] at b; exact absurd b hp; omega, b⟩
        · rintro ⟨a, b⟩; exact ⟨by omega, b⟩)
      rw [cI_f (by simpa using hp), h1]
/-- a PAPER's count -/
theorem it_cnt {pa : Pa} {s : Sh} {en : Nat → Nat} {lo : Nat → Option Nat} {z9 a b nF : Nat} {v w : Int64} {pre sa sb : List Nat} (hV : ShV s [] en lo) (hok : PaOk nF pa) (h : TVd s pa [] z9) (hr0 : pa.2.1 0 = none) (h00 : pa.2.2.1 0 = none) (hpos : 0 < pa.1) (ha : a < s.2.1) (hb : b < s.2.1) (hra : road s a = pre ++ sa) (hrb : road s b = pre ++ sb) (hg : Chn s.2.2.1 (grp s a b) pre.reverse) : ((itQ pa pre 0).filter (fun o => itB pa sa v o && itB pa sb w o)).length = cI (bP s pa a b v w) pa.1 := by
  rw [fm_cnt _ rfl, it_ds]
  refine cI_list pa.1 _ ((ds_nd pa pre 0).filter _) (fun y => ?_)
  rw [List.mem_filter]
  have hc0 : Chn s.2.2.1 (pa.2.1 0) ([] : List Nat).reverse := by rw [hr0]; rfl
  have hmem : y ∈ dsQ pa pre 0 ↔ y < pa.1 ∧ pa.2.1 y = grp s a b := by
    constructor
    · intro hy
      obtain ⟨c1, c2, -⟩ := ds_fwd hok h pre [] 0 y hpos hc0 hy
      exact ⟨c1, Chn.o c2 hg⟩
    · rintro ⟨h1, h2⟩
      obtain ⟨suf, e1, e2⟩ := ds_back hok h h00 y h1 0 [] pre (up_root hok h y h1) hc0 (by rw [h2]; exact hg)
      rw [List.nil_append] at e1
      rw [e1]; exact e2
  have hval : ∀ (c : Nat) (sc : List Nat) (u : Int64), c < s.2.1 → road s c = pre ++ sc → y < pa.1 → pa.2.1 y = grp s a b → ((∃ z ∈ dsQ pa sc y, pa.2.2.2 z = u) ↔ hasV pa y (s.2.2.2.2.2.2 c) u) := fun c sc u hc hrc hy1 hy2 => by
    have hcy : Chn s.2.2.1 (pa.2.1 y) pre.reverse := by rw [hy2]; exact hg
    have hrl : (road s c).reverse = rdl s c := List.reverse_reverse _
    constructor
    · rintro ⟨z, z1, z2⟩
      obtain ⟨c1, c2, c3, c4⟩ := ds_fwd hok h sc pre y z hy1 hcy z1
      rw [← hrc, hrl] at c2
      exact ⟨z, c4, c1, Chn.o c2 (hV.rd hc).1, z2, c3⟩
    · rintro ⟨z, z1, z2, z3, z4, z5⟩
      obtain ⟨suf, e1, e2⟩ := ds_back hok h h00 z z2 y pre (road s c) z5 hcy (by rw [z3, hrl]; exact (hV.rd hc).1)
      rw [hrc] at e1
      rw [List.append_cancel_left e1]
      exact ⟨z, e2, z4⟩
  constructor
  · rintro ⟨h1, h2⟩
    obtain ⟨y1, y2⟩ := hmem.mp h1
    simp only [Bool.and_eq_true] at h2
    exact ⟨y1, pB_t ⟨y2, (hval a sa v ha hra y1 y2).mp (pB_of h2.1), (hval b sb w hb hrb y1 y2).mp (pB_of h2.2)⟩⟩
  · rintro ⟨h1, h2⟩
    obtain ⟨q1, q2, q3⟩ := pB_of h2
    refine ⟨hmem.mpr ⟨h1, q1⟩, ?_⟩
    simp only [Bool.and_eq_true]
    exact ⟨pB_t ((hval a sa v ha hra h1 q1).mpr q2), pB_t ((hval b sb w hb hrb h1 q1).mpr q3)⟩
def bkN (M : Nat → Nat) (pp : Nat → Pa) (pre suf : List Nat) : Nat → List (List Row)
  | 0 => []
  | n + 1 => bkN M pp pre suf n ++ bkQ M (pp n) n suf pre 0 0 0 0
theorem bkN_flat {M : Nat → Nat} {pp : Nat → Pa} {pre suf : List Nat} (hne : pre ++ suf ≠ []) : ∀ n, (bkN M pp pre suf n).flatten = tbl M (pre ++ suf) pp n := by
  intro n
  induction n with
  | zero => rfl
  | succ n ih =>
    show (bkN M pp pre suf n ++ _).flatten = tbl M (pre ++ suf) pp n ++ _
    rw [List.flatten_append, ih, bkQ_flat]
    congr 1
    cases hr : pre ++ suf with
    | nil => exact absurd hr hne
    | cons f fs => exact (rwQ_G _ _ _ _ _ _ _ _ _).symm
theorem both_eq {s : Sh} {en : Nat → Nat} {lo : Nat → Option Nat} {ps : PS} {a b nF : Nat} {v w : Int64} (hV : ShV s [] en lo) (hWl : ∀ f g, f < s.1 → s.2.2.1 f = some g → g < f) (hP : ∀ i, i < ps.1 → PaOk nF (ps.2 i) ∧ PTv s (ps.2 i)) (ha : a < s.2.1) (hb : b < s.2.1) : bcC (tOf s ps a) (tOf s ps b) (lvG s a b) v w (tOf s ps a).length 0 0 = bothF s ps.2 a b v w ps.1 := by
  obtain ⟨pre, sa, sb, e1, e2, e3, e4, -⟩ := road_grp hV hWl ha hb
  have hna : pre ++ sa ≠ [] := by obtain ⟨f, fs, hr⟩ := road_ne hV ha; rw [← e1, hr]; simp
  have hnb : pre ++ sb ≠ [] := by obtain ⟨f, fs, hr⟩ := road_ne hV hb; rw [← e2, hr]; simp
  have hfa : tOf s ps a = (bkN s.2.2.2.2.2.1 ps.2 pre sa ps.1).flatten := by unfold tOf; rw [bkN_flat hna, e1]
  have hfb : tOf s ps b = (bkN s.2.2.2.2.2.1 ps.2 pre sb ps.1).flatten := by unfold tOf; rw [bkN_flat hnb, e2]
  have hgb : ∀ suf n, n ≤ ps.1 → ∀ B ∈ bkN s.2.2.2.2.2.1 ps.2 pre suf n, GBk (lvG s a b) B := by
    intro suf n
    induction n with
    | zero => intro _ B hB; cases hB
    | succ n ih =>
      intro hn B hB
      rcases List.mem_append.mp hB with z | z
      · exact ih (by omega) B z
      · obtain ⟨-, ⟨z9, hT⟩, -⟩ := hP n (by omega)
        have := bkQ_gb hT.one pre 0 0 0 0 (Nat.le_refl _) B z
        rw [e3, Nat.zero_add] at this; exact this
  have hlen : ∀ n, (bkN s.2.2.2.2.2.1 ps.2 pre sa n).length = (bkN s.2.2.2.2.2.1 ps.2 pre sb n).length := by
    intro n
    induction n with
    | zero => rfl
    | succ n ih =>
      rw [bkN, bkN, List.length_append, List.length_append, ih]
      have q1 := congrArg List.length (bkQ_it (M := s.2.2.2.2.2.1) (pa := ps.2 n) (i := n) (suf := sa) (v := v) pre 0 0 0 0)
      have q2 := congrArg List.length (bkQ_it (M := s.2.2.2.2.2.1) (pa := ps.2 n) (i := n) (suf := sb) (v := v) pre 0 0 0 0)
      rw [List.length_map, List.length_map] at q1 q2
      omega
  have hmain := bcC_blk (v := v) (w := w) _ _ [] [] (hgb sa ps.1 (Nat.le_refl _)) (hgb sb ps.1 (Nat.le_refl _)) (hlen ps.1)
  rw [List.nil_append, List.nil_append, ← hfa, ← hfb] at hmain
  rw [show ([] : List Row).length = 0 from rfl] at hmain
  rw [hmain]
  have : ∀ n, n ≤ ps.1 → cz ((bkN s.2.2.2.2.2.1 ps.2 pre sa n).map (fun B => pB (hsB B v))) ((bkN s.2.2.2.2.2.1 ps.2 pre sb n).map (fun B => pB (hsB B w))) = bothF s ps.2 a b v w n := by
    intro n
    induction n with
    | zero => intro _; rfl
    | succ n ih =>
      intro hn
      obtain ⟨hok, ⟨z9, hT⟩, t1, t2, t3, t4⟩ := hP n (by omega)
      rw [bkN, bkN, bothF, List.map_append, List.map_append, cz_app _ _ _ _ (by rw [List.length_map, List.length_map]; exact hlen n), ih (by omega), bkQ_it, bkQ_it, cz_map, it_cnt hV hok hT t1 t2 t3 ha hb e1 e2 e4]
  exact this ps.1 (Nat.le_refl _)
