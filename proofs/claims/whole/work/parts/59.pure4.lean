/-! the reader's state and the nodes -/
theorem aN_f {pa : Pa} {fo xo : Option Nat} {v : Int64} {k : Nat} (h : k < pa.1) : (addN pa fo xo v).2.1 k = pa.2.1 k := upn (f := pa.2.1) (by omega)
theorem aN_p {pa : Pa} {fo xo : Option Nat} {v : Int64} {k : Nat} (h : k < pa.1) : (addN pa fo xo v).2.2.1 k = pa.2.2.1 k := upn (f := pa.2.2.1) (by omega)
theorem aN_f' {pa : Pa} {fo xo : Option Nat} {v : Int64} : (addN pa fo xo v).2.1 pa.1 = fo := ups (f := pa.2.1)
theorem aN_p' {pa : Pa} {fo xo : Option Nat} {v : Int64} : (addN pa fo xo v).2.2.1 pa.1 = xo := ups (f := pa.2.2.1)
theorem PthOk.add {s : Sh} {pa : Pa} {fo : Option Nat} {v : Int64} : ∀ {ps : List Nat} {z w : Nat}, PthOk s pa z ps → z < pa.1 → (∀ k ∈ z :: ps, k ≤ w) → (∀ a, ps = a ++ [w] ∨ w ∉ ps → True) → lst z ps = w → PthOk s (addN pa fo (some w) v) z ps
  | [], _, _, _, _, _, _, _ => trivial
  | y :: ps, z, w, h, hz, hw, ht, hl => by
    obtain ⟨q1, q2, q3, q4, ⟨g, g1, g2, g3, g4⟩, q6⟩ := h
    have hyw := hw y (List.mem_cons_of_mem _ List.mem_cons_self)
    refine ⟨by rw [aN_p q3]; exact q1, q2, Nat.lt_succ_of_lt q3, fun k hk hp => ?_, ⟨g, by rw [aN_f q3]; exact g1, by rw [aN_f hz]; exact g2, g3, g4⟩, PthOk.add q6 q3 (fun k hk => hw k (List.mem_cons_of_mem _ hk)) (fun _ _ => trivial) hl⟩
    rcases Nat.lt_or_ge k pa.1 with e | e
    · rw [aN_p e] at hp; exact q4 k e hp
    · have hk' : k < pa.1 + 1 := hk
      have ek : k = pa.1 := by omega
      rw [ek, aN_p'] at hp
      have := Option.some.inj hp
      omega
theorem PthOk.addL {s : Sh} {pa : Pa} {fo : Option Nat} {v : Int64} {ps : List Nat} (h : PthOk s pa 0 ps) (h0 : 0 < pa.1) : PthOk s (addN pa fo (some (lst 0 ps)) v) 0 ps := PthOk.add h h0 h.le_lst (fun _ _ => trivial) rfl
theorem PthOk.inj {s : Sh} {pa : Pa} (hW : ∀ f g, f < s.1 → s.2.2.1 f = some g → g < f) : ∀ {ps : List Nat} {z : Nat}, PthOk s pa z ps → ∀ y ∈ ps, ∃ g, pa.2.1 y = some g ∧ g < s.1 ∧ (∀ g0, pa.2.1 z = some g0 → g0 < g)
  | [], _, _, y, hy => absurd hy List.not_mem_nil
  | a :: ps, z, h, y, hy => by
    obtain ⟨q1, q2, q3, q4, ⟨g, g1, g2, g3, g4⟩, q6⟩ := h
    rcases List.mem_cons.mp hy with e | e
    · rw [e]; exact ⟨g, g1, g3, fun g0 h0 => hW g g0 g3 (g2.trans h0)⟩
    · obtain ⟨g', k1, k2, k3⟩ := PthOk.inj hW q6 y e
      exact ⟨g', k1, k2, fun g0 h0 => by have := k3 g g1; have := hW g g0 g3 (g2.trans h0); omega⟩
theorem PthOk.inj2 {s : Sh} {pa : Pa} (hW : ∀ f g, f < s.1 → s.2.2.1 f = some g → g < f) : ∀ {ps : List Nat} {z : Nat}, PthOk s pa z ps → ∀ y ∈ z :: ps, ∀ y' ∈ z :: ps, pa.2.1 y = pa.2.1 y' → y = y'
  | [], z, _, y, hy, y', hy', _ => by rw [List.mem_singleton.mp hy, List.mem_singleton.mp hy']
  | a :: ps, z, h, y, hy, y', hy', e => by
    have hz : ∀ w ∈ a :: ps, pa.2.1 w ≠ pa.2.1 z := fun w hw e2 => by
      obtain ⟨g, g1, g2, g3⟩ := PthOk.inj hW h w hw
      have := g3 g (e2 ▸ g1)
      omega
    rcases List.mem_cons.mp hy with e1 | e1
    · rcases List.mem_cons.mp hy' with e2 | e2
      · rw [e1, e2]
      · exact absurd (e1 ▸ e.symm) (hz y' e2)
    · rcases List.mem_cons.mp hy' with e2 | e2
      · exact absurd (e2 ▸ e) (hz y e1)
      · exact PthOk.inj2 hW h.2.2.2.2.2 y e1 y' e2 e
theorem LVl_add {s : Sh} {pa : Pa} {M : Nat → Nat} {fo : Option Nat} {v : Int64} : ∀ {ps : List Nat} {z w : Nat}, PthOk s pa z ps → z < pa.1 → lst z ps = w → ∀ (j lev ag : Nat), LVl (addN pa fo (some w) v) M z (ps.take j) lev ag = LVl pa M z (ps.take j) lev ag
  | [], z, w, _, _, _, j, lev, ag => by simp [LVl]
  | y :: ps, z, w, h, hz, hl, j, lev, ag => by
    obtain ⟨q1, q2, q3, q4, ⟨g, g1, g2, g3, g4⟩, q6⟩ := h
    cases j with
    | zero => rfl
    | succ j =>
      rw [List.take_succ_cons, LVl, LVl, aN_f q3, g1]
      have hyw := q6.le_lst y List.mem_cons_self
      have hl' : lst y ps = w := hl
      have hzw : w ≠ z := by omega
      show LVl (addN pa fo (some w) v) M y (ps.take j) (if ch (addN pa fo (some w) v) z g (z + 1) = [y] then lev else ag + mM M g) (ag + mM M g) = LVl pa M y (ps.take j) (if ch pa z g (z + 1) = [y] then lev else ag + mM M g) (ag + mM M g)
      have hcz : ch (addN pa fo (some w) v) z g (z + 1) = ch pa z g (z + 1) := by rw [ch_add (by omega), if_neg (fun e => hzw (Option.some.inj e.1)), List.append_nil]
      rw [hcz]
      exact LVl_add q6 q3 hl' j _ _
theorem LVl_app {pa : Pa} {M : Nat → Nat} : ∀ {ps gl : List Nat} {z y g : Nat}, ps.map pa.2.1 = gl.map some → pa.2.1 y = some g → ∀ (lev ag : Nat), LVl pa M z (ps ++ [y]) lev ag = if ch pa (lst z ps) g (lst z ps + 1) = [y] then LVl pa M z ps lev ag else ag + mc M gl + mM M g
  | [], gl, z, y, g, h, hg, lev, ag => by
    cases gl with
    | nil =>
      show (match pa.2.1 y with
        | none => 0
        | some g => LVl pa M y [] (if ch pa z g (z + 1) = [y] then lev else ag + mM M g) (ag + mM M g)) = _
      rw [hg]; rfl
    | cons a gl => simp at h
  | a :: ps, gl, z, y, g, h, hg, lev, ag => by
    cases gl with
    | nil => simp at h
    | cons f gl =>
      simp only [List.map_cons, List.cons.injEq] at h
      show LVl pa M z (a :: (ps ++ [y])) lev ag = if ch pa (lst a ps) g (lst a ps + 1) = [y] then LVl pa M z (a :: ps) lev ag else _
      rw [LVl, LVl, h.1]
      show LVl pa M a (ps ++ [y]) _ _ = if ch pa (lst a ps) g (lst a ps + 1) = [y] then LVl pa M a ps _ _ else _
      rw [LVl_app h.2 hg, mc_k, Nat.add_assoc ag]
theorem hasN_add {pa : Pa} {f x y g : Nat} {v : Int64} (hx : y < pa.1) : hasN (addN pa (some f) (some x) v) y g ↔ hasN pa y g ∨ (x = y ∧ f = g) := by
  rw [hasN_ch, hasN_ch, ch_add (by omega)]
  by_cases e : (some x = some y ∧ some f = some g)
  · rw [if_pos e]
    exact ⟨fun _ => Or.inr ⟨Option.some.inj e.1, Option.some.inj e.2⟩, fun _ => by simp⟩
  · rw [if_neg e, List.append_nil]
    exact ⟨Or.inl, fun h => h.elim id (fun z => absurd ⟨by rw [z.1], by rw [z.2]⟩ e)⟩
def REL (s : Sh) (i : Nat) (R0 : Nat → List Row) (pa : Pa) (ps : List Nat) (x : Nat) (o : Option Nat) (dep : Nat) (th : Nat → Bool) (lv : Nat → Nat) (RR : Nat → List Row) : Prop :=
  PthOk s pa 0 ps ∧ (pa.2.1 0 = none ∧ pa.2.2.1 0 = none ∧ 0 < pa.1) ∧ (o = pa.2.1 (lst 0 ps) ∧ dep = ps.length) ∧ (∀ y ∈ 0 :: ps, ∀ f, f < s.1 → s.2.2.1 f = pa.2.1 y → th f = pB (hasN pa y f)) ∧ (∀ j, j ≤ ps.length → lv j = LVl pa s.2.2.2.2.2.1 0 (ps.take j) 0 0) ∧ ∀ c, c < s.2.1 → RR c = R0 c ++ rwQ s.2.2.2.2.2.1 pa i (0 :: ps) (road s c) 0 0 0 0 ∧ 4 * (rwQ s.2.2.2.2.2.1 pa i (0 :: ps) (road s c) 0 0 0 0).length + 3 * ps.length ≤ x
theorem REL.gl {s : Sh} {i x dep : Nat} {R0 RR : Nat → List Row} {pa : Pa} {ps : List Nat} {o : Option Nat} {th : Nat → Bool} {lv : Nat → Nat} (h : REL s i R0 pa ps x o dep th lv RR) : ∃ gl : List Nat, ps.map pa.2.1 = gl.map some ∧ Chn s.2.2.1 o gl.reverse := by
  obtain ⟨h1, ⟨h2, -⟩, ⟨h3, -⟩, -⟩ := h
  obtain ⟨gl, k1, k2⟩ := h1.flds (l := []) (by rw [h2]; rfl)
  exact ⟨gl, k1, by rw [h3]; simpa using k2⟩
theorem REL.lv {s : Sh} {i x dep : Nat} {R0 RR : Nat → List Row} {pa : Pa} {ps : List Nat} {o : Option Nat} {th : Nat → Bool} {lv : Nat → Nat} (h : REL s i R0 pa ps x o dep th lv RR) : lv dep = LVl pa s.2.2.2.2.2.1 0 ps 0 0 := by
  obtain ⟨-, -, ⟨-, h3⟩, -, h5, -⟩ := h
  rw [h3, h5 _ (Nat.le_refl _), List.take_length]
/-- the chain of a field that stands in the innermost group -/
theorem up_gl {s : Sh} {gs : List Nat} {en : Nat → Nat} {lo : Nat → Option Nat} (hV : ShV s gs en lo) {f : Nat} (hf : f < s.1) {o : Option Nat} {gl : List Nat} (hg : Chn s.2.2.1 o gl.reverse) (hW : s.2.2.1 f = o) : upF s.2.2.1 6 (some f) = f :: gl.reverse :=
  Chn.uniq (hV.up hf).1 ⟨rfl, by rw [hW]; exact hg⟩
theorem dgo_gl {s : Sh} {gs : List Nat} {en : Nat → Nat} {lo : Nat → Option Nat} (hV : ShV s gs en lo) {o : Option Nat} (ho : ∀ g, o = some g → g < s.1) {gl : List Nat} (hg : Chn s.2.2.1 o gl.reverse) : dgo s o = dc s.2.2.2.2.2.1 gl := by
  cases o with
  | none =>
    have : gl.reverse = [] := Chn.uniq hg (show Chn s.2.2.1 none [] from rfl)
    have : gl = [] := by simpa using this
    rw [this]; rfl
  | some g =>
    show dc _ (upF s.2.2.1 6 (some g)) = _
    rw [Chn.uniq (hV.up (ho g rfl)).1 hg, dc_rev]
theorem PthOk.fld {s : Sh} {pa : Pa} : ∀ {ps : List Nat} {z : Nat}, PthOk s pa z ps → (∀ g, pa.2.1 z = some g → g < s.1) → ∀ y ∈ z :: ps, ∀ g, pa.2.1 y = some g → g < s.1
  | [], z, _, hz, y, hy, g, hg => by rw [List.mem_singleton.mp hy] at hg; exact hz g hg
  | a :: ps, z, h, hz, y, hy, g, hg => by
    rcases List.mem_cons.mp hy with e | e
    · rw [e] at hg; exact hz g hg
    · exact PthOk.fld h.2.2.2.2.2 (fun g' hg' => by obtain ⟨g0, k1, -, k3, -⟩ := h.2.2.2.2.1; rw [k1] at hg'; cases hg'; exact k3) y e g hg
theorem REL.ho {s : Sh} {i x dep : Nat} {R0 RR : Nat → List Row} {pa : Pa} {ps : List Nat} {o : Option Nat} {th : Nat → Bool} {lv : Nat → Nat} (h : REL s i R0 pa ps x o dep th lv RR) : ∀ g, o = some g → g < s.1 := fun g hg => by
  obtain ⟨h1, ⟨h2, -⟩, ⟨h3, -⟩, -⟩ := h
  exact h1.fld (fun g' hg' => by rw [h2] at hg'; cases hg') _ (lst_mem ps 0) g (h3 ▸ hg)
/-- a leaf's node is added -/
theorem REL.leaf {s : Sh} {en : Nat → Nat} {lo : Nat → Option Nat} {i x dep f c p' : Nat} {R0 RR : Nat → List Row} {pa : Pa} {ps : List Nat} {o : Option Nat} {th : Nat → Bool} {lv : Nat → Nat} {v : Int64} (h : REL s i R0 pa ps x o dep th lv RR) (hV : ShV s [] en lo) (hWl : ∀ f g, f < s.1 → s.2.2.1 f = some g → g < f) (hf : f < s.1) (hW : s.2.2.1 f = o) (hK : s.2.2.2.2.1 f ≠ 2) (hlo : lo f = some c) (hc : c < s.2.1) (hp : x + 4 ≤ p') :
    REL s i R0 (addN pa (some f) (some (lst 0 ps)) v) ps p' o dep (va_up th f true) lv (va_up RR c (RR c ++ [(if th f = true then agf s f else lv dep, dgo s (some f), true, v, i)])) := by
  obtain ⟨gl, e1, e2⟩ := h.gl
  have hlv := h.lv
  obtain ⟨h1, ⟨h2, h2b, h2c⟩, ⟨h3, h3b⟩, h4, h5, h6⟩ := h
  have hlt : ∀ k ∈ 0 :: ps, k < pa.1 := fun k hk => (List.mem_cons.mp hk).elim (fun e => by omega) (h1.lt k)
  have hxl := hlt _ (lst_mem ps 0)
  have hthf : th f = pB (hasN pa (lst 0 ps) f) := h4 _ (lst_mem ps 0) f hf (hW.trans h3)
  have hlf : s.2.2.2.2.2.2 c = f := by
    obtain ⟨c', k1, k2, k3⟩ := (hV.2.2.2.2.2.2.2.1 f hf).2 hK
    rw [hlo] at k3; cases k3; exact k2
  have hrc : road s c = gl ++ [f] := by
    unfold road
    have : rdl s c = f :: gl.reverse := by
      unfold rdl; rw [hlf]; exact up_gl hV hf e2 hW
    rw [this]; simp
  refine ⟨h1.addL h2c, ⟨by rw [aN_f h2c]; exact h2, by rw [aN_p h2c]; exact h2b, Nat.succ_pos _⟩, ⟨by rw [aN_f hxl]; exact h3, h3b⟩, fun y hy g hg hWg => ?_, fun j hj => by rw [LVl_add h1 h2c rfl]; exact h5 j hj, fun c' hc' => ?_⟩
  · have hyl := hlt y hy
    rw [aN_f hyl] at hWg
    by_cases e : g = f
    · subst e
      have : y = lst 0 ps := h1.inj2 hWl y hy _ (lst_mem ps 0) (hWg.symm.trans (hW.trans h3))
      rw [ups, pB_t ((hasN_add hyl).mpr (Or.inr ⟨this.symm, rfl⟩))]
    · rw [upn e, h4 y hy g hg hWg]
      exact pB_c ⟨fun z => (hasN_add hyl).mpr (Or.inl z), fun z => ((hasN_add hyl).mp z).elim id (fun z => absurd z.2.symm e)⟩
  · have hq : rwQ s.2.2.2.2.2.1 (addN pa (some f) (some (lst 0 ps)) v) i (0 :: ps) (road s c') 0 0 0 0 = rwQ s.2.2.2.2.2.1 pa i (0 :: ps) (road s c') 0 0 0 0 ++ (if c' = c then [(if th f = true then agf s f else lv dep, dgo s (some f), true, v, i)] else []) := by
      rw [rwQ_add h1 h2b h2c (fun k _ => Iff.rfl)]
      congr 1
      by_cases hr : ∃ suf, road s c' = gl ++ suf
      · obtain ⟨suf, hr⟩ := hr
        rw [hr, DD_hit ps gl 0 suf 0 0 0 e1]
        cases suf with
        | nil =>
          have : c' ≠ c := fun z => by rw [z, hrc] at hr; have := congrArg List.length hr; simp at this
          rw [if_neg this]; rfl
        | cons g fs =>
          by_cases e : g = f
          · subst e
            obtain ⟨k1, k2, k3⟩ := road_back hV hc' e2 hr
            have k4 := rdl_leaf hV hc' k1 hK
            have k5 : c' = c := by
              have := (hV.2.2.2.2.2.2.1 c' hc').2.2
              rw [← k4, hlo] at this; cases this; rfl
            subst k5
            have k6 : fs = [] := by rw [hrc] at hr; have := congrArg List.length hr; simp at this; exact this
            subst k6
            rw [if_pos rfl, dA, if_pos rfl, rwQ]
            have ev : (addN pa (some g) (some (lst 0 ps)) v).2.2.2 pa.1 = v := ups (f := pa.2.2.2)
            have et : 0 + dc s.2.2.2.2.2.1 gl + dM s.2.2.2.2.2.1 g = dgo s (some g) := by
              show _ = dc _ (upF s.2.2.1 6 (some g))
              rw [up_gl hV hf e2 hW, dc_k, dc_rev]; omega
            have el : (if ch pa (lst 0 ps) g (lst 0 ps + 1) = [] then LVl pa s.2.2.2.2.2.1 0 ps 0 0 else 0 + mc s.2.2.2.2.2.1 gl + mM s.2.2.2.2.2.1 g) = (if th g = true then agf s g else lv dep) := by
              by_cases e9 : ch pa (lst 0 ps) g (lst 0 ps + 1) = []
              · have : th g = false := by rw [hthf]; exact pB_f (fun z => hasN_ch.mp z e9)
                rw [if_pos e9, if_neg (by rw [this]; decide), hlv]
              · have : th g = true := by rw [hthf]; exact pB_t (hasN_ch.mpr e9)
                rw [if_neg e9, if_pos this]
                unfold agf; rw [up_gl hV hf e2 hW, mc_k, mc_rev]; omega
            rw [ev, et, el]
          · have : c' ≠ c := fun z => by rw [z, hrc] at hr; have := List.append_cancel_left hr; simp at this; exact e this.1.symm
            rw [if_neg this, dA, if_neg e]
      · have : c' ≠ c := fun z => hr ⟨[f], by rw [z]; exact hrc⟩
        rw [if_neg this, DD_miss ps gl 0 _ 0 0 0 e1 (fun suf z => hr ⟨suf, z⟩)]
    obtain ⟨k1, k2⟩ := h6 c' hc'
    rw [hq]
    by_cases e : c' = c
    · subst e
      rw [ups, if_pos rfl, k1, List.append_assoc]
      exact ⟨rfl, by simp; omega⟩
    · rw [upn e, if_neg e, List.append_nil]
      exact ⟨k1, by omega⟩
/-- a group's node is added -/
theorem REL.grp {s : Sh} {en : Nat → Nat} {lo : Nat → Option Nat} {i x dep f p' : Nat} {R0 RR : Nat → List Row} {pa : Pa} {ps : List Nat} {o : Option Nat} {th : Nat → Bool} {lv : Nat → Nat} (h : REL s i R0 pa ps x o dep th lv RR) (hV : ShV s [] en lo) (hWl : ∀ f g, f < s.1 → s.2.2.1 f = some g → g < f) (hf : f < s.1) (hW : s.2.2.1 f = o) (hK : s.2.2.2.2.1 f = 2) (hp : x + 3 ≤ p') :
    REL s i R0 (addN pa (some f) (some (lst 0 ps)) 0) (ps ++ [pa.1]) p' (some f) (dep + 1) (thO (va_up th f true) f (en f)) (va_up lv (dep + 1) (if th f = true then agf s f else lv dep)) RR := by
  obtain ⟨gl, e1, e2⟩ := h.gl
  have hlv := h.lv
  have ho := h.ho
  obtain ⟨h1, ⟨h2, h2b, h2c⟩, ⟨h3, h3b⟩, h4, h5, h6⟩ := h
  have hlt : ∀ k ∈ 0 :: ps, k < pa.1 := fun k hk => (List.mem_cons.mp hk).elim (fun e => by omega) (h1.lt k)
  have hxl := hlt _ (lst_mem ps 0)
  have hthf : th f = pB (hasN pa (lst 0 ps) f) := h4 _ (lst_mem ps 0) f hf (hW.trans h3)
  have hP' := h1.addL (fo := some f) (v := 0) h2c
  have hone : PthOk s (addN pa (some f) (some (lst 0 ps)) 0) (lst 0 ps) [pa.1] := ⟨aN_p', hxl, Nat.lt_succ_self _, fun k hk _ => Nat.le_of_lt_succ hk, ⟨f, aN_f', by rw [aN_f hxl]; exact hW.trans h3, hf, hK⟩, trivial⟩
  have hch0 : ∀ g, ch (addN pa (some f) (some (lst 0 ps)) 0) pa.1 g (pa.1 + 1) = [] := fun g => ch_end (Nat.le_refl _)
  refine ⟨PthOk.app.mpr ⟨hP', hone⟩, ⟨by rw [aN_f h2c]; exact h2, by rw [aN_p h2c]; exact h2b, Nat.succ_pos _⟩, ⟨by rw [lst_app, aN_f'], by simp; omega⟩, fun y hy g hg hWg => ?_, fun j hj => ?_, fun c' hc' => ?_⟩
  · have hy' : y ∈ 0 :: ps ∨ y = pa.1 := by
      rcases List.mem_cons.mp hy with e | e
      · exact Or.inl (e ▸ List.mem_cons_self)
      · rcases List.mem_append.mp e with e | e
        · exact Or.inl (List.mem_cons_of_mem _ e)
        · exact Or.inr (List.mem_singleton.mp e)
    rcases hy' with hy' | hy'
    · have hyl := hlt y hy'
      rw [aN_f hyl] at hWg
      have hnot : ¬ (f < g ∧ g < en f) := fun z => by
        have hm := ((hV.2.2.2.2.1 f hf List.not_mem_nil).2.2 g hg _ (hV.up hg).1).mpr ⟨by omega, z.2⟩
        have e9 : upF s.2.2.1 6 (some g) = g :: (upF s.2.2.1 6 (some g)).tail := by
          have := (hV.up hg).1
          cases hu : upF s.2.2.1 6 (some g) with
          | nil => rw [hu] at this; cases this
          | cons a l => rw [hu] at this; rw [Option.some.inj this.1]; rfl
        have hch := (hV.up hg).1
        rw [e9] at hm hch
        rcases List.mem_cons.mp hm with q | q
        · omega
        · have hch2 := hch.2
          rw [hWg] at hch2
          cases hy9 : pa.2.1 y with
          | none =>
            rw [hy9] at hch2
            have : (upF s.2.2.1 6 (some g)).tail = [] := Chn.uniq hch2 (show Chn s.2.2.1 none [] from rfl)
            rw [this] at q; cases q
          | some gy =>
            rw [hy9] at hch2
            have hgy : gy < s.1 := h1.fld (fun g' hg' => by rw [h2] at hg'; cases hg') y hy' gy hy9
            have := Chn.le hWl hgy hch2 f q
            -- gy is not above the innermost field
            have hgl : gy ∈ gl := by
              have : y ∈ ps := (List.mem_cons.mp hy').resolve_left (fun e => by rw [e, h2] at hy9; cases hy9)
              have : some gy ∈ ps.map pa.2.1 := hy9 ▸ List.mem_map_of_mem this
              rw [e1] at this
              obtain ⟨g', g1, g2⟩ := List.mem_map.mp this
              cases g2; exact g1
            cases o with
            | none =>
              have : gl.reverse = [] := Chn.uniq e2 (show Chn s.2.2.1 none [] from rfl)
              have : gl = [] := by simpa using this
              rw [this] at hgl; cases hgl
            | some o9 =>
              have h8 := Chn.le hWl (ho o9 rfl) e2 gy (List.mem_reverse.mpr hgl)
              have h9 := hWl f o9 hf hW
              omega
      have e0 : thO (va_up th f true) f (en f) g = va_up th f true g := if_neg hnot
      rw [e0]
      by_cases e : g = f
      · subst e
        have : y = lst 0 ps := h1.inj2 hWl y hy' _ (lst_mem ps 0) (hWg.symm.trans (hW.trans h3))
        rw [ups, pB_t ((hasN_add hyl).mpr (Or.inr ⟨this.symm, rfl⟩))]
      · rw [upn e, h4 y hy' g hg hWg]
        exact pB_c ⟨fun z => (hasN_add hyl).mpr (Or.inl z), fun z => ((hasN_add hyl).mp z).elim id (fun z => absurd z.2.symm e)⟩
    · subst hy'
      rw [aN_f'] at hWg
      have hfg := hWl g f hg hWg
      have hm : f ∈ upF s.2.2.1 6 (some g) := by
        have := (hV.up hg).1
        cases hu : upF s.2.2.1 6 (some g) with
        | nil => rw [hu] at this; cases this
        | cons a l =>
          rw [hu] at this
          have ea := Option.some.inj this.1
          subst ea
          have h2' := this.2
          rw [hWg] at h2'
          cases l with
          | nil => cases h2'
          | cons b l => rw [Option.some.inj h2'.1]; exact List.mem_cons_of_mem _ List.mem_cons_self
      have hr := ((hV.2.2.2.2.1 f hf List.not_mem_nil).2.2 g hg _ (hV.up hg).1).mp hm
      have e0 : thO (va_up th f true) f (en f) g = false := if_pos ⟨hfg, hr.2⟩
      rw [e0, pB_f (fun z => hasN_ch.mp z (hch0 g))]
  · rcases Nat.lt_or_ge ps.length j with e | e
    · have hj' : j = ps.length + 1 := by simp at hj; omega
      subst hj'
      rw [show ps.length + 1 = dep + 1 by omega, ups, show dep + 1 = (ps ++ [pa.1]).length by simp; omega, List.take_length]
      have e1' : ps.map (addN pa (some f) (some (lst 0 ps)) 0).2.1 = gl.map some := by
        rw [← e1]; exact List.map_congr_left (fun k hk => aN_f (h1.lt k hk))
      have hcx : ch (addN pa (some f) (some (lst 0 ps)) 0) (lst 0 ps) f (lst 0 ps + 1) = ch pa (lst 0 ps) f (lst 0 ps + 1) ++ [pa.1] := by rw [ch_add (by omega), if_pos ⟨rfl, rfl⟩]
      rw [LVl_app e1' aN_f', hcx]
      by_cases e9 : ch pa (lst 0 ps) f (lst 0 ps + 1) = []
      · have : th f = false := by rw [hthf]; exact pB_f (fun z => hasN_ch.mp z e9)
        rw [if_neg (show ¬ th f = true by rw [this]; decide), e9, List.nil_append, if_pos rfl, hlv]
        have := LVl_add (M := s.2.2.2.2.2.1) (fo := some f) (v := 0) h1 h2c rfl ps.length 0 0
        rw [List.take_length] at this; exact this.symm
      · have : th f = true := by rw [hthf]; exact pB_t (hasN_ch.mpr e9)
        rw [if_pos this, if_neg (fun z => e9 (by
          have := congrArg List.length z
          simp at this; exact this))]
        unfold agf; rw [up_gl hV hf e2 hW, mc_k, mc_rev]; omega
    · rw [upn (show j ≠ dep + 1 by omega), List.take_append_of_le_length e, LVl_add h1 h2c rfl]
      exact h5 j e
  · obtain ⟨k1, k2⟩ := h6 c' hc'
    have hS' : ∀ k, k < pa.1 → (k ∈ 0 :: (ps ++ [pa.1]) ↔ k ∈ 0 :: ps) := fun k hk => by
      simp only [List.mem_cons, List.mem_append, List.not_mem_nil, or_false]
      constructor
      · rintro (e | e | e)
        · exact Or.inl e
        · exact Or.inr e
        · omega
      · rintro (e | e)
        · exact Or.inl e
        · exact Or.inr (Or.inl e)
    have hq : rwQ s.2.2.2.2.2.1 (addN pa (some f) (some (lst 0 ps)) 0) i (0 :: (ps ++ [pa.1])) (road s c') 0 0 0 0 = rwQ s.2.2.2.2.2.1 pa i (0 :: ps) (road s c') 0 0 0 0 := by
      rw [rwQ_add h1 h2b h2c hS']
      have : DD pa s.2.2.2.2.2.1 (dA s.2.2.2.2.2.1 pa (addN pa (some f) (some (lst 0 ps)) 0) i (0 :: (ps ++ [pa.1])) f (lst 0 ps)) 0 ps (road s c') 0 0 0 = [] := by
        by_cases hr : ∃ suf, road s c' = gl ++ suf
        · obtain ⟨suf, hr⟩ := hr
          rw [hr, DD_hit ps gl 0 suf 0 0 0 e1]
          cases suf with
          | nil => rfl
          | cons g fs =>
            rw [dA]
            by_cases e : g = f
            · subst e
              rw [if_pos rfl]
              cases fs with
              | nil =>
                obtain ⟨q1, q2, q3⟩ := road_back hV hc' e2 hr
                have q4 := (hV.rd hc').1
                rw [q3] at q4
                have : s.2.2.2.2.2.2 c' = g := Option.some.inj q4.1
                exact absurd hK (this ▸ (hV.2.2.2.2.2.2.1 c' hc').2.1)
              | cons g2 fs => rw [rwQ_c, hch0, if_pos (by simp)]; rfl
            · rw [if_neg e]
        · exact DD_miss ps gl 0 _ 0 0 0 e1 (fun suf z => hr ⟨suf, z⟩)
      rw [this, List.append_nil]
    rw [hq]
    exact ⟨k1, by simp; omega⟩
