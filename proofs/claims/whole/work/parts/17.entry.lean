/-! A PAPER's TEXT, as a function -/
def qSign (b : Nat → Nat) (n p c : Nat) : Nat ⊕ Nat := if sk b n p < n ∧ b (sk b n p) = c then .inr (sk b n p + 1) else .inl (sk b n p)
def pD (b : Nat → Nat) (n p : Nat) : Bool := decide (p < n) && isD (b p)
/-- what the byte begins: a number 0, a word 1, a group 2 -/
def srt (b : Nat → Nat) (n q : Nat) : Option Nat := if pD b n q = true ∨ (q < n ∧ b q = 45) then some 0 else if pL b n q = true then some 1 else if q < n ∧ b q = 91 then some 2 else none
/-- a value's number and the place behind it, or where it is wrong -/
def qVal (b : Nat → Nat) (n q k : Nat) : Nat ⊕ (Int64 × Nat) :=
  if k = 0 then
    if de b n (nst b q) = nst b q then .inl (nst b q) else if nst b q + 6 < de b n (nst b q) then .inl (nst b q + 6) else .inr (nvl b q (de b n (nst b q)), de b n (nst b q))
  else if q + 8 < we b n q then .inl (q + 8) else .inr (lN (wc b q (we b n q)), we b n q)
def qTail (s : Sh) (b : Nat → Nat) (n q : Nat) (pa : Pa) (x : Nat) (xs : List Nat) (f : Nat) : (Nat × Nat) ⊕ (Nat × Pa × List Nat) :=
  match srt b n q with
  | none => .inl (1, q)
  | some k => if ¬ k = s.2.2.2.2.1 f then .inl (5, q) else if k = 2 then .inr (q + 1, addN pa (some f) (some x) 0, pa.1 :: x :: xs) else
    match qVal b n q k with
    | .inl p2 => .inl (1, p2)
    | .inr (v, e2) => match qSign b n e2 59 with
      | .inl p3 => .inl (1, p3)
      | .inr p3 => .inr (p3, addN pa (some f) (some x) v, x :: xs)
noncomputable def qEntry (s : Sh) (b : Nat → Nat) (n q : Nat) (pa : Pa) (x : Nat) (xs : List Nat) : (Nat × Nat) ⊕ (Nat × Pa × List Nat) :=
  if we b n q = q then .inl (1, q) else
  match findF s (pa.2.1 x) (wd b q (we b n q)) with
  | none => .inl (2, q)
  | some f => if ¬ s.2.2.2.2.2.1 f = 2 ∧ pB (hasN pa x f) = true then .inl (3, q) else
    match qSign b n (we b n q) 58 with
    | .inl p1 => .inl (1, p1)
    | .inr p1 => qTail s b n (sk b n p1) pa x xs f
noncomputable def qStep (s : Sh) (b : Nat → Nat) (n p : Nat) (pa : Pa) (gs : List Nat) : (Nat × Nat) ⊕ Option (Nat × Pa × List Nat) :=
  match gs with
  | [] => .inl (0, 0)
  | x :: xs =>
    if n ≤ sk b n p then (if ¬ xs.length = 0 then .inl (1, sk b n p) else if pB (lackN s pa x) = true then .inl (4, sk b n p) else .inr none) else
    if b (sk b n p) = 93 ∧ ¬ xs.length = 0 then
      if pB (lackN s pa x) = true then .inl (4, sk b n p) else
      match qSign b n (sk b n p + 1) 59 with
      | .inl p1 => .inl (1, p1)
      | .inr p1 => .inr (some (p1, pa, xs))
    else (qEntry s b n (sk b n p) pa x xs).map id some
noncomputable def qLoop (s : Sh) (b : Nat → Nat) (n : Nat) : Nat → Nat → Pa → List Nat → (Nat × Nat) ⊕ Pa
  | 0, _, _, _ => .inl (0, 0)
  | f + 1, p, pa, gs => match qStep s b n p pa gs with
    | .inl x => .inl x
    | .inr none => .inr pa
    | .inr (some (p', pa', gs')) => qLoop s b n f p' pa' gs'
def Pa0 : Pa := (1, fun _ => none, fun _ => none, fun _ => 0)
noncomputable def qPaper (s : Sh) (b : Nat → Nat) (n : Nat) : (Nat × Nat) ⊕ Pa := qLoop s b n (n + 1) 0 Pa0 [0]
theorem fnd_lt {p : Nat → Bool} : ∀ (c k : Nat) {f : Nat}, fnd p c k = some f → k ≤ f ∧ f < k + c ∧ p f = true := by
  intro c
  induction c with
  | zero => intro k f h; cases h
  | succ c ih =>
    intro k f h
    unfold fnd at h
    split at h
    · cases h; exact ⟨by omega, by omega, by assumption⟩
    · have := ih (k + 1) h; exact ⟨by omega, by omega, this.2.2⟩
theorem findF_ok {s : Sh} {o v : Option Nat} {f : Nat} (h : findF s o v = some f) : f < s.1 ∧ s.2.2.1 f = o ∧ some (s.2.2.2.1 f) = v := by
  obtain ⟨-, h1, h2⟩ := fnd_lt _ _ h
  have h3 := of_decide_eq_true h2
  exact ⟨by omega, h3.1, h3.2⟩
theorem PN_add {T T' : TH} {o : Nat} {pa : Pa} {f x : Option Nat} {v : Int64} (h : PN T o pa) (r1 : ∀ j, e_ai T' 103 j = if j = o + pa.1 then oI f else e_ai T 103 j) (r2 : ∀ j, e_ai T' 104 j = if j = o + pa.1 then oI (x.map (o + ·)) else e_ai T 104 j) (r3 : ∀ j, e_al T' 105 j = if j = o + pa.1 then v else e_al T 105 j) : PN T' o (addN pa f x v) := by
  intro y hy
  have hy' : y < pa.1 + 1 := hy
  rw [r1, r2, r3]
  by_cases q : y = pa.1
  · simp [addN, va_up, q]
  · have := h y (by omega)
    rw [if_neg (by omega), if_neg (by omega), if_neg (by omega)]
    simp only [addN, va_up, q, if_false]
    exact this
theorem PN.of {T T' : TH} {o : Nat} {pa : Pa} (h : PN T o pa) (r1 : e_ai T' 103 = e_ai T 103) (r2 : e_ai T' 104 = e_ai T 104) (r3 : e_al T' 105 = e_al T 105) : PN T' o pa := fun x hx => by rw [r1, r2, r3]; exact h x hx
theorem PaOk_add {nF : Nat} {pa : Pa} {f x : Nat} {v : Int64} (h : PaOk nF pa) (hf : f < nF) (hx : x < pa.1) : PaOk nF (addN pa (some f) (some x) v) := by
  intro y hy
  have hy' : y < pa.1 + 1 := hy
  show (∀ z, va_up pa.2.2.1 pa.1 (some x) y = some z → z < y) ∧ ∀ g, va_up pa.2.1 pa.1 (some f) y = some g → g < nF
  unfold va_up
  by_cases q : y = pa.1
  · rw [if_pos q, if_pos q]
    exact ⟨fun z hz => by cases hz; omega, fun g hg => by cases hg; exact hf⟩
  · rw [if_neg q, if_neg q]
    exact h y (by omega)
/-- the open nodes, innermost first -/
def StN (T : TH) (o : Nat) : List Nat → Prop
  | [] => True
  | x :: xs => e_ai T 100 xs.length = nI (o + x) ∧ StN T o xs
theorem StN.of {T T' : TH} {o : Nat} : ∀ {gs : List Nat}, StN T o gs → (∀ j, j < gs.length → e_ai T' 100 j = e_ai T 100 j) → StN T' o gs
  | [], _, _ => trivial
  | _ :: xs, h, k => ⟨(k xs.length (Nat.lt_succ_self _)).trans h.1, StN.of h.2 (fun j hj => k j (Nat.lt_succ_of_lt hj))⟩
/-- how deep each field stands -/
def ShD (s : Sh) (dp : Nat → Nat) : Prop := ∀ f, f < s.1 → (s.2.2.1 f = none → dp f = 0) ∧ (∀ g, s.2.2.1 f = some g → g < s.1 ∧ dp f = dp g + 1) ∧ (s.2.2.2.2.1 f = 2 → dp f ≤ 3)
def StD (dp : Nat → Nat) (pa : Pa) : List Nat → Prop
  | [] => True
  | x :: xs => (match pa.2.1 x with
    | none => xs.length = 0
    | some g => xs.length = dp g + 1) ∧ x < pa.1 ∧ StD dp pa xs
theorem StD.add {dp : Nat → Nat} {pa : Pa} {f x : Option Nat} {v : Int64} : ∀ {gs : List Nat}, StD dp pa gs → StD dp (addN pa f x v) gs
  | [], _ => trivial
  | y :: ys, h => by
    refine ⟨?_, Nat.lt_succ_of_lt h.2.1, StD.add h.2.2⟩
    show match va_up pa.2.1 pa.1 f y with | none => ys.length = 0 | some g => ys.length = dp g + 1
    rw [va_up_ne _ _ (Nat.ne_of_lt h.2.1)]
    exact h.1
def RP (T : TH) (o : Nat) (pa : Pa) (gs : List Nat) : Prop := e_i T 542 88 = nI (gs.length - 1) ∧ e_i T 548 88 = nI (o + pa.1) ∧ StN T o gs ∧ PN T o pa
def QI (s : Sh) (dp : Nat → Nat) (n p o : Nat) (pa : Pa) (gs : List Nat) : Prop := p ≤ n ∧ n ≤ 400 ∧ 4 * pa.1 ≤ p + 3 + gs.length ∧ gs.length ≤ 5 ∧ PaOk s.1 pa ∧ StD dp pa gs ∧ o ≤ 5000
/-- the nodes below o stay -/
def LowN (T T1 : TH) (o : Nat) : Prop := ∀ j, j < o → e_ai T1 103 j = e_ai T 103 j ∧ e_ai T1 104 j = e_ai T 104 j ∧ e_al T1 105 j = e_al T 105 j
theorem LowN.tr {T T1 T2 : TH} {o : Nat} (h : LowN T T1 o) (k : LowN T1 T2 o) : LowN T T2 o := fun j hj => ⟨(k j hj).1.trans (h j hj).1, (k j hj).2.1.trans (h j hj).2.1, (k j hj).2.2.trans (h j hj).2.2⟩
abbrev fsP : List Nat := [514, 516, 517, 542, 548]
abbrev asP : List Nat := [100, 103, 104, 105]
theorem LX.ofP {T T1 : TH} {n p p' : Nat} {b : Nat → Nat} (h : LX T n b p) (hF : FrM fsP asP T T1) (h1 : e_i T1 514 88 = nI p') (h2 : p' ≤ n) (h3 : e_i T1 516 88 = nI 0) : LX T1 n b p' :=
  ⟨hF.mi h.1, fun j hj => by rw [hF.ai (by decide)]; exact h.2.1 j hj, h1, (hF.i (by decide)).trans h.2.2.2.1, h2, h.2.2.2.2.2.1, h3⟩
theorem MSh.of {fs as : List Nat} {T T1 : TH} {s : Sh} (h : MSh T s) (hF : FrM fs as T T1) (h1 : 526 ∉ fs) (h2 : 527 ∉ fs) (h3 : ∀ a ∈ as, a ∉ [90, 91, 92, 93, 94]) : MSh T1 s := by
  have h4 : ∀ a ∈ [90, 91, 92, 93, 94], a ∉ as := fun a ha q => h3 a q ha
  obtain ⟨k1, k2, k3, k4⟩ := h
  refine ⟨(hF.i (fun q => h1 q.2)).trans k1, (hF.i (fun q => h2 q.2)).trans k2, fun f hf => ?_, fun c hc => ?_⟩
  · rw [hF.ai (h4 90 (by decide)), hF.al (h4 91 (by decide)), hF.ai (h4 92 (by decide)), hF.ai (h4 93 (by decide))]; exact k3 f hf
  · rw [hF.ai (h4 94 (by decide))]; exact k4 c hc
theorem c_X8_isDigit_pk (d : Nat) {T : TH} {n p : Nat} {b : Nat → Nat} (hB : ∀ j, j < n → b j < 256) : Xe m_X8_isDigit d 0 [(0, .int (pk b n p))] [] T (fun r T1 => r = some (.int (bI (pD b n p))) ∧ T1 = T) := by
  unfold pk pD
  by_cases h : p < n
  · rw [if_pos h]
    refine (c_X8_isDigit d T (x := b p) (by have := hB p h; omega)).imp ?_
    rintro _ _ ⟨rfl, rfl⟩
    exact ⟨by simp [h], rfl⟩
  · rw [if_neg h]
    refine (c_X8_isDigit_m d T).imp ?_
    rintro _ _ ⟨rfl, rfl⟩
    exact ⟨by simp [h, bI, nI_0], rfl⟩
theorem pk_is {b : Nat → Nat} {n q c : Nat} (h : q < n ∧ b q = c) : pk b n q = nI c := by rw [pk, if_pos h.1, h.2]
theorem pk_not {b : Nat → Nat} {n q c : Nat} (hB : ∀ j, j < n → b j < 256) (hc : c < 256) (h : ¬ (q < n ∧ b q = c)) : ¬ pk b n q = nI c := by
  intro e
  unfold pk at e
  split at e
  · rename_i z; have := hB q z; exact h ⟨z, cv_eq (by omega) (by omega) e⟩
  · exact nI_m1 (by omega) e.symm

set_option maxHeartbeats 4000000 in
theorem l_X8_entryT (d : Nat) {T : TH} {n q : Nat} {b : Nat → Nat} {s : Sh} {dp : Nat → Nat} {o x : Nat} {pa : Pa} {xs : List Nat} (h : LX T n b q) (hS : MSh T s) (hSB : ShB s) (hD : ShD s dp) (hr : RP T o pa (x :: xs)) (hqi : QI s dp n q o pa (x :: xs)) {f p : Nat} (hf1 : f < s.1) (hf2 : s.2.2.1 f = pa.2.1 x) (hqp : q ≤ p) (hpn : p ≤ n) : Xe m_X8_entry (d + 2 + 1) 112 [(5, .int (nI f)), (4, .int (nI (o + x))), (0, .ref 88)] [] (mv T p) (fun r T1 => r = none ∧ FrM fsP asP T T1 ∧ LowN T T1 o ∧ match qTail s b n (sk b n p) pa x xs f with
      | .inl (k, q') => EndL T1 k q'
      | .inr (p', pa', gs') => LX T1 n b p' ∧ RP T1 o pa' gs' ∧ e_i T1 517 88 = e_i T 517 88) := by
  obtain ⟨hp1, hn4, hp3, hgl, hok, hst, ho⟩ := hqi
  have hgl' : xs.length + 1 ≤ 5 := hgl
  have hp3' : 4 * pa.1 ≤ q + 3 + (xs.length + 1) := hp3
  have hx := hst.2.1
  have hB := h.2.1
  have hB' : ∀ j, j < n → b j < 256 := fun j hj => (hB j hj).2
  have hs60 := hSB.1
  have hKM := hSB.2.2.2 f hf1
  have hL0 : LX (mv T p) n b p := h.mv (by omega)
  refine xe (fun _ _ kK => x_aload_n dX8_entry_112 rfl 2 rfl kK) ?_
  refine xe_callV (a := 88) [] dX8_entry_113 ml_X8_144 mf_X8_next (wK_i h.1.1) (by have := c_X8_next (d + 2) _ _ p n b rfl hL0.1 hL0.2.1 hL0.2.2.1 hL0.2.2.2.1 hL0.2.2.2.2.1 hL0.2.2.2.2.2.1; rw [si_si] at this; exact this) rfl rfl (Nat.le_of_ble_eq_true rfl) (Nat.le_of_ble_eq_true rfl) ?_
  rintro _ _ ⟨rfl, rfl⟩
  have hq0 := sk_ge b n p
  have hq1 := sk_n (b := b) (n := n) (p := p) (by omega)
  have hL1 : LX (mv T (sk b n p)) n b (sk b n p) := h.mv hq1
  have hsk2 := sk_sk b n p
  have hw0 := we_ge b n (sk b n p)
  have hw1 := we_n (b := b) hq1
  refine xe (fun _ _ kK => x_istore dX8_entry_116 (by decide) (show _ = [(6, .int (pk b n (sk b n p))), (5, .int (nI f)), (4, .int (nI (o + x))), (0, .ref 88)] from rfl) kK) ?_
  refine xe (fun _ _ kK => x_iload dX8_entry_118 0 rfl kK) ?_
  refine xe_callS [.int (pk b n (sk b n p))] dX8_entry_120 ml_X8_224 mf_X8_isDigit (c_X8_isDigit_pk (d + 2) hB') rfl rfl (Nat.le_of_ble_eq_true rfl) (Nat.le_of_ble_eq_true rfl) ?_
  rintro _ T9 ⟨rfl, h9⟩
  refine xe_T h9 ?_
  refine xe_if_ne (tgt := 133) dX8_entry_123 (by decide) (fun h123 => ?_) (fun h123 => ?_)
  · -- pc 133
    have h123 := cv_b1 h123
    have hsrt : srt b n (sk b n p) = some 0 := if_pos (Or.inl h123)
    have hlt0 : sk b n p < n := by simp [pD] at h123; exact h123.1
    refine xe (fun _ _ kK => x_iconst dX8_entry_133 (show _ = nI 0 by decide) kK) ?_
    refine xe (fun _ _ kK => x_goto (tgt := 161) dX8_entry_134 (by decide) kK) ?_
    refine xe (fun _ _ kK => x_istore dX8_entry_161 (by decide) (show _ = [(7, .int (nI 0)), (6, .int (pk b n (sk b n p))), (5, .int (nI f)), (4, .int (nI (o + x))), (0, .ref 88)] from rfl) kK) ?_
    refine xe (fun _ _ kK => x_iload dX8_entry_163 0 rfl kK) ?_
    refine xe (fun _ _ kK => x_iconst dX8_entry_165 (show _ = (-1) by decide) kK) ?_
    refine xe (fun _ _ kK => x_icmp_neT (tgt := 181) dX8_entry_166 (by decide) (nI_m1 (by decide)) kK) ?_
    refine xe (fun _ _ kK => x_iload dX8_entry_181 0 rfl kK) ?_
    refine xe (fun _ _ kK => x_aload_n dX8_entry_183 rfl 4 rfl kK) ?_
    refine xe (fun _ _ kK => x_get dX8_entry_184 fl_X8_44 (wK_i h.1.1) (gvl_r1 fz_8_18.2.2 (show e_r (mv T (sk b n p)) 530 88 = some 92 from (wr_i (h.1.2.1 18)))) kK) ?_
    refine xe (fun _ _ kK => x_iload dX8_entry_187 2 rfl kK) ?_
    refine xe (fun _ _ kK => x_iald dX8_entry_189 (wK_i (h.1.2.2.1 3 (by decide))) (show (nI f) = nI f from rfl) (wN_i (mi_len h.1 3 (by decide) (show f < 80 by omega))) (show e_ai (mv T (sk b n p)) 92 f = nI (s.2.2.2.2.1 f) from (wai_i (hS.2.2.1 f hf1).2.2.1)) kK) ?_
    refine xe_icmp_eq (tgt := 202) dX8_entry_190 (by decide) (fun h190 => ?_) (fun h190 => ?_)
    · -- pc 202
      have h190 := cv_eq (by omega) (by omega) h190
      refine xe (fun _ _ kK => x_aload_n dX8_entry_202 rfl 4 rfl kK) ?_
      refine xe (fun _ _ kK => x_get dX8_entry_203 fl_X8_132 (wK_i h.1.1) (gvl_i fz_8_4.2.2 (show e_i (mv T (sk b n p)) 516 88 = nI 0 from (wi_i (fun q => absurd q.1 (by decide)) h.2.2.2.2.2.2))) kK) ?_
      refine xe (fun _ _ kK => x_if_eqT (tgt := 210) dX8_entry_206 (by decide) nI_0 kK) ?_
      refine xe (fun _ _ kK => x_iload dX8_entry_210 0 rfl kK) ?_
      refine xe (fun _ _ kK => x_iconst dX8_entry_212 (show _ = nI 2 by decide) kK) ?_
      refine xe (fun _ _ kK => x_icmp_neT (tgt := 255) dX8_entry_213 (by decide) (by decide) kK) ?_
      refine xe (fun _ _ kK => x_iload dX8_entry_255 0 rfl kK) ?_
      refine xe (fun _ _ kK => x_if_neF (tgt := 267) dX8_entry_257 (by decide) rfl kK) ?_
      refine xe (fun _ _ kK => x_aload_n dX8_entry_260 rfl 4 rfl kK) ?_
      have hlt : sk b n p < n := hlt0
      refine xe_callV (a := 88) [] dX8_entry_261 ml_X8_239 mf_X8_number (wK_i h.1.1) (c_X8_number (d + 1) hL1 hlt) rfl rfl (Nat.le_of_ble_eq_true rfl) (Nat.le_of_ble_eq_true rfl) ?_
      rintro _ T9 ⟨v9, rfl, hh⟩
      have hns0 : sk b n p ≤ nst b (sk b n p) ∧ nst b (sk b n p) ≤ sk b n p + 1 := by unfold nst; split <;> omega
      have hde := de_n (b := b) (n := n) (p := nst b (sk b n p)) (by omega)
      rcases hh with ⟨e1, rfl⟩ | ⟨e1, rfl⟩ | ⟨e1, e2, rfl, rfl⟩
      · -- pc 264
        refine xe (fun _ _ kK => x_goto (tgt := 271) dX8_entry_264 (by decide) kK) ?_
        refine xe (fun _ _ kK => x_lstore dX8_entry_271 (by decide) (show _ = [(8, .long v9), (7, .int (nI 0)), (6, .int (pk b n (sk b n p))), (5, .int (nI f)), (4, .int (nI (o + x))), (0, .ref 88)] from rfl) kK) ?_
        refine xe (fun _ _ kK => x_aload_n dX8_entry_273 rfl 5 rfl kK) ?_
        refine xe (fun _ _ kK => x_get dX8_entry_274 fl_X8_132 (wK_i (wK_i (wK_i (wK_i h.1.1)))) (gvl_i fz_8_4.2.2 (show e_i (flk (mv (mv T (sk b n p)) (nst b (sk b n p))) 1 (nst b (sk b n p))) 516 88 = nI 1 from rfl)) kK) ?_
        refine xe (fun _ _ kK => x_if_eqF (tgt := 281) dX8_entry_277 (by decide) (by decide) kK) ?_
        exact xe_retv dX8_entry_280 rfl (⟨rfl, (FrM.si (FrM.si (FrM.si (FrM.si FrM.rf (by decide) _) (by decide) _) (by decide) _) (by decide) _), (fun j hj => ⟨(wai_i (wai_i (wai_i (wai_i rfl)))), (wai_i (wai_i (wai_i (wai_i rfl)))), (wal_i (wal_i (wal_i (wal_i rfl))))⟩), by rw [qTail, hsrt]; dsimp only; rw [if_neg (fun z9 => z9 h190), if_neg (by decide), qVal, if_pos rfl, if_pos e1]; exact ⟨rfl, rfl, by decide, by decide, by omega⟩⟩)
      · -- pc 264
        refine xe (fun _ _ kK => x_goto (tgt := 271) dX8_entry_264 (by decide) kK) ?_
        refine xe (fun _ _ kK => x_lstore dX8_entry_271 (by decide) (show _ = [(8, .long v9), (7, .int (nI 0)), (6, .int (pk b n (sk b n p))), (5, .int (nI f)), (4, .int (nI (o + x))), (0, .ref 88)] from rfl) kK) ?_
        refine xe (fun _ _ kK => x_aload_n dX8_entry_273 rfl 5 rfl kK) ?_
        refine xe (fun _ _ kK => x_get dX8_entry_274 fl_X8_132 (wK_i (wK_i (wK_i (wK_i h.1.1)))) (gvl_i fz_8_4.2.2 (show e_i (flk (mv (mv T (sk b n p)) (nst b (sk b n p) + 6)) 1 (nst b (sk b n p) + 6)) 516 88 = nI 1 from rfl)) kK) ?_
        refine xe (fun _ _ kK => x_if_eqF (tgt := 281) dX8_entry_277 (by decide) (by decide) kK) ?_
        exact xe_retv dX8_entry_280 rfl (⟨rfl, (FrM.si (FrM.si (FrM.si (FrM.si FrM.rf (by decide) _) (by decide) _) (by decide) _) (by decide) _), (fun j hj => ⟨(wai_i (wai_i (wai_i (wai_i rfl)))), (wai_i (wai_i (wai_i (wai_i rfl)))), (wal_i (wal_i (wal_i (wal_i rfl))))⟩), by rw [qTail, hsrt]; dsimp only; rw [if_neg (fun z9 => z9 h190), if_neg (by decide), qVal, if_pos rfl, if_neg (by omega), if_pos e1]; exact ⟨rfl, rfl, by decide, by decide, by omega⟩⟩)
      · -- pc 264
        refine xe (fun _ _ kK => x_goto (tgt := 271) dX8_entry_264 (by decide) kK) ?_
        refine xe (fun _ _ kK => x_lstore dX8_entry_271 (by decide) (show _ = [(8, .long (nvl b (sk b n p) (de b n (nst b (sk b n p))))), (7, .int (nI 0)), (6, .int (pk b n (sk b n p))), (5, .int (nI f)), (4, .int (nI (o + x))), (0, .ref 88)] from rfl) kK) ?_
        refine xe (fun _ _ kK => x_aload_n dX8_entry_273 rfl 5 rfl kK) ?_
        refine xe (fun _ _ kK => x_get dX8_entry_274 fl_X8_132 (wK_i (wK_i h.1.1)) (gvl_i fz_8_4.2.2 (show e_i (mv (mv T (sk b n p)) (de b n (nst b (sk b n p)))) 516 88 = nI 0 from (wi_i (fun q => absurd q.1 (by decide)) (wi_i (fun q => absurd q.1 (by decide)) h.2.2.2.2.2.2)))) kK) ?_
        refine xe (fun _ _ kK => x_if_eqT (tgt := 281) dX8_entry_277 (by decide) nI_0 kK) ?_
        refine xe (fun _ _ kK => x_aload_n dX8_entry_281 rfl 5 rfl kK) ?_
        refine xe (fun _ _ kK => x_iload dX8_entry_282 3 rfl kK) ?_
        refine xe (fun _ _ kK => x_iload dX8_entry_284 4 rfl kK) ?_
        refine xe (fun _ _ kK => x_lload dX8_entry_286 0 rfl kK) ?_
        refine xe_callV (a := 88) [.int (nI f), .int (nI (o + x)), .long (nvl b (sk b n p) (de b n (nst b (sk b n p))))] dX8_entry_288 ml_X8_235 mf_X8_node (wK_i (wK_i h.1.1)) (c_X8_node (d + 2) (T := (mv (mv T (sk b n p)) (de b n (nst b (sk b n p))))) (m := o + pa.1) ((show FrM fsP asP T (mv (mv T (sk b n p)) (de b n (nst b (sk b n p)))) from (FrM.si (FrM.si FrM.rf (by decide) _) (by decide) _)).mi h.1) (wi_i (fun q => absurd q.1 (by decide)) (wi_i (fun q => absurd q.1 (by decide)) hr.2.1)) (by omega) (nI f) (nI (o + x)) (nvl b (sk b n p) (de b n (nst b (sk b n p))))) rfl rfl (Nat.le_of_ble_eq_true rfl) (Nat.le_of_ble_eq_true rfl) ?_
        rintro _ _ ⟨rfl, rfl⟩
        refine xe (fun _ _ kK => x_pop dX8_entry_291 rfl kK) ?_
        refine xe (fun _ _ kK => x_aload_n dX8_entry_292 rfl 5 rfl kK) ?_
        refine xe (fun _ _ kK => x_bipush dX8_entry_293 (show _ = nI 59 by decide) kK) ?_
        have hL6 : LX (s_i (s_al (s_ai (s_ai (mv (mv T (sk b n p)) (de b n (nst b (sk b n p)))) 103 (o + pa.1) (nI f)) 104 (o + pa.1) (nI (o + x))) 105 (o + pa.1) (nvl b (sk b n p) (de b n (nst b (sk b n p))))) 548 88 (nI (o + pa.1 + 1))) n b (de b n (nst b (sk b n p))) := (LX.ofP h (FrM.si (FrM.sal (FrM.sai (FrM.sai (FrM.si (FrM.si FrM.rf (by decide) _) (by decide) _) (by decide) _ _) (by decide) _ _) (by decide) _ _) (by decide) _) rfl hde (wi_i (fun q => absurd q.1 (by decide)) (wi_al (wi_ai (wi_ai (wi_i (fun q => absurd q.1 (by decide)) (wi_i (fun q => absurd q.1 (by decide)) h.2.2.2.2.2.2)))))))
        have hz0 := sk_ge b n (de b n (nst b (sk b n p)))
        have hz1 := sk_n (b := b) (n := n) hde
        have hv9 : qVal b n (sk b n p) 0 = .inr (nvl b (sk b n p) (de b n (nst b (sk b n p))), (de b n (nst b (sk b n p)))) := by rw [qVal, if_pos rfl, if_neg (by omega), if_neg (by omega)]
        by_cases h59 : sk b n (de b n (nst b (sk b n p))) < n ∧ b (sk b n (de b n (nst b (sk b n p)))) = 59
        · -- pc 295
          refine xe_callV (a := 88) [.int (nI 59)] dX8_entry_295 ml_X8_169 mf_X8_sign (wK_i (wK_al (wK_ai (wK_ai (wK_i (wK_i h.1.1)))))) (by have := c_X8_sign (d + 1) hL6 (c := 59) (by decide); rw [if_pos h59] at this; exact this) rfl rfl (Nat.le_of_ble_eq_true rfl) (Nat.le_of_ble_eq_true rfl) ?_
          rintro _ _ ⟨rfl, rfl⟩
          exact xe_retv dX8_entry_298 rfl (⟨rfl, (FrM.si (FrM.si (FrM.sal (FrM.sai (FrM.sai (FrM.si (FrM.si FrM.rf (by decide) _) (by decide) _) (by decide) _ _) (by decide) _ _) (by decide) _ _) (by decide) _) (by decide) _), (fun j hj => ⟨(wai_i (wai_i (wai_al (wai_ai (fun q => absurd q.1 (by decide)) (wai_ai (by omega) (wai_i (wai_i rfl))))))), (wai_i (wai_i (wai_al (wai_ai (by omega) (wai_ai (fun q => absurd q.1 (by decide)) (wai_i (wai_i rfl))))))), (wal_i (wal_i (wal_al (by omega) (wal_ai (wal_ai (wal_i (wal_i rfl)))))))⟩), by rw [qTail, hsrt]; dsimp only; rw [if_neg (fun z9 => z9 h190), if_neg (by decide), hv9]; dsimp only; rw [show qSign b n (de b n (nst b (sk b n p))) 59 = .inr (sk b n (de b n (nst b (sk b n p))) + 1) from if_pos h59]; exact ⟨(LX.ofP h (FrM.si (FrM.si (FrM.sal (FrM.sai (FrM.sai (FrM.si (FrM.si FrM.rf (by decide) _) (by decide) _) (by decide) _ _) (by decide) _ _) (by decide) _ _) (by decide) _) (by decide) _) rfl (by omega) (wi_i (fun q => absurd q.1 (by decide)) (wi_i (fun q => absurd q.1 (by decide)) (wi_al (wi_ai (wi_ai (wi_i (fun q => absurd q.1 (by decide)) (wi_i (fun q => absurd q.1 (by decide)) h.2.2.2.2.2.2)))))))), ⟨(wi_i (fun q => absurd q.1 (by decide)) (wi_i (fun q => absurd q.1 (by decide)) (wi_al (wi_ai (wi_ai (wi_i (fun q => absurd q.1 (by decide)) (wi_i (fun q => absurd q.1 (by decide)) hr.1))))))), rfl, ⟨(wai_i (wai_i (wai_al (wai_ai (fun q => absurd q.1 (by decide)) (wai_ai (fun q => absurd q.1 (by decide)) (wai_i (wai_i hr.2.2.1.1))))))), hr.2.2.1.2.of (fun j hj => (wai_i (wai_i (wai_al (wai_ai (fun q => absurd q.1 (by decide)) (wai_ai (fun q => absurd q.1 (by decide)) (wai_i (wai_i rfl))))))))⟩, PN_add hr.2.2.2 (fun j => by simp [q_i_i, q_i_ai, q_i_al, q_ai_ai, q_ai_i, q_ai_al, q_al_al, q_al_i, q_al_ai]; rfl) (fun j => by simp [q_i_i, q_i_ai, q_i_al, q_ai_ai, q_ai_i, q_ai_al, q_al_al, q_al_i, q_al_ai]; rfl) (fun j => by simp [q_i_i, q_i_ai, q_i_al, q_ai_ai, q_ai_i, q_ai_al, q_al_al, q_al_i, q_al_ai])⟩, (wi_i (fun q => absurd q.1 (by decide)) (wi_i (fun q => absurd q.1 (by decide)) (wi_al (wi_ai (wi_ai (wi_i (fun q => absurd q.1 (by decide)) (wi_i (fun q => absurd q.1 (by decide)) rfl)))))))⟩⟩)
        · -- pc 295
          refine xe_callV (a := 88) [.int (nI 59)] dX8_entry_295 ml_X8_169 mf_X8_sign (wK_i (wK_al (wK_ai (wK_ai (wK_i (wK_i h.1.1)))))) (by have := c_X8_sign (d + 1) hL6 (c := 59) (by decide); rw [if_neg h59] at this; exact this) rfl rfl (Nat.le_of_ble_eq_true rfl) (Nat.le_of_ble_eq_true rfl) ?_
          rintro _ _ ⟨rfl, rfl⟩
          exact xe_retv dX8_entry_298 rfl (⟨rfl, (FrM.si (FrM.si (FrM.si (FrM.si (FrM.sal (FrM.sai (FrM.sai (FrM.si (FrM.si FrM.rf (by decide) _) (by decide) _) (by decide) _ _) (by decide) _ _) (by decide) _ _) (by decide) _) (by decide) _) (by decide) _) (by decide) _), (fun j hj => ⟨(wai_i (wai_i (wai_i (wai_i (wai_al (wai_ai (fun q => absurd q.1 (by decide)) (wai_ai (by omega) (wai_i (wai_i rfl))))))))), (wai_i (wai_i (wai_i (wai_i (wai_al (wai_ai (by omega) (wai_ai (fun q => absurd q.1 (by decide)) (wai_i (wai_i rfl))))))))), (wal_i (wal_i (wal_i (wal_i (wal_al (by omega) (wal_ai (wal_ai (wal_i (wal_i rfl)))))))))⟩), by rw [qTail, hsrt]; dsimp only; rw [if_neg (fun z9 => z9 h190), if_neg (by decide), hv9]; dsimp only; rw [show qSign b n (de b n (nst b (sk b n p))) 59 = .inl (sk b n (de b n (nst b (sk b n p)))) from if_neg h59]; exact ⟨rfl, rfl, by decide, by decide, by omega⟩⟩)
    · -- pc 193
      have h190 := cv_ne (by omega) (by omega) h190
      refine xe (fun _ _ kK => x_aload_n dX8_entry_193 rfl 4 rfl kK) ?_
      refine xe (fun _ _ kK => x_iconst dX8_entry_194 (show _ = nI 5 by decide) kK) ?_
      refine xe (fun _ _ kK => x_aload_n dX8_entry_195 rfl 4 rfl kK) ?_
      refine xe (fun _ _ kK => x_get dX8_entry_196 fl_X8_138 (wK_i h.1.1) (gvl_i fz_8_2.2.2 (show e_i (mv T (sk b n p)) 514 88 = nI (sk b n p) from rfl)) kK) ?_
      refine xe_callV (a := 88) [.int (nI 5), .int (nI (sk b n p))] dX8_entry_199 ml_X8_148 mf_X8_fail (wK_i h.1.1) (c_X8_fail (d + 2) (T := (mv T (sk b n p))) ((show FrM fsP asP T (mv T (sk b n p)) from (FrM.si FrM.rf (by decide) _)).mi h.1) (wi_i (fun q => absurd q.1 (by decide)) h.2.2.2.2.2.2) (nI 5) (nI (sk b n p))) rfl rfl (Nat.le_of_ble_eq_true rfl) (Nat.le_of_ble_eq_true rfl) ?_
      rintro _ _ ⟨rfl, rfl⟩
      refine xe (fun _ _ kK => x_aload_n dX8_entry_202 rfl 4 rfl kK) ?_
      refine xe (fun _ _ kK => x_get dX8_entry_203 fl_X8_132 (wK_i (wK_i (wK_i h.1.1))) (gvl_i fz_8_4.2.2 (show e_i (flk (mv T (sk b n p)) 5 (sk b n p)) 516 88 = nI 5 from rfl)) kK) ?_
      refine xe (fun _ _ kK => x_if_eqF (tgt := 210) dX8_entry_206 (by decide) (by decide) kK) ?_
      exact xe_retv dX8_entry_209 rfl (⟨rfl, (FrM.si (FrM.si (FrM.si FrM.rf (by decide) _) (by decide) _) (by decide) _), (fun j hj => ⟨(wai_i (wai_i (wai_i rfl))), (wai_i (wai_i (wai_i rfl))), (wal_i (wal_i (wal_i rfl)))⟩), by rw [qTail, hsrt]; dsimp only; rw [if_pos h190]; exact ⟨rfl, rfl, by decide, by decide, by omega⟩⟩)
  · -- pc 126
    have h123 := cv_b0 h123
    refine xe (fun _ _ kK => x_iload dX8_entry_126 0 rfl kK) ?_
    refine xe (fun _ _ kK => x_bipush dX8_entry_128 (show _ = nI 45 by decide) kK) ?_
    by_cases h45 : (sk b n p) < n ∧ b (sk b n p) = 45
    · -- pc 130
      refine xe (fun _ _ kK => x_icmp_neF (tgt := 137) dX8_entry_130 (by decide) (pk_is h45) kK) ?_
      have hsrt : srt b n (sk b n p) = some 0 := if_pos (Or.inr h45)
      have hlt0 : sk b n p < n := h45.1
      refine xe (fun _ _ kK => x_iconst dX8_entry_133 (show _ = nI 0 by decide) kK) ?_
      refine xe (fun _ _ kK => x_goto (tgt := 161) dX8_entry_134 (by decide) kK) ?_
      refine xe (fun _ _ kK => x_istore dX8_entry_161 (by decide) (show _ = [(7, .int (nI 0)), (6, .int (pk b n (sk b n p))), (5, .int (nI f)), (4, .int (nI (o + x))), (0, .ref 88)] from rfl) kK) ?_
      refine xe (fun _ _ kK => x_iload dX8_entry_163 0 rfl kK) ?_
      refine xe (fun _ _ kK => x_iconst dX8_entry_165 (show _ = (-1) by decide) kK) ?_
      refine xe (fun _ _ kK => x_icmp_neT (tgt := 181) dX8_entry_166 (by decide) (nI_m1 (by decide)) kK) ?_
      refine xe (fun _ _ kK => x_iload dX8_entry_181 0 rfl kK) ?_
      refine xe (fun _ _ kK => x_aload_n dX8_entry_183 rfl 4 rfl kK) ?_
      refine xe (fun _ _ kK => x_get dX8_entry_184 fl_X8_44 (wK_i h.1.1) (gvl_r1 fz_8_18.2.2 (show e_r (mv T (sk b n p)) 530 88 = some 92 from (wr_i (h.1.2.1 18)))) kK) ?_
      refine xe (fun _ _ kK => x_iload dX8_entry_187 2 rfl kK) ?_
      refine xe (fun _ _ kK => x_iald dX8_entry_189 (wK_i (h.1.2.2.1 3 (by decide))) (show (nI f) = nI f from rfl) (wN_i (mi_len h.1 3 (by decide) (show f < 80 by omega))) (show e_ai (mv T (sk b n p)) 92 f = nI (s.2.2.2.2.1 f) from (wai_i (hS.2.2.1 f hf1).2.2.1)) kK) ?_
      refine xe_icmp_eq (tgt := 202) dX8_entry_190 (by decide) (fun h190 => ?_) (fun h190 => ?_)
      · -- pc 202
        have h190 := cv_eq (by omega) (by omega) h190
        refine xe (fun _ _ kK => x_aload_n dX8_entry_202 rfl 4 rfl kK) ?_
        refine xe (fun _ _ kK => x_get dX8_entry_203 fl_X8_132 (wK_i h.1.1) (gvl_i fz_8_4.2.2 (show e_i (mv T (sk b n p)) 516 88 = nI 0 from (wi_i (fun q => absurd q.1 (by decide)) h.2.2.2.2.2.2))) kK) ?_
        refine xe (fun _ _ kK => x_if_eqT (tgt := 210) dX8_entry_206 (by decide) nI_0 kK) ?_
        refine xe (fun _ _ kK => x_iload dX8_entry_210 0 rfl kK) ?_
        refine xe (fun _ _ kK => x_iconst dX8_entry_212 (show _ = nI 2 by decide) kK) ?_
        refine xe (fun _ _ kK => x_icmp_neT (tgt := 255) dX8_entry_213 (by decide) (by decide) kK) ?_
        refine xe (fun _ _ kK => x_iload dX8_entry_255 0 rfl kK) ?_
        refine xe (fun _ _ kK => x_if_neF (tgt := 267) dX8_entry_257 (by decide) rfl kK) ?_
        refine xe (fun _ _ kK => x_aload_n dX8_entry_260 rfl 4 rfl kK) ?_
        have hlt : sk b n p < n := hlt0
        refine xe_callV (a := 88) [] dX8_entry_261 ml_X8_239 mf_X8_number (wK_i h.1.1) (c_X8_number (d + 1) hL1 hlt) rfl rfl (Nat.le_of_ble_eq_true rfl) (Nat.le_of_ble_eq_true rfl) ?_
        rintro _ T9 ⟨v9, rfl, hh⟩
        have hns0 : sk b n p ≤ nst b (sk b n p) ∧ nst b (sk b n p) ≤ sk b n p + 1 := by unfold nst; split <;> omega
        have hde := de_n (b := b) (n := n) (p := nst b (sk b n p)) (by omega)
        rcases hh with ⟨e1, rfl⟩ | ⟨e1, rfl⟩ | ⟨e1, e2, rfl, rfl⟩
        · -- pc 264
          refine xe (fun _ _ kK => x_goto (tgt := 271) dX8_entry_264 (by decide) kK) ?_
          refine xe (fun _ _ kK => x_lstore dX8_entry_271 (by decide) (show _ = [(8, .long v9), (7, .int (nI 0)), (6, .int (pk b n (sk b n p))), (5, .int (nI f)), (4, .int (nI (o + x))), (0, .ref 88)] from rfl) kK) ?_
          refine xe (fun _ _ kK => x_aload_n dX8_entry_273 rfl 5 rfl kK) ?_
          refine xe (fun _ _ kK => x_get dX8_entry_274 fl_X8_132 (wK_i (wK_i (wK_i (wK_i h.1.1)))) (gvl_i fz_8_4.2.2 (show e_i (flk (mv (mv T (sk b n p)) (nst b (sk b n p))) 1 (nst b (sk b n p))) 516 88 = nI 1 from rfl)) kK) ?_
          refine xe (fun _ _ kK => x_if_eqF (tgt := 281) dX8_entry_277 (by decide) (by decide) kK) ?_
          exact xe_retv dX8_entry_280 rfl (⟨rfl, (FrM.si (FrM.si (FrM.si (FrM.si FrM.rf (by decide) _) (by decide) _) (by decide) _) (by decide) _), (fun j hj => ⟨(wai_i (wai_i (wai_i (wai_i rfl)))), (wai_i (wai_i (wai_i (wai_i rfl)))), (wal_i (wal_i (wal_i (wal_i rfl))))⟩), by rw [qTail, hsrt]; dsimp only; rw [if_neg (fun z9 => z9 h190), if_neg (by decide), qVal, if_pos rfl, if_pos e1]; exact ⟨rfl, rfl, by decide, by decide, by omega⟩⟩)
        · -- pc 264
          refine xe (fun _ _ kK => x_goto (tgt := 271) dX8_entry_264 (by decide) kK) ?_
          refine xe (fun _ _ kK => x_lstore dX8_entry_271 (by decide) (show _ = [(8, .long v9), (7, .int (nI 0)), (6, .int (pk b n (sk b n p))), (5, .int (nI f)), (4, .int (nI (o + x))), (0, .ref 88)] from rfl) kK) ?_
          refine xe (fun _ _ kK => x_aload_n dX8_entry_273 rfl 5 rfl kK) ?_
          refine xe (fun _ _ kK => x_get dX8_entry_274 fl_X8_132 (wK_i (wK_i (wK_i (wK_i h.1.1)))) (gvl_i fz_8_4.2.2 (show e_i (flk (mv (mv T (sk b n p)) (nst b (sk b n p) + 6)) 1 (nst b (sk b n p) + 6)) 516 88 = nI 1 from rfl)) kK) ?_
          refine xe (fun _ _ kK => x_if_eqF (tgt := 281) dX8_entry_277 (by decide) (by decide) kK) ?_
          exact xe_retv dX8_entry_280 rfl (⟨rfl, (FrM.si (FrM.si (FrM.si (FrM.si FrM.rf (by decide) _) (by decide) _) (by decide) _) (by decide) _), (fun j hj => ⟨(wai_i (wai_i (wai_i (wai_i rfl)))), (wai_i (wai_i (wai_i (wai_i rfl)))), (wal_i (wal_i (wal_i (wal_i rfl))))⟩), by rw [qTail, hsrt]; dsimp only; rw [if_neg (fun z9 => z9 h190), if_neg (by decide), qVal, if_pos rfl, if_neg (by omega), if_pos e1]; exact ⟨rfl, rfl, by decide, by decide, by omega⟩⟩)
        · -- pc 264
          refine xe (fun _ _ kK => x_goto (tgt := 271) dX8_entry_264 (by decide) kK) ?_
          refine xe (fun _ _ kK => x_lstore dX8_entry_271 (by decide) (show _ = [(8, .long (nvl b (sk b n p) (de b n (nst b (sk b n p))))), (7, .int (nI 0)), (6, .int (pk b n (sk b n p))), (5, .int (nI f)), (4, .int (nI (o + x))), (0, .ref 88)] from rfl) kK) ?_
          refine xe (fun _ _ kK => x_aload_n dX8_entry_273 rfl 5 rfl kK) ?_
          refine xe (fun _ _ kK => x_get dX8_entry_274 fl_X8_132 (wK_i (wK_i h.1.1)) (gvl_i fz_8_4.2.2 (show e_i (mv (mv T (sk b n p)) (de b n (nst b (sk b n p)))) 516 88 = nI 0 from (wi_i (fun q => absurd q.1 (by decide)) (wi_i (fun q => absurd q.1 (by decide)) h.2.2.2.2.2.2)))) kK) ?_
          refine xe (fun _ _ kK => x_if_eqT (tgt := 281) dX8_entry_277 (by decide) nI_0 kK) ?_
          refine xe (fun _ _ kK => x_aload_n dX8_entry_281 rfl 5 rfl kK) ?_
          refine xe (fun _ _ kK => x_iload dX8_entry_282 3 rfl kK) ?_
          refine xe (fun _ _ kK => x_iload dX8_entry_284 4 rfl kK) ?_
          refine xe (fun _ _ kK => x_lload dX8_entry_286 0 rfl kK) ?_
          refine xe_callV (a := 88) [.int (nI f), .int (nI (o + x)), .long (nvl b (sk b n p) (de b n (nst b (sk b n p))))] dX8_entry_288 ml_X8_235 mf_X8_node (wK_i (wK_i h.1.1)) (c_X8_node (d + 2) (T := (mv (mv T (sk b n p)) (de b n (nst b (sk b n p))))) (m := o + pa.1) ((show FrM fsP asP T (mv (mv T (sk b n p)) (de b n (nst b (sk b n p)))) from (FrM.si (FrM.si FrM.rf (by decide) _) (by decide) _)).mi h.1) (wi_i (fun q => absurd q.1 (by decide)) (wi_i (fun q => absurd q.1 (by decide)) hr.2.1)) (by omega) (nI f) (nI (o + x)) (nvl b (sk b n p) (de b n (nst b (sk b n p))))) rfl rfl (Nat.le_of_ble_eq_true rfl) (Nat.le_of_ble_eq_true rfl) ?_
          rintro _ _ ⟨rfl, rfl⟩
          refine xe (fun _ _ kK => x_pop dX8_entry_291 rfl kK) ?_
          refine xe (fun _ _ kK => x_aload_n dX8_entry_292 rfl 5 rfl kK) ?_
          refine xe (fun _ _ kK => x_bipush dX8_entry_293 (show _ = nI 59 by decide) kK) ?_
          have hL6 : LX (s_i (s_al (s_ai (s_ai (mv (mv T (sk b n p)) (de b n (nst b (sk b n p)))) 103 (o + pa.1) (nI f)) 104 (o + pa.1) (nI (o + x))) 105 (o + pa.1) (nvl b (sk b n p) (de b n (nst b (sk b n p))))) 548 88 (nI (o + pa.1 + 1))) n b (de b n (nst b (sk b n p))) := (LX.ofP h (FrM.si (FrM.sal (FrM.sai (FrM.sai (FrM.si (FrM.si FrM.rf (by decide) _) (by decide) _) (by decide) _ _) (by decide) _ _) (by decide) _ _) (by decide) _) rfl hde (wi_i (fun q => absurd q.1 (by decide)) (wi_al (wi_ai (wi_ai (wi_i (fun q => absurd q.1 (by decide)) (wi_i (fun q => absurd q.1 (by decide)) h.2.2.2.2.2.2)))))))
          have hz0 := sk_ge b n (de b n (nst b (sk b n p)))
          have hz1 := sk_n (b := b) (n := n) hde
          have hv9 : qVal b n (sk b n p) 0 = .inr (nvl b (sk b n p) (de b n (nst b (sk b n p))), (de b n (nst b (sk b n p)))) := by rw [qVal, if_pos rfl, if_neg (by omega), if_neg (by omega)]
          by_cases h59 : sk b n (de b n (nst b (sk b n p))) < n ∧ b (sk b n (de b n (nst b (sk b n p)))) = 59
          · -- pc 295
            refine xe_callV (a := 88) [.int (nI 59)] dX8_entry_295 ml_X8_169 mf_X8_sign (wK_i (wK_al (wK_ai (wK_ai (wK_i (wK_i h.1.1)))))) (by have := c_X8_sign (d + 1) hL6 (c := 59) (by decide); rw [if_pos h59] at this; exact this) rfl rfl (Nat.le_of_ble_eq_true rfl) (Nat.le_of_ble_eq_true rfl) ?_
            rintro _ _ ⟨rfl, rfl⟩
            exact xe_retv dX8_entry_298 rfl (⟨rfl, (FrM.si (FrM.si (FrM.sal (FrM.sai (FrM.sai (FrM.si (FrM.si FrM.rf (by decide) _) (by decide) _) (by decide) _ _) (by decide) _ _) (by decide) _ _) (by decide) _) (by decide) _), (fun j hj => ⟨(wai_i (wai_i (wai_al (wai_ai (fun q => absurd q.1 (by decide)) (wai_ai (by omega) (wai_i (wai_i rfl))))))), (wai_i (wai_i (wai_al (wai_ai (by omega) (wai_ai (fun q => absurd q.1 (by decide)) (wai_i (wai_i rfl))))))), (wal_i (wal_i (wal_al (by omega) (wal_ai (wal_ai (wal_i (wal_i rfl)))))))⟩), by rw [qTail, hsrt]; dsimp only; rw [if_neg (fun z9 => z9 h190), if_neg (by decide), hv9]; dsimp only; rw [show qSign b n (de b n (nst b (sk b n p))) 59 = .inr (sk b n (de b n (nst b (sk b n p))) + 1) from if_pos h59]; exact ⟨(LX.ofP h (FrM.si (FrM.si (FrM.sal (FrM.sai (FrM.sai (FrM.si (FrM.si FrM.rf (by decide) _) (by decide) _) (by decide) _ _) (by decide) _ _) (by decide) _ _) (by decide) _) (by decide) _) rfl (by omega) (wi_i (fun q => absurd q.1 (by decide)) (wi_i (fun q => absurd q.1 (by decide)) (wi_al (wi_ai (wi_ai (wi_i (fun q => absurd q.1 (by decide)) (wi_i (fun q => absurd q.1 (by decide)) h.2.2.2.2.2.2)))))))), ⟨(wi_i (fun q => absurd q.1 (by decide)) (wi_i (fun q => absurd q.1 (by decide)) (wi_al (wi_ai (wi_ai (wi_i (fun q => absurd q.1 (by decide)) (wi_i (fun q => absurd q.1 (by decide)) hr.1))))))), rfl, ⟨(wai_i (wai_i (wai_al (wai_ai (fun q => absurd q.1 (by decide)) (wai_ai (fun q => absurd q.1 (by decide)) (wai_i (wai_i hr.2.2.1.1))))))), hr.2.2.1.2.of (fun j hj => (wai_i (wai_i (wai_al (wai_ai (fun q => absurd q.1 (by decide)) (wai_ai (fun q => absurd q.1 (by decide)) (wai_i (wai_i rfl))))))))⟩, PN_add hr.2.2.2 (fun j => by simp [q_i_i, q_i_ai, q_i_al, q_ai_ai, q_ai_i, q_ai_al, q_al_al, q_al_i, q_al_ai]; rfl) (fun j => by simp [q_i_i, q_i_ai, q_i_al, q_ai_ai, q_ai_i, q_ai_al, q_al_al, q_al_i, q_al_ai]; rfl) (fun j => by simp [q_i_i, q_i_ai, q_i_al, q_ai_ai, q_ai_i, q_ai_al, q_al_al, q_al_i, q_al_ai])⟩, (wi_i (fun q => absurd q.1 (by decide)) (wi_i (fun q => absurd q.1 (by decide)) (wi_al (wi_ai (wi_ai (wi_i (fun q => absurd q.1 (by decide)) (wi_i (fun q => absurd q.1 (by decide)) rfl)))))))⟩⟩)
          · -- pc 295
            refine xe_callV (a := 88) [.int (nI 59)] dX8_entry_295 ml_X8_169 mf_X8_sign (wK_i (wK_al (wK_ai (wK_ai (wK_i (wK_i h.1.1)))))) (by have := c_X8_sign (d + 1) hL6 (c := 59) (by decide); rw [if_neg h59] at this; exact this) rfl rfl (Nat.le_of_ble_eq_true rfl) (Nat.le_of_ble_eq_true rfl) ?_
            rintro _ _ ⟨rfl, rfl⟩
            exact xe_retv dX8_entry_298 rfl (⟨rfl, (FrM.si (FrM.si (FrM.si (FrM.si (FrM.sal (FrM.sai (FrM.sai (FrM.si (FrM.si FrM.rf (by decide) _) (by decide) _) (by decide) _ _) (by decide) _ _) (by decide) _ _) (by decide) _) (by decide) _) (by decide) _) (by decide) _), (fun j hj => ⟨(wai_i (wai_i (wai_i (wai_i (wai_al (wai_ai (fun q => absurd q.1 (by decide)) (wai_ai (by omega) (wai_i (wai_i rfl))))))))), (wai_i (wai_i (wai_i (wai_i (wai_al (wai_ai (by omega) (wai_ai (fun q => absurd q.1 (by decide)) (wai_i (wai_i rfl))))))))), (wal_i (wal_i (wal_i (wal_i (wal_al (by omega) (wal_ai (wal_ai (wal_i (wal_i rfl)))))))))⟩), by rw [qTail, hsrt]; dsimp only; rw [if_neg (fun z9 => z9 h190), if_neg (by decide), hv9]; dsimp only; rw [show qSign b n (de b n (nst b (sk b n p))) 59 = .inl (sk b n (de b n (nst b (sk b n p)))) from if_neg h59]; exact ⟨rfl, rfl, by decide, by decide, by omega⟩⟩)
      · -- pc 193
        have h190 := cv_ne (by omega) (by omega) h190
        refine xe (fun _ _ kK => x_aload_n dX8_entry_193 rfl 4 rfl kK) ?_
        refine xe (fun _ _ kK => x_iconst dX8_entry_194 (show _ = nI 5 by decide) kK) ?_
        refine xe (fun _ _ kK => x_aload_n dX8_entry_195 rfl 4 rfl kK) ?_
        refine xe (fun _ _ kK => x_get dX8_entry_196 fl_X8_138 (wK_i h.1.1) (gvl_i fz_8_2.2.2 (show e_i (mv T (sk b n p)) 514 88 = nI (sk b n p) from rfl)) kK) ?_
        refine xe_callV (a := 88) [.int (nI 5), .int (nI (sk b n p))] dX8_entry_199 ml_X8_148 mf_X8_fail (wK_i h.1.1) (c_X8_fail (d + 2) (T := (mv T (sk b n p))) ((show FrM fsP asP T (mv T (sk b n p)) from (FrM.si FrM.rf (by decide) _)).mi h.1) (wi_i (fun q => absurd q.1 (by decide)) h.2.2.2.2.2.2) (nI 5) (nI (sk b n p))) rfl rfl (Nat.le_of_ble_eq_true rfl) (Nat.le_of_ble_eq_true rfl) ?_
        rintro _ _ ⟨rfl, rfl⟩
        refine xe (fun _ _ kK => x_aload_n dX8_entry_202 rfl 4 rfl kK) ?_
        refine xe (fun _ _ kK => x_get dX8_entry_203 fl_X8_132 (wK_i (wK_i (wK_i h.1.1))) (gvl_i fz_8_4.2.2 (show e_i (flk (mv T (sk b n p)) 5 (sk b n p)) 516 88 = nI 5 from rfl)) kK) ?_
        refine xe (fun _ _ kK => x_if_eqF (tgt := 210) dX8_entry_206 (by decide) (by decide) kK) ?_
        exact xe_retv dX8_entry_209 rfl (⟨rfl, (FrM.si (FrM.si (FrM.si FrM.rf (by decide) _) (by decide) _) (by decide) _), (fun j hj => ⟨(wai_i (wai_i (wai_i rfl))), (wai_i (wai_i (wai_i rfl))), (wal_i (wal_i (wal_i rfl)))⟩), by rw [qTail, hsrt]; dsimp only; rw [if_pos h190]; exact ⟨rfl, rfl, by decide, by decide, by omega⟩⟩)
    · -- pc 130
      refine xe (fun _ _ kK => x_icmp_neT (tgt := 137) dX8_entry_130 (by decide) (pk_not hB' (by decide) h45) kK) ?_
      have hno0 : ¬ (pD b n (sk b n p) = true ∨ ((sk b n p) < n ∧ b (sk b n p) = 45)) := fun z9 => z9.elim (fun u9 => by rw [h123] at u9; cases u9) h45
      refine xe (fun _ _ kK => x_iload dX8_entry_137 0 rfl kK) ?_
      refine xe_callS [.int (pk b n (sk b n p))] dX8_entry_139 ml_X8_152 mf_X8_isLetter (c_X8_isLetter_pk (d + 2) hB') rfl rfl (Nat.le_of_ble_eq_true rfl) (Nat.le_of_ble_eq_true rfl) ?_
      rintro _ T9 ⟨rfl, h9⟩
      refine xe_T h9 ?_
      refine xe_if_eq (tgt := 149) dX8_entry_142 (by decide) (fun h142 => ?_) (fun h142 => ?_)
      · -- pc 149
        have h142 := cv_b0 h142
        refine xe (fun _ _ kK => x_iload dX8_entry_149 0 rfl kK) ?_
        refine xe (fun _ _ kK => x_bipush dX8_entry_151 (show _ = nI 91 by decide) kK) ?_
        have hno1 : ¬ pL b n (sk b n p) = true := fun u9 => by rw [h142] at u9; cases u9
        by_cases h91 : (sk b n p) < n ∧ b (sk b n p) = 91
        · -- pc 153
          refine xe (fun _ _ kK => x_icmp_neF (tgt := 160) dX8_entry_153 (by decide) (pk_is h91) kK) ?_
          have hsrt : srt b n (sk b n p) = some 2 := by rw [srt, if_neg hno0, if_neg hno1, if_pos h91]
          refine xe (fun _ _ kK => x_iconst dX8_entry_156 (show _ = nI 2 by decide) kK) ?_
          refine xe (fun _ _ kK => x_goto (tgt := 161) dX8_entry_157 (by decide) kK) ?_
          refine xe (fun _ _ kK => x_istore dX8_entry_161 (by decide) (show _ = [(7, .int (nI 2)), (6, .int (pk b n (sk b n p))), (5, .int (nI f)), (4, .int (nI (o + x))), (0, .ref 88)] from rfl) kK) ?_
          refine xe (fun _ _ kK => x_iload dX8_entry_163 0 rfl kK) ?_
          refine xe (fun _ _ kK => x_iconst dX8_entry_165 (show _ = (-1) by decide) kK) ?_
          refine xe (fun _ _ kK => x_icmp_neT (tgt := 181) dX8_entry_166 (by decide) (nI_m1 (by decide)) kK) ?_
          refine xe (fun _ _ kK => x_iload dX8_entry_181 0 rfl kK) ?_
          refine xe (fun _ _ kK => x_aload_n dX8_entry_183 rfl 4 rfl kK) ?_
          refine xe (fun _ _ kK => x_get dX8_entry_184 fl_X8_44 (wK_i h.1.1) (gvl_r1 fz_8_18.2.2 (show e_r (mv T (sk b n p)) 530 88 = some 92 from (wr_i (h.1.2.1 18)))) kK) ?_
          refine xe (fun _ _ kK => x_iload dX8_entry_187 2 rfl kK) ?_
          refine xe (fun _ _ kK => x_iald dX8_entry_189 (wK_i (h.1.2.2.1 3 (by decide))) (show (nI f) = nI f from rfl) (wN_i (mi_len h.1 3 (by decide) (show f < 80 by omega))) (show e_ai (mv T (sk b n p)) 92 f = nI (s.2.2.2.2.1 f) from (wai_i (hS.2.2.1 f hf1).2.2.1)) kK) ?_
          refine xe_icmp_eq (tgt := 202) dX8_entry_190 (by decide) (fun h190 => ?_) (fun h190 => ?_)
          · -- pc 202
            have h190 := cv_eq (by omega) (by omega) h190
            refine xe (fun _ _ kK => x_aload_n dX8_entry_202 rfl 4 rfl kK) ?_
            refine xe (fun _ _ kK => x_get dX8_entry_203 fl_X8_132 (wK_i h.1.1) (gvl_i fz_8_4.2.2 (show e_i (mv T (sk b n p)) 516 88 = nI 0 from (wi_i (fun q => absurd q.1 (by decide)) h.2.2.2.2.2.2))) kK) ?_
            refine xe (fun _ _ kK => x_if_eqT (tgt := 210) dX8_entry_206 (by decide) nI_0 kK) ?_
            refine xe (fun _ _ kK => x_iload dX8_entry_210 0 rfl kK) ?_
            refine xe (fun _ _ kK => x_iconst dX8_entry_212 (show _ = nI 2 by decide) kK) ?_
            refine xe (fun _ _ kK => x_icmp_neF (tgt := 255) dX8_entry_213 (by decide) rfl kK) ?_
            refine xe (fun _ _ kK => x_aload_n dX8_entry_216 rfl 4 rfl kK) ?_
            refine xe (fun _ _ kK => x_dup dX8_entry_217 rfl kK) ?_
            refine xe (fun _ _ kK => x_get dX8_entry_218 fl_X8_138 (wK_i h.1.1) (gvl_i fz_8_2.2.2 (show e_i (mv T (sk b n p)) 514 88 = nI (sk b n p) from rfl)) kK) ?_
            refine xe (fun _ _ kK => x_iconst dX8_entry_221 (show _ = nI 1 by decide) kK) ?_
            refine xe (fun _ _ kK => x_iadd dX8_entry_222 kK) ?_
            refine xe_ti (show _ = nI ((sk b n p) + 1) from nI_add (sk b n p) 1) ?_
            refine xe (fun _ _ kK => x_puti dX8_entry_223 ⟨fl_X8_138, fz_8_2.1, fz_8_2.2.1⟩ (Or.inl fz_8_2.2.2) rfl rfl (wK_i h.1.1) kK) ?_
            refine xe (fun _ _ kK => x_aload_n dX8_entry_226 rfl 4 rfl kK) ?_
            refine xe (fun _ _ kK => x_dup dX8_entry_227 rfl kK) ?_
            refine xe (fun _ _ kK => x_get dX8_entry_228 fl_X8_180 (wK_i (wK_i h.1.1)) (gvl_i fz_8_30.2.2 (show e_i (s_i (mv T (sk b n p)) 514 88 (nI ((sk b n p) + 1))) 542 88 = nI xs.length from (wi_i (fun q => absurd q.1 (by decide)) (wi_i (fun q => absurd q.1 (by decide)) hr.1)))) kK) ?_
            refine xe (fun _ _ kK => x_iconst dX8_entry_231 (show _ = nI 1 by decide) kK) ?_
            refine xe (fun _ _ kK => x_iadd dX8_entry_232 kK) ?_
            refine xe_ti (show _ = nI (xs.length + 1) from nI_add xs.length 1) ?_
            refine xe (fun _ _ kK => x_puti dX8_entry_233 ⟨fl_X8_180, fz_8_30.1, fz_8_30.2.1⟩ (Or.inl fz_8_30.2.2) rfl rfl (wK_i (wK_i h.1.1)) kK) ?_
            refine xe (fun _ _ kK => x_aload_n dX8_entry_236 rfl 4 rfl kK) ?_
            refine xe (fun _ _ kK => x_get dX8_entry_237 fl_X8_68 (wK_i (wK_i (wK_i h.1.1))) (gvl_r1 fz_8_28.2.2 (show e_r (s_i (s_i (mv T (sk b n p)) 514 88 (nI ((sk b n p) + 1))) 542 88 (nI (xs.length + 1))) 540 88 = some 100 from (wr_i (wr_i (wr_i (h.1.2.1 28)))))) kK) ?_
            refine xe (fun _ _ kK => x_aload_n dX8_entry_240 rfl 4 rfl kK) ?_
            refine xe (fun _ _ kK => x_get dX8_entry_241 fl_X8_180 (wK_i (wK_i (wK_i h.1.1))) (gvl_i fz_8_30.2.2 (show e_i (s_i (s_i (mv T (sk b n p)) 514 88 (nI ((sk b n p) + 1))) 542 88 (nI (xs.length + 1))) 542 88 = nI (xs.length + 1) from rfl)) kK) ?_
            refine xe (fun _ _ kK => x_aload_n dX8_entry_244 rfl 4 rfl kK) ?_
            refine xe (fun _ _ kK => x_iload dX8_entry_245 2 rfl kK) ?_
            refine xe (fun _ _ kK => x_iload dX8_entry_247 3 rfl kK) ?_
            refine xe (fun _ _ kK => x_lconst dX8_entry_249 (show _ = lN 0 by decide) kK) ?_
            have hd3 : xs.length ≤ 3 := by
              have h3 := (hD f hf1).2.2 h190.symm
              have h1 := hst.1
              cases hnf : pa.2.1 x with
              | none => rw [hnf] at h1; have h1' : xs.length = 0 := h1; omega
              | some g9 => rw [hnf] at h1; have h1' : xs.length = dp g9 + 1 := h1; have := ((hD f hf1).2.1 g9 (hf2.trans hnf)).2; omega
            refine xe_callV (a := 88) [.int (nI f), .int (nI (o + x)), .long (lN 0)] dX8_entry_250 ml_X8_235 mf_X8_node (wK_i (wK_i (wK_i h.1.1))) (c_X8_node (d + 2) (T := (s_i (s_i (mv T (sk b n p)) 514 88 (nI ((sk b n p) + 1))) 542 88 (nI (xs.length + 1)))) (m := o + pa.1) ((show FrM fsP asP T (s_i (s_i (mv T (sk b n p)) 514 88 (nI ((sk b n p) + 1))) 542 88 (nI (xs.length + 1))) from (FrM.si (FrM.si (FrM.si FrM.rf (by decide) _) (by decide) _) (by decide) _)).mi h.1) (wi_i (fun q => absurd q.1 (by decide)) (wi_i (fun q => absurd q.1 (by decide)) (wi_i (fun q => absurd q.1 (by decide)) hr.2.1))) (by omega) (nI f) (nI (o + x)) (lN 0)) rfl rfl (Nat.le_of_ble_eq_true rfl) (Nat.le_of_ble_eq_true rfl) ?_
            rintro _ _ ⟨rfl, rfl⟩
            refine xe_ti (show _ = nI (o + pa.1) from by rw [Nat.add_sub_cancel]) ?_
            refine xe (fun _ _ kK => x_iast dX8_entry_253 (wK_i (wK_al (wK_ai (wK_ai (wK_i (wK_i (wK_i (h.1.2.2.1 11 (by decide))))))))) (show (nI (xs.length + 1)) = nI (xs.length + 1) from rfl) (wN_i (wN_al (wN_ai (wN_ai (wN_i (wN_i (wN_i (mi_len h.1 11 (by decide) (show xs.length + 1 < 8 by omega))))))))) kK) ?_
            exact xe_retv dX8_entry_254 rfl (⟨rfl, (FrM.sai (FrM.si (FrM.sal (FrM.sai (FrM.sai (FrM.si (FrM.si (FrM.si FrM.rf (by decide) _) (by decide) _) (by decide) _) (by decide) _ _) (by decide) _ _) (by decide) _ _) (by decide) _) (by decide) _ _), (fun j hj => ⟨(wai_ai (fun q => absurd q.1 (by decide)) (wai_i (wai_al (wai_ai (fun q => absurd q.1 (by decide)) (wai_ai (by omega) (wai_i (wai_i (wai_i rfl)))))))), (wai_ai (fun q => absurd q.1 (by decide)) (wai_i (wai_al (wai_ai (by omega) (wai_ai (fun q => absurd q.1 (by decide)) (wai_i (wai_i (wai_i rfl)))))))), (wal_ai (wal_i (wal_al (by omega) (wal_ai (wal_ai (wal_i (wal_i (wal_i rfl))))))))⟩), by rw [qTail, hsrt]; dsimp only; rw [if_neg (fun z9 => z9 h190), if_pos rfl]; exact ⟨(LX.ofP h (FrM.sai (FrM.si (FrM.sal (FrM.sai (FrM.sai (FrM.si (FrM.si (FrM.si FrM.rf (by decide) _) (by decide) _) (by decide) _) (by decide) _ _) (by decide) _ _) (by decide) _ _) (by decide) _) (by decide) _ _) rfl (by omega) (wi_ai (wi_i (fun q => absurd q.1 (by decide)) (wi_al (wi_ai (wi_ai (wi_i (fun q => absurd q.1 (by decide)) (wi_i (fun q => absurd q.1 (by decide)) (wi_i (fun q => absurd q.1 (by decide)) h.2.2.2.2.2.2))))))))), ⟨rfl, rfl, ⟨by simp [q_i_i, q_i_ai, q_i_al, q_ai_ai, q_ai_i, q_ai_al, q_al_al, q_al_i, q_al_ai], hr.2.2.1.of (fun j hj => by have hj2 : j < xs.length + 1 := hj; simp [q_i_i, q_i_ai, q_i_al, q_ai_ai, q_ai_i, q_ai_al, q_al_al, q_al_i, q_al_ai, show ¬ j = xs.length + 1 by omega])⟩, PN_add hr.2.2.2 (fun j => by simp [q_i_i, q_i_ai, q_i_al, q_ai_ai, q_ai_i, q_ai_al, q_al_al, q_al_i, q_al_ai]; rfl) (fun j => by simp [q_i_i, q_i_ai, q_i_al, q_ai_ai, q_ai_i, q_ai_al, q_al_al, q_al_i, q_al_ai]; rfl) (fun j => by simp [q_i_i, q_i_ai, q_i_al, q_ai_ai, q_ai_i, q_ai_al, q_al_al, q_al_i, q_al_ai]; rfl)⟩, (wi_ai (wi_i (fun q => absurd q.1 (by decide)) (wi_al (wi_ai (wi_ai (wi_i (fun q => absurd q.1 (by decide)) (wi_i (fun q => absurd q.1 (by decide)) (wi_i (fun q => absurd q.1 (by decide)) rfl))))))))⟩⟩)
          · -- pc 193
            have h190 := cv_ne (by omega) (by omega) h190
            refine xe (fun _ _ kK => x_aload_n dX8_entry_193 rfl 4 rfl kK) ?_
            refine xe (fun _ _ kK => x_iconst dX8_entry_194 (show _ = nI 5 by decide) kK) ?_
            refine xe (fun _ _ kK => x_aload_n dX8_entry_195 rfl 4 rfl kK) ?_
            refine xe (fun _ _ kK => x_get dX8_entry_196 fl_X8_138 (wK_i h.1.1) (gvl_i fz_8_2.2.2 (show e_i (mv T (sk b n p)) 514 88 = nI (sk b n p) from rfl)) kK) ?_
            refine xe_callV (a := 88) [.int (nI 5), .int (nI (sk b n p))] dX8_entry_199 ml_X8_148 mf_X8_fail (wK_i h.1.1) (c_X8_fail (d + 2) (T := (mv T (sk b n p))) ((show FrM fsP asP T (mv T (sk b n p)) from (FrM.si FrM.rf (by decide) _)).mi h.1) (wi_i (fun q => absurd q.1 (by decide)) h.2.2.2.2.2.2) (nI 5) (nI (sk b n p))) rfl rfl (Nat.le_of_ble_eq_true rfl) (Nat.le_of_ble_eq_true rfl) ?_
            rintro _ _ ⟨rfl, rfl⟩
            refine xe (fun _ _ kK => x_aload_n dX8_entry_202 rfl 4 rfl kK) ?_
            refine xe (fun _ _ kK => x_get dX8_entry_203 fl_X8_132 (wK_i (wK_i (wK_i h.1.1))) (gvl_i fz_8_4.2.2 (show e_i (flk (mv T (sk b n p)) 5 (sk b n p)) 516 88 = nI 5 from rfl)) kK) ?_
            refine xe (fun _ _ kK => x_if_eqF (tgt := 210) dX8_entry_206 (by decide) (by decide) kK) ?_
            exact xe_retv dX8_entry_209 rfl (⟨rfl, (FrM.si (FrM.si (FrM.si FrM.rf (by decide) _) (by decide) _) (by decide) _), (fun j hj => ⟨(wai_i (wai_i (wai_i rfl))), (wai_i (wai_i (wai_i rfl))), (wal_i (wal_i (wal_i rfl)))⟩), by rw [qTail, hsrt]; dsimp only; rw [if_pos h190]; exact ⟨rfl, rfl, by decide, by decide, by omega⟩⟩)
        · -- pc 153
          refine xe (fun _ _ kK => x_icmp_neT (tgt := 160) dX8_entry_153 (by decide) (pk_not hB' (by decide) h91) kK) ?_
          have hsrt : srt b n (sk b n p) = none := by rw [srt, if_neg hno0, if_neg hno1, if_neg h91]
          refine xe (fun _ _ kK => x_iconst dX8_entry_160 (show _ = (-1) by decide) kK) ?_
          refine xe (fun _ _ kK => x_istore dX8_entry_161 (by decide) (show _ = [(7, .int (-1)), (6, .int (pk b n (sk b n p))), (5, .int (nI f)), (4, .int (nI (o + x))), (0, .ref 88)] from rfl) kK) ?_
          refine xe (fun _ _ kK => x_iload dX8_entry_163 0 rfl kK) ?_
          refine xe (fun _ _ kK => x_iconst dX8_entry_165 (show _ = (-1) by decide) kK) ?_
          refine xe (fun _ _ kK => x_icmp_neF (tgt := 181) dX8_entry_166 (by decide) rfl kK) ?_
          refine xe (fun _ _ kK => x_aload_n dX8_entry_169 rfl 4 rfl kK) ?_
          refine xe (fun _ _ kK => x_iconst dX8_entry_170 (show _ = nI 1 by decide) kK) ?_
          refine xe (fun _ _ kK => x_aload_n dX8_entry_171 rfl 4 rfl kK) ?_
          refine xe (fun _ _ kK => x_get dX8_entry_172 fl_X8_138 (wK_i h.1.1) (gvl_i fz_8_2.2.2 (show e_i (mv T (sk b n p)) 514 88 = nI (sk b n p) from rfl)) kK) ?_
          refine xe_callV (a := 88) [.int (nI 1), .int (nI (sk b n p))] dX8_entry_175 ml_X8_148 mf_X8_fail (wK_i h.1.1) (c_X8_fail (d + 2) (T := (mv T (sk b n p))) ((show FrM fsP asP T (mv T (sk b n p)) from (FrM.si FrM.rf (by decide) _)).mi h.1) (wi_i (fun q => absurd q.1 (by decide)) h.2.2.2.2.2.2) (nI 1) (nI (sk b n p))) rfl rfl (Nat.le_of_ble_eq_true rfl) (Nat.le_of_ble_eq_true rfl) ?_
          rintro _ _ ⟨rfl, rfl⟩
          refine xe (fun _ _ kK => x_goto (tgt := 202) dX8_entry_178 (by decide) kK) ?_
          refine xe (fun _ _ kK => x_aload_n dX8_entry_202 rfl 4 rfl kK) ?_
          refine xe (fun _ _ kK => x_get dX8_entry_203 fl_X8_132 (wK_i (wK_i (wK_i h.1.1))) (gvl_i fz_8_4.2.2 (show e_i (flk (mv T (sk b n p)) 1 (sk b n p)) 516 88 = nI 1 from rfl)) kK) ?_
          refine xe (fun _ _ kK => x_if_eqF (tgt := 210) dX8_entry_206 (by decide) (by decide) kK) ?_
          exact xe_retv dX8_entry_209 rfl (⟨rfl, (FrM.si (FrM.si (FrM.si FrM.rf (by decide) _) (by decide) _) (by decide) _), (fun j hj => ⟨(wai_i (wai_i (wai_i rfl))), (wai_i (wai_i (wai_i rfl))), (wal_i (wal_i (wal_i rfl)))⟩), by rw [qTail, hsrt]; exact ⟨rfl, rfl, by decide, by decide, by omega⟩⟩)
      · -- pc 145
        have h142 := cv_b1 h142
        have hpl := h142
        have hsrt : srt b n (sk b n p) = some 1 := by rw [srt, if_neg hno0, if_pos h142]
        refine xe (fun _ _ kK => x_iconst dX8_entry_145 (show _ = nI 1 by decide) kK) ?_
        refine xe (fun _ _ kK => x_goto (tgt := 161) dX8_entry_146 (by decide) kK) ?_
        refine xe (fun _ _ kK => x_istore dX8_entry_161 (by decide) (show _ = [(7, .int (nI 1)), (6, .int (pk b n (sk b n p))), (5, .int (nI f)), (4, .int (nI (o + x))), (0, .ref 88)] from rfl) kK) ?_
        refine xe (fun _ _ kK => x_iload dX8_entry_163 0 rfl kK) ?_
        refine xe (fun _ _ kK => x_iconst dX8_entry_165 (show _ = (-1) by decide) kK) ?_
        refine xe (fun _ _ kK => x_icmp_neT (tgt := 181) dX8_entry_166 (by decide) (nI_m1 (by decide)) kK) ?_
        refine xe (fun _ _ kK => x_iload dX8_entry_181 0 rfl kK) ?_
        refine xe (fun _ _ kK => x_aload_n dX8_entry_183 rfl 4 rfl kK) ?_
        refine xe (fun _ _ kK => x_get dX8_entry_184 fl_X8_44 (wK_i h.1.1) (gvl_r1 fz_8_18.2.2 (show e_r (mv T (sk b n p)) 530 88 = some 92 from (wr_i (h.1.2.1 18)))) kK) ?_
        refine xe (fun _ _ kK => x_iload dX8_entry_187 2 rfl kK) ?_
        refine xe (fun _ _ kK => x_iald dX8_entry_189 (wK_i (h.1.2.2.1 3 (by decide))) (show (nI f) = nI f from rfl) (wN_i (mi_len h.1 3 (by decide) (show f < 80 by omega))) (show e_ai (mv T (sk b n p)) 92 f = nI (s.2.2.2.2.1 f) from (wai_i (hS.2.2.1 f hf1).2.2.1)) kK) ?_
        refine xe_icmp_eq (tgt := 202) dX8_entry_190 (by decide) (fun h190 => ?_) (fun h190 => ?_)
        · -- pc 202
          have h190 := cv_eq (by omega) (by omega) h190
          refine xe (fun _ _ kK => x_aload_n dX8_entry_202 rfl 4 rfl kK) ?_
          refine xe (fun _ _ kK => x_get dX8_entry_203 fl_X8_132 (wK_i h.1.1) (gvl_i fz_8_4.2.2 (show e_i (mv T (sk b n p)) 516 88 = nI 0 from (wi_i (fun q => absurd q.1 (by decide)) h.2.2.2.2.2.2))) kK) ?_
          refine xe (fun _ _ kK => x_if_eqT (tgt := 210) dX8_entry_206 (by decide) nI_0 kK) ?_
          refine xe (fun _ _ kK => x_iload dX8_entry_210 0 rfl kK) ?_
          refine xe (fun _ _ kK => x_iconst dX8_entry_212 (show _ = nI 2 by decide) kK) ?_
          refine xe (fun _ _ kK => x_icmp_neT (tgt := 255) dX8_entry_213 (by decide) (by decide) kK) ?_
          refine xe (fun _ _ kK => x_iload dX8_entry_255 0 rfl kK) ?_
          refine xe (fun _ _ kK => x_if_neT (tgt := 267) dX8_entry_257 (by decide) (by decide) kK) ?_
          refine xe (fun _ _ kK => x_aload_n dX8_entry_267 rfl 4 rfl kK) ?_
          have hwp := we_pos (n := n) (pL_t hpl).1 (pL_t hpl).2
          have hne8 : ¬ we b n (sk b n p) = sk b n p := by omega
          by_cases he8 : sk b n p + 8 < we b n (sk b n p)
          · -- pc 268
            refine xe_callV (a := 88) [] dX8_entry_268 ml_X8_173 mf_X8_word (wK_i h.1.1) (by have := c_X8_word (d + 1) hL1; rw [hsk2, if_neg hne8, if_neg hne8, if_pos he8, if_pos he8] at this; exact this) rfl rfl (Nat.le_of_ble_eq_true rfl) (Nat.le_of_ble_eq_true rfl) ?_
            rintro _ _ ⟨rfl, rfl⟩
            refine xe (fun _ _ kK => x_lstore dX8_entry_271 (by decide) (show _ = [(8, .long (lN 0)), (7, .int (nI 1)), (6, .int (pk b n (sk b n p))), (5, .int (nI f)), (4, .int (nI (o + x))), (0, .ref 88)] from rfl) kK) ?_
            refine xe (fun _ _ kK => x_aload_n dX8_entry_273 rfl 5 rfl kK) ?_
            refine xe (fun _ _ kK => x_get dX8_entry_274 fl_X8_132 (wK_i (wK_i (wK_i (wK_i h.1.1)))) (gvl_i fz_8_4.2.2 (show e_i (flk (mv (mv T (sk b n p)) ((sk b n p) + 8)) 1 ((sk b n p) + 8)) 516 88 = nI 1 from rfl)) kK) ?_
            refine xe (fun _ _ kK => x_if_eqF (tgt := 281) dX8_entry_277 (by decide) (by decide) kK) ?_
            exact xe_retv dX8_entry_280 rfl (⟨rfl, (FrM.si (FrM.si (FrM.si (FrM.si FrM.rf (by decide) _) (by decide) _) (by decide) _) (by decide) _), (fun j hj => ⟨(wai_i (wai_i (wai_i (wai_i rfl)))), (wai_i (wai_i (wai_i (wai_i rfl)))), (wal_i (wal_i (wal_i (wal_i rfl))))⟩), by rw [qTail, hsrt]; dsimp only; rw [if_neg (fun z9 => z9 h190), if_neg (by decide), qVal, if_neg (by decide), if_pos he8]; exact ⟨rfl, rfl, by decide, by decide, by omega⟩⟩)
          · -- pc 268
            refine xe_callV (a := 88) [] dX8_entry_268 ml_X8_173 mf_X8_word (wK_i h.1.1) (by have := c_X8_word (d + 1) hL1; rw [hsk2, if_neg hne8, if_neg hne8, if_neg he8, if_neg he8] at this; exact this) rfl rfl (Nat.le_of_ble_eq_true rfl) (Nat.le_of_ble_eq_true rfl) ?_
            rintro _ _ ⟨rfl, rfl⟩
            refine xe (fun _ _ kK => x_lstore dX8_entry_271 (by decide) (show _ = [(8, .long (lN (wc b (sk b n p) (we b n (sk b n p))))), (7, .int (nI 1)), (6, .int (pk b n (sk b n p))), (5, .int (nI f)), (4, .int (nI (o + x))), (0, .ref 88)] from rfl) kK) ?_
            refine xe (fun _ _ kK => x_aload_n dX8_entry_273 rfl 5 rfl kK) ?_
            refine xe (fun _ _ kK => x_get dX8_entry_274 fl_X8_132 (wK_i (wK_i h.1.1)) (gvl_i fz_8_4.2.2 (show e_i (mv (mv T (sk b n p)) (we b n (sk b n p))) 516 88 = nI 0 from (wi_i (fun q => absurd q.1 (by decide)) (wi_i (fun q => absurd q.1 (by decide)) h.2.2.2.2.2.2)))) kK) ?_
            refine xe (fun _ _ kK => x_if_eqT (tgt := 281) dX8_entry_277 (by decide) nI_0 kK) ?_
            refine xe (fun _ _ kK => x_aload_n dX8_entry_281 rfl 5 rfl kK) ?_
            refine xe (fun _ _ kK => x_iload dX8_entry_282 3 rfl kK) ?_
            refine xe (fun _ _ kK => x_iload dX8_entry_284 4 rfl kK) ?_
            refine xe (fun _ _ kK => x_lload dX8_entry_286 0 rfl kK) ?_
            refine xe_callV (a := 88) [.int (nI f), .int (nI (o + x)), .long (lN (wc b (sk b n p) (we b n (sk b n p))))] dX8_entry_288 ml_X8_235 mf_X8_node (wK_i (wK_i h.1.1)) (c_X8_node (d + 2) (T := (mv (mv T (sk b n p)) (we b n (sk b n p)))) (m := o + pa.1) ((show FrM fsP asP T (mv (mv T (sk b n p)) (we b n (sk b n p))) from (FrM.si (FrM.si FrM.rf (by decide) _) (by decide) _)).mi h.1) (wi_i (fun q => absurd q.1 (by decide)) (wi_i (fun q => absurd q.1 (by decide)) hr.2.1)) (by omega) (nI f) (nI (o + x)) (lN (wc b (sk b n p) (we b n (sk b n p))))) rfl rfl (Nat.le_of_ble_eq_true rfl) (Nat.le_of_ble_eq_true rfl) ?_
            rintro _ _ ⟨rfl, rfl⟩
            refine xe (fun _ _ kK => x_pop dX8_entry_291 rfl kK) ?_
            refine xe (fun _ _ kK => x_aload_n dX8_entry_292 rfl 5 rfl kK) ?_
            refine xe (fun _ _ kK => x_bipush dX8_entry_293 (show _ = nI 59 by decide) kK) ?_
            have hL6 : LX (s_i (s_al (s_ai (s_ai (mv (mv T (sk b n p)) (we b n (sk b n p))) 103 (o + pa.1) (nI f)) 104 (o + pa.1) (nI (o + x))) 105 (o + pa.1) (lN (wc b (sk b n p) (we b n (sk b n p))))) 548 88 (nI (o + pa.1 + 1))) n b (we b n (sk b n p)) := (LX.ofP h (FrM.si (FrM.sal (FrM.sai (FrM.sai (FrM.si (FrM.si FrM.rf (by decide) _) (by decide) _) (by decide) _ _) (by decide) _ _) (by decide) _ _) (by decide) _) rfl hw1 (wi_i (fun q => absurd q.1 (by decide)) (wi_al (wi_ai (wi_ai (wi_i (fun q => absurd q.1 (by decide)) (wi_i (fun q => absurd q.1 (by decide)) h.2.2.2.2.2.2)))))))
            have hz0 := sk_ge b n (we b n (sk b n p))
            have hz1 := sk_n (b := b) (n := n) hw1
            have hv9 : qVal b n (sk b n p) 1 = .inr (lN (wc b (sk b n p) (we b n (sk b n p))), (we b n (sk b n p))) := by rw [qVal, if_neg (by decide), if_neg he8]
            by_cases h59 : sk b n (we b n (sk b n p)) < n ∧ b (sk b n (we b n (sk b n p))) = 59
            · -- pc 295
              refine xe_callV (a := 88) [.int (nI 59)] dX8_entry_295 ml_X8_169 mf_X8_sign (wK_i (wK_al (wK_ai (wK_ai (wK_i (wK_i h.1.1)))))) (by have := c_X8_sign (d + 1) hL6 (c := 59) (by decide); rw [if_pos h59] at this; exact this) rfl rfl (Nat.le_of_ble_eq_true rfl) (Nat.le_of_ble_eq_true rfl) ?_
              rintro _ _ ⟨rfl, rfl⟩
              exact xe_retv dX8_entry_298 rfl (⟨rfl, (FrM.si (FrM.si (FrM.sal (FrM.sai (FrM.sai (FrM.si (FrM.si FrM.rf (by decide) _) (by decide) _) (by decide) _ _) (by decide) _ _) (by decide) _ _) (by decide) _) (by decide) _), (fun j hj => ⟨(wai_i (wai_i (wai_al (wai_ai (fun q => absurd q.1 (by decide)) (wai_ai (by omega) (wai_i (wai_i rfl))))))), (wai_i (wai_i (wai_al (wai_ai (by omega) (wai_ai (fun q => absurd q.1 (by decide)) (wai_i (wai_i rfl))))))), (wal_i (wal_i (wal_al (by omega) (wal_ai (wal_ai (wal_i (wal_i rfl)))))))⟩), by rw [qTail, hsrt]; dsimp only; rw [if_neg (fun z9 => z9 h190), if_neg (by decide), hv9]; dsimp only; rw [show qSign b n (we b n (sk b n p)) 59 = .inr (sk b n (we b n (sk b n p)) + 1) from if_pos h59]; exact ⟨(LX.ofP h (FrM.si (FrM.si (FrM.sal (FrM.sai (FrM.sai (FrM.si (FrM.si FrM.rf (by decide) _) (by decide) _) (by decide) _ _) (by decide) _ _) (by decide) _ _) (by decide) _) (by decide) _) rfl (by omega) (wi_i (fun q => absurd q.1 (by decide)) (wi_i (fun q => absurd q.1 (by decide)) (wi_al (wi_ai (wi_ai (wi_i (fun q => absurd q.1 (by decide)) (wi_i (fun q => absurd q.1 (by decide)) h.2.2.2.2.2.2)))))))), ⟨(wi_i (fun q => absurd q.1 (by decide)) (wi_i (fun q => absurd q.1 (by decide)) (wi_al (wi_ai (wi_ai (wi_i (fun q => absurd q.1 (by decide)) (wi_i (fun q => absurd q.1 (by decide)) hr.1))))))), rfl, ⟨(wai_i (wai_i (wai_al (wai_ai (fun q => absurd q.1 (by decide)) (wai_ai (fun q => absurd q.1 (by decide)) (wai_i (wai_i hr.2.2.1.1))))))), hr.2.2.1.2.of (fun j hj => (wai_i (wai_i (wai_al (wai_ai (fun q => absurd q.1 (by decide)) (wai_ai (fun q => absurd q.1 (by decide)) (wai_i (wai_i rfl))))))))⟩, PN_add hr.2.2.2 (fun j => by simp [q_i_i, q_i_ai, q_i_al, q_ai_ai, q_ai_i, q_ai_al, q_al_al, q_al_i, q_al_ai]; rfl) (fun j => by simp [q_i_i, q_i_ai, q_i_al, q_ai_ai, q_ai_i, q_ai_al, q_al_al, q_al_i, q_al_ai]; rfl) (fun j => by simp [q_i_i, q_i_ai, q_i_al, q_ai_ai, q_ai_i, q_ai_al, q_al_al, q_al_i, q_al_ai])⟩, (wi_i (fun q => absurd q.1 (by decide)) (wi_i (fun q => absurd q.1 (by decide)) (wi_al (wi_ai (wi_ai (wi_i (fun q => absurd q.1 (by decide)) (wi_i (fun q => absurd q.1 (by decide)) rfl)))))))⟩⟩)
            · -- pc 295
              refine xe_callV (a := 88) [.int (nI 59)] dX8_entry_295 ml_X8_169 mf_X8_sign (wK_i (wK_al (wK_ai (wK_ai (wK_i (wK_i h.1.1)))))) (by have := c_X8_sign (d + 1) hL6 (c := 59) (by decide); rw [if_neg h59] at this; exact this) rfl rfl (Nat.le_of_ble_eq_true rfl) (Nat.le_of_ble_eq_true rfl) ?_
              rintro _ _ ⟨rfl, rfl⟩
              exact xe_retv dX8_entry_298 rfl (⟨rfl, (FrM.si (FrM.si (FrM.si (FrM.si (FrM.sal (FrM.sai (FrM.sai (FrM.si (FrM.si FrM.rf (by decide) _) (by decide) _) (by decide) _ _) (by decide) _ _) (by decide) _ _) (by decide) _) (by decide) _) (by decide) _) (by decide) _), (fun j hj => ⟨(wai_i (wai_i (wai_i (wai_i (wai_al (wai_ai (fun q => absurd q.1 (by decide)) (wai_ai (by omega) (wai_i (wai_i rfl))))))))), (wai_i (wai_i (wai_i (wai_i (wai_al (wai_ai (by omega) (wai_ai (fun q => absurd q.1 (by decide)) (wai_i (wai_i rfl))))))))), (wal_i (wal_i (wal_i (wal_i (wal_al (by omega) (wal_ai (wal_ai (wal_i (wal_i rfl)))))))))⟩), by rw [qTail, hsrt]; dsimp only; rw [if_neg (fun z9 => z9 h190), if_neg (by decide), hv9]; dsimp only; rw [show qSign b n (we b n (sk b n p)) 59 = .inl (sk b n (we b n (sk b n p))) from if_neg h59]; exact ⟨rfl, rfl, by decide, by decide, by omega⟩⟩)
        · -- pc 193
          have h190 := cv_ne (by omega) (by omega) h190
          refine xe (fun _ _ kK => x_aload_n dX8_entry_193 rfl 4 rfl kK) ?_
          refine xe (fun _ _ kK => x_iconst dX8_entry_194 (show _ = nI 5 by decide) kK) ?_
          refine xe (fun _ _ kK => x_aload_n dX8_entry_195 rfl 4 rfl kK) ?_
          refine xe (fun _ _ kK => x_get dX8_entry_196 fl_X8_138 (wK_i h.1.1) (gvl_i fz_8_2.2.2 (show e_i (mv T (sk b n p)) 514 88 = nI (sk b n p) from rfl)) kK) ?_
          refine xe_callV (a := 88) [.int (nI 5), .int (nI (sk b n p))] dX8_entry_199 ml_X8_148 mf_X8_fail (wK_i h.1.1) (c_X8_fail (d + 2) (T := (mv T (sk b n p))) ((show FrM fsP asP T (mv T (sk b n p)) from (FrM.si FrM.rf (by decide) _)).mi h.1) (wi_i (fun q => absurd q.1 (by decide)) h.2.2.2.2.2.2) (nI 5) (nI (sk b n p))) rfl rfl (Nat.le_of_ble_eq_true rfl) (Nat.le_of_ble_eq_true rfl) ?_
          rintro _ _ ⟨rfl, rfl⟩
          refine xe (fun _ _ kK => x_aload_n dX8_entry_202 rfl 4 rfl kK) ?_
          refine xe (fun _ _ kK => x_get dX8_entry_203 fl_X8_132 (wK_i (wK_i (wK_i h.1.1))) (gvl_i fz_8_4.2.2 (show e_i (flk (mv T (sk b n p)) 5 (sk b n p)) 516 88 = nI 5 from rfl)) kK) ?_
          refine xe (fun _ _ kK => x_if_eqF (tgt := 210) dX8_entry_206 (by decide) (by decide) kK) ?_
          exact xe_retv dX8_entry_209 rfl (⟨rfl, (FrM.si (FrM.si (FrM.si FrM.rf (by decide) _) (by decide) _) (by decide) _), (fun j hj => ⟨(wai_i (wai_i (wai_i rfl))), (wai_i (wai_i (wai_i rfl))), (wal_i (wal_i (wal_i rfl)))⟩), by rw [qTail, hsrt]; dsimp only; rw [if_pos h190]; exact ⟨rfl, rfl, by decide, by decide, by omega⟩⟩)
