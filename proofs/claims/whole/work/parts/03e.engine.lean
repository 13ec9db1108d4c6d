/-! THE ENGINE, part e: copies of rows; the law's start -/
def R_law : String := "TreeTablesLaw"
def lw_P (b : Addr) (xs : List Int32) (args : Array Value) (s : State) : Prop := args = #[.ref b] ∧ s.IntsAt b xs ∧ xs.length ≤ 3584 ∧ (Jvm.Cond.and given_1 narrow_1).before args s = true
def lw_Q (_ : Array Value) (s : State) (o : Outcome) (t : State) : Prop := o = .returned (some (.int 1)) ∧ Framed s o t [] 600000 7302250
def lw_Z (below : List Frame) (a : Array Value) (s : State) : State → Prop := fun t => ∃ o, t.status = .running ∧ Ended t below o ∧ lw_Q a s o t
/-- the law's own end, with 1 on the stack, nothing written that was there before, its room as the claim has it -/
theorem lw_ret {p : Program} {l : Launch} {e : Env} {s : State} {m : MethodId} {below : List Frame} {meth : Method} {c : Code} {b : Nat} (hx : p.tables.exec = Jvm.exec) (hb : c.code = code) (hr : meth.sig.returnType = ret) (hlocks : meth.locks = false) {pc : Nat} {H : Heap} {ls : Array Slot} (hdg : decode code pc = .ok (.ireturn, 1)) : W p l e room_1 s m #[Value.ref b] below meth c H [] 600000 7302250 (lw_Z below #[Value.ref b] s) (F0 m pc ls [.int 1]) := by
  intro T hT X
  obtain ⟨fs, hret, hrun, hended, hW, hframe⟩ := X.leave (v := some (.int 1)) (hlocks := hlocks) (fun h => by rw [hr] at h; cases h)
  have hmeth' : T.vm.method? m = some meth := X.method'
  refine ⟨T.setFrames fs, ?_, .returned (some (.int 1)), hrun, hended, rfl, ⟨_, rfl⟩, hW, hframe⟩
  jvm_step X.here [X.here.top, hx, hb, hdg, hmeth', hr, ret, narrow_b1]
  (try refine ⟨rfl, ?_⟩); (try refine ⟨rfl, ?_⟩)
  first | (intro acts; rw [hret _ acts rfl rfl rfl]) | rw [hret _ _ rfl rfl rfl]
  exact Steps.refl _
/-- what holds at the law's entry: the machine, the code, the tables' words (any of lw_tbl by 'hts w (by decide +kernel)'), the script of L ints xs at the cell b, what the Statement gives of the start (any of its parts by flat_of_before) -/
def lw_At (p : Program) (s : State) (m : MethodId) (meth : Method) (c : Code) (b L : Nat) (xs : Nat → Int32) : Prop :=
  p.tables.exec = Jvm.exec ∧ c.code = code ∧ meth.sig.returnType = ret ∧ c.maxLocals = 4 ∧ s.vm.findClass R_law = some m.cls ∧ (∀ w ∈ lw_tbl, w.before #[Value.ref b] s = true) ∧ va_X b L xs s s.heap ∧ b < s.heap.size ∧ meth.locks = false ∧ (Jvm.Cond.and given_1 narrow_1).before #[Value.ref b] s = true

section Rules5
variable {mm : MR} {d pc : Nat} {L : List (Nat × Value)} {st : List Value} {T Tf : TH} {r : Option Value}
theorem ac_n : Cond.native arraycopyName ∈ lw_g := inG (by decide +kernel) (by decide +kernel)
theorem ac_s : Cond.static arraycopyName ∈ lw_g := inG (by decide +kernel) (by decide +kernel)
theorem ac_i : Cond.initialized "java/lang/System" ∈ lw_g := inG (by decide +kernel) (by decide +kernel)
theorem cpy_row (E : EV) {T : TH} {a : Nat} {f : Nat → Int32} {k : Nat} (hk : k < 23) : kDat E (s_ais T a f) k a = .inl f := by
  unfold kDat
  rw [if_neg (by omega), if_neg (by omega)]
  exact congrArg Sum.inl (va_up_self _ _ _)
theorem x_acopyi {idx a b n : Nat} {z : Int32} (hd : decode mm.2.2.1 pc = .ok (.invokestatic idx, 3)) (hl : Cond.methodLink mm.1 idx arraycopyName ∈ lw_g) (ha : e_K T a = 20) (hb9 : e_K T b = 20) (hz : z = nI n) (h1 : n ≤ e_len T a) (h2 : n ≤ e_len T b) (hc : (st.map fun v => v.category).sum ≤ 8) (k : X mm (d + 1) (pc + 3) L st (s_ais T b (va_cpy (e_ai T a) (e_ai T b) 0 0 n)) r Tf) : X mm (d + 1) pc L (.int z :: .int 0 :: .ref b :: .int 0 :: .ref a :: st) T r Tf := by
  refine ⟨k.1, fun E p l e R s m args below meth c H locs ls n0 s0 Z C g1 hls hp hS hz9 => ?_⟩
  have hR := C.2.2.2.2.2.2.2.2.2.2.1
  have hts := C.2.2.2.2.2.2.1
  have hKK := C.2.2.2.2.2.2.2.2.1
  have h0 : s.heap.size = E.1 + n0 := C.2.2.2.2.2.2.2.2.2.1
  have hcm := cat_map E st
  have hla := hp.2.2.2 a
  subst hz
  have hcl : (nI n).toNatClampNeg = n := nI_clamp (by omega)
  have hc0 : (0 : Int32).toNatClampNeg = 0 := rfl
  refine va_copyi C.1 C.2.1 (by rw [C.2.2.1, hls.1]) C.2.2.2.2.2.1 (hts _ hl) (hts _ ac_n) (hts _ ac_s) (hts _ ac_i) hKK.1 hp.2.1 (wsE_D E T) hS a b 0 0 (by rw [wsE_at E T (hp.lt (by omega)), cellE_a E ha (by omega)]; rfl) (by rw [wsE_at E T (hp.lt (by omega)), cellE_a E hb9 (by omega)]; rfl) rfl rfl rfl (by decide) (by decide) (nI_pos (by omega)) (by rw [hcl, hc0]; omega) (by rw [hcl, hc0]; omega) (fun i hi => rfl) (by omega) (by show _ + (nativeFrameWords "java/lang/System" "arraycopy" 5 + 11) ≤ _; rw [show nativeFrameWords "java/lang/System" "arraycopy" 5 = 7 by decide]; omega) hd (fun H1 locs1 hP1 hD1 hS1 => ?_)
  rw [hcl, hc0] at hP1
  refine W_sz (fun hsz => ?_)
  have hlt := hp.lt (a := b) (by omega)
  have hP2 : va_P E.2.2.1 vwCl (wsE E (s_ais T b (va_cpy (e_ai T a) (e_ai T b) 0 0 n))) H1 := by
    rw [← wsE_set E (T := T) (T' := s_ais T b (va_cpy (e_ai T a) (e_ai T b) 0 0 n)) (a := b) (c := .inl (kCl E 20, e_len T b, .inl (va_cpy (e_ai T a) (e_ai T b) 0 0 n))) rfl ?_ ?_]
    · exact hP1
    · rw [cellE_a E (T := s_ais T b _) (a := b) (k := 20) hb9 (by omega), cpy_row E (by omega)]
      rfl
    · intro q hq
      refine cellE_ne E rfl rfl (fun _ _ => rfl) (va_up_ne _ _ hq) rfl rfl
  exact k.2 E p l e R s m args below meth c H1 locs1 ls n0 s0 Z C g1 hls (Hp_of hP2 (Nat.lt_of_le_of_lt (Nat.zero_le _) hlt) (by show H1.size ≤ E.1 + e_n T; omega) hp.2.2.1 hp.2.2.2) hS1 hz9
theorem x_acopyl {idx a b n : Nat} {z : Int32} (hd : decode mm.2.2.1 pc = .ok (.invokestatic idx, 3)) (hl : Cond.methodLink mm.1 idx arraycopyName ∈ lw_g) (ha : e_K T a = 23) (hb9 : e_K T b = 23) (hz : z = nI n) (h1 : n ≤ e_len T a) (h2 : n ≤ e_len T b) (hc : (st.map fun v => v.category).sum ≤ 8) (k : X mm (d + 1) (pc + 3) L st (s_als T b (va_cpy (e_al T a) (e_al T b) 0 0 n)) r Tf) : X mm (d + 1) pc L (.int z :: .int 0 :: .ref b :: .int 0 :: .ref a :: st) T r Tf := by
  refine ⟨k.1, fun E p l e R s m args below meth c H locs ls n0 s0 Z C g1 hls hp hS hz9 => ?_⟩
  have hR := C.2.2.2.2.2.2.2.2.2.2.1
  have hts := C.2.2.2.2.2.2.1
  have hKK := C.2.2.2.2.2.2.2.2.1
  have h0 : s.heap.size = E.1 + n0 := C.2.2.2.2.2.2.2.2.2.1
  have hcm := cat_map E st
  have hla := hp.2.2.2 a
  subst hz
  have hcl : (nI n).toNatClampNeg = n := nI_clamp (by omega)
  have hc0 : (0 : Int32).toNatClampNeg = 0 := rfl
  refine va_copyl C.1 C.2.1 (by rw [C.2.2.1, hls.1]) C.2.2.2.2.2.1 (hts _ hl) (hts _ ac_n) (hts _ ac_s) (hts _ ac_i) hKK.1 hp.2.1 (wsE_D E T) hS a b 3 3 (by rw [wsE_at E T (hp.lt (by omega)), cellE_a E ha (by omega)]; rfl) (by rw [wsE_at E T (hp.lt (by omega)), cellE_a E hb9 (by omega)]; rfl) rfl rfl rfl (by decide) (by decide) (nI_pos (by omega)) (by rw [hcl, hc0]; omega) (by rw [hcl, hc0]; omega) (fun i hi => rfl) (by omega) (by show _ + (nativeFrameWords "java/lang/System" "arraycopy" 5 + 11) ≤ _; rw [show nativeFrameWords "java/lang/System" "arraycopy" 5 = 7 by decide]; omega) hd (fun H1 locs1 hP1 hD1 hS1 => ?_)
  rw [hcl, hc0] at hP1
  refine W_sz (fun hsz => ?_)
  have hlt := hp.lt (a := b) (by omega)
  have hP2 : va_P E.2.2.1 vwCl (wsE E (s_als T b (va_cpy (e_al T a) (e_al T b) 0 0 n))) H1 := by
    rw [← wsE_set E (T := T) (T' := s_als T b (va_cpy (e_al T a) (e_al T b) 0 0 n)) (a := b) (c := .inl (kCl E 23, e_len T b, .inr (.inl (va_cpy (e_al T a) (e_al T b) 0 0 n)))) rfl ?_ ?_]
    · exact hP1
    · rw [cellE_a E (T := s_als T b _) (a := b) (k := 23) hb9 (by omega)]
      show Sum.inl (kCl E 23, e_len T b, Sum.inr (Sum.inl (va_up (e_al T) b (va_cpy (e_al T a) (e_al T b) 0 0 n) b))) = _
      rw [va_up_self]
    · intro q hq
      refine cellE_ne E rfl rfl (fun _ _ => rfl) rfl (va_up_ne _ _ hq) rfl
  exact k.2 E p l e R s m args below meth c H1 locs1 ls n0 s0 Z C g1 hls (Hp_of hP2 (Nat.lt_of_le_of_lt (Nat.zero_le _) hlt) (by show H1.size ≤ E.1 + e_n T; omega) hp.2.2.1 hp.2.2.2) hS1 hz9
end Rules5
abbrev m_law : MR := (RL, x, code, 4, some .boolean)
/-- nothing made yet -/
def T_0 (n : Nat) (xs : Nat → Int32) : TH := (fun _ => 0, fun _ _ => 0, fun _ _ => 0, fun _ _ => none, fun _ _ => 0, fun _ _ => 0, fun _ _ => none, fun _ => 0, 0, 0, (n, xs))
theorem arr_known {s : State} {args : Array Value} {ty : FieldType} (hp : ∀ n, ty ≠ .object n) (h : (Cond.arrayClass ty).before args s = true) : ∃ cA, ArrOfT s cA ty ∧ va_RA s cA ty := by
  obtain ⟨cA, kA, comp, h1, h2, h3⟩ := Cond.arrayClass_spec h
  refine ⟨cA, fun n z => ⟨fun k h => (by cases h), kA, h2, comp, h3⟩, ?_⟩
  cases ty <;> first | exact h1 | exact absurd rfl (hp _)
theorem arr_knownT {s : State} {args : Array Value} {n : String} (h : (Cond.arrayOver (.object n)).before args s = true) : ∃ cA, ArrOfT s cA (.object n) ∧ va_RA s cA (.object n) := by
  obtain ⟨comp, cA, kA, h1, h2, h3, h4, h5⟩ := Cond.arrayOver_spec h
  exact ⟨cA, fun n z => ⟨fun k h => (by cases h), kA, h3, comp, h4⟩, kA, comp, h3, h4, h1, h5⟩
theorem nest_in : nests.all (fun q => decide (Cond.methodLinkNest q.1 q.2.1 q.2.2 RX7 ∈ lw_tbl)) = true := by decide +kernel
set_option maxHeartbeats 4000000 in
theorem law_of_X {p : Program} {e : Env} {s : State} {m : MethodId} {below : List Frame} {meth : Method} {c : Code} (l : Launch) {b N : Nat} {xs : Nat → Int32} {Tf : TH} (hX : X m_law 1000 0 [(0, .float 0)] [] (T_0 N xs) (some (.int 1)) Tf) (h1 : e_n Tf ≤ 600000) (h2 : e_s Tf ≤ 7302250) (C0 : lw_At p s m meth c b N xs) : W p l e room_1 s m #[Value.ref b] below meth c s.heap [] 0 0 (lw_Z below #[Value.ref b] s) (entryFrame m ([Value.ref b] : List Value).toArray 4) := by
  obtain ⟨hx, hb, hr, hml, hown, hts, hXs, hbl, hlocks, hgv⟩ := id C0
  have hts' : ∀ w ∈ lw_g, w.before #[Value.ref b] s = true := fun w hw => hts w (List.mem_filter.mp hw).1
  obtain ⟨c0, i0, hKn0⟩ := u_known (C := RX0) (T := TX0) (N := 8) (n := 8) hts inX0 (hts (.instantiable RX0 8) (by decide +kernel))
  obtain ⟨c1, i1, hKn1⟩ := u_known (C := RX1) (T := TX1) (N := 12) (n := 12) hts inX1 (hts (.instantiable RX1 12) (by decide +kernel))
  obtain ⟨c2, i2, hKn2⟩ := u_known (C := RX2) (T := TX2) (N := 4) (n := 4) hts inX2 (hts (.instantiable RX2 4) (by decide +kernel))
  obtain ⟨c3, i3, hKn3⟩ := u_known (C := RX3) (T := TX3) (N := 9) (n := 9) hts inX3 (hts (.instantiable RX3 9) (by decide +kernel))
  obtain ⟨c4, i4, hKn4⟩ := u_known (C := RX4) (T := TX4) (N := 8) (n := 8) hts inX4 (hts (.instantiable RX4 8) (by decide +kernel))
  obtain ⟨c5, i5, hKn5⟩ := u_known (C := RX5) (T := TX5) (N := 2) (n := 2) hts inX5 (hts (.instantiable RX5 2) (by decide +kernel))
  obtain ⟨c6, i6, hKn6⟩ := u_known (C := RX6) (T := TX6) (N := 5) (n := 5) hts inX6 (hts (.instantiable RX6 5) (by decide +kernel))
  obtain ⟨c7, i7, hKn7⟩ := u_known (C := RX7) (T := TX7) (N := 6) (n := 6) hts inX7 (hts (.instantiable RX7 6) (by decide +kernel))
  obtain ⟨c8, i8, hKn8⟩ := u_known (C := RX8) (T := TX8) (N := 54) (n := 54) hts inX8 (hts (.instantiable RX8 54) (by decide +kernel))
  obtain ⟨cI, hI⟩ := arr_known (ty := .int) (fun n h => by cases h) (hts' _ arrc_int)
  obtain ⟨cB, hB⟩ := arr_known (ty := .byte) (fun n h => by cases h) (hts' _ arrc_byte)
  obtain ⟨cZ, hZ⟩ := arr_known (ty := .boolean) (fun n h => by cases h) (hts' _ arrc_boolean)
  obtain ⟨cJ, hJ⟩ := arr_known (ty := .long) (fun n h => by cases h) (hts' _ arrc_long)
  have hAO : (Cond.arrayOver (.object RX3)).before #[Value.ref b] s = true := hts _ (by decide +kernel)
  obtain ⟨cT, hT⟩ := arr_knownT hAO
  have hvK : vK (s.heap.size, b, (fun k => [c0, c1, c2, c3, c4, c5, c6, c7, c8].getD k 0, fun k => [i0, i1, i2, i3, i4, i5, i6, i7, i8].getD k (fun _ => 0)), cI, cB, cZ, cJ, cT) s := by
    refine ⟨⟨?_, ?_⟩, hAO, ?_⟩
    · intro k q hq
      match k, hq with
      | 0, hq => cases hq; exact hKn0
      | 1, hq => cases hq; exact hKn1
      | 2, hq => cases hq; exact hKn2
      | 3, hq => cases hq; exact hKn3
      | 4, hq => cases hq; exact hKn4
      | 5, hq => cases hq; exact hKn5
      | 6, hq => cases hq; exact hKn6
      | 7, hq => cases hq; exact hKn7
      | 8, hq => cases hq; exact hKn8
      | k + 9, hq => simp [vwCl] at hq
    · intro k q hq
      match k, hq with
      | 0, hq => cases hq; exact hI
      | 1, hq => cases hq; exact hB
      | 2, hq => cases hq; exact hZ
      | 3, hq => cases hq; exact hJ
      | 4, hq => cases hq; exact hT
      | k + 5, hq => simp [eTys] at hq
    · intro q hq
      exact va_Nw.of rfl (hts _ (of_decide_eq_true (List.all_eq_true.mp nest_in q hq)))
  generalize hE : ((s.heap.size, b, (fun k => [c0, c1, c2, c3, c4, c5, c6, c7, c8].getD k 0, fun k => [i0, i1, i2, i3, i4, i5, i6, i7, i8].getD k (fun _ => 0)), cI, cB, cZ, cJ, cT) : EV) = E at hvK
  have hE1 : E.1 = s.heap.size := by rw [← hE]
  have hE2 : E.2.1 = b := by rw [← hE]
  have hl := lv_entry ([.ref b]) (n := 4) (Nat.le_of_ble_eq_true rfl)
  rw [lg_entry_eq]
  generalize (lg_sl ([.ref b]) ++ List.replicate (4 - (lg_sl ([.ref b])).length) Slot.unset).toArray = ls at hl ⊢
  have w := hX.2 E p l e room_1 s m #[Value.ref b] below meth c s.heap [] ls 0 0 (lw_Z below #[Value.ref b] s)
    ⟨hx, hb, hml, hr, hlocks, hown, hts', fun h => absurd h (by decide), hvK, by rw [hE1]; rfl, ⟨by decide, by decide, by show e_n Tf - 0 ≤ 600000; omega, by show e_s Tf - 0 ≤ 7302250; omega⟩, fun _ => ⟨by rw [hE2]; exact hXs, by rw [hE2]; exact hbl, by rw [AA, hE1, hE2]; omega⟩⟩ ⟨Nat.le_refl 0, Nat.le_refl 0⟩
    (by rw [← hE2] at hl; exact hl) ⟨by rw [hE1]; rfl, fun k q hq => by simp [wsE, T_0, e_n] at hq, fun _ _ => rfl, fun _ => by show (0 : Nat) < _; omega⟩ va_S.rf ?_
  · exact w
  · intro H locs pc ls hp hS hd
    refine va_forget (fun q hq => by have := hS.2.2 q hq; rw [AA, hE1] at this; exact this) ?_
    refine W.widen (k := 600000) (n := 7302250) (by omega) (by omega) ?_
    exact lw_ret hx hb hr hlocks hd
