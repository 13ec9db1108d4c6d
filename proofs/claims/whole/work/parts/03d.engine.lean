/-! THE ENGINE, part d: calls -/
theorem lg_sl_len (E : EV) (As : List Value) : (lg_sl (As.map (rv E))).length = (lg_sl As).length := by
  induction As with
  | nil => rfl
  | cons v t ih =>
    simp only [lg_sl, List.map_cons, List.flatMap_cons, List.length_append, rv_cat] at ih ⊢
    rw [ih]
    split <;> rfl
theorem lv_args_map (E : EV) (As : List Value) : ∀ i, lv_args i (As.map (rv E)) = (lv_args i As).map (fun q => (q.1, rv E q.2)) := by
  induction As with
  | nil => intro i; rfl
  | cons v t ih =>
    intro i
    simp only [List.map_cons, lv_args, rv_cat, ih]
def Qg (E : EV) (r : Option Value) (T1 : TH) : Array Value → State → Outcome → State → Prop := fun _ st oc t => oc = .returned (r.map (rv E)) ∧ Hp E T1 t.heap ∧ vK E t ∧ va_F (AA E) st t
def Pg (E : EV) (As : List Value) (T : TH) : Array Value → State → Prop := fun v U => v = (As.map (rv E)).toArray ∧ Hp E T U.heap ∧ vK E U
theorem vK.moved {E : EV} {s U : State} (hW : s.WarmedH U.vm) (h : vK E s) : vK E U :=
  ⟨va_K.moved hW.alike h.1, va_AO.moved hW.alike h.2.1, fun q hq => va_Nw.warmM hW (h.2.2 q hq)⟩
theorem vK.same {E : EV} {s U : State} (hW : s.vm = U.vm) (h : vK E s) : vK E U :=
  ⟨va_K.moved (hW ▸ Vm.Alike.refl s.vm) h.1, va_AO.moved (hW ▸ Vm.Alike.refl s.vm) h.2.1, fun q hq => va_Nw.same rfl hW (h.2.2 q hq)⟩
theorem Pg_blind (E : EV) (As : List Value) (T : TH) : FrameBlind (Pg E As T) := fun a U g mk q => ⟨q.1, q.2.1, q.2.2.same (s := U) (U := U.calling g mk a) rfl⟩
/-- what is known of a method once for all -/
def MF (cm : MR) : Prop := Cond.code cm.2.1 cm.2.2.1 cm.2.2.2.1 cm.2.2.2.2 ∈ lw_g ∧ plainName cm.2.1.cls = true ∧ cm.1 = cm.2.1.cls ∧ cm.2.2.2.1 ≤ 40 ∧ Cond.initialized cm.2.1.cls ∈ lw_g ∧ (cm.2.1.cls ≠ "java/lang/invoke/MethodHandle" ∧ cm.2.1.cls ≠ "java/lang/invoke/VarHandle") ∧ cm.1 ≠ RL
def wg (cm : MR) : List Cond := Cond.code cm.2.1 cm.2.2.1 cm.2.2.2.1 cm.2.2.2.2 :: lw_g
theorem wg_in {cm : MR} (h : MF cm) : ∀ w ∈ wg cm, w ∈ lw_g := fun w hw => (List.mem_cons.mp hw).elim (fun e => e ▸ h.1) id
def rmg (d : Nat) (T T1 : TH) : Room := { frames := d, cells := e_n T1 - e_n T, slots := e_s T1 - e_s T, locals := 64 * d }
theorem met_X {cm : MR} {d : Nat} {As : List Value} {T T1 : TH} {r : Option Value} (hm : MF cm) (hs : (lg_sl As).length ≤ cm.2.2.2.1) (hX : X cm d 0 (lv_args 0 As) [] T r T1) (l : Launch) (E : EV) :
    Met l cm.2.1 (wg cm) (rmg d T T1) (Pg E As T) (Qg E r T1) (e_n T1 - e_n T) (e_s T1 - e_s T) (AA E) := by
  obtain ⟨hm1, hm2, hm3, hm4, hm5, hm6, hm7⟩ := hm
  refine Met.ofW (cc := cm.2.2.1) (maxL := cm.2.2.2.1) (ret := cm.2.2.2.2) hm2 rfl ?_
  intro p e s m args below meth c s₁ B hml hv
  obtain ⟨rfl, hp, hK⟩ := hv
  have hx := B.exec
  have hb := B.bytes
  have hr := B.returns
  have hts := atoms_spec (ws := wg cm) B.pre
  have hown : s.vm.findClass cm.2.1.cls = some m.cls := findClass_of_methodNamed B.named
  have hlocks := B.notSynchronized
  have hin : meth.name = cm.2.1.name := (name_of_methodNamed B.named B.method).1
  rw [lg_entry_eq]
  have hl := lv_entry (As.map (rv E)) (n := cm.2.2.2.1) (by rw [lg_sl_len]; exact hs)
  rw [lv_args_map] at hl
  have w := hX.2 E p l e (rmg d T T1) s m (As.map (rv E)).toArray below meth c s.heap [] _ (e_n T) (e_s T) (MQ below (Qg E r T1) (As.map (rv E)).toArray s (e_n T1 - e_n T) (e_s T1 - e_s T) (AA E))
    ⟨hx, hb, hml, hr, hlocks, by rw [hm3]; exact hown, fun w hw => hts w (List.mem_cons_of_mem _ hw), fun h => hin.trans h, hK, hp.1, ⟨Nat.le_refl _, Nat.le_refl _, Nat.le_refl _, Nat.le_refl _⟩, fun h => absurd h hm7⟩ ⟨Nat.le_refl _, Nat.le_refl _⟩ hl hp va_S.rf ?_
  · rw [Nat.sub_self, Nat.sub_self] at w
    exact w
  · intro H locs pc ls hp1 hS hd
    have hro := hX.1.2.2.2
    have hq : ∀ t : State, t.heap = H → s.WarmedH t.vm → Qg E r T1 (As.map (rv E)).toArray s (.returned (r.map (rv E))) t := fun t ht hW => ⟨rfl, by rw [ht]; exact hp1, hK.moved hW, hS.F ht⟩
    generalize cm.2.2.2.2 = rt at hr hro hd
    cases rt with
    | none =>
      cases r with
      | none => exact W.vret hx hb hr hq hS.2.2 hd
      | some v => exact absurd hro id
    | some ty =>
      cases r with
      | none => cases ty <;> exact absurd hro id
      | some v =>
        cases ty with
        | int => cases v <;> first | exact absurd hro id | exact W.iret hx hb hr hq hS.2.2 hd
        | long => cases v <;> first | exact absurd hro id | exact W.lret hx hb hr hq hS.2.2 hd
        | boolean =>
          cases v with
          | int x => exact W.zret hx hb hr (by rcases hro with rfl | rfl <;> rfl) hq hS.2.2 hd
          | _ => exact absurd hro id
        | object n => cases v <;> first | exact absurd hro id | exact W.aret hx hb hr (Or.inl ⟨_, rfl⟩) (Or.inl rfl) hq hS.2.2 hd | exact W.aret hx hb hr (Or.inl ⟨_, rfl⟩) (Or.inr ⟨_, rfl⟩) hq hS.2.2 hd
        | array n => cases v <;> first | exact absurd hro id | exact W.aret hx hb hr (Or.inr ⟨_, rfl⟩) (Or.inr ⟨_, rfl⟩) hq hS.2.2 hd
        | _ => cases v <;> exact absurd hro id
section Rules4
variable {mm cm : MR} {d pc : Nat} {L : List (Nat × Value)} {st stk : List Value} {T T1 Tf : TH} {r rf : Option Value}
/-- behind a call -/
theorem x_call (As : List Value) (hX : X cm d 0 (lv_args 0 As) [] T r T1) (hm : MF cm) (hs : (lg_sl As).length ≤ cm.2.2.2.1) (k : X mm (d + 1) (pc + 3) L (r.toList ++ st) T1 rf Tf)
    (h : ∀ (E : EV) (p : Program) (l : Launch) (e : Env) (R : Room) (s : State) (m : MethodId) (args : Array Value) (below : List Frame) (meth : Method) (c : Code) (H : Heap) (locs : List Loc) (ls : Array Slot) (cells slots : Nat), p.tables.exec = Jvm.exec → c.code = mm.2.2.1 → c.maxLocals = mm.2.2.2.1 → s.vm.findClass mm.1 = some m.cls → (∀ w ∈ lw_g, w.before args s = true) → vK E s → Hp E T H → ls.size = mm.2.2.2.1 → d + 1 ≤ R.frames → 64 * (d + 1) ≤ R.locals → cells + (e_n T1 - e_n T) ≤ R.cells → slots + (e_s T1 - e_s T) ≤ R.slots →
      Met l cm.2.1 (wg cm) (rmg d T T1) (Pg E As T) (Qg E r T1) (e_n T1 - e_n T) (e_s T1 - e_s T) (AA E) →
      ∃ a, va_Run p l e R s m args below meth c H locs cells slots (e_n T1 - e_n T) (e_s T1 - e_s T) (F0 m pc ls (stk.map (rv E))) (st.map (rv E)) (Qg E r T1 a) (AA E)) : X mm (d + 1) pc L stk T rf Tf := by
  have k1 := k.1.1
  have k2 := k.1.2.1
  have j1 := hX.1.1
  have j2 := hX.1.2.1
  refine ⟨⟨by omega, by omega, k.1.2.2.1.trans hX.1.2.2.1, k.1.2.2.2⟩, fun E p l e R s m args below meth c H locs ls n0 s0 Z C h1 hl hp hS hz => ?_⟩
  have hR := C.2.2.2.2.2.2.2.2.2.2.1
  obtain ⟨a, hrun⟩ := h E p l e R s m args below meth c H locs ls (e_n T - n0) (e_s T - s0) C.1 C.2.1 C.2.2.1 C.2.2.2.2.2.1 C.2.2.2.2.2.2.1 C.2.2.2.2.2.2.2.2.1 hp hl.1 hR.1 hR.2.1 (by omega) (by omega) (met_X hm hs hX l E)
  intro U hU XS
  obtain ⟨v, st₀, t, T', L9, h0, X', hL, e1, e2, ⟨hv, hp1, hK1, hz9, hk9⟩, stp⟩ := hrun U hU XS
  cases hv
  rw [h0] at hz9 hk9
  have w := k.2 E p l e R s m args below meth c T'.heap (locs ++ L9) ls n0 s0 Z (by rw [Cx, hX.1.2.2.1]; exact C) ⟨by omega, by omega⟩ hl (by rw [e1]; exact hp1)
    ⟨Nat.le_trans hS.1 (by rw [e1]; exact hz9), fun q g1 g2 => by rw [e1, hk9 q (Nat.lt_of_lt_of_le g1 hS.1) g2]; exact hS.2.1 q g1 g2, fun q hq => by
      rcases List.mem_append.mp hq with g | g
      · exact hS.2.2 q g
      · exact hL q g⟩ hz
  rw [show e_n T1 - n0 = e_n T - n0 + (e_n T1 - e_n T) by omega, show e_s T1 - s0 = e_s T - s0 + (e_s T1 - e_s T) by omega] at w
  obtain ⟨t2, a1, b1⟩ := w T' rfl X'
  refine ⟨t2, stp t2 ?_, b1⟩
  cases r <;> exact a1
def LV (own : String) (idx ci : Nat) (cm : MR) (n : Nat) : Prop := ci < 9 ∧ Cond.methodLink own idx cm.2.1 ∈ lw_g ∧ Cond.instanceMethod cm.2.1 ∈ lw_g ∧ Cond.selects (clR ci) cm.2.1 cm.2.1 ∈ lw_g ∧ Cond.initialized (clR ci) ∈ lw_g ∧ cm.2.1.cls = clR ci ∧ (parseMethodDescriptor cm.2.1.desc).map (fun d => d.parameters.length) = some n
def LI (own : String) (idx : Nat) (cm : MR) (n : Nat) : Prop := Cond.methodLink own idx cm.2.1 ∈ lw_g ∧ Cond.instanceMethod cm.2.1 ∈ lw_g ∧ cm.2.1.name = "<init>" ∧ cm.2.2.2.2 = none ∧ (parseMethodDescriptor cm.2.1.desc).map (fun d => d.parameters.length) = some n
def LIN (own : String) (idx : Nat) (cm : MR) (n : Nat) : Prop := (own, idx, cm.2.1) ∈ nests ∧ Cond.instanceMethod cm.2.1 ∈ lw_g ∧ cm.2.1.name = "<init>" ∧ cm.2.2.2.2 = none ∧ (parseMethodDescriptor cm.2.1.desc).map (fun d => d.parameters.length) = some n
def LSt (own : String) (idx : Nat) (cm : MR) (n : Nat) : Prop := Cond.methodLink own idx cm.2.1 ∈ lw_g ∧ Cond.static cm.2.1 ∈ lw_g ∧ (parseMethodDescriptor cm.2.1.desc).map (fun d => d.parameters.length) = some n
def LSN (own : String) (idx : Nat) (cm : MR) (n : Nat) : Prop := (own, idx, cm.2.1) ∈ nests ∧ Cond.static cm.2.1 ∈ lw_g ∧ (parseMethodDescriptor cm.2.1.desc).map (fun d => d.parameters.length) = some n
theorem cat_map (E : EV) (st : List Value) : ((st.map (rv E)).map fun v => v.category).sum = (st.map fun v => v.category).sum := by
  rw [List.map_map]
  congr 1
  apply List.map_congr_left
  intro v _
  exact rv_cat E v
theorem x_callV {idx ci n a : Nat} (As : List Value) (hd : decode mm.2.2.1 pc = .ok (.invokevirtual idx, 3)) (hl : LV mm.1 idx ci cm n) (hm : MF cm) (hK : e_K T a = ci + 1) (hX : X cm d 0 (lv_args 0 (.ref a :: As)) [] T r T1) (hstk : stk = As.reverse ++ .ref a :: st) (hn : As.length = n) (hs : (lg_sl (.ref a :: As)).length ≤ cm.2.2.2.1) (hc : (st.map fun v => v.category).sum ≤ 8) (k : X mm (d + 1) (pc + 3) L (r.toList ++ st) T1 rf Tf) : X mm (d + 1) pc L stk T rf Tf := by
  obtain ⟨l1, l2, l3, l4, l5, l6, l7⟩ := hl
  refine x_call (.ref a :: As) hX hm hs k (fun E p l e R s m args below meth c H locs ls cells slots hx hb hml ho hts hK9 hp hls hf hlo hce hsl hM => ⟨(Value.ref (E.1 + a) :: As.map (rv E)).toArray, ?_⟩)
  refine va_runV (C := clR ci) (b := E.1 + a) (As := As.map (rv E)) (ws := wg cm) (bytes := cm.2.2.1) (maxL := cm.2.2.2.1) (ret := cm.2.2.2.2) (Ts := lw_g) (n := n) ⟨hx, hb, hml, ho, hts⟩ hM (cwV n hts (good_g ?_) rfl rfl rfl ⟨l6, hm.2.2.2.2.2.1.1, hm.2.2.2.2.2.1.2, l7⟩ ⟨hf, ?_⟩) ⟨Pg_blind _ _ _, va_recv hK9.1 hp.2.1 (cl_ok ci l1).1 (q0 := a) (by rw [wsE_at E T (hp.lt (by omega)), cellE_o E hK l1]), fun U hU hW => ⟨rfl, by rw [hU]; exact hp, hK9.moved hW⟩⟩ rfl (by simp [hn]) hls ?_ (lv_room (by rw [cat_map]; exact hc)) hd ⟨hce, hsl⟩
  · intro w hw
    unfold wsV at hw
    rcases List.mem_append.mp hw with h | h
    · simp only [List.mem_cons, List.not_mem_nil, or_false] at h
      rcases h with rfl | rfl | rfl | rfl
      · exact l2
      · exact l3
      · exact l4
      · exact l5
    · exact wg_in hm w h
  · have := hm.2.2.2.1
    show 8 + (cm.2.2.2.1 + 11) + 64 * d ≤ R.locals
    omega
  · show stk.map (rv E) = _
    rw [hstk]
    simp [rv]
theorem x_callS {idx n : Nat} (As : List Value) (hd : decode mm.2.2.1 pc = .ok (.invokestatic idx, 3)) (hl : LSt mm.1 idx cm n) (hm : MF cm) (hX : X cm d 0 (lv_args 0 As) [] T r T1) (hstk : stk = As.reverse ++ st) (hn : As.length = n) (hs : (lg_sl As).length ≤ cm.2.2.2.1) (hc : (st.map fun v => v.category).sum ≤ 8) (k : X mm (d + 1) (pc + 3) L (r.toList ++ st) T1 rf Tf) : X mm (d + 1) pc L stk T rf Tf := by
  obtain ⟨l2, l3, l7⟩ := hl
  refine x_call As hX hm hs k (fun E p l e R s m args below meth c H locs ls cells slots hx hb hml ho hts hK9 hp hls hf hlo hce hsl hM => ⟨(As.map (rv E)).toArray, ?_⟩)
  refine va_runS (As := As.map (rv E)) (ws := wg cm) (bytes := cm.2.2.1) (maxL := cm.2.2.2.1) (ret := cm.2.2.2.2) (Ts := lw_g) (n := n) ⟨hx, hb, hml, ho, hts⟩ hM (va_cwS n hts (good_g ?_) rfl rfl rfl ⟨hm.2.2.2.2.2.1.1, hm.2.2.2.2.2.1.2, l7⟩ ⟨hf, ?_⟩) ⟨Pg_blind _ _ _, fun U hU hW => ⟨rfl, by rw [hU]; exact hp, hK9.moved hW⟩⟩ rfl (by simp [hn]) hls ?_ (lv_room (by rw [cat_map]; exact hc)) hd ⟨hce, hsl⟩
  · intro w hw
    unfold va_wsS at hw
    rcases List.mem_append.mp hw with h | h
    · simp only [List.mem_cons, List.not_mem_nil, or_false] at h
      rcases h with rfl | rfl | rfl
      · exact l2
      · exact l3
      · exact hm.2.2.2.2.1
    · exact wg_in hm w h
  · have := hm.2.2.2.1
    show 8 + (cm.2.2.2.1 + 11) + 64 * d ≤ R.locals
    omega
  · show stk.map (rv E) = _
    rw [hstk]
    simp
theorem x_callSN {idx n : Nat} (As : List Value) (hd : decode mm.2.2.1 pc = .ok (.invokestatic idx, 3)) (hl : LSN mm.1 idx cm n) (hm : MF cm) (hX : X cm d 0 (lv_args 0 As) [] T r T1) (hstk : stk = As.reverse ++ st) (hn : As.length = n) (hs : (lg_sl As).length ≤ cm.2.2.2.1) (hc : (st.map fun v => v.category).sum ≤ 8) (k : X mm (d + 1) (pc + 3) L (r.toList ++ st) T1 rf Tf) : X mm (d + 1) pc L stk T rf Tf := by
  obtain ⟨l2, l3, l7⟩ := hl
  refine x_call As hX hm hs k (fun E p l e R s m args below meth c H locs ls cells slots hx hb hml ho hts hK9 hp hls hf hlo hce hsl hM => ⟨(As.map (rv E)).toArray, ?_⟩)
  refine va_runSN (As := As.map (rv E)) (ws := wg cm) (bytes := cm.2.2.1) (maxL := cm.2.2.2.1) (ret := cm.2.2.2.2) (Ts := lw_g) (n := n) (host := RX7) ⟨hx, hb, hml, ho, hts⟩ hM ⟨va_cnB n hts (good_g (wg_in hm)) rfl rfl rfl (hK9.2.2 _ l2) (hts _ hm.2.2.2.2.1) ⟨hm.2.2.2.2.2.1.1, hm.2.2.2.2.2.1.2, l7⟩ ⟨hf, ?_⟩, hts _ l3, trivial⟩ ⟨Pg_blind _ _ _, fun U hU hW => ⟨rfl, by rw [hU]; exact hp, hK9.moved hW⟩⟩ rfl (by simp [hn]) hls ?_ (lv_room (by rw [cat_map]; exact hc)) hd ⟨hce, hsl⟩
  · have := hm.2.2.2.1
    show 8 + (cm.2.2.2.1 + 11) + 64 * d ≤ R.locals
    omega
  · show stk.map (rv E) = _
    rw [hstk]
    simp
theorem x_callI {idx n a : Nat} (As : List Value) (hd : decode mm.2.2.1 pc = .ok (.invokespecial idx, 3)) (hl : LI mm.1 idx cm n) (hm : MF cm) (hX : X cm d 0 (lv_args 0 (.ref a :: As)) [] T r T1) (hstk : stk = As.reverse ++ .ref a :: st) (hn : As.length = n) (hs : (lg_sl (.ref a :: As)).length ≤ cm.2.2.2.1) (hc : (st.map fun v => v.category).sum ≤ 8) (k : X mm (d + 1) (pc + 3) L (r.toList ++ st) T1 rf Tf) : X mm (d + 1) pc L stk T rf Tf := by
  obtain ⟨l2, l3, l4, l5, l7⟩ := hl
  refine x_call (.ref a :: As) hX hm hs k (fun E p l e R s m args below meth c H locs ls cells slots hx hb hml ho hts hK9 hp hls hf hlo hce hsl hM => ⟨(Value.ref (E.1 + a) :: As.map (rv E)).toArray, ?_⟩)
  refine va_runI (b := E.1 + a) (As := As.map (rv E)) (ws := wg cm) (bytes := cm.2.2.1) (maxL := cm.2.2.2.1) (Ts := lw_g) (n := n) ⟨hx, hb, hml, ho, hts⟩ hM (cwI (ws' := lw_g) n hts (good_g (wg_in hm)) (by rw [wg, l5]) rfl rfl (hts _ hm.2.2.2.2.1) (hts _ l2) (hts _ l3) l4 ⟨hm.2.2.2.2.2.1.1, hm.2.2.2.2.2.1.2, l7⟩ ⟨hf, ?_⟩) ⟨Pg_blind _ _ _, fun U hU hW => ⟨rfl, by rw [hU]; exact hp, hK9.moved hW⟩⟩ rfl (by simp [hn]) hls ?_ (lv_room (by rw [cat_map]; exact hc)) hd ⟨hce, hsl⟩
  · have := hm.2.2.2.1
    show 8 + (cm.2.2.2.1 + 11) + 64 * d ≤ R.locals
    omega
  · show stk.map (rv E) = _
    rw [hstk]
    simp [rv]
theorem x_callIN {idx n a : Nat} (As : List Value) (hd : decode mm.2.2.1 pc = .ok (.invokespecial idx, 3)) (hl : LIN mm.1 idx cm n) (hm : MF cm) (hX : X cm d 0 (lv_args 0 (.ref a :: As)) [] T r T1) (hstk : stk = As.reverse ++ .ref a :: st) (hn : As.length = n) (hs : (lg_sl (.ref a :: As)).length ≤ cm.2.2.2.1) (hc : (st.map fun v => v.category).sum ≤ 8) (k : X mm (d + 1) (pc + 3) L (r.toList ++ st) T1 rf Tf) : X mm (d + 1) pc L stk T rf Tf := by
  obtain ⟨l2, l3, l4, l5, l7⟩ := hl
  refine x_call (.ref a :: As) hX hm hs k (fun E p l e R s m args below meth c H locs ls cells slots hx hb hml ho hts hK9 hp hls hf hlo hce hsl hM => ⟨(Value.ref (E.1 + a) :: As.map (rv E)).toArray, ?_⟩)
  refine va_runIN (b := E.1 + a) (As := As.map (rv E)) (ws := wg cm) (bytes := cm.2.2.1) (maxL := cm.2.2.2.1) (Ts := lw_g) (n := n) (host := RX7) ⟨hx, hb, hml, ho, hts⟩ hM ⟨va_cnB (ws' := lw_g) n hts (good_g (wg_in hm)) (by rw [wg, l5]) rfl rfl (hK9.2.2 _ l2) (hts _ hm.2.2.2.2.1) ⟨hm.2.2.2.2.2.1.1, hm.2.2.2.2.2.1.2, l7⟩ ⟨hf, ?_⟩, l4, hts _ l3⟩ ⟨Pg_blind _ _ _, fun U hU hW => ⟨rfl, by rw [hU]; exact hp, hK9.moved hW⟩⟩ rfl (by simp [hn]) hls ?_ (lv_room (by rw [cat_map]; exact hc)) hd ⟨hce, hsl⟩
  · have := hm.2.2.2.1
    show 8 + (cm.2.2.2.1 + 11) + 64 * d ≤ R.locals
    omega
  · show stk.map (rv E) = _
    rw [hstk]
    simp [rv]
/-- Object's constructor -/
theorem oi_c : Cond.code objectInit ⟨#[0xb1]⟩ 1 none ∈ lw_g := inG (by decide +kernel) (by decide +kernel)
theorem oi_i : Cond.instanceMethod objectInit ∈ lw_g := inG (by decide +kernel) (by decide +kernel)
theorem x_objInit {idx a : Nat} (hd : decode mm.2.2.1 pc = .ok (.invokespecial idx, 3)) (hl : Cond.methodLink mm.1 idx objectInit ∈ lw_g) (hc : (st.map fun v => v.category).sum ≤ 8) (k : X mm (d + 1) (pc + 3) L st T rf Tf) : X mm (d + 1) pc L (.ref a :: st) T rf Tf :=
  ⟨k.1, fun E p l e R s m args below meth c H locs ls n0 s0 Z C h1 hls hp hS hz => by
    have hR := C.2.2.2.2.2.2.2.2.2.2.1
    have hts := C.2.2.2.2.2.2.1
    have hcm := cat_map E st
    refine W.objInit C.1 C.2.1 C.2.2.2.2.2.1 (hts _ hl) (hts _ oi_i) (hts _ oi_c) rfl (hls.1.trans C.2.2.1.symm) (rest := st.map (rv E)) rfl hd (by omega) ?_ (k.2 E p l e R s m args below meth c H locs ls n0 s0 Z C h1 hls hp hS hz)
    have := lv_room (m := m) (pc := pc) (ls := ls) (rest := (Value.ref a :: st).map (rv E)) (st := st.map (rv E)) (by omega)
    omega⟩
end Rules4
