def lw_g : List Cond := lw_tbl.filter goodWord
theorem inG {w : Cond} (h : w ∈ lw_tbl) (hg : goodWord w = true) : w ∈ lw_g := List.mem_filter.mpr ⟨h, hg⟩
theorem inGs {ws : List Cond} (h : ∀ w ∈ ws, w ∈ lw_tbl) (hg : ws.all goodWord = true) : ∀ w ∈ ws, w ∈ lw_g := fun w hw => inG (h w hw) (List.all_eq_true.mp hg w hw)
theorem good_g {ws : List Cond} (h : ∀ w ∈ ws, w ∈ lw_g) : GoodIn lw_g ws := fun w hw => ⟨h w hw, good_of_word (List.mem_filter.mp (h w hw)).2⟩
/-- the links between nest mates -/
def nests : List (String × Nat × MethodName) := [(RX7, 11, yX4_init), (RX7, 22, yX3_init), (RX7, 25, yX5_init), (RX7, 32, yX1_init), (RX4, 53, yX7_isLetter), (RX0, 133, yX7_isDigit), (RX0, 136, yX7_isLetter)]
/-! THE ENGINE, part a: a typed heap, what it says of the machine's heap, the judgement X -/
def up2 {α : Type} (f : Nat → Nat → α) (g a : Nat) (v : α) : Nat → Nat → α := fun g' a' => if g' = g ∧ a' = a then v else f g' a'
theorem up2_s {α : Type} (f : Nat → Nat → α) (g a : Nat) (v : α) : up2 f g a v g a = v := by simp [up2]
theorem up2_g {α : Type} (f : Nat → Nat → α) {g a g' a' : Nat} (v : α) (h : g' ≠ g) : up2 f g a v g' a' = f g' a' := by simp [up2, h]
theorem up2_a {α : Type} (f : Nat → Nat → α) {g a g' a' : Nat} (v : α) (h : a' ≠ a) : up2 f g a v g' a' = f g' a' := by simp [up2, h]
/-- kinds, int fields, long fields, reference fields (by field and cell), int rows, long rows, reference rows (by cell and place), lengths, how many cells, how many slots, the script -/
abbrev TH : Type := (Nat → Nat) × (Nat → Nat → Int32) × (Nat → Nat → Int64) × (Nat → Nat → Option Nat) × (Nat → Nat → Int32) × (Nat → Nat → Int64) × (Nat → Nat → Option Nat) × (Nat → Nat) × Nat × Nat × (Nat × (Nat → Int32))
def e_K (T : TH) : Nat → Nat := T.1
def e_i (T : TH) : Nat → Nat → Int32 := T.2.1
def e_l (T : TH) : Nat → Nat → Int64 := T.2.2.1
def e_r (T : TH) : Nat → Nat → Option Nat := T.2.2.2.1
def e_ai (T : TH) : Nat → Nat → Int32 := T.2.2.2.2.1
def e_al (T : TH) : Nat → Nat → Int64 := T.2.2.2.2.2.1
def e_ar (T : TH) : Nat → Nat → Option Nat := T.2.2.2.2.2.2.1
def e_len (T : TH) : Nat → Nat := T.2.2.2.2.2.2.2.1
def e_n (T : TH) : Nat := T.2.2.2.2.2.2.2.2.1
def e_s (T : TH) : Nat := T.2.2.2.2.2.2.2.2.2.1
def e_sc (T : TH) : Nat × (Nat → Int32) := T.2.2.2.2.2.2.2.2.2.2
def s_i (T : TH) (g a : Nat) (v : Int32) : TH := (T.1, up2 T.2.1 g a v, T.2.2)
def s_l (T : TH) (g a : Nat) (v : Int64) : TH := (T.1, T.2.1, up2 T.2.2.1 g a v, T.2.2.2)
def s_r (T : TH) (g a : Nat) (v : Option Nat) : TH := (T.1, T.2.1, T.2.2.1, up2 T.2.2.2.1 g a v, T.2.2.2.2)
def s_ai (T : TH) (a j : Nat) (v : Int32) : TH := (T.1, T.2.1, T.2.2.1, T.2.2.2.1, up2 T.2.2.2.2.1 a j v, T.2.2.2.2.2)
def s_al (T : TH) (a j : Nat) (v : Int64) : TH := (T.1, T.2.1, T.2.2.1, T.2.2.2.1, T.2.2.2.2.1, up2 T.2.2.2.2.2.1 a j v, T.2.2.2.2.2.2)
def s_ar (T : TH) (a j : Nat) (v : Option Nat) : TH := (T.1, T.2.1, T.2.2.1, T.2.2.2.1, T.2.2.2.2.1, T.2.2.2.2.2.1, up2 T.2.2.2.2.2.2.1 a j v, T.2.2.2.2.2.2.2)
/-- whole rows at once -/
def s_ais (T : TH) (a : Nat) (f : Nat → Int32) : TH := (T.1, T.2.1, T.2.2.1, T.2.2.2.1, va_up T.2.2.2.2.1 a f, T.2.2.2.2.2)
def s_als (T : TH) (a : Nat) (f : Nat → Int64) : TH := (T.1, T.2.1, T.2.2.1, T.2.2.2.1, T.2.2.2.2.1, va_up T.2.2.2.2.2.1 a f, T.2.2.2.2.2.2)
/-- a new cell of kind k with N slots: all that was told of its number is forgotten -/
def s_new (T : TH) (k N : Nat) : TH := (va_up (e_K T) (e_n T) k, fun g => va_up (e_i T g) (e_n T) 0, fun g => va_up (e_l T g) (e_n T) 0, fun g => va_up (e_r T g) (e_n T) none, va_up (e_ai T) (e_n T) (fun _ => 0), va_up (e_al T) (e_n T) (fun _ => 0), va_up (e_ar T) (e_n T) (fun _ => none), va_up (e_len T) (e_n T) N, e_n T + 1, e_s T + N, e_sc T)
/-- base, the script's cell, the classes' numbers and slots, the array classes (int, byte, boolean, long, Table) -/
abbrev EV : Type := Nat × Nat × va_G × ClassId × ClassId × ClassId × ClassId × ClassId
def rv (E : EV) : Value → Value
  | .ref a => .ref (E.1 + a)
  | .float _ => .ref E.2.1
  | v => v
theorem rv_cat (E : EV) (v : Value) : (rv E v).category = v.category := by cases v <;> rfl
theorem rv_rf (E : EV) (o : Option Nat) : rv E (va_rf o) = va_rf (o.map (E.1 + ·)) := by cases o <;> rfl
def kCl (E : EV) (k : Nat) : ClassId := if k = 20 then E.2.2.2.1 else if k = 21 then E.2.2.2.2.1 else if k = 22 then E.2.2.2.2.2.1 else if k = 23 then E.2.2.2.2.2.2.1 else E.2.2.2.2.2.2.2
def eTys (E : EV) : List (ClassId × FieldType) := [(E.2.2.2.1, .int), (E.2.2.2.2.1, .byte), (E.2.2.2.2.2.1, .boolean), (E.2.2.2.2.2.2.1, .long), (E.2.2.2.2.2.2.2, .object RX3)]
/-- of each field: 0 int, 1 long, 2 a reference, 3 boolean -/
def ftab : List (List Nat) := [[2, 2, 2, 0, 2, 2, 0, 0], [2, 2, 2, 2, 2, 2, 2, 2, 2, 2, 0, 0], [2, 2, 0, 0], [2, 2, 2, 2, 0, 0, 0, 3, 0], [2, 0, 0, 0, 0, 0, 0, 1], [2, 0], [2, 2, 0, 2, 2], [2, 2, 2, 2, 2, 0], [2, 0, 0, 0, 0, 0, 0, 0, 1, 1, 1, 1, 1, 3, 0, 0, 2, 2, 2, 2, 2, 0, 0, 2, 2, 2, 2, 2, 2, 2, 0, 0, 2, 2, 2, 2, 0, 0, 2, 0, 2, 2, 2, 2, 2, 2, 2, 2, 2, 2, 0, 2, 2, 2]]
def ftc (ci k : Nat) : Nat := (ftab.getD ci []).getD k 0
def nfd (ci : Nat) : Nat := (ftab.getD ci []).length
/-- what field k of cell a holds, as the program sees it -/
def gvl (T : TH) (ci k a : Nat) : Value := if ftc ci k = 1 then .long (e_l T (64 * ci + k) a) else if ftc ci k = 2 then va_rf (e_r T (64 * ci + k) a) else .int (e_i T (64 * ci + k) a)
def kDat (E : EV) (T : TH) (k a : Nat) : (Nat → Int32) ⊕ (Nat → Int64) ⊕ (Nat → UInt32) ⊕ (Nat → UInt64) ⊕ (Nat → Option Nat) := if k = 24 then .inr (.inr (.inr (.inr (fun j => (e_ar T a j).map (E.1 + ·))))) else if k = 23 then .inr (.inl (e_al T a)) else .inl (e_ai T a)
def cellE (E : EV) (T : TH) (a : Nat) : va_E := if e_K T a < 20 then .inr (e_K T a - 1, (List.range (nfd (e_K T a - 1))).map (fun k => rv E (gvl T (e_K T a - 1) k a))) else .inl (kCl E (e_K T a), e_len T a, kDat E T (e_K T a) a)
def wsE (E : EV) (T : TH) : va_W := (List.range (e_n T)).map (fun a => (E.1 + a, cellE E T a))
def AA (E : EV) : Nat → Prop := fun q => E.1 ≤ q
def Hp (E : EV) (T : TH) (H : Heap) : Prop := H.size = E.1 + e_n T ∧ va_P E.2.2.1 vwCl (wsE E T) H ∧ (∀ a, e_n T ≤ a → e_K T a = 0) ∧ ∀ a, e_len T a < 2147483648
theorem wsE_at (E : EV) (T : TH) {a : Nat} (h : a < e_n T) : (wsE E T)[a]? = some (E.1 + a, cellE E T a) := by
  simp [wsE, h]
theorem wsE_len (E : EV) (T : TH) : (wsE E T).length = e_n T := by simp [wsE]
theorem wsE_D (E : EV) (T : TH) : va_D (AA E) (wsE E T) := by
  refine ⟨fun i j p q hi hj e => ?_, fun k q hk => ?_⟩
  · have h1 : i < e_n T := by have := (List.getElem?_eq_some_iff.mp hi).1; rwa [wsE_len] at this
    have h2 : j < e_n T := by have := (List.getElem?_eq_some_iff.mp hj).1; rwa [wsE_len] at this
    rw [wsE_at E T h1] at hi
    rw [wsE_at E T h2] at hj
    cases hi; cases hj
    exact Nat.add_left_cancel e
  · have h1 : k < e_n T := by have := (List.getElem?_eq_some_iff.mp hk).1; rwa [wsE_len] at this
    rw [wsE_at E T h1] at hk
    cases hk
    exact Nat.le_add_right _ _
theorem Hp.lt {E : EV} {T : TH} {H : Heap} (h : Hp E T H) {a : Nat} (hk : e_K T a ≠ 0) : a < e_n T := by
  rcases Nat.lt_or_ge a (e_n T) with q | q
  · exact q
  · exact absurd (h.2.2.1 a q) hk
/-- one cell changed -/
theorem wsE_set (E : EV) {T T' : TH} {a : Nat} {c : va_E} (hn : e_n T' = e_n T) (ha : cellE E T' a = c) (ho : ∀ b, b ≠ a → cellE E T' b = cellE E T b) : (wsE E T).set a (E.1 + a, c) = wsE E T' := by
  apply List.ext_getElem?
  intro i
  rw [List.getElem?_set]
  by_cases hi : a = i
  · subst hi
    rcases Nat.lt_or_ge a (e_n T) with q | q
    · rw [wsE_at E T' (by rw [hn]; exact q), ha]; simp [wsE_len, q]
    · simp [wsE_len, Nat.not_lt.mpr q, wsE, hn, q]
  · rw [if_neg hi]
    simp only [wsE, hn, List.getElem?_map]
    by_cases q : i < e_n T
    · simp [q, ho i (fun e => hi e.symm)]
    · simp [q]
/-- a method: its class, its name, its bytes, its locals, what it returns -/
abbrev MR : Type := String × MethodName × ByteArray × Nat × Option FieldType
def retI : Option FieldType → Instr
  | none => .return_
  | some .long => .lreturn
  | some (.object _) => .areturn
  | some (.array _) => .areturn
  | some _ => .ireturn
def rOk : Option FieldType → Option Value → Prop
  | none, none => True
  | some .int, some (.int _) => True
  | some .boolean, some (.int v) => v = 0 ∨ v = 1
  | some .long, some (.long _) => True
  | some (.object _), some (.ref _) => True
  | some (.object _), some .null => True
  | some (.array _), some (.ref _) => True
  | _, _ => False
/-- what the tables say: classes, array classes, links between nest mates -/
def vK (E : EV) (s : State) : Prop := va_K E.2.2.1 vwCl (eTys E) s ∧ va_AO RX3 s ∧ ∀ q ∈ nests, va_Nw (.methodLinkNest q.1 q.2.1 q.2.2 RX7) s
def Cx (E : EV) (mm : MR) (d : Nat) (p : Program) (R : Room) (s : State) (m : MethodId) (args : Array Value) (meth : Method) (c : Code) (n0 s0 : Nat) (T Tf : TH) : Prop :=
  p.tables.exec = Jvm.exec ∧ c.code = mm.2.2.1 ∧ c.maxLocals = mm.2.2.2.1 ∧ meth.sig.returnType = mm.2.2.2.2 ∧ meth.locks = false ∧ s.vm.findClass mm.1 = some m.cls ∧ (∀ w ∈ lw_g, w.before args s = true) ∧ (mm.2.1.name = "<init>" → meth.name = "<init>") ∧ vK E s ∧ s.heap.size = E.1 + n0 ∧ (d ≤ R.frames ∧ 64 * d ≤ R.locals ∧ e_n Tf - n0 ≤ R.cells ∧ e_s Tf - s0 ≤ R.slots) ∧ (mm.1 = RL → va_X E.2.1 (e_sc T).1 (e_sc T).2 s s.heap ∧ E.2.1 < s.heap.size ∧ ¬ AA E E.2.1)
def Rl (E : EV) (mm : MR) (L : List (Nat × Value)) (ls : Array Slot) : Prop := lv_has ls mm.2.2.2.1 (L.map (fun q => (q.1, rv E q.2)))
def RetOk (E : EV) (mm : MR) (p : Program) (l : Launch) (e : Env) (R : Room) (s : State) (m : MethodId) (args : Array Value) (below : List Frame) (meth : Method) (c : Code) (n0 s0 : Nat) (r : Option Value) (Tf : TH) (Z : State → Prop) : Prop :=
  ∀ (H : Heap) (locs : List Loc) (pc : Nat) (ls : Array Slot), Hp E Tf H → va_S (AA E) s.heap H locs → decode mm.2.2.1 pc = .ok (retI mm.2.2.2.2, 1) → W p l e R s m args below meth c H locs (e_n Tf - n0) (e_s Tf - s0) Z (F0 m pc ls ((r.map (rv E)).toList))
/-- FROM HERE THE METHOD ENDS: at pc, with locals L, operands st and heap T it comes to its return, with answer r and heap Tf -/
def X (mm : MR) (d pc : Nat) (L : List (Nat × Value)) (st : List Value) (T : TH) (r : Option Value) (Tf : TH) : Prop :=
  (e_n T ≤ e_n Tf ∧ e_s T ≤ e_s Tf ∧ e_sc Tf = e_sc T ∧ rOk mm.2.2.2.2 r) ∧ ∀ (E : EV) (p : Program) (l : Launch) (e : Env) (R : Room) (s : State) (m : MethodId) (args : Array Value) (below : List Frame) (meth : Method) (c : Code) (H : Heap) (locs : List Loc) (ls : Array Slot) (n0 s0 : Nat) (Z : State → Prop),
    Cx E mm d p R s m args meth c n0 s0 T Tf → n0 ≤ e_n T ∧ s0 ≤ e_s T → Rl E mm L ls → Hp E T H → va_S (AA E) s.heap H locs → RetOk E mm p l e R s m args below meth c n0 s0 r Tf Z →
    W p l e R s m args below meth c H locs (e_n T - n0) (e_s T - s0) Z (F0 m pc ls (st.map (rv E)))
theorem W_sz {p : Program} {l : Launch} {e : Env} {R : Room} {s : State} {m : MethodId} {args : Array Value} {below : List Frame} {meth : Method} {c : Code} {H : Heap} {locs : List Loc} {cells slots : Nat} {Z : State → Prop} {g : JFrame} (h : H.size ≤ s.heap.size + cells → W p l e R s m args below meth c H locs cells slots Z g) : W p l e R s m args below meth c H locs cells slots Z g := by
  intro T hT X
  refine h ?_ T hT X
  have h2 : (T.setVm s.vm).heap.size ≤ s.heap.size + cells := X.same.2.2.1
  rw [← hT]
  exact h2
section Rules
variable {mm : MR} {d pc pc' : Nat} {L : List (Nat × Value)} {st st' : List Value} {T Tf : TH} {r : Option Value}
/-- fewer locals told -/
theorem x_loc {L' : List (Nat × Value)} (h : ∀ q ∈ L', q ∈ L) (k : X mm d pc L' st T r Tf) : X mm d pc L st T r Tf :=
  ⟨k.1, fun E p l e R s m args below meth c H locs ls n0 s0 Z C h1 hl => k.2 E p l e R s m args below meth c H locs ls n0 s0 Z C h1 ⟨hl.1, hl.2.1, fun q hq => by
    obtain ⟨q0, h0, rfl⟩ := List.mem_map.mp hq
    exact hl.2.2 _ (List.mem_map.mpr ⟨q0, h q0 h0, rfl⟩)⟩⟩
/-- an instruction that leaves heap and locals -/
theorem x_pure (k : X mm d pc' L st' T r Tf)
    (h : ∀ (E : EV) (p : Program) (l : Launch) (e : Env) (R : Room) (s : State) (m : MethodId) (args : Array Value) (below : List Frame) (meth : Method) (c : Code) (H : Heap) (locs : List Loc) (ls : Array Slot) (cells slots : Nat) (Z : State → Prop), p.tables.exec = Jvm.exec → c.code = mm.2.2.1 → s.vm.findClass mm.1 = some m.cls → (∀ w ∈ lw_g, w.before args s = true) → Rl E mm L ls →
      W p l e R s m args below meth c H locs cells slots Z (F0 m pc' ls (st'.map (rv E))) → W p l e R s m args below meth c H locs cells slots Z (F0 m pc ls (st.map (rv E)))) : X mm d pc L st T r Tf :=
  ⟨k.1, fun E p l e R s m args below meth c H locs ls n0 s0 Z C h1 hl hp hs hz => h E p l e R s m args below meth c H locs ls _ _ Z C.1 C.2.1 C.2.2.2.2.2.1 C.2.2.2.2.2.2.1 hl (k.2 E p l e R s m args below meth c H locs ls n0 s0 Z C h1 hl hp hs hz)⟩
theorem x_iconst {n : Int} {v : Int32} (hd : decode mm.2.2.1 pc = .ok (.iconst n, 1)) (hv : Int32.ofInt n = v) (k : X mm d (pc + 1) L (.int v :: st) T r Tf) : X mm d pc L st T r Tf := x_pure k (fun _ _ _ _ _ _ _ _ _ _ _ _ _ _ _ _ _ hx hb _ _ _ w => lv_iconst hx hb hd hv w)
theorem x_bipush {n : Int} {v : Int32} (hd : decode mm.2.2.1 pc = .ok (.bipush n, 2)) (hv : (Int8.ofInt n).toInt32 = v) (k : X mm d (pc + 2) L (.int v :: st) T r Tf) : X mm d pc L st T r Tf := x_pure k (fun _ _ _ _ _ _ _ _ _ _ _ _ _ _ _ _ _ hx hb _ _ _ w => lv_bipush hx hb hd hv w)
theorem x_sipush {n : Int} {v : Int32} (hd : decode mm.2.2.1 pc = .ok (.sipush n, 3)) (hv : (Int16.ofInt n).toInt32 = v) (k : X mm d (pc + 3) L (.int v :: st) T r Tf) : X mm d pc L st T r Tf := x_pure k (fun _ _ _ _ _ _ _ _ _ _ _ _ _ _ _ _ _ hx hb _ _ _ w => lv_sipush hx hb hd hv w)
theorem x_lconst {n : Fin 2} {v : Int64} (hd : decode mm.2.2.1 pc = .ok (.lconst n, 1)) (hv : Int64.ofNat (n : Nat) = v) (k : X mm d (pc + 1) L (.long v :: st) T r Tf) : X mm d pc L st T r Tf := x_pure k (fun _ _ _ _ _ _ _ _ _ _ _ _ _ _ _ _ _ hx hb _ _ _ w => lv_lconst hx hb hd hv w)
theorem x_null (hd : decode mm.2.2.1 pc = .ok (.aconst_null, 1)) (k : X mm d (pc + 1) L (.null :: st) T r Tf) : X mm d pc L st T r Tf := x_pure k (fun _ _ _ _ _ _ _ _ _ _ _ _ _ _ _ _ _ hx hb _ _ _ w => lv_null hx hb hd w)
theorem x_ldc2 {index : Nat} {v : Int64} (hd : decode mm.2.2.1 pc = .ok (.ldc2_w index, 3)) (hc : Cond.constantLong mm.1 index v ∈ lw_g) (k : X mm d (pc + 3) L (.long v :: st) T r Tf) : X mm d pc L st T r Tf := x_pure k (fun _ _ _ _ _ _ _ _ _ _ _ _ _ _ _ _ _ hx hb ho hts _ w => lv_ldc2 hx hb ho (hts _ hc) hd w)
theorem Rl.get {E : EV} {ls : Array Slot} (h : Rl E mm L ls) (k : Nat) {i : Nat} {v : Value} (hk : L[k]? = some (i, v)) : ls[i]? = some (.val (rv E v)) := lv_at h k (by rw [List.getElem?_map, hk]; rfl)
theorem x_iload_n {q : Fin 4} {i : Nat} {x : Int32} (hd : decode mm.2.2.1 pc = .ok (.iload_n q, 1)) (hi : (q : Nat) = i) (j : Nat) (hj : L[j]? = some (i, .int x)) (k : X mm d (pc + 1) L (.int x :: st) T r Tf) : X mm d pc L st T r Tf := x_pure k (fun _ _ _ _ _ _ _ _ _ _ _ _ _ _ _ _ _ hx hb _ _ hl w => lv_iload_n hx hb hd hi (hl.get j hj) w)
theorem x_iload {i : Nat} {x : Int32} (hd : decode mm.2.2.1 pc = .ok (.iload i, 2)) (j : Nat) (hj : L[j]? = some (i, .int x)) (k : X mm d (pc + 2) L (.int x :: st) T r Tf) : X mm d pc L st T r Tf := x_pure k (fun _ _ _ _ _ _ _ _ _ _ _ _ _ _ _ _ _ hx hb _ _ hl w => lv_iload hx hb hd (hl.get j hj) w)
theorem x_lload_n {q : Fin 4} {i : Nat} {x : Int64} (hd : decode mm.2.2.1 pc = .ok (.lload_n q, 1)) (hi : (q : Nat) = i) (j : Nat) (hj : L[j]? = some (i, .long x)) (k : X mm d (pc + 1) L (.long x :: st) T r Tf) : X mm d pc L st T r Tf := x_pure k (fun _ _ _ _ _ _ _ _ _ _ _ _ _ _ _ _ _ hx hb _ _ hl w => lv_lload_n hx hb hd hi (hl.get j hj) w)
theorem x_lload {i : Nat} {x : Int64} (hd : decode mm.2.2.1 pc = .ok (.lload i, 2)) (j : Nat) (hj : L[j]? = some (i, .long x)) (k : X mm d (pc + 2) L (.long x :: st) T r Tf) : X mm d pc L st T r Tf := x_pure k (fun _ _ _ _ _ _ _ _ _ _ _ _ _ _ _ _ _ hx hb _ _ hl w => lv_lload hx hb hd (hl.get j hj) w)
theorem x_aload_n {q : Fin 4} {i a : Nat} (hd : decode mm.2.2.1 pc = .ok (.aload_n q, 1)) (hi : (q : Nat) = i) (j : Nat) (hj : L[j]? = some (i, .ref a)) (k : X mm d (pc + 1) L (.ref a :: st) T r Tf) : X mm d pc L st T r Tf := x_pure k (fun _ _ _ _ _ _ _ _ _ _ _ _ _ _ _ _ _ hx hb _ _ hl w => lv_aload_n hx hb hd hi (hl.get j hj) w)
theorem x_aload_nS {q : Fin 4} {i : Nat} {a : UInt32} (hd : decode mm.2.2.1 pc = .ok (.aload_n q, 1)) (hi : (q : Nat) = i) (j : Nat) (hj : L[j]? = some (i, .float a)) (k : X mm d (pc + 1) L (.float a :: st) T r Tf) : X mm d pc L st T r Tf := x_pure k (fun _ _ _ _ _ _ _ _ _ _ _ _ _ _ _ _ _ hx hb _ _ hl w => lv_aload_n hx hb hd hi (hl.get j hj) w)
theorem x_aload_nN {q : Fin 4} {i : Nat} (hd : decode mm.2.2.1 pc = .ok (.aload_n q, 1)) (hi : (q : Nat) = i) (j : Nat) (hj : L[j]? = some (i, .null)) (k : X mm d (pc + 1) L (.null :: st) T r Tf) : X mm d pc L st T r Tf := x_pure k (fun _ _ _ _ _ _ _ _ _ _ _ _ _ _ _ _ _ hx hb _ _ hl w => lv_aload_nN hx hb hd hi (hl.get j hj) w)
theorem x_aload {i a : Nat} (hd : decode mm.2.2.1 pc = .ok (.aload i, 2)) (j : Nat) (hj : L[j]? = some (i, .ref a)) (k : X mm d (pc + 2) L (.ref a :: st) T r Tf) : X mm d pc L st T r Tf := x_pure k (fun _ _ _ _ _ _ _ _ _ _ _ _ _ _ _ _ _ hx hb _ _ hl w => lv_aload hx hb hd (hl.get j hj) w)
theorem x_aloadN {i : Nat} (hd : decode mm.2.2.1 pc = .ok (.aload i, 2)) (j : Nat) (hj : L[j]? = some (i, .null)) (k : X mm d (pc + 2) L (.null :: st) T r Tf) : X mm d pc L st T r Tf := x_pure k (fun _ _ _ _ _ _ _ _ _ _ _ _ _ _ _ _ _ hx hb _ _ hl w => lv_aloadN hx hb hd (hl.get j hj) w)
theorem x_iadd {x y : Int32} (hd : decode mm.2.2.1 pc = .ok (.iadd, 1)) (k : X mm d (pc + 1) L (.int (x + y) :: st) T r Tf) : X mm d pc L (.int y :: .int x :: st) T r Tf := x_pure k (fun _ _ _ _ _ _ _ _ _ _ _ _ _ _ _ _ _ hx hb _ _ _ w => lv_iadd hx hb hd w)
theorem x_isub {x y : Int32} (hd : decode mm.2.2.1 pc = .ok (.isub, 1)) (k : X mm d (pc + 1) L (.int (x - y) :: st) T r Tf) : X mm d pc L (.int y :: .int x :: st) T r Tf := x_pure k (fun _ _ _ _ _ _ _ _ _ _ _ _ _ _ _ _ _ hx hb _ _ _ w => lv_isub hx hb hd w)
theorem x_imul {x y : Int32} (hd : decode mm.2.2.1 pc = .ok (.imul, 1)) (k : X mm d (pc + 1) L (.int (x * y) :: st) T r Tf) : X mm d pc L (.int y :: .int x :: st) T r Tf := x_pure k (fun _ _ _ _ _ _ _ _ _ _ _ _ _ _ _ _ _ hx hb _ _ _ w => lv_imul hx hb hd w)
theorem x_iand {x y : Int32} (hd : decode mm.2.2.1 pc = .ok (.iand, 1)) (k : X mm d (pc + 1) L (.int (x &&& y) :: st) T r Tf) : X mm d pc L (.int y :: .int x :: st) T r Tf := x_pure k (fun _ _ _ _ _ _ _ _ _ _ _ _ _ _ _ _ _ hx hb _ _ _ w => lv_iand hx hb hd w)
theorem x_ior {x y : Int32} (hd : decode mm.2.2.1 pc = .ok (.ior, 1)) (k : X mm d (pc + 1) L (.int (x ||| y) :: st) T r Tf) : X mm d pc L (.int y :: .int x :: st) T r Tf := x_pure k (fun _ _ _ _ _ _ _ _ _ _ _ _ _ _ _ _ _ hx hb _ _ _ w => lv_ior hx hb hd w)
theorem x_ishl {x y : Int32} (hd : decode mm.2.2.1 pc = .ok (.ishl, 1)) (k : X mm d (pc + 1) L (.int (x <<< (y &&& 31)) :: st) T r Tf) : X mm d pc L (.int y :: .int x :: st) T r Tf := x_pure k (fun _ _ _ _ _ _ _ _ _ _ _ _ _ _ _ _ _ hx hb _ _ _ w => lv_ishl hx hb hd w)
theorem x_ishr {x y : Int32} (hd : decode mm.2.2.1 pc = .ok (.ishr, 1)) (k : X mm d (pc + 1) L (.int (x >>> (y &&& 31)) :: st) T r Tf) : X mm d pc L (.int y :: .int x :: st) T r Tf := x_pure k (fun _ _ _ _ _ _ _ _ _ _ _ _ _ _ _ _ _ hx hb _ _ _ w => lv_ishr hx hb hd w)
theorem x_idiv {x y : Int32} (hd : decode mm.2.2.1 pc = .ok (.idiv, 1)) (hne : ¬ y = 0) (k : X mm d (pc + 1) L (.int (x / y) :: st) T r Tf) : X mm d pc L (.int y :: .int x :: st) T r Tf := x_pure k (fun _ _ _ _ _ _ _ _ _ _ _ _ _ _ _ _ _ hx hb _ _ _ w => lv_idiv hx hb hd hne w)
theorem x_irem {x y : Int32} (hd : decode mm.2.2.1 pc = .ok (.irem, 1)) (hne : ¬ y = 0) (k : X mm d (pc + 1) L (.int (x - x / y * y) :: st) T r Tf) : X mm d pc L (.int y :: .int x :: st) T r Tf := x_pure k (fun _ _ _ _ _ _ _ _ _ _ _ _ _ _ _ _ _ hx hb _ _ _ w => lv_irem hx hb hd hne w)
theorem x_ladd {x y : Int64} (hd : decode mm.2.2.1 pc = .ok (.ladd, 1)) (k : X mm d (pc + 1) L (.long (x + y) :: st) T r Tf) : X mm d pc L (.long y :: .long x :: st) T r Tf := x_pure k (fun _ _ _ _ _ _ _ _ _ _ _ _ _ _ _ _ _ hx hb _ _ _ w => lv_ladd hx hb hd w)
theorem x_lsub {x y : Int64} (hd : decode mm.2.2.1 pc = .ok (.lsub, 1)) (k : X mm d (pc + 1) L (.long (x - y) :: st) T r Tf) : X mm d pc L (.long y :: .long x :: st) T r Tf := x_pure k (fun _ _ _ _ _ _ _ _ _ _ _ _ _ _ _ _ _ hx hb _ _ _ w => lv_lsub hx hb hd w)
theorem x_lmul {x y : Int64} (hd : decode mm.2.2.1 pc = .ok (.lmul, 1)) (k : X mm d (pc + 1) L (.long (x * y) :: st) T r Tf) : X mm d pc L (.long y :: .long x :: st) T r Tf := x_pure k (fun _ _ _ _ _ _ _ _ _ _ _ _ _ _ _ _ _ hx hb _ _ _ w => lv_lmul hx hb hd w)
theorem x_land {x y : Int64} (hd : decode mm.2.2.1 pc = .ok (.land, 1)) (k : X mm d (pc + 1) L (.long (x &&& y) :: st) T r Tf) : X mm d pc L (.long y :: .long x :: st) T r Tf := x_pure k (fun _ _ _ _ _ _ _ _ _ _ _ _ _ _ _ _ _ hx hb _ _ _ w => lv_land hx hb hd w)
theorem x_lor {x y : Int64} (hd : decode mm.2.2.1 pc = .ok (.lor, 1)) (k : X mm d (pc + 1) L (.long (x ||| y) :: st) T r Tf) : X mm d pc L (.long y :: .long x :: st) T r Tf := x_pure k (fun _ _ _ _ _ _ _ _ _ _ _ _ _ _ _ _ _ hx hb _ _ _ w => lv_lor hx hb hd w)
theorem x_ldiv {x y : Int64} (hd : decode mm.2.2.1 pc = .ok (.ldiv, 1)) (hne : ¬ y = 0) (k : X mm d (pc + 1) L (.long (x / y) :: st) T r Tf) : X mm d pc L (.long y :: .long x :: st) T r Tf := x_pure k (fun _ _ _ _ _ _ _ _ _ _ _ _ _ _ _ _ _ hx hb _ _ _ w => lv_ldiv hx hb hd hne w)
theorem x_lrem {x y : Int64} (hd : decode mm.2.2.1 pc = .ok (.lrem, 1)) (hne : ¬ y = 0) (k : X mm d (pc + 1) L (.long (x - x / y * y) :: st) T r Tf) : X mm d pc L (.long y :: .long x :: st) T r Tf := x_pure k (fun _ _ _ _ _ _ _ _ _ _ _ _ _ _ _ _ _ hx hb _ _ _ w => lv_lrem hx hb hd hne w)
theorem x_iushr {x y : Int32} (hd : decode mm.2.2.1 pc = .ok (.iushr, 1)) (k : X mm d (pc + 1) L (.int ((x.toUInt32 >>> (y.toUInt32 &&& Int32.toUInt32 31)).toInt32) :: st) T r Tf) : X mm d pc L (.int y :: .int x :: st) T r Tf := x_pure k (fun _ _ _ _ _ _ _ _ _ _ _ _ _ _ _ _ _ hx hb _ _ _ w => lv_iushr hx hb hd rfl w)
theorem x_lshl {x : Int64} {y : Int32} (hd : decode mm.2.2.1 pc = .ok (.lshl, 1)) (k : X mm d (pc + 1) L (.long (x <<< (y.toInt64 &&& 63)) :: st) T r Tf) : X mm d pc L (.int y :: .long x :: st) T r Tf := x_pure k (fun _ _ _ _ _ _ _ _ _ _ _ _ _ _ _ _ _ hx hb _ _ _ w => lv_lshl hx hb hd rfl w)
theorem x_lneg {x : Int64} (hd : decode mm.2.2.1 pc = .ok (.lneg, 1)) (k : X mm d (pc + 1) L (.long (-x) :: st) T r Tf) : X mm d pc L (.long x :: st) T r Tf := x_pure k (fun _ _ _ _ _ _ _ _ _ _ _ _ _ _ _ _ _ hx hb _ _ _ w => lv_lneg hx hb hd w)
theorem x_i2l {x : Int32} (hd : decode mm.2.2.1 pc = .ok (.i2l, 1)) (k : X mm d (pc + 1) L (.long x.toInt64 :: st) T r Tf) : X mm d pc L (.int x :: st) T r Tf := x_pure k (fun _ _ _ _ _ _ _ _ _ _ _ _ _ _ _ _ _ hx hb _ _ _ w => lv_i2l hx hb hd rfl w)
theorem x_l2i {x : Int64} (hd : decode mm.2.2.1 pc = .ok (.l2i, 1)) (k : X mm d (pc + 1) L (.int x.toInt32 :: st) T r Tf) : X mm d pc L (.long x :: st) T r Tf := x_pure k (fun _ _ _ _ _ _ _ _ _ _ _ _ _ _ _ _ _ hx hb _ _ _ w => lv_l2i hx hb hd rfl w)
theorem x_i2b {x : Int32} (hd : decode mm.2.2.1 pc = .ok (.i2b, 1)) (k : X mm d (pc + 1) L (.int x.toInt8.toInt32 :: st) T r Tf) : X mm d pc L (.int x :: st) T r Tf := x_pure k (fun _ _ _ _ _ _ _ _ _ _ _ _ _ _ _ _ _ hx hb _ _ _ w => lv_i2b hx hb hd rfl w)
theorem x_lcmp {x y : Int64} (hd : decode mm.2.2.1 pc = .ok (.lcmp, 1)) (k : X mm d (pc + 1) L (.int (lg_cmp x y) :: st) T r Tf) : X mm d pc L (.long y :: .long x :: st) T r Tf := x_pure k (fun _ _ _ _ _ _ _ _ _ _ _ _ _ _ _ _ _ hx hb _ _ _ w => W.lcmp hx hb hd w)
theorem x_dup {v : Value} (hd : decode mm.2.2.1 pc = .ok (.dup, 1)) (hv : v.category = 1) (k : X mm d (pc + 1) L (v :: v :: st) T r Tf) : X mm d pc L (v :: st) T r Tf := x_pure k (fun E _ _ _ _ _ _ _ _ _ _ _ _ _ _ _ _ hx hb _ _ _ w => lv_dup hx hb hd ((rv_cat E v).trans hv) w)
theorem x_pop {v : Value} (hd : decode mm.2.2.1 pc = .ok (.pop, 1)) (hv : v.category = 1) (k : X mm d (pc + 1) L st T r Tf) : X mm d pc L (v :: st) T r Tf := x_pure k (fun E _ _ _ _ _ _ _ _ _ _ _ _ _ _ _ _ hx hb _ _ _ w => lv_pop hx hb hd ((rv_cat E v).trans hv) w)
theorem x_dup2 {v u : Value} (hd : decode mm.2.2.1 pc = .ok (.dup2, 1)) (hv : v.category = 1) (hu : u.category = 1) (k : X mm d (pc + 1) L (v :: u :: v :: u :: st) T r Tf) : X mm d pc L (v :: u :: st) T r Tf := x_pure k (fun E _ _ _ _ _ _ _ _ _ _ _ _ _ _ _ _ hx hb _ _ _ w => lv_dup2_11 hx hb hd ((rv_cat E v).trans hv) ((rv_cat E u).trans hu) w)
theorem x_goto {off : Int} {tgt : Nat} (hd : decode mm.2.2.1 pc = .ok (.goto off, 3)) (ht : (pc : Int) + off = (tgt : Int)) (k : X mm d tgt L st T r Tf) : X mm d pc L st T r Tf := x_pure k (fun _ _ _ _ _ _ _ _ _ _ _ _ _ _ _ _ _ hx hb _ _ _ w => lv_goto hx hb hd ht w)
theorem x_ifnull {a : Nat} {off : Int} (hd : decode mm.2.2.1 pc = .ok (.ifnull off, 3)) (k : X mm d (pc + 3) L st T r Tf) : X mm d pc L (.ref a :: st) T r Tf := x_pure k (fun _ _ _ _ _ _ _ _ _ _ _ _ _ _ _ _ _ hx hb _ _ _ w => lv_ifnull hx hb hd w)
theorem x_ifnullN {off : Int} {tgt : Nat} (hd : decode mm.2.2.1 pc = .ok (.ifnull off, 3)) (ht : (pc : Int) + off = (tgt : Int)) (k : X mm d tgt L st T r Tf) : X mm d pc L (.null :: st) T r Tf := x_pure k (fun _ _ _ _ _ _ _ _ _ _ _ _ _ _ _ _ _ hx hb _ _ _ w => lv_ifnullN hx hb hd ht w)
theorem x_ifnonnull {a : Nat} {off : Int} {tgt : Nat} (hd : decode mm.2.2.1 pc = .ok (.ifnonnull off, 3)) (ht : (pc : Int) + off = (tgt : Int)) (k : X mm d tgt L st T r Tf) : X mm d pc L (.ref a :: st) T r Tf := x_pure k (fun _ _ _ _ _ _ _ _ _ _ _ _ _ _ _ _ _ hx hb _ _ _ w => lv_ifnonnull hx hb hd ht w)
theorem x_ifnonnullN {off : Int} (hd : decode mm.2.2.1 pc = .ok (.ifnonnull off, 3)) (k : X mm d (pc + 3) L st T r Tf) : X mm d pc L (.null :: st) T r Tf := x_pure k (fun _ _ _ _ _ _ _ _ _ _ _ _ _ _ _ _ _ hx hb _ _ _ w => lv_ifnonnullN hx hb hd w)
theorem x_tableIn {dflt lo hi : Int} {offs : Array Int} {len : Nat} {x : Int32} {off : Int} {tgt : Nat} (hd : decode mm.2.2.1 pc = .ok (.tableswitch dflt lo hi offs, len)) (h1 : ¬ x.toInt < lo) (h2 : ¬ hi < x.toInt) (ho : offs[(x.toInt - lo).toNat]? = some off) (ht : (pc : Int) + off = (tgt : Int)) (k : X mm d tgt L st T r Tf) : X mm d pc L (.int x :: st) T r Tf := x_pure k (fun _ _ _ _ _ _ _ _ _ _ _ _ _ _ _ _ _ hx hb _ _ _ w => lv_tableIn hx hb hd h1 h2 ho ht w)
theorem x_tableOut {dflt lo hi : Int} {offs : Array Int} {len : Nat} {x : Int32} {tgt : Nat} (hd : decode mm.2.2.1 pc = .ok (.tableswitch dflt lo hi offs, len)) (h : x.toInt < lo ∨ hi < x.toInt) (ht : (pc : Int) + dflt = (tgt : Int)) (k : X mm d tgt L st T r Tf) : X mm d pc L (.int x :: st) T r Tf := x_pure k (fun _ _ _ _ _ _ _ _ _ _ _ _ _ _ _ _ _ hx hb _ _ _ w => lv_tableOut hx hb hd h ht w)
theorem x_lookup {dflt : Int} {ps : Array (Int × Int)} {len : Nat} {x : Int32} {off : Int} {tgt : Nat} (hd : decode mm.2.2.1 pc = .ok (.lookupswitch dflt ps, len)) (hp : (ps.toList.zip (ps.toList.drop 1)).all (fun (a, next) => a.1 < next.1) = true) (ho : Op.lookupswitch.offset ps.toList dflt x.toInt = off) (ht : (pc : Int) + off = (tgt : Int)) (k : X mm d tgt L st T r Tf) : X mm d pc L (.int x :: st) T r Tf := x_pure k (fun _ _ _ _ _ _ _ _ _ _ _ _ _ _ _ _ _ hx hb _ _ _ w => lv_lookup hx hb hd hp ho ht w)
theorem x_icmp_eqT {x y : Int32} {off : Int} {tgt : Nat} (hd : decode mm.2.2.1 pc = .ok (.if_icmp .eq off, 3)) (ht : (pc : Int) + off = (tgt : Int)) (h : x = y) (k : X mm d tgt L st T r Tf) : X mm d pc L (.int y :: .int x :: st) T r Tf := x_pure k (fun _ _ _ _ _ _ _ _ _ _ _ _ _ _ _ _ _ hx hb _ _ _ w => lv_icmp_eq hx hb hd ht (fun _ => w) (fun hn => absurd h hn))
theorem x_icmp_eqF {x y : Int32} {off : Int} {tgt : Nat} (hd : decode mm.2.2.1 pc = .ok (.if_icmp .eq off, 3)) (ht : (pc : Int) + off = (tgt : Int)) (h : ¬ x = y) (k : X mm d (pc + 3) L st T r Tf) : X mm d pc L (.int y :: .int x :: st) T r Tf := x_pure k (fun _ _ _ _ _ _ _ _ _ _ _ _ _ _ _ _ _ hx hb _ _ _ w => lv_icmp_eq hx hb hd ht (fun hn => absurd hn h) (fun _ => w))
theorem x_icmp_eq {x y : Int32} {off : Int} {tgt : Nat} (hd : decode mm.2.2.1 pc = .ok (.if_icmp .eq off, 3)) (ht : (pc : Int) + off = (tgt : Int)) (kt : x = y → X mm d tgt L st T r Tf) (kf : ¬ x = y → X mm d (pc + 3) L st T r Tf) : X mm d pc L (.int y :: .int x :: st) T r Tf := by
  by_cases h : x = y
  · exact x_icmp_eqT hd ht h (kt h)
  · exact x_icmp_eqF hd ht h (kf h)
theorem x_if_eqT {x : Int32} {off : Int} {tgt : Nat} (hd : decode mm.2.2.1 pc = .ok (.ifCond .eq off, 3)) (ht : (pc : Int) + off = (tgt : Int)) (h : x = 0) (k : X mm d tgt L st T r Tf) : X mm d pc L (.int x :: st) T r Tf := x_pure k (fun _ _ _ _ _ _ _ _ _ _ _ _ _ _ _ _ _ hx hb _ _ _ w => lv_if_eq hx hb hd ht (fun _ => w) (fun hn => absurd h hn))
theorem x_if_eqF {x : Int32} {off : Int} {tgt : Nat} (hd : decode mm.2.2.1 pc = .ok (.ifCond .eq off, 3)) (ht : (pc : Int) + off = (tgt : Int)) (h : ¬ x = 0) (k : X mm d (pc + 3) L st T r Tf) : X mm d pc L (.int x :: st) T r Tf := x_pure k (fun _ _ _ _ _ _ _ _ _ _ _ _ _ _ _ _ _ hx hb _ _ _ w => lv_if_eq hx hb hd ht (fun hn => absurd hn h) (fun _ => w))
theorem x_if_eq {x : Int32} {off : Int} {tgt : Nat} (hd : decode mm.2.2.1 pc = .ok (.ifCond .eq off, 3)) (ht : (pc : Int) + off = (tgt : Int)) (kt : x = 0 → X mm d tgt L st T r Tf) (kf : ¬ x = 0 → X mm d (pc + 3) L st T r Tf) : X mm d pc L (.int x :: st) T r Tf := by
  by_cases h : x = 0
  · exact x_if_eqT hd ht h (kt h)
  · exact x_if_eqF hd ht h (kf h)
theorem x_icmp_neT {x y : Int32} {off : Int} {tgt : Nat} (hd : decode mm.2.2.1 pc = .ok (.if_icmp .ne off, 3)) (ht : (pc : Int) + off = (tgt : Int)) (h : ¬ x = y) (k : X mm d tgt L st T r Tf) : X mm d pc L (.int y :: .int x :: st) T r Tf := x_pure k (fun _ _ _ _ _ _ _ _ _ _ _ _ _ _ _ _ _ hx hb _ _ _ w => lv_icmp_ne hx hb hd ht (fun _ => w) (fun hn => absurd hn h))
theorem x_icmp_neF {x y : Int32} {off : Int} {tgt : Nat} (hd : decode mm.2.2.1 pc = .ok (.if_icmp .ne off, 3)) (ht : (pc : Int) + off = (tgt : Int)) (h : x = y) (k : X mm d (pc + 3) L st T r Tf) : X mm d pc L (.int y :: .int x :: st) T r Tf := x_pure k (fun _ _ _ _ _ _ _ _ _ _ _ _ _ _ _ _ _ hx hb _ _ _ w => lv_icmp_ne hx hb hd ht (fun hn => absurd h hn) (fun _ => w))
theorem x_icmp_ne {x y : Int32} {off : Int} {tgt : Nat} (hd : decode mm.2.2.1 pc = .ok (.if_icmp .ne off, 3)) (ht : (pc : Int) + off = (tgt : Int)) (kt : ¬ x = y → X mm d tgt L st T r Tf) (kf : x = y → X mm d (pc + 3) L st T r Tf) : X mm d pc L (.int y :: .int x :: st) T r Tf := by
  by_cases h : x = y
  · exact x_icmp_neF hd ht h (kf h)
  · exact x_icmp_neT hd ht h (kt h)
theorem x_if_neT {x : Int32} {off : Int} {tgt : Nat} (hd : decode mm.2.2.1 pc = .ok (.ifCond .ne off, 3)) (ht : (pc : Int) + off = (tgt : Int)) (h : ¬ x = 0) (k : X mm d tgt L st T r Tf) : X mm d pc L (.int x :: st) T r Tf := x_pure k (fun _ _ _ _ _ _ _ _ _ _ _ _ _ _ _ _ _ hx hb _ _ _ w => lv_if_ne hx hb hd ht (fun _ => w) (fun hn => absurd hn h))
theorem x_if_neF {x : Int32} {off : Int} {tgt : Nat} (hd : decode mm.2.2.1 pc = .ok (.ifCond .ne off, 3)) (ht : (pc : Int) + off = (tgt : Int)) (h : x = 0) (k : X mm d (pc + 3) L st T r Tf) : X mm d pc L (.int x :: st) T r Tf := x_pure k (fun _ _ _ _ _ _ _ _ _ _ _ _ _ _ _ _ _ hx hb _ _ _ w => lv_if_ne hx hb hd ht (fun hn => absurd h hn) (fun _ => w))
theorem x_if_ne {x : Int32} {off : Int} {tgt : Nat} (hd : decode mm.2.2.1 pc = .ok (.ifCond .ne off, 3)) (ht : (pc : Int) + off = (tgt : Int)) (kt : ¬ x = 0 → X mm d tgt L st T r Tf) (kf : x = 0 → X mm d (pc + 3) L st T r Tf) : X mm d pc L (.int x :: st) T r Tf := by
  by_cases h : x = 0
  · exact x_if_neF hd ht h (kf h)
  · exact x_if_neT hd ht h (kt h)
theorem x_icmp_ltT {x y : Int32} {off : Int} {tgt : Nat} (hd : decode mm.2.2.1 pc = .ok (.if_icmp .lt off, 3)) (ht : (pc : Int) + off = (tgt : Int)) (h : x < y) (k : X mm d tgt L st T r Tf) : X mm d pc L (.int y :: .int x :: st) T r Tf := x_pure k (fun _ _ _ _ _ _ _ _ _ _ _ _ _ _ _ _ _ hx hb _ _ _ w => lv_icmp_lt hx hb hd ht (fun _ => w) (fun hn => absurd h hn))
theorem x_icmp_ltF {x y : Int32} {off : Int} {tgt : Nat} (hd : decode mm.2.2.1 pc = .ok (.if_icmp .lt off, 3)) (ht : (pc : Int) + off = (tgt : Int)) (h : ¬ x < y) (k : X mm d (pc + 3) L st T r Tf) : X mm d pc L (.int y :: .int x :: st) T r Tf := x_pure k (fun _ _ _ _ _ _ _ _ _ _ _ _ _ _ _ _ _ hx hb _ _ _ w => lv_icmp_lt hx hb hd ht (fun hn => absurd hn h) (fun _ => w))
theorem x_icmp_lt {x y : Int32} {off : Int} {tgt : Nat} (hd : decode mm.2.2.1 pc = .ok (.if_icmp .lt off, 3)) (ht : (pc : Int) + off = (tgt : Int)) (kt : x < y → X mm d tgt L st T r Tf) (kf : ¬ x < y → X mm d (pc + 3) L st T r Tf) : X mm d pc L (.int y :: .int x :: st) T r Tf := by
  by_cases h : x < y
  · exact x_icmp_ltT hd ht h (kt h)
  · exact x_icmp_ltF hd ht h (kf h)
theorem x_if_ltT {x : Int32} {off : Int} {tgt : Nat} (hd : decode mm.2.2.1 pc = .ok (.ifCond .lt off, 3)) (ht : (pc : Int) + off = (tgt : Int)) (h : x < 0) (k : X mm d tgt L st T r Tf) : X mm d pc L (.int x :: st) T r Tf := x_pure k (fun _ _ _ _ _ _ _ _ _ _ _ _ _ _ _ _ _ hx hb _ _ _ w => lv_if_lt hx hb hd ht (fun _ => w) (fun hn => absurd h hn))
theorem x_if_ltF {x : Int32} {off : Int} {tgt : Nat} (hd : decode mm.2.2.1 pc = .ok (.ifCond .lt off, 3)) (ht : (pc : Int) + off = (tgt : Int)) (h : ¬ x < 0) (k : X mm d (pc + 3) L st T r Tf) : X mm d pc L (.int x :: st) T r Tf := x_pure k (fun _ _ _ _ _ _ _ _ _ _ _ _ _ _ _ _ _ hx hb _ _ _ w => lv_if_lt hx hb hd ht (fun hn => absurd hn h) (fun _ => w))
theorem x_if_lt {x : Int32} {off : Int} {tgt : Nat} (hd : decode mm.2.2.1 pc = .ok (.ifCond .lt off, 3)) (ht : (pc : Int) + off = (tgt : Int)) (kt : x < 0 → X mm d tgt L st T r Tf) (kf : ¬ x < 0 → X mm d (pc + 3) L st T r Tf) : X mm d pc L (.int x :: st) T r Tf := by
  by_cases h : x < 0
  · exact x_if_ltT hd ht h (kt h)
  · exact x_if_ltF hd ht h (kf h)
theorem x_icmp_geT {x y : Int32} {off : Int} {tgt : Nat} (hd : decode mm.2.2.1 pc = .ok (.if_icmp .ge off, 3)) (ht : (pc : Int) + off = (tgt : Int)) (h : y ≤ x) (k : X mm d tgt L st T r Tf) : X mm d pc L (.int y :: .int x :: st) T r Tf := x_pure k (fun _ _ _ _ _ _ _ _ _ _ _ _ _ _ _ _ _ hx hb _ _ _ w => lv_icmp_ge hx hb hd ht (fun _ => w) (fun hn => absurd h hn))
theorem x_icmp_geF {x y : Int32} {off : Int} {tgt : Nat} (hd : decode mm.2.2.1 pc = .ok (.if_icmp .ge off, 3)) (ht : (pc : Int) + off = (tgt : Int)) (h : ¬ y ≤ x) (k : X mm d (pc + 3) L st T r Tf) : X mm d pc L (.int y :: .int x :: st) T r Tf := x_pure k (fun _ _ _ _ _ _ _ _ _ _ _ _ _ _ _ _ _ hx hb _ _ _ w => lv_icmp_ge hx hb hd ht (fun hn => absurd hn h) (fun _ => w))
theorem x_icmp_ge {x y : Int32} {off : Int} {tgt : Nat} (hd : decode mm.2.2.1 pc = .ok (.if_icmp .ge off, 3)) (ht : (pc : Int) + off = (tgt : Int)) (kt : y ≤ x → X mm d tgt L st T r Tf) (kf : ¬ y ≤ x → X mm d (pc + 3) L st T r Tf) : X mm d pc L (.int y :: .int x :: st) T r Tf := by
  by_cases h : y ≤ x
  · exact x_icmp_geT hd ht h (kt h)
  · exact x_icmp_geF hd ht h (kf h)
theorem x_if_geT {x : Int32} {off : Int} {tgt : Nat} (hd : decode mm.2.2.1 pc = .ok (.ifCond .ge off, 3)) (ht : (pc : Int) + off = (tgt : Int)) (h : 0 ≤ x) (k : X mm d tgt L st T r Tf) : X mm d pc L (.int x :: st) T r Tf := x_pure k (fun _ _ _ _ _ _ _ _ _ _ _ _ _ _ _ _ _ hx hb _ _ _ w => lv_if_ge hx hb hd ht (fun _ => w) (fun hn => absurd h hn))
theorem x_if_geF {x : Int32} {off : Int} {tgt : Nat} (hd : decode mm.2.2.1 pc = .ok (.ifCond .ge off, 3)) (ht : (pc : Int) + off = (tgt : Int)) (h : ¬ 0 ≤ x) (k : X mm d (pc + 3) L st T r Tf) : X mm d pc L (.int x :: st) T r Tf := x_pure k (fun _ _ _ _ _ _ _ _ _ _ _ _ _ _ _ _ _ hx hb _ _ _ w => lv_if_ge hx hb hd ht (fun hn => absurd hn h) (fun _ => w))
theorem x_if_ge {x : Int32} {off : Int} {tgt : Nat} (hd : decode mm.2.2.1 pc = .ok (.ifCond .ge off, 3)) (ht : (pc : Int) + off = (tgt : Int)) (kt : 0 ≤ x → X mm d tgt L st T r Tf) (kf : ¬ 0 ≤ x → X mm d (pc + 3) L st T r Tf) : X mm d pc L (.int x :: st) T r Tf := by
  by_cases h : 0 ≤ x
  · exact x_if_geT hd ht h (kt h)
  · exact x_if_geF hd ht h (kf h)
theorem x_icmp_gtT {x y : Int32} {off : Int} {tgt : Nat} (hd : decode mm.2.2.1 pc = .ok (.if_icmp .gt off, 3)) (ht : (pc : Int) + off = (tgt : Int)) (h : y < x) (k : X mm d tgt L st T r Tf) : X mm d pc L (.int y :: .int x :: st) T r Tf := x_pure k (fun _ _ _ _ _ _ _ _ _ _ _ _ _ _ _ _ _ hx hb _ _ _ w => lv_icmp_gt hx hb hd ht (fun _ => w) (fun hn => absurd h hn))
theorem x_icmp_gtF {x y : Int32} {off : Int} {tgt : Nat} (hd : decode mm.2.2.1 pc = .ok (.if_icmp .gt off, 3)) (ht : (pc : Int) + off = (tgt : Int)) (h : ¬ y < x) (k : X mm d (pc + 3) L st T r Tf) : X mm d pc L (.int y :: .int x :: st) T r Tf := x_pure k (fun _ _ _ _ _ _ _ _ _ _ _ _ _ _ _ _ _ hx hb _ _ _ w => lv_icmp_gt hx hb hd ht (fun hn => absurd hn h) (fun _ => w))
theorem x_icmp_gt {x y : Int32} {off : Int} {tgt : Nat} (hd : decode mm.2.2.1 pc = .ok (.if_icmp .gt off, 3)) (ht : (pc : Int) + off = (tgt : Int)) (kt : y < x → X mm d tgt L st T r Tf) (kf : ¬ y < x → X mm d (pc + 3) L st T r Tf) : X mm d pc L (.int y :: .int x :: st) T r Tf := by
  by_cases h : y < x
  · exact x_icmp_gtT hd ht h (kt h)
  · exact x_icmp_gtF hd ht h (kf h)
theorem x_if_gtT {x : Int32} {off : Int} {tgt : Nat} (hd : decode mm.2.2.1 pc = .ok (.ifCond .gt off, 3)) (ht : (pc : Int) + off = (tgt : Int)) (h : 0 < x) (k : X mm d tgt L st T r Tf) : X mm d pc L (.int x :: st) T r Tf := x_pure k (fun _ _ _ _ _ _ _ _ _ _ _ _ _ _ _ _ _ hx hb _ _ _ w => lv_if_gt hx hb hd ht (fun _ => w) (fun hn => absurd h hn))
theorem x_if_gtF {x : Int32} {off : Int} {tgt : Nat} (hd : decode mm.2.2.1 pc = .ok (.ifCond .gt off, 3)) (ht : (pc : Int) + off = (tgt : Int)) (h : ¬ 0 < x) (k : X mm d (pc + 3) L st T r Tf) : X mm d pc L (.int x :: st) T r Tf := x_pure k (fun _ _ _ _ _ _ _ _ _ _ _ _ _ _ _ _ _ hx hb _ _ _ w => lv_if_gt hx hb hd ht (fun hn => absurd hn h) (fun _ => w))
theorem x_if_gt {x : Int32} {off : Int} {tgt : Nat} (hd : decode mm.2.2.1 pc = .ok (.ifCond .gt off, 3)) (ht : (pc : Int) + off = (tgt : Int)) (kt : 0 < x → X mm d tgt L st T r Tf) (kf : ¬ 0 < x → X mm d (pc + 3) L st T r Tf) : X mm d pc L (.int x :: st) T r Tf := by
  by_cases h : 0 < x
  · exact x_if_gtT hd ht h (kt h)
  · exact x_if_gtF hd ht h (kf h)
theorem x_icmp_leT {x y : Int32} {off : Int} {tgt : Nat} (hd : decode mm.2.2.1 pc = .ok (.if_icmp .le off, 3)) (ht : (pc : Int) + off = (tgt : Int)) (h : x ≤ y) (k : X mm d tgt L st T r Tf) : X mm d pc L (.int y :: .int x :: st) T r Tf := x_pure k (fun _ _ _ _ _ _ _ _ _ _ _ _ _ _ _ _ _ hx hb _ _ _ w => lv_icmp_le hx hb hd ht (fun _ => w) (fun hn => absurd h hn))
theorem x_icmp_leF {x y : Int32} {off : Int} {tgt : Nat} (hd : decode mm.2.2.1 pc = .ok (.if_icmp .le off, 3)) (ht : (pc : Int) + off = (tgt : Int)) (h : ¬ x ≤ y) (k : X mm d (pc + 3) L st T r Tf) : X mm d pc L (.int y :: .int x :: st) T r Tf := x_pure k (fun _ _ _ _ _ _ _ _ _ _ _ _ _ _ _ _ _ hx hb _ _ _ w => lv_icmp_le hx hb hd ht (fun hn => absurd hn h) (fun _ => w))
theorem x_icmp_le {x y : Int32} {off : Int} {tgt : Nat} (hd : decode mm.2.2.1 pc = .ok (.if_icmp .le off, 3)) (ht : (pc : Int) + off = (tgt : Int)) (kt : x ≤ y → X mm d tgt L st T r Tf) (kf : ¬ x ≤ y → X mm d (pc + 3) L st T r Tf) : X mm d pc L (.int y :: .int x :: st) T r Tf := by
  by_cases h : x ≤ y
  · exact x_icmp_leT hd ht h (kt h)
  · exact x_icmp_leF hd ht h (kf h)
theorem x_if_leT {x : Int32} {off : Int} {tgt : Nat} (hd : decode mm.2.2.1 pc = .ok (.ifCond .le off, 3)) (ht : (pc : Int) + off = (tgt : Int)) (h : x ≤ 0) (k : X mm d tgt L st T r Tf) : X mm d pc L (.int x :: st) T r Tf := x_pure k (fun _ _ _ _ _ _ _ _ _ _ _ _ _ _ _ _ _ hx hb _ _ _ w => lv_if_le hx hb hd ht (fun _ => w) (fun hn => absurd h hn))
theorem x_if_leF {x : Int32} {off : Int} {tgt : Nat} (hd : decode mm.2.2.1 pc = .ok (.ifCond .le off, 3)) (ht : (pc : Int) + off = (tgt : Int)) (h : ¬ x ≤ 0) (k : X mm d (pc + 3) L st T r Tf) : X mm d pc L (.int x :: st) T r Tf := x_pure k (fun _ _ _ _ _ _ _ _ _ _ _ _ _ _ _ _ _ hx hb _ _ _ w => lv_if_le hx hb hd ht (fun hn => absurd hn h) (fun _ => w))
theorem x_if_le {x : Int32} {off : Int} {tgt : Nat} (hd : decode mm.2.2.1 pc = .ok (.ifCond .le off, 3)) (ht : (pc : Int) + off = (tgt : Int)) (kt : x ≤ 0 → X mm d tgt L st T r Tf) (kf : ¬ x ≤ 0 → X mm d (pc + 3) L st T r Tf) : X mm d pc L (.int x :: st) T r Tf := by
  by_cases h : x ≤ 0
  · exact x_if_leT hd ht h (kt h)
  · exact x_if_leF hd ht h (kf h)
end Rules
