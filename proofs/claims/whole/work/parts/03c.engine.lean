/-! THE ENGINE, part c: rows written, new cells, returns -/
section Rules3
variable {mm : MR} {d pc pc' : Nat} {L L' : List (Nat × Value)} {st st' : List Value} {T Tf : TH} {r : Option Value}
theorem cellE_ne (E : EV) {T T' : TH} {b : Nat} (hK : e_K T' b = e_K T b) (hl : e_len T' b = e_len T b) (hg : ∀ c k, gvl T' c k b = gvl T c k b) (h1 : e_ai T' b = e_ai T b) (h2 : e_al T' b = e_al T b) (h3 : e_ar T' b = e_ar T b) : cellE E T' b = cellE E T b := by
  unfold cellE kDat
  simp only [hg, hK, hl, h1, h2, h3]
theorem up2_row {α : Type} (f : Nat → Nat → α) (a j : Nat) (v : α) : up2 f a j v a = fun i => if i = j then v else f a i := by
  funext i; simp [up2]
theorem up2_row_ne {α : Type} (f : Nat → Nat → α) {a b : Nat} (j : Nat) (v : α) (h : b ≠ a) : up2 f a j v b = f b := by
  funext i; simp [up2, h]
theorem x_iast {a j : Nat} {i : Int32} {x : Int32} (hd : decode mm.2.2.1 pc = .ok (.iastore, 1)) (hK : e_K T a = 20) (hi : i = nI j) (hj : j < e_len T a) (kk : X mm d (pc + 1) L st (s_ai T a j x) r Tf) : X mm d pc L (.int x :: .int i :: .ref a :: st) T r Tf := by
  refine x_write (T' := s_ai T a j x) a rfl rfl rfl rfl rfl ?_ (by omega) kk (fun E p l e R s m args below meth c H locs ls cells slots Z hx hb ho hts hmn hKK hp hS w => ?_)
  · intro E q0 hq0
    refine cellE_ne E rfl rfl (fun _ _ => rfl) ?_ ?_ ?_ <;> first | rfl | exact up2_row_ne _ _ _ hq0
  · obtain ⟨h1, h2⟩ := nI_ok hp hi hj
    refine va_iast hx hb hKK hp.2.1 (wsE_D E T) hS a 0 (by rw [wsE_at E T (hp.lt (by omega)), cellE_a E hK (by omega)]; rfl) rfl h1 hd (fun H1 locs1 hP1 hD1 hS1 => w H1 locs1 ?_ hS1)
    rw [cellE_a E (T := s_ai T a j x) (k := 20) hK (by omega)]
    rw [h2] at hP1
    have hrow : kDat E (s_ai T a j x) 20 a = .inl (upd (e_ai T a) j x) := by
      show Sum.inl _ = Sum.inl _
      congr 1
      exact up2_row _ _ _ _
    rw [hrow]
    exact hP1
theorem x_bast {a j : Nat} {i : Int32} {x : Int32} (hd : decode mm.2.2.1 pc = .ok (.bastore, 1)) (hK : e_K T a = 21) (hi : i = nI j) (hj : j < e_len T a) (kk : X mm d (pc + 1) L st (s_ai T a j x.toInt8.toInt32) r Tf) : X mm d pc L (.int x :: .int i :: .ref a :: st) T r Tf := by
  refine x_write (T' := s_ai T a j x.toInt8.toInt32) a rfl rfl rfl rfl rfl ?_ (by omega) kk (fun E p l e R s m args below meth c H locs ls cells slots Z hx hb ho hts hmn hKK hp hS w => ?_)
  · intro E q0 hq0
    refine cellE_ne E rfl rfl (fun _ _ => rfl) ?_ ?_ ?_ <;> first | rfl | exact up2_row_ne _ _ _ hq0
  · obtain ⟨h1, h2⟩ := nI_ok hp hi hj
    refine va_bast hx hb hKK hp.2.1 (wsE_D E T) hS a 1 (by rw [wsE_at E T (hp.lt (by omega)), cellE_a E hK (by omega)]; rfl) rfl h1 hd (fun H1 locs1 hP1 hD1 hS1 => w H1 locs1 ?_ hS1)
    rw [cellE_a E (T := s_ai T a j x.toInt8.toInt32) (k := 21) hK (by omega)]
    rw [h2] at hP1
    have hrow : kDat E (s_ai T a j x.toInt8.toInt32) 21 a = .inl (upd (e_ai T a) j (vp_nar .byte x)) := by
      show Sum.inl _ = Sum.inl _
      congr 1
      exact up2_row _ _ _ _
    rw [hrow]
    exact hP1
theorem x_zast {a j : Nat} {i : Int32} {x : Int32} (hd : decode mm.2.2.1 pc = .ok (.bastore, 1)) (hK : e_K T a = 22) (hi : i = nI j) (hj : j < e_len T a) (kk : X mm d (pc + 1) L st (s_ai T a j (vp_nar .boolean x)) r Tf) : X mm d pc L (.int x :: .int i :: .ref a :: st) T r Tf := by
  refine x_write (T' := s_ai T a j (vp_nar .boolean x)) a rfl rfl rfl rfl rfl ?_ (by omega) kk (fun E p l e R s m args below meth c H locs ls cells slots Z hx hb ho hts hmn hKK hp hS w => ?_)
  · intro E q0 hq0
    refine cellE_ne E rfl rfl (fun _ _ => rfl) ?_ ?_ ?_ <;> first | rfl | exact up2_row_ne _ _ _ hq0
  · obtain ⟨h1, h2⟩ := nI_ok hp hi hj
    refine va_zast hx hb hKK hp.2.1 (wsE_D E T) hS a 2 (by rw [wsE_at E T (hp.lt (by omega)), cellE_a E hK (by omega)]; rfl) rfl h1 hd (fun H1 locs1 hP1 hD1 hS1 => w H1 locs1 ?_ hS1)
    rw [cellE_a E (T := s_ai T a j (vp_nar .boolean x)) (k := 22) hK (by omega)]
    rw [h2] at hP1
    have hrow : kDat E (s_ai T a j (vp_nar .boolean x)) 22 a = .inl (upd (e_ai T a) j (vp_nar .boolean x)) := by
      show Sum.inl _ = Sum.inl _
      congr 1
      exact up2_row _ _ _ _
    rw [hrow]
    exact hP1
theorem x_last {a j : Nat} {i : Int32} {x : Int64} (hd : decode mm.2.2.1 pc = .ok (.lastore, 1)) (hK : e_K T a = 23) (hi : i = nI j) (hj : j < e_len T a) (kk : X mm d (pc + 1) L st (s_al T a j x) r Tf) : X mm d pc L (.long x :: .int i :: .ref a :: st) T r Tf := by
  refine x_write (T' := s_al T a j x) a rfl rfl rfl rfl rfl ?_ (by omega) kk (fun E p l e R s m args below meth c H locs ls cells slots Z hx hb ho hts hmn hKK hp hS w => ?_)
  · intro E q0 hq0
    refine cellE_ne E rfl rfl (fun _ _ => rfl) ?_ ?_ ?_ <;> first | rfl | exact up2_row_ne _ _ _ hq0
  · obtain ⟨h1, h2⟩ := nI_ok hp hi hj
    refine va_last hx hb hKK hp.2.1 (wsE_D E T) hS a 3 (by rw [wsE_at E T (hp.lt (by omega)), cellE_a E hK (by omega)]; rfl) rfl h1 hd (fun H1 locs1 hP1 hD1 hS1 => w H1 locs1 ?_ hS1)
    rw [cellE_a E (T := s_al T a j x) (k := 23) hK (by omega)]
    rw [h2] at hP1
    have hrow : kDat E (s_al T a j x) 23 a = .inr (.inl (vp_updL (e_al T a) j x)) := by
      show Sum.inr (Sum.inl _) = Sum.inr (Sum.inl _)
      congr 2
      exact up2_row _ _ _ _
    rw [hrow]
    exact hP1
theorem x_aast {a j b : Nat} {i : Int32} (hd : decode mm.2.2.1 pc = .ok (.aastore, 1)) (hK : e_K T a = 24) (hi : i = nI j) (hj : j < e_len T a) (hb4 : e_K T b = 4) (kk : X mm d (pc + 1) L st (s_ar T a j (some b)) r Tf) : X mm d pc L (.ref b :: .int i :: .ref a :: st) T r Tf := by
  refine x_write (T' := s_ar T a j (some b)) a rfl rfl rfl rfl rfl ?_ (by omega) kk (fun E p l e R s m args below meth c H locs ls cells slots Z hx hb ho hts hmn hKK hp hS w => ?_)
  · intro E q0 hq0
    refine cellE_ne E rfl rfl (fun _ _ => rfl) ?_ ?_ ?_ <;> first | rfl | exact up2_row_ne _ _ _ hq0
  · obtain ⟨h1, h2⟩ := nI_ok hp hi hj
    refine va_astq (r := (clR 3, clT 3, nfd 3)) (ci := 3) (f := fun j => (e_ar T a j).map (E.1 + ·)) hx hb hKK hp.2.1 (wsE_D E T) hS a 4 b (by rw [wsE_at E T (hp.lt (by omega)), cellE_a E hK (by omega)]; rfl) rfl (by rw [wsE_at E T (hp.lt (by omega)), cellE_o E hb4 (by omega)]) (cl_ok 3 (by omega)).1 h1 hd (fun H1 locs1 hP1 hD1 hS1 => w H1 locs1 ?_ hS1)
    rw [cellE_a E (T := s_ar T a j (some b)) (k := 24) hK (by omega)]
    rw [h2] at hP1
    have hrow : kDat E (s_ar T a j (some b)) 24 a = .inr (.inr (.inr (.inr (va_up (fun j => (e_ar T a j).map (E.1 + ·)) j (some (E.1 + b)))))) := by
      show Sum.inr (Sum.inr (Sum.inr (Sum.inr _))) = Sum.inr (Sum.inr (Sum.inr (Sum.inr _)))
      congr 4
      funext i
      show (up2 (e_ar T) a j (some b) a i).map _ = _
      rw [up2_row]
      unfold va_up
      by_cases q : i = j <;> simp [q]
    rw [hrow]
    exact hP1
/-! new cells -/
theorem s_new_cell (E : EV) (T : TH) (k N : Nat) {b : Nat} (h : b ≠ e_n T) : cellE E (s_new T k N) b = cellE E T b := by
  refine cellE_ne E ?_ ?_ (fun c k => ?_) ?_ ?_ ?_
  · exact va_up_ne _ _ h
  · exact va_up_ne _ _ h
  · simp [gvl, s_new, e_i, e_l, e_r, va_up, h]
  · exact va_up_ne _ _ h
  · exact va_up_ne _ _ h
  · exact va_up_ne _ _ h
theorem s_new_ws (E : EV) (T : TH) (k N : Nat) : wsE E (s_new T k N) = wsE E T ++ [(E.1 + e_n T, cellE E (s_new T k N) (e_n T))] := by
  unfold wsE
  rw [show e_n (s_new T k N) = e_n T + 1 from rfl, List.range_succ, List.map_append, List.map_cons, List.map_nil]
  congr 1
  apply List.map_congr_left
  intro a ha
  rw [s_new_cell E T k N (Nat.ne_of_lt (List.mem_range.mp ha))]
theorem x_alloc (kd N : Nat) (hN : N < 2147483648) (k : X mm d pc' L (.ref (e_n T) :: st') (s_new T kd N) r Tf)
    (h : ∀ (E : EV) (p : Program) (l : Launch) (e : Env) (R : Room) (s : State) (m : MethodId) (args : Array Value) (below : List Frame) (meth : Method) (c : Code) (H : Heap) (locs : List Loc) (ls : Array Slot) (cells slots : Nat) (Z : State → Prop), p.tables.exec = Jvm.exec → c.code = mm.2.2.1 → s.vm.findClass mm.1 = some m.cls → (∀ w ∈ lw_g, w.before args s = true) → vK E s → Hp E T H → va_S (AA E) s.heap H locs → (∀ q, s.heap.size ≤ q → AA E q) → cells + 1 ≤ R.cells → slots + N ≤ R.slots →
      (∀ (q : Nat) (H1 : Heap) (e9 : va_E), cellE E (s_new T kd N) (e_n T) = e9 → va_P E.2.2.1 vwCl (wsE E T ++ [(q, e9)]) H1 → va_D (AA E) (wsE E T ++ [(q, e9)]) → va_S (AA E) s.heap H1 locs → W p l e R s m args below meth c H1 locs (cells + 1) (slots + N) Z (F0 m pc' ls (.ref q :: st'.map (rv E)))) → W p l e R s m args below meth c H locs cells slots Z (F0 m pc ls (st.map (rv E)))) : X mm d pc L st T r Tf := by
  have k1 : e_n T + 1 ≤ e_n Tf := k.1.1
  have k2 : e_s T + N ≤ e_s Tf := k.1.2.1
  refine ⟨⟨by omega, by omega, k.1.2.2.1, k.1.2.2.2⟩, fun E p l e R s m args below meth c H locs ls n0 s0 Z C h1 hl hp hS hz => ?_⟩
  have hR := C.2.2.2.2.2.2.2.2.2.2.1
  have h0 : s.heap.size = E.1 + n0 := C.2.2.2.2.2.2.2.2.2.1
  refine h E p l e R s m args below meth c H locs ls _ _ Z C.1 C.2.1 C.2.2.2.2.2.1 C.2.2.2.2.2.2.1 C.2.2.2.2.2.2.2.2.1 hp hS (fun q hq => Nat.le_trans (by omega) hq) (by omega) (by omega) (fun q H1 e9 he9 hP1 hD1 hS1 => ?_)
  refine W_sz (fun hsz => ?_)
  have hlen := wsE_len E T
  have hat : (wsE E T ++ [(q, e9)])[e_n T]? = some (q, e9) := by rw [List.getElem?_append_right (by omega)]; simp [hlen]
  have hq1 : q < H1.size := (hP1 _ _ hat).lt
  have hq2 : E.1 ≤ q := hD1.2 _ _ hat
  have hq3 : q = E.1 + e_n T := by
    rcases Nat.lt_or_ge q (E.1 + e_n T) with z | z
    · have hi : (wsE E T ++ [(q, e9)])[q - E.1]? = some (E.1 + (q - E.1), cellE E T (q - E.1)) := by
        rw [List.getElem?_append_left (by omega)]; exact wsE_at E T (by omega)
      have := hD1.1 _ _ _ _ hi hat (by show E.1 + (q - E.1) = q; omega)
      omega
    · omega
  subst hq3
  rw [← he9, ← s_new_ws] at hP1
  have hp1 : Hp E (s_new T kd N) H1 := by
    refine Hp_of hP1 (Nat.succ_pos _) ?_ ?_ ?_
    · show H1.size ≤ E.1 + (e_n T + 1); omega
    · intro a ha
      have ha' : e_n T + 1 ≤ a := ha
      show va_up (e_K T) (e_n T) kd a = 0
      rw [va_up_ne _ _ (by omega)]
      exact hp.2.2.1 a (by omega)
    · intro a
      show va_up (e_len T) (e_n T) N a < _
      unfold va_up
      split
      · exact hN
      · exact hp.2.2.2 a
  have w := k.2 E p l e R s m args below meth c H1 locs ls n0 s0 Z C ⟨by show n0 ≤ e_n T + 1; omega, by show s0 ≤ e_s T + N; omega⟩ hl hp1 hS1 hz
  rw [show e_n (s_new T kd N) - n0 = e_n T - n0 + 1 from by show e_n T + 1 - n0 = _; omega, show e_s (s_new T kd N) - s0 = e_s T - s0 + N from by show e_s T + N - s0 = _; omega] at w
  exact w
def CLd (own : String) (idx ci : Nat) : Prop := ci < 9 ∧ Cond.classLink own idx (clR ci) ∈ lw_g ∧ Cond.instantiable (clR ci) (nfd ci) ∈ lw_g ∧ Cond.initialized (clR ci) ∈ lw_g ∧ nfd ci < 2147483648 ∧ ∀ k, k < nfd ci → defaultValue (clY ci k) = if ftc ci k = 1 then .long 0 else if ftc ci k = 2 then .null else .int 0
theorem gvl_new (T : TH) (kd N ci k : Nat) : gvl (s_new T kd N) ci k (e_n T) = if ftc ci k = 1 then .long 0 else if ftc ci k = 2 then .null else .int 0 := by
  simp [gvl, s_new, e_i, e_l, e_r, va_up, va_rf]
theorem x_new {idx ci : Nat} (hd : decode mm.2.2.1 pc = .ok (.new idx, 3)) (hc : CLd mm.1 idx ci) (k : X mm d (pc + 3) L (.ref (e_n T) :: st) (s_new T (ci + 1) (nfd ci)) r Tf) : X mm d pc L st T r Tf := by
  obtain ⟨h1, h2, h3, h4, h5, h6⟩ := hc
  obtain ⟨g1, g2, g3, g4⟩ := cl_ok ci h1
  refine x_alloc (ci + 1) (nfd ci) h5 k (fun E p l e R s m args below meth c H locs ls cells slots Z hx hb ho hts hKK hp hS hA hcl hsl w => ?_)
  have hcell := cellE_o E (T := s_new T (ci + 1) (nfd ci)) (a := e_n T) (ci := ci) (va_up_self _ _ _) h1
  refine va_new hx hb hts g2 (clY ci) g3 ho (hts _ h2) (hts _ h3) (hts _ h4) hKK.1 hp.2.1 (wsE_D E T) hS hA g1 (fs := (List.range (nfd ci)).map (fun k => rv E (gvl (s_new T (ci + 1) (nfd ci)) ci k (e_n T)))) (fun j hj => ?_) hcl hsl hd (fun q H1 hP1 hD1 hS1 => w q H1 _ hcell hP1 hD1 hS1)
  rw [h6 j hj]
  simp only [vp_V, List.getD, List.getElem?_map, List.getElem?_range hj, Option.map_some, Option.getD_some, gvl_new]
  split
  · rfl
  · split <;> rfl
theorem arrc_int : Cond.arrayClass (newarray.typeOf .int) ∈ lw_g := inG (by decide +kernel) (by decide +kernel)
theorem arrc_byte : Cond.arrayClass (newarray.typeOf .byte) ∈ lw_g := inG (by decide +kernel) (by decide +kernel)
theorem arrc_boolean : Cond.arrayClass (newarray.typeOf .boolean) ∈ lw_g := inG (by decide +kernel) (by decide +kernel)
theorem arrc_long : Cond.arrayClass (newarray.typeOf .long) ∈ lw_g := inG (by decide +kernel) (by decide +kernel)
theorem x_newai {n : Int32} {N : Nat} (hd : decode mm.2.2.1 pc = .ok (.newarray .int, 2)) (hn : n = nI N) (hN : N < 1000000) (k : X mm d (pc + 2) L (.ref (e_n T) :: st) (s_new T 20 N) r Tf) : X mm d pc L (.int n :: st) T r Tf := by
  refine x_alloc 20 N (by omega) k (fun E p l e R s m args below meth c H locs ls cells slots Z hx hb ho hts hKK hp hS hA hcl hsl w => ?_)
  have harr : Cond.arrayClass (newarray.typeOf .int) ∈ lw_g := arrc_int
  subst hn
  refine va_newa (ty := .int) (a0 := (N, .inl (fun _ => 0))) hx hb (hts _ harr) rfl hKK.1 hp.2.1 (wsE_D E T) hS hA (fun cA => rfl) (nI_pos (by omega)) (nI_clamp (by omega)) (by show N * 4 ≤ _; omega) hcl hsl hd (fun q cA H1 hK1 hP1 hD1 hS1 => w q H1 (.inl (cA, N, .inl (fun _ => 0))) ?_ hP1 hD1 hS1)
  have hcA : cA = kCl E 20 := by
    have h1 := (hK1.2 5 (cA, .int) (by rfl)).2
    have h2 := (hK1.2 0 (kCl E 20, .int) (by rfl)).2
    exact Option.some.inj (h1.symm.trans h2)
  rw [cellE_a E (T := s_new T 20 N) (a := e_n T) (k := 20) (va_up_self _ _ _) (by omega), hcA]
  show Sum.inl (kCl E 20, va_up (e_len T) (e_n T) N (e_n T), kDat E (s_new T 20 N) 20 (e_n T)) = _
  rw [va_up_self]
  congr 3
  show kDat E (s_new T 20 N) 20 (e_n T) = .inl (fun _ => 0)
  simp [kDat, s_new, e_ai, e_al, va_up_self]
theorem x_newab {n : Int32} {N : Nat} (hd : decode mm.2.2.1 pc = .ok (.newarray .byte, 2)) (hn : n = nI N) (hN : N < 1000000) (k : X mm d (pc + 2) L (.ref (e_n T) :: st) (s_new T 21 N) r Tf) : X mm d pc L (.int n :: st) T r Tf := by
  refine x_alloc 21 N (by omega) k (fun E p l e R s m args below meth c H locs ls cells slots Z hx hb ho hts hKK hp hS hA hcl hsl w => ?_)
  have harr : Cond.arrayClass (newarray.typeOf .byte) ∈ lw_g := arrc_byte
  subst hn
  refine va_newa (ty := .byte) (a0 := (N, .inl (fun _ => 0))) hx hb (hts _ harr) rfl hKK.1 hp.2.1 (wsE_D E T) hS hA (fun cA => rfl) (nI_pos (by omega)) (nI_clamp (by omega)) (by show N * 1 ≤ _; omega) hcl hsl hd (fun q cA H1 hK1 hP1 hD1 hS1 => w q H1 (.inl (cA, N, .inl (fun _ => 0))) ?_ hP1 hD1 hS1)
  have hcA : cA = kCl E 21 := by
    have h1 := (hK1.2 5 (cA, .byte) (by rfl)).2
    have h2 := (hK1.2 1 (kCl E 21, .byte) (by rfl)).2
    exact Option.some.inj (h1.symm.trans h2)
  rw [cellE_a E (T := s_new T 21 N) (a := e_n T) (k := 21) (va_up_self _ _ _) (by omega), hcA]
  show Sum.inl (kCl E 21, va_up (e_len T) (e_n T) N (e_n T), kDat E (s_new T 21 N) 21 (e_n T)) = _
  rw [va_up_self]
  congr 3
  show kDat E (s_new T 21 N) 21 (e_n T) = .inl (fun _ => 0)
  simp [kDat, s_new, e_ai, e_al, va_up_self]
theorem x_newaz {n : Int32} {N : Nat} (hd : decode mm.2.2.1 pc = .ok (.newarray .boolean, 2)) (hn : n = nI N) (hN : N < 1000000) (k : X mm d (pc + 2) L (.ref (e_n T) :: st) (s_new T 22 N) r Tf) : X mm d pc L (.int n :: st) T r Tf := by
  refine x_alloc 22 N (by omega) k (fun E p l e R s m args below meth c H locs ls cells slots Z hx hb ho hts hKK hp hS hA hcl hsl w => ?_)
  have harr : Cond.arrayClass (newarray.typeOf .boolean) ∈ lw_g := arrc_boolean
  subst hn
  refine va_newa (ty := .boolean) (a0 := (N, .inl (fun _ => 0))) hx hb (hts _ harr) rfl hKK.1 hp.2.1 (wsE_D E T) hS hA (fun cA => rfl) (nI_pos (by omega)) (nI_clamp (by omega)) (by show N * 1 ≤ _; omega) hcl hsl hd (fun q cA H1 hK1 hP1 hD1 hS1 => w q H1 (.inl (cA, N, .inl (fun _ => 0))) ?_ hP1 hD1 hS1)
  have hcA : cA = kCl E 22 := by
    have h1 := (hK1.2 5 (cA, .boolean) (by rfl)).2
    have h2 := (hK1.2 2 (kCl E 22, .boolean) (by rfl)).2
    exact Option.some.inj (h1.symm.trans h2)
  rw [cellE_a E (T := s_new T 22 N) (a := e_n T) (k := 22) (va_up_self _ _ _) (by omega), hcA]
  show Sum.inl (kCl E 22, va_up (e_len T) (e_n T) N (e_n T), kDat E (s_new T 22 N) 22 (e_n T)) = _
  rw [va_up_self]
  congr 3
  show kDat E (s_new T 22 N) 22 (e_n T) = .inl (fun _ => 0)
  simp [kDat, s_new, e_ai, e_al, va_up_self]
theorem x_newaj {n : Int32} {N : Nat} (hd : decode mm.2.2.1 pc = .ok (.newarray .long, 2)) (hn : n = nI N) (hN : N < 1000000) (k : X mm d (pc + 2) L (.ref (e_n T) :: st) (s_new T 23 N) r Tf) : X mm d pc L (.int n :: st) T r Tf := by
  refine x_alloc 23 N (by omega) k (fun E p l e R s m args below meth c H locs ls cells slots Z hx hb ho hts hKK hp hS hA hcl hsl w => ?_)
  have harr : Cond.arrayClass (newarray.typeOf .long) ∈ lw_g := arrc_long
  subst hn
  refine va_newa (ty := .long) (a0 := (N, .inr (.inl (fun _ => 0)))) hx hb (hts _ harr) rfl hKK.1 hp.2.1 (wsE_D E T) hS hA (fun cA => rfl) (nI_pos (by omega)) (nI_clamp (by omega)) (by show N * 8 ≤ _; omega) hcl hsl hd (fun q cA H1 hK1 hP1 hD1 hS1 => w q H1 (.inl (cA, N, .inr (.inl (fun _ => 0)))) ?_ hP1 hD1 hS1)
  have hcA : cA = kCl E 23 := by
    have h1 := (hK1.2 5 (cA, .long) (by rfl)).2
    have h2 := (hK1.2 3 (kCl E 23, .long) (by rfl)).2
    exact Option.some.inj (h1.symm.trans h2)
  rw [cellE_a E (T := s_new T 23 N) (a := e_n T) (k := 23) (va_up_self _ _ _) (by omega), hcA]
  show Sum.inl (kCl E 23, va_up (e_len T) (e_n T) N (e_n T), kDat E (s_new T 23 N) 23 (e_n T)) = _
  rw [va_up_self]
  congr 3
  show kDat E (s_new T 23 N) 23 (e_n T) = .inr (.inl (fun _ => 0))
  simp [kDat, s_new, e_ai, e_al, va_up_self]
theorem x_newaT {n : Int32} {N idx : Nat} (hd : decode mm.2.2.1 pc = .ok (.anewarray idx, 3)) (hc : Cond.classLink mm.1 idx RX3 ∈ lw_g) (hn : n = nI N) (hN : N < 1000000) (k : X mm d (pc + 3) L (.ref (e_n T) :: st) (s_new T 24 N) r Tf) : X mm d pc L (.int n :: st) T r Tf := by
  refine x_alloc 24 N (by omega) k (fun E p l e R s m args below meth c H locs ls cells slots Z hx hb ho hts hKK hp hS hA hcl hsl w => ?_)
  subst hn
  refine va_newq hx hb ho (hts _ hc) hKK.2.1 hKK.1 hp.2.1 (wsE_D E T) hS hA (nI_pos (by omega)) (nI_clamp (by omega)) (by omega) hcl hsl hd (fun q cA H1 hK1 hP1 hD1 hS1 => w q H1 _ ?_ hP1 hD1 hS1)
  have hcA : cA = kCl E 24 := by
    obtain ⟨_, _, _, _, _, h1⟩ := (hK1.2 5 (cA, .object RX3) (by rfl)).2
    obtain ⟨_, _, _, _, _, h2⟩ := (hK1.2 4 (kCl E 24, .object RX3) (by rfl)).2
    exact Option.some.inj (h1.symm.trans h2)
  rw [cellE_a E (T := s_new T 24 N) (a := e_n T) (k := 24) (va_up_self _ _ _) (by omega), hcA]
  show Sum.inl (kCl E 24, va_up (e_len T) (e_n T) N (e_n T), kDat E (s_new T 24 N) 24 (e_n T)) = _
  rw [va_up_self]
  congr 3
  show kDat E (s_new T 24 N) 24 (e_n T) = _
  simp [kDat, s_new, e_ar, va_up_self]
/-! the end -/
theorem x_ret (hd : decode mm.2.2.1 pc = .ok (retI mm.2.2.2.2, 1)) (ho : rOk mm.2.2.2.2 r) (hst : r.toList = st) : X mm d pc L st T r T :=
  ⟨⟨Nat.le_refl _, Nat.le_refl _, rfl, ho⟩, fun E p l e R s m args below meth c H locs ls n0 s0 Z C h1 hl hp hS hz => by
    have := hz H locs pc ls hp hS hd
    rw [← hst]
    cases r <;> exact this⟩
end Rules3
