/-! THE ENGINE, part b: locals, fields, rows, new cells, returns -/
def stL (L : List (Nat × Value)) (i : Nat) (v : Value) : List (Nat × Value) := (i, v) :: L.filter (fun q => !(q.1 == i) && !(q.1 + 1 == i && q.2.category == 2))
def stL2 (L : List (Nat × Value)) (i : Nat) (v : Value) : List (Nat × Value) := (i, v) :: L.filter (fun q => !(q.1 == i) && (!(q.1 == i + 1) && !(q.1 + 1 == i && q.2.category == 2)))
theorem stL_map (E : EV) (L : List (Nat × Value)) (i : Nat) (v : Value) : (i, rv E v) :: (L.map (fun q => (q.1, rv E q.2))).filter (fun q => !(q.1 == i) && !(q.1 + 1 == i && q.2.category == 2)) = (stL L i v).map (fun q => (q.1, rv E q.2)) := by
  simp only [stL, List.map_cons, List.filter_map, List.cons.injEq, true_and]
  congr 1
  apply List.filter_congr
  intro q _
  simp only [Function.comp, rv_cat]
theorem stL2_map (E : EV) (L : List (Nat × Value)) (i : Nat) (v : Value) : (i, rv E v) :: (L.map (fun q => (q.1, rv E q.2))).filter (fun q => !(q.1 == i) && (!(q.1 == i + 1) && !(q.1 + 1 == i && q.2.category == 2))) = (stL2 L i v).map (fun q => (q.1, rv E q.2)) := by
  simp only [stL2, List.map_cons, List.filter_map, List.cons.injEq, true_and]
  congr 1
  apply List.filter_congr
  intro q _
  simp only [Function.comp, rv_cat]
section Rules2
variable {mm : MR} {d pc pc' : Nat} {L L' : List (Nat × Value)} {st st' : List Value} {T Tf : TH} {r : Option Value}
theorem x_store (k : X mm d pc' L' st' T r Tf)
    (h : ∀ (E : EV) (p : Program) (l : Launch) (e : Env) (R : Room) (s : State) (m : MethodId) (args : Array Value) (below : List Frame) (meth : Method) (c : Code) (H : Heap) (locs : List Loc) (ls : Array Slot) (cells slots : Nat) (Z : State → Prop), p.tables.exec = Jvm.exec → c.code = mm.2.2.1 → Rl E mm L ls →
      (∀ ls' : Array Slot, Rl E mm L' ls' → W p l e R s m args below meth c H locs cells slots Z (F0 m pc' ls' (st'.map (rv E)))) → W p l e R s m args below meth c H locs cells slots Z (F0 m pc ls (st.map (rv E)))) : X mm d pc L st T r Tf :=
  ⟨k.1, fun E p l e R s m args below meth c H locs ls n0 s0 Z C h1 hl hp hs hz => h E p l e R s m args below meth c H locs ls _ _ Z C.1 C.2.1 hl (fun ls' hl' => k.2 E p l e R s m args below meth c H locs ls' n0 s0 Z C h1 hl' hp hs hz)⟩
theorem x_istore_n {q : Fin 4} {i : Nat} {x : Int32} (hd : decode mm.2.2.1 pc = .ok (.istore_n q, 1)) (hq : (q : Nat) = i) (hi : i < mm.2.2.2.1) (hl : stL L i (.int x) = L') (k : X mm d (pc + 1) L' st T r Tf) : X mm d pc L (.int x :: st) T r Tf := x_store k (fun E _ _ _ _ _ _ _ _ _ _ _ _ _ _ _ _ hx hb hls w => lv_istore_n hx hb hd hq hls hi (stL_map E L i (.int x)) (fun ls' hl' => w ls' (hl ▸ hl')))
theorem x_lstore_n {q : Fin 4} {i : Nat} {x : Int64} (hd : decode mm.2.2.1 pc = .ok (.lstore_n q, 1)) (hq : (q : Nat) = i) (hi : i + 1 < mm.2.2.2.1) (hl : stL2 L i (.long x) = L') (k : X mm d (pc + 1) L' st T r Tf) : X mm d pc L (.long x :: st) T r Tf := x_store k (fun E _ _ _ _ _ _ _ _ _ _ _ _ _ _ _ _ hx hb hls w => lv_lstore_n hx hb hd hq hls hi (stL2_map E L i (.long x)) (fun ls' hl' => w ls' (hl ▸ hl')))
theorem x_astore_n {q : Fin 4} {i : Nat} {a : Nat} (hd : decode mm.2.2.1 pc = .ok (.astore_n q, 1)) (hq : (q : Nat) = i) (hi : i < mm.2.2.2.1) (hl : stL L i (.ref a) = L') (k : X mm d (pc + 1) L' st T r Tf) : X mm d pc L (.ref a :: st) T r Tf := x_store k (fun E _ _ _ _ _ _ _ _ _ _ _ _ _ _ _ _ hx hb hls w => lv_astore_n hx hb hd hq hls hi (stL_map E L i (.ref a)) (fun ls' hl' => w ls' (hl ▸ hl')))
theorem x_astore_nN {q : Fin 4} {i : Nat} (hd : decode mm.2.2.1 pc = .ok (.astore_n q, 1)) (hq : (q : Nat) = i) (hi : i < mm.2.2.2.1) (hl : stL L i (.null) = L') (k : X mm d (pc + 1) L' st T r Tf) : X mm d pc L (.null :: st) T r Tf := x_store k (fun E _ _ _ _ _ _ _ _ _ _ _ _ _ _ _ _ hx hb hls w => lv_astore_nN hx hb hd hq hls hi (stL_map E L i (.null)) (fun ls' hl' => w ls' (hl ▸ hl')))
theorem x_istore {i : Nat} {x : Int32} (hd : decode mm.2.2.1 pc = .ok (.istore i, 2)) (hi : i < mm.2.2.2.1) (hl : stL L i (.int x) = L') (k : X mm d (pc + 2) L' st T r Tf) : X mm d pc L (.int x :: st) T r Tf := x_store k (fun E _ _ _ _ _ _ _ _ _ _ _ _ _ _ _ _ hx hb hls w => lv_istore hx hb hd hls hi (stL_map E L i (.int x)) (fun ls' hl' => w ls' (hl ▸ hl')))
theorem x_lstore {i : Nat} {x : Int64} (hd : decode mm.2.2.1 pc = .ok (.lstore i, 2)) (hi : i + 1 < mm.2.2.2.1) (hl : stL2 L i (.long x) = L') (k : X mm d (pc + 2) L' st T r Tf) : X mm d pc L (.long x :: st) T r Tf := x_store k (fun E _ _ _ _ _ _ _ _ _ _ _ _ _ _ _ _ hx hb hls w => lv_lstore hx hb hd hls hi (stL2_map E L i (.long x)) (fun ls' hl' => w ls' (hl ▸ hl')))
theorem x_astore {i : Nat} {a : Nat} (hd : decode mm.2.2.1 pc = .ok (.astore i, 2)) (hi : i < mm.2.2.2.1) (hl : stL L i (.ref a) = L') (k : X mm d (pc + 2) L' st T r Tf) : X mm d pc L (.ref a :: st) T r Tf := x_store k (fun E _ _ _ _ _ _ _ _ _ _ _ _ _ _ _ _ hx hb hls w => lv_astore hx hb hd hls hi (stL_map E L i (.ref a)) (fun ls' hl' => w ls' (hl ▸ hl')))
theorem x_astoreN {i : Nat} (hd : decode mm.2.2.1 pc = .ok (.astore i, 2)) (hi : i < mm.2.2.2.1) (hl : stL L i (.null) = L') (k : X mm d (pc + 2) L' st T r Tf) : X mm d pc L (.null :: st) T r Tf := x_store k (fun E _ _ _ _ _ _ _ _ _ _ _ _ _ _ _ _ hx hb hls w => lv_astoreN hx hb hd hls hi (stL_map E L i (.null)) (fun ls' hl' => w ls' (hl ▸ hl')))
theorem x_iinc {i : Nat} {n : Int} {x v : Int32} (hd : decode mm.2.2.1 pc = .ok (.iinc i n, 3)) (j : Nat) (hj : L[j]? = some (i, .int x)) (hv : x + Int32.ofInt n = v) (hi : i < mm.2.2.2.1) (hl : stL L i (.int v) = L') (k : X mm d (pc + 3) L' st T r Tf) : X mm d pc L st T r Tf := x_store k (fun E _ _ _ _ _ _ _ _ _ _ _ _ _ _ _ _ hx hb hls w => lv_iinc hx hb hd hls (k := j) (by rw [List.getElem?_map, hj]; rfl) hv hi (stL_map E L i (.int v)) (fun ls' hl' => w ls' (hl ▸ hl')))
/-! fields -/
def clR (ci : Nat) : String := match ci with
  | 0 => RX0 | 1 => RX1 | 2 => RX2 | 3 => RX3 | 4 => RX4 | 5 => RX5 | 6 => RX6 | 7 => RX7 | _ => RX8
def clT (ci : Nat) : u_T := match ci with
  | 0 => TX0 | 1 => TX1 | 2 => TX2 | 3 => TX3 | 4 => TX4 | 5 => TX5 | 6 => TX6 | 7 => TX7 | _ => TX8
def clY (ci : Nat) : Nat → FieldType := match ci with
  | 0 => tyX0 | 1 => tyX1 | 2 => tyX2 | 3 => tyX3 | 4 => tyX4 | 5 => tyX5 | 6 => tyX6 | 7 => tyX7 | _ => tyX8
theorem cl_ok (ci : Nat) (h : ci < 9) : vwCl[ci]? = some (clR ci, clT ci, nfd ci) ∧ (∀ w ∈ u_ws (clR ci) (clT ci) (nfd ci), w ∈ lw_g) ∧ (∀ k, k < nfd ci → parseFieldDescriptor (clT ci k).2.2.1 = some (clY ci k)) ∧ ∀ a, a < nfd ci → ∀ b, b < nfd ci → a ≠ b → (clT ci a).2.1 ≠ (clT ci b).2.1 := by
  match ci, h with
  | 0, _ => exact ⟨rfl, inGs inX0 (by decide +kernel), tyX0_ok, nmX0⟩
  | 1, _ => exact ⟨rfl, inGs inX1 (by decide +kernel), tyX1_ok, nmX1⟩
  | 2, _ => exact ⟨rfl, inGs inX2 (by decide +kernel), tyX2_ok, nmX2⟩
  | 3, _ => exact ⟨rfl, inGs inX3 (by decide +kernel), tyX3_ok, nmX3⟩
  | 4, _ => exact ⟨rfl, inGs inX4 (by decide +kernel), tyX4_ok, nmX4⟩
  | 5, _ => exact ⟨rfl, inGs inX5 (by decide +kernel), tyX5_ok, nmX5⟩
  | 6, _ => exact ⟨rfl, inGs inX6 (by decide +kernel), tyX6_ok, nmX6⟩
  | 7, _ => exact ⟨rfl, inGs inX7 (by decide +kernel), tyX7_ok, nmX7⟩
  | 8, _ => exact ⟨rfl, inGs inX8 (by decide +kernel), tyX8_ok, nmX8⟩
theorem cellE_o (E : EV) {T : TH} {a ci : Nat} (h : e_K T a = ci + 1) (hc : ci < 9) : cellE E T a = .inr (ci, (List.range (nfd ci)).map (fun k => rv E (gvl T ci k a))) := by
  unfold cellE
  rw [if_pos (by omega), h]
  rfl
theorem cellE_a (E : EV) {T : TH} {a k : Nat} (h : e_K T a = k) (hc : 20 ≤ k) : cellE E T a = .inl (kCl E k, e_len T a, kDat E T k a) := by
  unfold cellE
  rw [if_neg (by omega), h]
/-- the field's link -/
def FLd (own : String) (idx ci k : Nat) : Prop := ci < 9 ∧ k < nfd ci ∧ Cond.fieldLink own idx (clT ci k).1 (clT ci k).2.1 (clT ci k).2.2.1 ∈ lw_g
/-- an instruction that reads the heap -/
theorem x_read (k : X mm d pc' L st' T r Tf)
    (h : ∀ (E : EV) (p : Program) (l : Launch) (e : Env) (R : Room) (s : State) (m : MethodId) (args : Array Value) (below : List Frame) (meth : Method) (c : Code) (H : Heap) (locs : List Loc) (ls : Array Slot) (cells slots : Nat) (Z : State → Prop), p.tables.exec = Jvm.exec → c.code = mm.2.2.1 → s.vm.findClass mm.1 = some m.cls → (∀ w ∈ lw_g, w.before args s = true) → va_K E.2.2.1 vwCl (eTys E) s → Hp E T H →
      W p l e R s m args below meth c H locs cells slots Z (F0 m pc' ls (st'.map (rv E))) → W p l e R s m args below meth c H locs cells slots Z (F0 m pc ls (st.map (rv E)))) : X mm d pc L st T r Tf :=
  ⟨k.1, fun E p l e R s m args below meth c H locs ls n0 s0 Z C h1 hl hp hs hz => h E p l e R s m args below meth c H locs ls _ _ Z C.1 C.2.1 C.2.2.2.2.2.1 C.2.2.2.2.2.2.1 C.2.2.2.2.2.2.2.2.1.1 hp (k.2 E p l e R s m args below meth c H locs ls n0 s0 Z C h1 hl hp hs hz)⟩
theorem x_get {idx ci k a : Nat} {v : Value} (hd : decode mm.2.2.1 pc = .ok (.getfield idx, 3)) (hf : FLd mm.1 idx ci k) (hK : e_K T a = ci + 1) (hv : gvl T ci k a = v) (kk : X mm d (pc + 3) L (v :: st) T r Tf) : X mm d pc L (.ref a :: st) T r Tf :=
  x_read kk (fun E p l e R s m args below meth c H locs ls cells slots Z hx hb ho hts hKK hp w => by
    obtain ⟨h1, h2, h3⟩ := hf
    obtain ⟨g1, g2, -, -⟩ := cl_ok ci h1
    refine va_get (v := rv E v) hx hb hts g2 ho hKK hp.2.1 a (by rw [wsE_at E T (hp.lt (by omega)), cellE_o E hK h1]) g1 k h2 (hts _ h3) (fun _ h9 => h9) (by simp [h2, hv]) hd w)
theorem nI_ok {E : EV} {H : Heap} (hp : Hp E T H) {a j : Nat} {i : Int32} (hi : i = nI j) (hj : j < e_len T a) : vp_in i (e_len T a) ∧ i.toNatClampNeg = j := by
  subst hi
  have := hp.2.2.2 a
  exact ⟨vp_in_nI hj this, nI_clamp (by omega)⟩
theorem x_iald {a j : Nat} {i x : Int32} (hd : decode mm.2.2.1 pc = .ok (.iaload, 1)) (hK : e_K T a = 20) (hi : i = nI j) (hj : j < e_len T a) (hv : e_ai T a j = x) (kk : X mm d (pc + 1) L (.int x :: st) T r Tf) : X mm d pc L (.int i :: .ref a :: st) T r Tf :=
  x_read kk (fun E p l e R s m args below meth c H locs ls cells slots Z hx hb ho hts hKK hp w => by
    obtain ⟨h1, h2⟩ := nI_ok hp hi hj
    refine va_iald hx hb hKK hp.2.1 a 0 (by rw [wsE_at E T (hp.lt (by omega)), cellE_a E hK (by omega)]; rfl) rfl h1 hd ?_
    rw [h2, hv]; exact w)
theorem x_bald {a j : Nat} {i x : Int32} (hd : decode mm.2.2.1 pc = .ok (.baload, 1)) (hK : e_K T a = 21) (hi : i = nI j) (hj : j < e_len T a) (hv : e_ai T a j = x) (kk : X mm d (pc + 1) L (.int x :: st) T r Tf) : X mm d pc L (.int i :: .ref a :: st) T r Tf :=
  x_read kk (fun E p l e R s m args below meth c H locs ls cells slots Z hx hb ho hts hKK hp w => by
    obtain ⟨h1, h2⟩ := nI_ok hp hi hj
    refine va_bald hx hb hKK hp.2.1 a 1 (by rw [wsE_at E T (hp.lt (by omega)), cellE_a E hK (by omega)]; rfl) rfl h1 hd ?_
    rw [h2, hv]; exact w)
theorem x_zald {a j : Nat} {i x : Int32} (hd : decode mm.2.2.1 pc = .ok (.baload, 1)) (hK : e_K T a = 22) (hi : i = nI j) (hj : j < e_len T a) (hv : e_ai T a j = x) (kk : X mm d (pc + 1) L (.int x :: st) T r Tf) : X mm d pc L (.int i :: .ref a :: st) T r Tf :=
  x_read kk (fun E p l e R s m args below meth c H locs ls cells slots Z hx hb ho hts hKK hp w => by
    obtain ⟨h1, h2⟩ := nI_ok hp hi hj
    refine va_zald hx hb hKK hp.2.1 a 2 (by rw [wsE_at E T (hp.lt (by omega)), cellE_a E hK (by omega)]; rfl) rfl h1 hd ?_
    rw [h2, hv]; exact w)
theorem x_lald {a j : Nat} {i : Int32} {x : Int64} (hd : decode mm.2.2.1 pc = .ok (.laload, 1)) (hK : e_K T a = 23) (hi : i = nI j) (hj : j < e_len T a) (hv : e_al T a j = x) (kk : X mm d (pc + 1) L (.long x :: st) T r Tf) : X mm d pc L (.int i :: .ref a :: st) T r Tf :=
  x_read kk (fun E p l e R s m args below meth c H locs ls cells slots Z hx hb ho hts hKK hp w => by
    obtain ⟨h1, h2⟩ := nI_ok hp hi hj
    refine va_lald hx hb hKK hp.2.1 a 3 (by rw [wsE_at E T (hp.lt (by omega)), cellE_a E hK (by omega)]; rfl) rfl h1 hd ?_
    rw [h2, hv]; exact w)
theorem x_aald {a j : Nat} {i : Int32} {v : Value} (hd : decode mm.2.2.1 pc = .ok (.aaload, 1)) (hK : e_K T a = 24) (hi : i = nI j) (hj : j < e_len T a) (hv : va_rf (e_ar T a j) = v) (kk : X mm d (pc + 1) L (v :: st) T r Tf) : X mm d pc L (.int i :: .ref a :: st) T r Tf :=
  x_read kk (fun E p l e R s m args below meth c H locs ls cells slots Z hx hb ho hts hKK hp w => by
    obtain ⟨h1, h2⟩ := nI_ok hp hi hj
    refine va_aldq (f := fun j => (e_ar T a j).map (E.1 + ·)) hx hb hKK hp.2.1 a 4 (by rw [wsE_at E T (hp.lt (by omega)), cellE_a E hK (by omega)]; rfl) rfl h1 hd ?_
    rw [h2, ← rv_rf, hv]; exact w)
def kTy (k : Nat) : FieldType := if k = 20 then .int else if k = 21 then .byte else if k = 22 then .boolean else if k = 23 then .long else .object RX3
theorem eTys_at (E : EV) {k : Nat} (h1 : 20 ≤ k) (h2 : k ≤ 24) : (eTys E)[k - 20]? = some (kCl E k, kTy k) := by
  rcases (show k = 20 ∨ k = 21 ∨ k = 22 ∨ k = 23 ∨ k = 24 by omega) with rfl | rfl | rfl | rfl | rfl <;> rfl
theorem x_alen {a j : Nat} {x : Int32} (hd : decode mm.2.2.1 pc = .ok (.arraylength, 1)) (hK : 20 ≤ e_K T a ∧ e_K T a ≤ 24) (hj : nI (e_len T a) = x) (kk : X mm d (pc + 1) L (.int x :: st) T r Tf) : X mm d pc L (.ref a :: st) T r Tf :=
  x_read kk (fun E p l e R s m args below meth c H locs ls cells slots Z hx hb ho hts hKK hp w =>
    va_alen (x := (e_len T a, kDat E T (e_K T a) a)) hx hb hKK hp.2.1 a (e_K T a - 20) (by rw [wsE_at E T (hp.lt (by omega)), cellE_a E rfl hK.1]) (eTys_at E hK.1 hK.2) hj hd w)
/-- the law's script -/
theorem x_sld {j : Nat} {i x : Int32} {z : UInt32} (hd : decode mm.2.2.1 pc = .ok (.iaload, 1)) (hL : mm.1 = RL) (hs : (e_sc T).1 < 2147483648) (hi : i = nI j) (hj : j < (e_sc T).1) (hv : (e_sc T).2 j = x) (k : X mm d (pc + 1) L (.int x :: st) T r Tf) : X mm d pc L (.int i :: .float z :: st) T r Tf :=
  ⟨k.1, fun E p l e R s m args below meth c H locs ls n0 s0 Z C h1 hl hp hsS hz => by
    obtain ⟨hX, hb1, hb2⟩ := C.2.2.2.2.2.2.2.2.2.2.2 hL
    subst hi
    refine va_sld C.1 C.2.1 hX hb1 hb2 hsS (vp_in_nI hj hs) hd ?_
    rw [nI_clamp (by omega), hv]
    exact k.2 E p l e R s m args below meth c H locs ls n0 s0 Z C h1 hl hp hsS hz⟩
theorem x_slen {z : UInt32} {x : Int32} (hd : decode mm.2.2.1 pc = .ok (.arraylength, 1)) (hL : mm.1 = RL) (hv : nI (e_sc T).1 = x) (k : X mm d (pc + 1) L (.int x :: st) T r Tf) : X mm d pc L (.float z :: st) T r Tf :=
  ⟨k.1, fun E p l e R s m args below meth c H locs ls n0 s0 Z C h1 hl hp hsS hz => by
    obtain ⟨hX, hb1, hb2⟩ := C.2.2.2.2.2.2.2.2.2.2.2 hL
    refine va_slen C.1 C.2.1 hX hb1 hb2 hsS hd ?_
    have w := k.2 E p l e R s m args below meth c H locs ls n0 s0 Z C h1 hl hp hsS hz
    rw [← hv] at w
    exact w⟩
/-! writes -/
theorem Hp_of {E : EV} {T : TH} {H : Heap} (hP : va_P E.2.2.1 vwCl (wsE E T) H) (hn : 0 < e_n T) (hs : H.size ≤ E.1 + e_n T) (hk : ∀ a, e_n T ≤ a → e_K T a = 0) (hl : ∀ a, e_len T a < 2147483648) : Hp E T H := by
  refine ⟨?_, hP, hk, hl⟩
  have h1 := (hP (e_n T - 1) _ (wsE_at E T (a := e_n T - 1) (by omega))).lt
  have h2 : E.1 + (e_n T - 1) < H.size := h1
  omega
theorem x_write {T' : TH} (a : Nat) (hn : e_n T' = e_n T) (hs : e_s T' = e_s T) (hsc : e_sc T' = e_sc T) (hKK : e_K T' = e_K T) (hln : e_len T' = e_len T) (hcell : ∀ E b, b ≠ a → cellE E T' b = cellE E T b) (ha : e_K T a ≠ 0) (k : X mm d pc' L st' T' r Tf)
    (h : ∀ (E : EV) (p : Program) (l : Launch) (e : Env) (R : Room) (s : State) (m : MethodId) (args : Array Value) (below : List Frame) (meth : Method) (c : Code) (H : Heap) (locs : List Loc) (ls : Array Slot) (cells slots : Nat) (Z : State → Prop), p.tables.exec = Jvm.exec → c.code = mm.2.2.1 → s.vm.findClass mm.1 = some m.cls → (∀ w ∈ lw_g, w.before args s = true) → (mm.2.1.name = "<init>" → meth.name = "<init>") → va_K E.2.2.1 vwCl (eTys E) s → Hp E T H → va_S (AA E) s.heap H locs →
      (∀ (H1 : Heap) (locs1 : List Loc), va_P E.2.2.1 vwCl ((wsE E T).set a (E.1 + a, cellE E T' a)) H1 → va_S (AA E) s.heap H1 locs1 → W p l e R s m args below meth c H1 locs1 cells slots Z (F0 m pc' ls (st'.map (rv E)))) → W p l e R s m args below meth c H locs cells slots Z (F0 m pc ls (st.map (rv E)))) : X mm d pc L st T r Tf := by
  refine ⟨⟨by rw [← hn]; exact k.1.1, by rw [← hs]; exact k.1.2.1, by rw [k.1.2.2.1, hsc], k.1.2.2.2⟩, fun E p l e R s m args below meth c H locs ls n0 s0 Z C h1 hl hp hS hz => ?_⟩
  refine h E p l e R s m args below meth c H locs ls _ _ Z C.1 C.2.1 C.2.2.2.2.2.1 C.2.2.2.2.2.2.1 C.2.2.2.2.2.2.2.1 C.2.2.2.2.2.2.2.2.1.1 hp hS (fun H1 locs1 hP1 hS1 => ?_)
  rw [wsE_set E hn rfl (hcell E)] at hP1
  refine W_sz (fun hsz => ?_)
  have hlt := hp.lt ha
  have h0 : s.heap.size = E.1 + n0 := C.2.2.2.2.2.2.2.2.2.1
  have hp1 : Hp E T' H1 := Hp_of hP1 (by omega) (by rw [hn]; omega) (by rw [hn, hKK]; exact hp.2.2.1) (by rw [hln]; exact hp.2.2.2)
  have w := k.2 E p l e R s m args below meth c H1 locs1 ls n0 s0 Z (by rw [Cx, hsc]; exact C) (by rw [hn, hs]; exact h1) hl hp1 hS1 hz
  rw [hn, hs] at w
  exact w
/-- the field's link for a write: type code; not final (or the class's own constructor) -/
def FPd (mm : MR) (idx ci k : Nat) (ty : FieldType) : Prop := FLd mm.1 idx ci k ∧ (clT ci k).2.2.2 = false ∧ clY ci k = ty
def FPf (mm : MR) (idx ci k : Nat) (ty : FieldType) : Prop := FLd mm.1 idx ci k ∧ (clT ci k).2.2.2 = true ∧ clY ci k = ty ∧ mm.2.1.name = "<init>" ∧ (clT ci k).1 = mm.1
theorem fs_set (E : EV) {T T' : TH} {ci k a : Nat} {v : Value} (h : gvl T' ci k a = v) (ho : ∀ j, j ≠ k → gvl T' ci j a = gvl T ci j a) : ((List.range (nfd ci)).map (fun k => rv E (gvl T ci k a))).set k (rv E v) = (List.range (nfd ci)).map (fun k => rv E (gvl T' ci k a)) := by
  apply List.ext_getElem?
  intro i
  rw [List.getElem?_set]
  by_cases hi : k = i
  · subst hi
    by_cases hl : k < nfd ci <;> simp [hl, h]
  · rw [if_neg hi]
    by_cases hl : i < nfd ci
    · simp [hl, ho i (fun e => hi e.symm)]
    · simp [hl]
theorem x_puti {idx ci k a : Nat} {x : Int32} {ty : FieldType} (hd : decode mm.2.2.1 pc = .ok (.putfield idx, 3)) (hf : FPd mm idx ci k ty) (hc : ftc ci k = 0 ∨ ftc ci k = 3) (hn : narrow ty (.int x) = .int x) (hw : fits ty (.int x) = true) (hK : e_K T a = ci + 1) (kk : X mm d (pc + 3) L st (s_i T (64 * ci + k) a x) r Tf) : X mm d pc L (.int x :: .ref a :: st) T r Tf := by
  obtain ⟨⟨h1, h2, h3⟩, hfin, hty⟩ := hf
  obtain ⟨g1, g2, g3, g4⟩ := cl_ok ci h1
  have hgk : gvl (s_i T (64 * ci + k) a x) ci k a = .int x := by rcases hc with hc | hc <;> simp [gvl, hc, s_i, e_i, e_l, e_r, up2, va_rf]
  have hgo : ∀ j, j ≠ k → gvl (s_i T (64 * ci + k) a x) ci j a = gvl T ci j a := by
    intro j hj
    simp [gvl, s_i, e_i, e_l, e_r, up2, hj]
  refine x_write (T' := s_i T (64 * ci + k) a x) a rfl rfl rfl rfl rfl ?_ (by omega) kk (fun E p l e R s m args below meth c H locs ls cells slots Z hx hb ho hts hmn hKK hp hS w => ?_)
  · intro E q0 hq0
    have hg : ∀ c j, gvl (s_i T (64 * ci + k) a x) c j q0 = gvl T c j q0 := by intro c j; simp [gvl, s_i, e_i, e_l, e_r, up2, hq0]
    unfold cellE
    simp only [hg]
    rfl
  · refine va_put (v := rv E (.int x)) (ty := ty) hx hb hts g2 (clY ci) g3 g4 ho hKK hp.2.1 (wsE_D E T) hS a (by rw [wsE_at E T (hp.lt (by omega)), cellE_o E hK h1]) g1 k h2 (hts _ h3) (fun _ h9 => h9) hfin (by rw [g3 k h2, hty]) hn hw (by simp [h2]) hd (fun H1 locs1 hP1 hD1 hS1 => w H1 locs1 ?_ hS1)
    rw [cellE_o E (T := s_i T (64 * ci + k) a x) hK h1, ← fs_set E hgk hgo]
    exact hP1
theorem x_putl {idx ci k a : Nat} {x : Int64} {ty : FieldType} (hd : decode mm.2.2.1 pc = .ok (.putfield idx, 3)) (hf : FPd mm idx ci k ty) (hc : ftc ci k = 1) (hn : narrow ty (.long x) = .long x) (hw : fits ty (.long x) = true) (hK : e_K T a = ci + 1) (kk : X mm d (pc + 3) L st (s_l T (64 * ci + k) a x) r Tf) : X mm d pc L (.long x :: .ref a :: st) T r Tf := by
  obtain ⟨⟨h1, h2, h3⟩, hfin, hty⟩ := hf
  obtain ⟨g1, g2, g3, g4⟩ := cl_ok ci h1
  have hgk : gvl (s_l T (64 * ci + k) a x) ci k a = .long x := by simp [gvl, hc, s_l, e_i, e_l, e_r, up2, va_rf]
  have hgo : ∀ j, j ≠ k → gvl (s_l T (64 * ci + k) a x) ci j a = gvl T ci j a := by
    intro j hj
    simp [gvl, s_l, e_i, e_l, e_r, up2, hj]
  refine x_write (T' := s_l T (64 * ci + k) a x) a rfl rfl rfl rfl rfl ?_ (by omega) kk (fun E p l e R s m args below meth c H locs ls cells slots Z hx hb ho hts hmn hKK hp hS w => ?_)
  · intro E q0 hq0
    have hg : ∀ c j, gvl (s_l T (64 * ci + k) a x) c j q0 = gvl T c j q0 := by intro c j; simp [gvl, s_l, e_i, e_l, e_r, up2, hq0]
    unfold cellE
    simp only [hg]
    rfl
  · refine va_put (v := rv E (.long x)) (ty := ty) hx hb hts g2 (clY ci) g3 g4 ho hKK hp.2.1 (wsE_D E T) hS a (by rw [wsE_at E T (hp.lt (by omega)), cellE_o E hK h1]) g1 k h2 (hts _ h3) (fun _ h9 => h9) hfin (by rw [g3 k h2, hty]) hn hw (by simp [h2]) hd (fun H1 locs1 hP1 hD1 hS1 => w H1 locs1 ?_ hS1)
    rw [cellE_o E (T := s_l T (64 * ci + k) a x) hK h1, ← fs_set E hgk hgo]
    exact hP1
theorem x_putr {idx ci k a : Nat} {b : Nat} {ty : FieldType} (hd : decode mm.2.2.1 pc = .ok (.putfield idx, 3)) (hf : FPd mm idx ci k ty) (hc : ftc ci k = 2) (hn : ∀ q, narrow ty (.ref q) = .ref q) (hw : ∀ q, fits ty (.ref q) = true) (hK : e_K T a = ci + 1) (kk : X mm d (pc + 3) L st (s_r T (64 * ci + k) a (some b)) r Tf) : X mm d pc L (.ref b :: .ref a :: st) T r Tf := by
  obtain ⟨⟨h1, h2, h3⟩, hfin, hty⟩ := hf
  obtain ⟨g1, g2, g3, g4⟩ := cl_ok ci h1
  have hgk : gvl (s_r T (64 * ci + k) a (some b)) ci k a = .ref b := by simp [gvl, hc, s_r, e_i, e_l, e_r, up2, va_rf]
  have hgo : ∀ j, j ≠ k → gvl (s_r T (64 * ci + k) a (some b)) ci j a = gvl T ci j a := by
    intro j hj
    simp [gvl, s_r, e_i, e_l, e_r, up2, hj]
  refine x_write (T' := s_r T (64 * ci + k) a (some b)) a rfl rfl rfl rfl rfl ?_ (by omega) kk (fun E p l e R s m args below meth c H locs ls cells slots Z hx hb ho hts hmn hKK hp hS w => ?_)
  · intro E q0 hq0
    have hg : ∀ c j, gvl (s_r T (64 * ci + k) a (some b)) c j q0 = gvl T c j q0 := by intro c j; simp [gvl, s_r, e_i, e_l, e_r, up2, hq0]
    unfold cellE
    simp only [hg]
    rfl
  · refine va_put (v := rv E (.ref b)) (ty := ty) hx hb hts g2 (clY ci) g3 g4 ho hKK hp.2.1 (wsE_D E T) hS a (by rw [wsE_at E T (hp.lt (by omega)), cellE_o E hK h1]) g1 k h2 (hts _ h3) (fun _ h9 => h9) hfin (by rw [g3 k h2, hty]) (hn _) (hw _) (by simp [h2]) hd (fun H1 locs1 hP1 hD1 hS1 => w H1 locs1 ?_ hS1)
    rw [cellE_o E (T := s_r T (64 * ci + k) a (some b)) hK h1, ← fs_set E hgk hgo]
    exact hP1
theorem x_putn {idx ci k a : Nat} {ty : FieldType} (hd : decode mm.2.2.1 pc = .ok (.putfield idx, 3)) (hf : FPd mm idx ci k ty) (hc : ftc ci k = 2) (hn : narrow ty (.null) = .null) (hw : fits ty (.null) = true) (hK : e_K T a = ci + 1) (kk : X mm d (pc + 3) L st (s_r T (64 * ci + k) a none) r Tf) : X mm d pc L (.null :: .ref a :: st) T r Tf := by
  obtain ⟨⟨h1, h2, h3⟩, hfin, hty⟩ := hf
  obtain ⟨g1, g2, g3, g4⟩ := cl_ok ci h1
  have hgk : gvl (s_r T (64 * ci + k) a none) ci k a = .null := by simp [gvl, hc, s_r, e_i, e_l, e_r, up2, va_rf]
  have hgo : ∀ j, j ≠ k → gvl (s_r T (64 * ci + k) a none) ci j a = gvl T ci j a := by
    intro j hj
    simp [gvl, s_r, e_i, e_l, e_r, up2, hj]
  refine x_write (T' := s_r T (64 * ci + k) a none) a rfl rfl rfl rfl rfl ?_ (by omega) kk (fun E p l e R s m args below meth c H locs ls cells slots Z hx hb ho hts hmn hKK hp hS w => ?_)
  · intro E q0 hq0
    have hg : ∀ c j, gvl (s_r T (64 * ci + k) a none) c j q0 = gvl T c j q0 := by intro c j; simp [gvl, s_r, e_i, e_l, e_r, up2, hq0]
    unfold cellE
    simp only [hg]
    rfl
  · refine va_put (v := rv E (.null)) (ty := ty) hx hb hts g2 (clY ci) g3 g4 ho hKK hp.2.1 (wsE_D E T) hS a (by rw [wsE_at E T (hp.lt (by omega)), cellE_o E hK h1]) g1 k h2 (hts _ h3) (fun _ h9 => h9) hfin (by rw [g3 k h2, hty]) hn hw (by simp [h2]) hd (fun H1 locs1 hP1 hD1 hS1 => w H1 locs1 ?_ hS1)
    rw [cellE_o E (T := s_r T (64 * ci + k) a none) hK h1, ← fs_set E hgk hgo]
    exact hP1
theorem x_putiF {idx ci k a : Nat} {x : Int32} {ty : FieldType} (hd : decode mm.2.2.1 pc = .ok (.putfield idx, 3)) (hf : FPf mm idx ci k ty) (hc : ftc ci k = 0 ∨ ftc ci k = 3) (hn : narrow ty (.int x) = .int x) (hw : fits ty (.int x) = true) (hK : e_K T a = ci + 1) (kk : X mm d (pc + 3) L st (s_i T (64 * ci + k) a x) r Tf) : X mm d pc L (.int x :: .ref a :: st) T r Tf := by
  obtain ⟨⟨h1, h2, h3⟩, hfin, hty, hin, hdc⟩ := hf
  obtain ⟨g1, g2, g3, g4⟩ := cl_ok ci h1
  have hgk : gvl (s_i T (64 * ci + k) a x) ci k a = .int x := by rcases hc with hc | hc <;> simp [gvl, hc, s_i, e_i, e_l, e_r, up2, va_rf]
  have hgo : ∀ j, j ≠ k → gvl (s_i T (64 * ci + k) a x) ci j a = gvl T ci j a := by
    intro j hj
    simp [gvl, s_i, e_i, e_l, e_r, up2, hj]
  refine x_write (T' := s_i T (64 * ci + k) a x) a rfl rfl rfl rfl rfl ?_ (by omega) kk (fun E p l e R s m args below meth c H locs ls cells slots Z hx hb ho hts hmn hKK hp hS w => ?_)
  · intro E q0 hq0
    have hg : ∀ c j, gvl (s_i T (64 * ci + k) a x) c j q0 = gvl T c j q0 := by intro c j; simp [gvl, s_i, e_i, e_l, e_r, up2, hq0]
    unfold cellE
    simp only [hg]
    rfl
  · refine va_putF (v := rv E (.int x)) (ty := ty) hx hb hts g2 (clY ci) g3 g4 ho hKK hp.2.1 (wsE_D E T) hS a (by rw [wsE_at E T (hp.lt (by omega)), cellE_o E hK h1]) g1 k h2 (hts _ h3) (fun _ h9 => h9) hfin (hmn hin) hdc (by rw [g3 k h2, hty]) hn hw (by simp [h2]) hd (fun H1 locs1 hP1 hD1 hS1 => w H1 locs1 ?_ hS1)
    rw [cellE_o E (T := s_i T (64 * ci + k) a x) hK h1, ← fs_set E hgk hgo]
    exact hP1
theorem x_putlF {idx ci k a : Nat} {x : Int64} {ty : FieldType} (hd : decode mm.2.2.1 pc = .ok (.putfield idx, 3)) (hf : FPf mm idx ci k ty) (hc : ftc ci k = 1) (hn : narrow ty (.long x) = .long x) (hw : fits ty (.long x) = true) (hK : e_K T a = ci + 1) (kk : X mm d (pc + 3) L st (s_l T (64 * ci + k) a x) r Tf) : X mm d pc L (.long x :: .ref a :: st) T r Tf := by
  obtain ⟨⟨h1, h2, h3⟩, hfin, hty, hin, hdc⟩ := hf
  obtain ⟨g1, g2, g3, g4⟩ := cl_ok ci h1
  have hgk : gvl (s_l T (64 * ci + k) a x) ci k a = .long x := by simp [gvl, hc, s_l, e_i, e_l, e_r, up2, va_rf]
  have hgo : ∀ j, j ≠ k → gvl (s_l T (64 * ci + k) a x) ci j a = gvl T ci j a := by
    intro j hj
    simp [gvl, s_l, e_i, e_l, e_r, up2, hj]
  refine x_write (T' := s_l T (64 * ci + k) a x) a rfl rfl rfl rfl rfl ?_ (by omega) kk (fun E p l e R s m args below meth c H locs ls cells slots Z hx hb ho hts hmn hKK hp hS w => ?_)
  · intro E q0 hq0
    have hg : ∀ c j, gvl (s_l T (64 * ci + k) a x) c j q0 = gvl T c j q0 := by intro c j; simp [gvl, s_l, e_i, e_l, e_r, up2, hq0]
    unfold cellE
    simp only [hg]
    rfl
  · refine va_putF (v := rv E (.long x)) (ty := ty) hx hb hts g2 (clY ci) g3 g4 ho hKK hp.2.1 (wsE_D E T) hS a (by rw [wsE_at E T (hp.lt (by omega)), cellE_o E hK h1]) g1 k h2 (hts _ h3) (fun _ h9 => h9) hfin (hmn hin) hdc (by rw [g3 k h2, hty]) hn hw (by simp [h2]) hd (fun H1 locs1 hP1 hD1 hS1 => w H1 locs1 ?_ hS1)
    rw [cellE_o E (T := s_l T (64 * ci + k) a x) hK h1, ← fs_set E hgk hgo]
    exact hP1
theorem x_putrF {idx ci k a : Nat} {b : Nat} {ty : FieldType} (hd : decode mm.2.2.1 pc = .ok (.putfield idx, 3)) (hf : FPf mm idx ci k ty) (hc : ftc ci k = 2) (hn : ∀ q, narrow ty (.ref q) = .ref q) (hw : ∀ q, fits ty (.ref q) = true) (hK : e_K T a = ci + 1) (kk : X mm d (pc + 3) L st (s_r T (64 * ci + k) a (some b)) r Tf) : X mm d pc L (.ref b :: .ref a :: st) T r Tf := by
  obtain ⟨⟨h1, h2, h3⟩, hfin, hty, hin, hdc⟩ := hf
  obtain ⟨g1, g2, g3, g4⟩ := cl_ok ci h1
  have hgk : gvl (s_r T (64 * ci + k) a (some b)) ci k a = .ref b := by simp [gvl, hc, s_r, e_i, e_l, e_r, up2, va_rf]
  have hgo : ∀ j, j ≠ k → gvl (s_r T (64 * ci + k) a (some b)) ci j a = gvl T ci j a := by
    intro j hj
    simp [gvl, s_r, e_i, e_l, e_r, up2, hj]
  refine x_write (T' := s_r T (64 * ci + k) a (some b)) a rfl rfl rfl rfl rfl ?_ (by omega) kk (fun E p l e R s m args below meth c H locs ls cells slots Z hx hb ho hts hmn hKK hp hS w => ?_)
  · intro E q0 hq0
    have hg : ∀ c j, gvl (s_r T (64 * ci + k) a (some b)) c j q0 = gvl T c j q0 := by intro c j; simp [gvl, s_r, e_i, e_l, e_r, up2, hq0]
    unfold cellE
    simp only [hg]
    rfl
  · refine va_putF (v := rv E (.ref b)) (ty := ty) hx hb hts g2 (clY ci) g3 g4 ho hKK hp.2.1 (wsE_D E T) hS a (by rw [wsE_at E T (hp.lt (by omega)), cellE_o E hK h1]) g1 k h2 (hts _ h3) (fun _ h9 => h9) hfin (hmn hin) hdc (by rw [g3 k h2, hty]) (hn _) (hw _) (by simp [h2]) hd (fun H1 locs1 hP1 hD1 hS1 => w H1 locs1 ?_ hS1)
    rw [cellE_o E (T := s_r T (64 * ci + k) a (some b)) hK h1, ← fs_set E hgk hgo]
    exact hP1
theorem x_putnF {idx ci k a : Nat} {ty : FieldType} (hd : decode mm.2.2.1 pc = .ok (.putfield idx, 3)) (hf : FPf mm idx ci k ty) (hc : ftc ci k = 2) (hn : narrow ty (.null) = .null) (hw : fits ty (.null) = true) (hK : e_K T a = ci + 1) (kk : X mm d (pc + 3) L st (s_r T (64 * ci + k) a none) r Tf) : X mm d pc L (.null :: .ref a :: st) T r Tf := by
  obtain ⟨⟨h1, h2, h3⟩, hfin, hty, hin, hdc⟩ := hf
  obtain ⟨g1, g2, g3, g4⟩ := cl_ok ci h1
  have hgk : gvl (s_r T (64 * ci + k) a none) ci k a = .null := by simp [gvl, hc, s_r, e_i, e_l, e_r, up2, va_rf]
  have hgo : ∀ j, j ≠ k → gvl (s_r T (64 * ci + k) a none) ci j a = gvl T ci j a := by
    intro j hj
    simp [gvl, s_r, e_i, e_l, e_r, up2, hj]
  refine x_write (T' := s_r T (64 * ci + k) a none) a rfl rfl rfl rfl rfl ?_ (by omega) kk (fun E p l e R s m args below meth c H locs ls cells slots Z hx hb ho hts hmn hKK hp hS w => ?_)
  · intro E q0 hq0
    have hg : ∀ c j, gvl (s_r T (64 * ci + k) a none) c j q0 = gvl T c j q0 := by intro c j; simp [gvl, s_r, e_i, e_l, e_r, up2, hq0]
    unfold cellE
    simp only [hg]
    rfl
  · refine va_putF (v := rv E (.null)) (ty := ty) hx hb hts g2 (clY ci) g3 g4 ho hKK hp.2.1 (wsE_D E T) hS a (by rw [wsE_at E T (hp.lt (by omega)), cellE_o E hK h1]) g1 k h2 (hts _ h3) (fun _ h9 => h9) hfin (hmn hin) hdc (by rw [g3 k h2, hty]) hn hw (by simp [h2]) hd (fun H1 locs1 hP1 hD1 hS1 => w H1 locs1 ?_ hS1)
    rw [cellE_o E (T := s_r T (64 * ci + k) a none) hK h1, ← fs_set E hgk hgo]
    exact hP1
end Rules2
