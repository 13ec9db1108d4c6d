/-! what a method comes to, as a predicate on answer and heap -/
def Xe (mm : MR) (d pc : Nat) (L : List (Nat × Value)) (st : List Value) (T : TH) (P : Option Value → TH → Prop) : Prop := ∃ (r : Option Value) (Tf : TH), X mm d pc L st T r Tf ∧ P r Tf
section XE
variable {mm cm : MR} {d pc pc' : Nat} {L L' : List (Nat × Value)} {st st' stk : List Value} {T T' : TH} {P Q : Option Value → TH → Prop}
theorem xe (f : ∀ r Tf, X mm d pc' L' st' T' r Tf → X mm d pc L st T r Tf) (k : Xe mm d pc' L' st' T' P) : Xe mm d pc L st T P := by
  obtain ⟨r, Tf, h, hp⟩ := k
  exact ⟨r, Tf, f r Tf h, hp⟩
theorem Xe.imp (k : Xe mm d pc L st T P) (h : ∀ r Tf, P r Tf → Q r Tf) : Xe mm d pc L st T Q := by
  obtain ⟨r, Tf, h1, hp⟩ := k
  exact ⟨r, Tf, h1, h r Tf hp⟩
theorem xe_loc (h : ∀ q ∈ L', q ∈ L) (k : Xe mm d pc L' st T P) : Xe mm d pc L st T P := xe (fun _ _ k => x_loc h k) k
theorem xe_T (h : T = T') (k : Xe mm d pc L st T' P) : Xe mm d pc L st T P := h ▸ k
theorem xe_ti {x y : Int32} (h : x = y) (k : Xe mm d pc L (.int y :: st) T P) : Xe mm d pc L (.int x :: st) T P := h ▸ k
theorem xe_tl {x y : Int64} (h : x = y) (k : Xe mm d pc L (.long y :: st) T P) : Xe mm d pc L (.long x :: st) T P := h ▸ k
theorem xe_tv {x y : Value} (h : x = y) (k : Xe mm d pc L (y :: st) T P) : Xe mm d pc L (x :: st) T P := h ▸ k
theorem xe_reti {x : Int32} (hd : decode mm.2.2.1 pc = .ok (.ireturn, 1)) (hr : mm.2.2.2.2 = some .int) (hP : P (some (.int x)) T) : Xe mm d pc L [.int x] T P := ⟨_, _, x_ret (by rw [hr]; exact hd) (by rw [hr]; trivial) rfl, hP⟩
theorem xe_retz {x : Int32} (hd : decode mm.2.2.1 pc = .ok (.ireturn, 1)) (hr : mm.2.2.2.2 = some .boolean) (hx : x = 0 ∨ x = 1) (hP : P (some (.int x)) T) : Xe mm d pc L [.int x] T P := ⟨_, _, x_ret (by rw [hr]; exact hd) (by rw [hr]; exact hx) rfl, hP⟩
theorem xe_retl {x : Int64} (hd : decode mm.2.2.1 pc = .ok (.lreturn, 1)) (hr : mm.2.2.2.2 = some .long) (hP : P (some (.long x)) T) : Xe mm d pc L [.long x] T P := ⟨_, _, x_ret (by rw [hr]; exact hd) (by rw [hr]; trivial) rfl, hP⟩
theorem xe_reta {a : Nat} {n : String} (hd : decode mm.2.2.1 pc = .ok (.areturn, 1)) (hr : mm.2.2.2.2 = some (.object n)) (hP : P (some (.ref a)) T) : Xe mm d pc L [.ref a] T P := ⟨_, _, x_ret (by rw [hr]; exact hd) (by rw [hr]; trivial) rfl, hP⟩
theorem xe_retn {n : String} (hd : decode mm.2.2.1 pc = .ok (.areturn, 1)) (hr : mm.2.2.2.2 = some (.object n)) (hP : P (some .null) T) : Xe mm d pc L [.null] T P := ⟨_, _, x_ret (by rw [hr]; exact hd) (by rw [hr]; trivial) rfl, hP⟩
theorem xe_retr {a : Nat} {t : FieldType} (hd : decode mm.2.2.1 pc = .ok (.areturn, 1)) (hr : mm.2.2.2.2 = some (.array t)) (hP : P (some (.ref a)) T) : Xe mm d pc L [.ref a] T P := ⟨_, _, x_ret (by rw [hr]; exact hd) (by rw [hr]; trivial) rfl, hP⟩
theorem xe_retv (hd : decode mm.2.2.1 pc = .ok (.return_, 1)) (hr : mm.2.2.2.2 = none) (hP : P none T) : Xe mm d pc L [] T P := ⟨_, _, x_ret (by rw [hr]; exact hd) (by rw [hr]; trivial) rfl, hP⟩
theorem xe_callV {idx ci n a : Nat} (As : List Value) (hd : decode mm.2.2.1 pc = .ok (.invokevirtual idx, 3)) (hl : LV mm.1 idx ci cm n) (hm : MF cm) (hK : e_K T a = ci + 1) (hX : Xe cm d 0 (lv_args 0 (.ref a :: As)) [] T Q) (hstk : stk = As.reverse ++ .ref a :: st) (hn : As.length = n) (hs : (lg_sl (.ref a :: As)).length ≤ cm.2.2.2.1) (hc : (st.map fun v => v.category).sum ≤ 8) (k : ∀ r T1, Q r T1 → Xe mm (d + 1) (pc + 3) L (r.toList ++ st) T1 P) : Xe mm (d + 1) pc L stk T P := by
  obtain ⟨r, T1, h1, hq⟩ := hX
  obtain ⟨r2, T2, h2, hp⟩ := k r T1 hq
  exact ⟨r2, T2, x_callV As hd hl hm hK h1 hstk hn hs hc h2, hp⟩
theorem xe_callS {idx n : Nat} (As : List Value) (hd : decode mm.2.2.1 pc = .ok (.invokestatic idx, 3)) (hl : LSt mm.1 idx cm n) (hm : MF cm) (hX : Xe cm d 0 (lv_args 0 As) [] T Q) (hstk : stk = As.reverse ++ st) (hn : As.length = n) (hs : (lg_sl As).length ≤ cm.2.2.2.1) (hc : (st.map fun v => v.category).sum ≤ 8) (k : ∀ r T1, Q r T1 → Xe mm (d + 1) (pc + 3) L (r.toList ++ st) T1 P) : Xe mm (d + 1) pc L stk T P := by
  obtain ⟨r, T1, h1, hq⟩ := hX
  obtain ⟨r2, T2, h2, hp⟩ := k r T1 hq
  exact ⟨r2, T2, x_callS As hd hl hm h1 hstk hn hs hc h2, hp⟩
theorem xe_callSN {idx n : Nat} (As : List Value) (hd : decode mm.2.2.1 pc = .ok (.invokestatic idx, 3)) (hl : LSN mm.1 idx cm n) (hm : MF cm) (hX : Xe cm d 0 (lv_args 0 As) [] T Q) (hstk : stk = As.reverse ++ st) (hn : As.length = n) (hs : (lg_sl As).length ≤ cm.2.2.2.1) (hc : (st.map fun v => v.category).sum ≤ 8) (k : ∀ r T1, Q r T1 → Xe mm (d + 1) (pc + 3) L (r.toList ++ st) T1 P) : Xe mm (d + 1) pc L stk T P := by
  obtain ⟨r, T1, h1, hq⟩ := hX
  obtain ⟨r2, T2, h2, hp⟩ := k r T1 hq
  exact ⟨r2, T2, x_callSN As hd hl hm h1 hstk hn hs hc h2, hp⟩
theorem xe_callI {idx n a : Nat} (As : List Value) (hd : decode mm.2.2.1 pc = .ok (.invokespecial idx, 3)) (hl : LI mm.1 idx cm n) (hm : MF cm) (hX : Xe cm d 0 (lv_args 0 (.ref a :: As)) [] T Q) (hstk : stk = As.reverse ++ .ref a :: st) (hn : As.length = n) (hs : (lg_sl (.ref a :: As)).length ≤ cm.2.2.2.1) (hc : (st.map fun v => v.category).sum ≤ 8) (k : ∀ r T1, Q r T1 → Xe mm (d + 1) (pc + 3) L (r.toList ++ st) T1 P) : Xe mm (d + 1) pc L stk T P := by
  obtain ⟨r, T1, h1, hq⟩ := hX
  obtain ⟨r2, T2, h2, hp⟩ := k r T1 hq
  exact ⟨r2, T2, x_callI As hd hl hm h1 hstk hn hs hc h2, hp⟩
theorem xe_callIN {idx n a : Nat} (As : List Value) (hd : decode mm.2.2.1 pc = .ok (.invokespecial idx, 3)) (hl : LIN mm.1 idx cm n) (hm : MF cm) (hX : Xe cm d 0 (lv_args 0 (.ref a :: As)) [] T Q) (hstk : stk = As.reverse ++ .ref a :: st) (hn : As.length = n) (hs : (lg_sl (.ref a :: As)).length ≤ cm.2.2.2.1) (hc : (st.map fun v => v.category).sum ≤ 8) (k : ∀ r T1, Q r T1 → Xe mm (d + 1) (pc + 3) L (r.toList ++ st) T1 P) : Xe mm (d + 1) pc L stk T P := by
  obtain ⟨r, T1, h1, hq⟩ := hX
  obtain ⟨r2, T2, h2, hp⟩ := k r T1 hq
  exact ⟨r2, T2, x_callIN As hd hl hm h1 hstk hn hs hc h2, hp⟩
theorem gvl_i {ci k a : Nat} {x : Int32} (hc : ftc ci k = 0) (h : e_i T (64 * ci + k) a = x) : gvl T ci k a = .int x := by simp [gvl, hc, h]
theorem gvl_z {ci k a : Nat} {x : Int32} (hc : ftc ci k = 3) (h : e_i T (64 * ci + k) a = x) : gvl T ci k a = .int x := by simp [gvl, hc, h]
theorem gvl_l {ci k a : Nat} {x : Int64} (hc : ftc ci k = 1) (h : e_l T (64 * ci + k) a = x) : gvl T ci k a = .long x := by simp [gvl, hc, h]
theorem gvl_r {ci k a : Nat} {o : Option Nat} (hc : ftc ci k = 2) (h : e_r T (64 * ci + k) a = o) : gvl T ci k a = va_rf o := by simp [gvl, hc, h]
theorem gvl_r1 {ci k a b : Nat} (hc : ftc ci k = 2) (h : e_r T (64 * ci + k) a = some b) : gvl T ci k a = .ref b := by simp [gvl, hc, h, va_rf]
/-! Math -/
theorem mm_c : Cond.code Lib.Math.max.name Lib.Math.max.code 2 (some .int) ∈ lw_g := inG (by decide +kernel) (by decide +kernel)
theorem mn_c : Cond.code Lib.Math.min.name Lib.Math.min.code 2 (some .int) ∈ lw_g := inG (by decide +kernel) (by decide +kernel)
theorem ma_c : Cond.code Lib.MathLoose.abs_long.x Lib.MathLoose.abs_long.code 2 (some .long) ∈ lw_g := inG (by decide +kernel) (by decide +kernel)
theorem mi_c : Cond.initialized "java/lang/Math" ∈ lw_g := inG (by decide +kernel) (by decide +kernel)
theorem x_mmax {x y : Int32} {idx : Nat} {r : Option Value} {Tf : TH} (hd : decode mm.2.2.1 pc = .ok (.invokestatic idx, 3)) (hl : Cond.methodLink mm.1 idx Lib.Math.max.name ∈ lw_g ∧ Cond.static Lib.Math.max.name ∈ lw_g) (hc : (st.map fun v => v.category).sum ≤ 8) (k : X mm (d + 1) (pc + 3) L (.int (if x < y then y else x) :: st) T r Tf) : X mm (d + 1) pc L (.int y :: .int x :: st) T r Tf := by
  have k1 := k.1.1
  have k2 := k.1.2.1
  refine ⟨k.1, fun E p l e R s m args below meth c H locs ls n0 s0 Z C g1 hls hp hS hz9 => ?_⟩
  have hR := C.2.2.2.2.2.2.2.2.2.2.1
  have hts := C.2.2.2.2.2.2.1
  have hcm := cat_map E st
  exact va_mmax C.1 C.2.1 (by rw [C.2.2.1, hls.1]) C.2.2.2.2.2.1 (hts _ hl.1) (hts _ hl.2) (hts _ mi_c) (hts _ mm_c) (by omega) (by omega) (by omega) (by omega) hd (k.2 E p l e R s m args below meth c H locs ls n0 s0 Z C g1 hls hp hS hz9)
theorem x_mmin {x y : Int32} {idx : Nat} {r : Option Value} {Tf : TH} (hd : decode mm.2.2.1 pc = .ok (.invokestatic idx, 3)) (hl : Cond.methodLink mm.1 idx Lib.Math.min.name ∈ lw_g ∧ Cond.static Lib.Math.min.name ∈ lw_g) (hc : (st.map fun v => v.category).sum ≤ 8) (k : X mm (d + 1) (pc + 3) L (.int (if y < x then y else x) :: st) T r Tf) : X mm (d + 1) pc L (.int y :: .int x :: st) T r Tf := by
  have k1 := k.1.1
  have k2 := k.1.2.1
  refine ⟨k.1, fun E p l e R s m args below meth c H locs ls n0 s0 Z C g1 hls hp hS hz9 => ?_⟩
  have hR := C.2.2.2.2.2.2.2.2.2.2.1
  have hts := C.2.2.2.2.2.2.1
  have hcm := cat_map E st
  exact va_mmin C.1 C.2.1 (by rw [C.2.2.1, hls.1]) C.2.2.2.2.2.1 (hts _ hl.1) (hts _ hl.2) (hts _ mi_c) (hts _ mn_c) (by omega) (by omega) (by omega) (by omega) hd (k.2 E p l e R s m args below meth c H locs ls n0 s0 Z C g1 hls hp hS hz9)
theorem x_mabs {x : Int64} {idx : Nat} {r : Option Value} {Tf : TH} (hd : decode mm.2.2.1 pc = .ok (.invokestatic idx, 3)) (hl : Cond.methodLink mm.1 idx Lib.MathLoose.abs_long.x ∈ lw_g ∧ Cond.static Lib.MathLoose.abs_long.x ∈ lw_g) (hc : (st.map fun v => v.category).sum ≤ 8) (k : X mm (d + 1) (pc + 3) L (.long (if 0 < x then x else -x) :: st) T r Tf) : X mm (d + 1) pc L (.long x :: st) T r Tf := by
  have k1 := k.1.1
  have k2 := k.1.2.1
  refine ⟨k.1, fun E p l e R s m args below meth c H locs ls n0 s0 Z C g1 hls hp hS hz9 => ?_⟩
  have hR := C.2.2.2.2.2.2.2.2.2.2.1
  have hts := C.2.2.2.2.2.2.1
  have hcm := cat_map E st
  exact va_mabs_long C.1 C.2.1 (by rw [C.2.2.1, hls.1]) C.2.2.2.2.2.1 (hts _ hl.1) (hts _ hl.2) (hts _ mi_c) (hts _ ma_c) (by omega) (by omega) (by omega) (by omega) hd (k.2 E p l e R s m args below meth c H locs ls n0 s0 Z C g1 hls hp hS hz9)
theorem xe_icmp_eq {x y : Int32} {off : Int} {tgt : Nat} (hd : decode mm.2.2.1 pc = .ok (.if_icmp .eq off, 3)) (ht : (pc : Int) + off = (tgt : Int)) (kt : x = y → Xe mm d tgt L st T P) (kf : ¬ x = y → Xe mm d (pc + 3) L st T P) : Xe mm d pc L (.int y :: .int x :: st) T P := by
  by_cases h : x = y
  · exact xe (fun _ _ k => x_icmp_eqT hd ht h k) (kt h)
  · exact xe (fun _ _ k => x_icmp_eqF hd ht h k) (kf h)
theorem xe_if_eq {x : Int32} {off : Int} {tgt : Nat} (hd : decode mm.2.2.1 pc = .ok (.ifCond .eq off, 3)) (ht : (pc : Int) + off = (tgt : Int)) (kt : x = 0 → Xe mm d tgt L st T P) (kf : ¬ x = 0 → Xe mm d (pc + 3) L st T P) : Xe mm d pc L (.int x :: st) T P := by
  by_cases h : x = 0
  · exact xe (fun _ _ k => x_if_eqT hd ht h k) (kt h)
  · exact xe (fun _ _ k => x_if_eqF hd ht h k) (kf h)
theorem xe_icmp_ne {x y : Int32} {off : Int} {tgt : Nat} (hd : decode mm.2.2.1 pc = .ok (.if_icmp .ne off, 3)) (ht : (pc : Int) + off = (tgt : Int)) (kt : ¬ x = y → Xe mm d tgt L st T P) (kf : x = y → Xe mm d (pc + 3) L st T P) : Xe mm d pc L (.int y :: .int x :: st) T P := by
  by_cases h : x = y
  · exact xe (fun _ _ k => x_icmp_neF hd ht h k) (kf h)
  · exact xe (fun _ _ k => x_icmp_neT hd ht h k) (kt h)
theorem xe_if_ne {x : Int32} {off : Int} {tgt : Nat} (hd : decode mm.2.2.1 pc = .ok (.ifCond .ne off, 3)) (ht : (pc : Int) + off = (tgt : Int)) (kt : ¬ x = 0 → Xe mm d tgt L st T P) (kf : x = 0 → Xe mm d (pc + 3) L st T P) : Xe mm d pc L (.int x :: st) T P := by
  by_cases h : x = 0
  · exact xe (fun _ _ k => x_if_neF hd ht h k) (kf h)
  · exact xe (fun _ _ k => x_if_neT hd ht h k) (kt h)
theorem xe_icmp_lt {x y : Int32} {off : Int} {tgt : Nat} (hd : decode mm.2.2.1 pc = .ok (.if_icmp .lt off, 3)) (ht : (pc : Int) + off = (tgt : Int)) (kt : x < y → Xe mm d tgt L st T P) (kf : ¬ x < y → Xe mm d (pc + 3) L st T P) : Xe mm d pc L (.int y :: .int x :: st) T P := by
  by_cases h : x < y
  · exact xe (fun _ _ k => x_icmp_ltT hd ht h k) (kt h)
  · exact xe (fun _ _ k => x_icmp_ltF hd ht h k) (kf h)
theorem xe_if_lt {x : Int32} {off : Int} {tgt : Nat} (hd : decode mm.2.2.1 pc = .ok (.ifCond .lt off, 3)) (ht : (pc : Int) + off = (tgt : Int)) (kt : x < 0 → Xe mm d tgt L st T P) (kf : ¬ x < 0 → Xe mm d (pc + 3) L st T P) : Xe mm d pc L (.int x :: st) T P := by
  by_cases h : x < 0
  · exact xe (fun _ _ k => x_if_ltT hd ht h k) (kt h)
  · exact xe (fun _ _ k => x_if_ltF hd ht h k) (kf h)
theorem xe_icmp_ge {x y : Int32} {off : Int} {tgt : Nat} (hd : decode mm.2.2.1 pc = .ok (.if_icmp .ge off, 3)) (ht : (pc : Int) + off = (tgt : Int)) (kt : y ≤ x → Xe mm d tgt L st T P) (kf : ¬ y ≤ x → Xe mm d (pc + 3) L st T P) : Xe mm d pc L (.int y :: .int x :: st) T P := by
  by_cases h : y ≤ x
  · exact xe (fun _ _ k => x_icmp_geT hd ht h k) (kt h)
  · exact xe (fun _ _ k => x_icmp_geF hd ht h k) (kf h)
theorem xe_if_ge {x : Int32} {off : Int} {tgt : Nat} (hd : decode mm.2.2.1 pc = .ok (.ifCond .ge off, 3)) (ht : (pc : Int) + off = (tgt : Int)) (kt : 0 ≤ x → Xe mm d tgt L st T P) (kf : ¬ 0 ≤ x → Xe mm d (pc + 3) L st T P) : Xe mm d pc L (.int x :: st) T P := by
  by_cases h : 0 ≤ x
  · exact xe (fun _ _ k => x_if_geT hd ht h k) (kt h)
  · exact xe (fun _ _ k => x_if_geF hd ht h k) (kf h)
theorem xe_icmp_gt {x y : Int32} {off : Int} {tgt : Nat} (hd : decode mm.2.2.1 pc = .ok (.if_icmp .gt off, 3)) (ht : (pc : Int) + off = (tgt : Int)) (kt : y < x → Xe mm d tgt L st T P) (kf : ¬ y < x → Xe mm d (pc + 3) L st T P) : Xe mm d pc L (.int y :: .int x :: st) T P := by
  by_cases h : y < x
  · exact xe (fun _ _ k => x_icmp_gtT hd ht h k) (kt h)
  · exact xe (fun _ _ k => x_icmp_gtF hd ht h k) (kf h)
theorem xe_if_gt {x : Int32} {off : Int} {tgt : Nat} (hd : decode mm.2.2.1 pc = .ok (.ifCond .gt off, 3)) (ht : (pc : Int) + off = (tgt : Int)) (kt : 0 < x → Xe mm d tgt L st T P) (kf : ¬ 0 < x → Xe mm d (pc + 3) L st T P) : Xe mm d pc L (.int x :: st) T P := by
  by_cases h : 0 < x
  · exact xe (fun _ _ k => x_if_gtT hd ht h k) (kt h)
  · exact xe (fun _ _ k => x_if_gtF hd ht h k) (kf h)
theorem xe_icmp_le {x y : Int32} {off : Int} {tgt : Nat} (hd : decode mm.2.2.1 pc = .ok (.if_icmp .le off, 3)) (ht : (pc : Int) + off = (tgt : Int)) (kt : x ≤ y → Xe mm d tgt L st T P) (kf : ¬ x ≤ y → Xe mm d (pc + 3) L st T P) : Xe mm d pc L (.int y :: .int x :: st) T P := by
  by_cases h : x ≤ y
  · exact xe (fun _ _ k => x_icmp_leT hd ht h k) (kt h)
  · exact xe (fun _ _ k => x_icmp_leF hd ht h k) (kf h)
theorem xe_if_le {x : Int32} {off : Int} {tgt : Nat} (hd : decode mm.2.2.1 pc = .ok (.ifCond .le off, 3)) (ht : (pc : Int) + off = (tgt : Int)) (kt : x ≤ 0 → Xe mm d tgt L st T P) (kf : ¬ x ≤ 0 → Xe mm d (pc + 3) L st T P) : Xe mm d pc L (.int x :: st) T P := by
  by_cases h : x ≤ 0
  · exact xe (fun _ _ k => x_if_leT hd ht h k) (kt h)
  · exact xe (fun _ _ k => x_if_leF hd ht h k) (kf h)
end XE
theorem ei_s (T : TH) (g a : Nat) (v : Int32) : e_i (s_i T g a v) g a = v := up2_s _ _ _ _
theorem ei_a (T : TH) {g a g' a' : Nat} (v : Int32) (h : a' ≠ a) : e_i (s_i T g a v) g' a' = e_i T g' a' := up2_a _ _ h
theorem ei_g (T : TH) {g a g' a' : Nat} (v : Int32) (h : g' ≠ g) : e_i (s_i T g a v) g' a' = e_i T g' a' := up2_g _ _ h
theorem el_s (T : TH) (g a : Nat) (v : Int64) : e_l (s_l T g a v) g a = v := up2_s _ _ _ _
theorem el_a (T : TH) {g a g' a' : Nat} (v : Int64) (h : a' ≠ a) : e_l (s_l T g a v) g' a' = e_l T g' a' := up2_a _ _ h
theorem el_g (T : TH) {g a g' a' : Nat} (v : Int64) (h : g' ≠ g) : e_l (s_l T g a v) g' a' = e_l T g' a' := up2_g _ _ h
theorem er_s (T : TH) (g a : Nat) (v : Option Nat) : e_r (s_r T g a v) g a = v := up2_s _ _ _ _
theorem er_a (T : TH) {g a g' a' : Nat} (v : Option Nat) (h : a' ≠ a) : e_r (s_r T g a v) g' a' = e_r T g' a' := up2_a _ _ h
theorem er_g (T : TH) {g a g' a' : Nat} (v : Option Nat) (h : g' ≠ g) : e_r (s_r T g a v) g' a' = e_r T g' a' := up2_g _ _ h
theorem eai_s (T : TH) (a j : Nat) (v : Int32) : e_ai (s_ai T a j v) a j = v := up2_s _ _ _ _
theorem eai_a (T : TH) {a j a' j' : Nat} (v : Int32) (h : a' ≠ a) : e_ai (s_ai T a j v) a' j' = e_ai T a' j' := up2_g _ _ h
theorem eai_j (T : TH) {a j a' j' : Nat} (v : Int32) (h : j' ≠ j) : e_ai (s_ai T a j v) a' j' = e_ai T a' j' := up2_a _ _ h
theorem eal_s (T : TH) (a j : Nat) (v : Int64) : e_al (s_al T a j v) a j = v := up2_s _ _ _ _
theorem eal_a (T : TH) {a j a' j' : Nat} (v : Int64) (h : a' ≠ a) : e_al (s_al T a j v) a' j' = e_al T a' j' := up2_g _ _ h
theorem eal_j (T : TH) {a j a' j' : Nat} (v : Int64) (h : j' ≠ j) : e_al (s_al T a j v) a' j' = e_al T a' j' := up2_a _ _ h
