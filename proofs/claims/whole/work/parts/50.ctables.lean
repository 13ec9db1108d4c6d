/-! the class's TABLES: where their rows lie -/
theorem sa_ai {T : TH} {a : Nat} {f : Nat → Int32} : e_ai (s_ais T a f) a = f := ups
theorem sa_al {T : TH} {a : Nat} {f : Nat → Int64} : e_al (s_als T a f) a = f := ups
theorem FrA.ais {S : Nat → Prop} {T T1 : TH} (h : FrA S T T1) {a : Nat} (ha : S a) (f : Nat → Int32) : FrA S T (s_ais T1 a f) := by
  refine h.tr ⟨rfl, Nat.le_refl _, fun b hb => ⟨rfl, rfl, fun _ => rfl, fun _ => rfl, fun _ => rfl, ?_, rfl, rfl⟩⟩
  exact upn (f := e_ai T1) (fun z => hb (z ▸ ha))
theorem FrA.als {S : Nat → Prop} {T T1 : TH} (h : FrA S T T1) {a : Nat} (ha : S a) (f : Nat → Int64) : FrA S T (s_als T1 a f) := by
  refine h.tr ⟨rfl, Nat.le_refl _, fun b hb => ⟨rfl, rfl, fun _ => rfl, fun _ => rfl, fun _ => rfl, rfl, ?_, rfl⟩⟩
  exact upn (f := e_al T1) (fun z => hb (z ▸ ha))
/-- T1: a copy of a's first N in a new cell of n -/
def Cpy (T T1 : TH) (K a N n : Nat) : Prop := e_n T1 = e_n T + 1 ∧ e_s T1 = e_s T + n ∧ FrA (fun x => x = e_n T) T T1 ∧ e_K T1 (e_n T) = K ∧ e_len T1 (e_n T) = n ∧ (K = 20 → ∀ j, j < N → e_ai T1 (e_n T) j = e_ai T a j) ∧ (K = 23 → ∀ j, j < N → e_al T1 (e_n T) j = e_al T a j)

set_option maxHeartbeats 4000000 in
theorem c_copyI (d : Nat) {T : TH} {a N n : Nat} (hK : e_K T a = 20) (hN : e_len T a = N) (ha : a < e_n T) (hNn : N < n) (hn : n < 1000000) : Xe m_J7_copyOf_59c91 (d + 1) 0 [(0, .ref a), (1, .int (nI n))] [] T (fun r T1 => r = some (.ref (e_n T)) ∧ Cpy T T1 20 a N n) := by
  refine xe (fun _ _ kK => x_iload_n dJ7_copyOf_59c91_0 rfl 1 rfl kK) ?_
  refine xe (fun _ _ kK => x_aload_n dJ7_copyOf_59c91_1 rfl 0 rfl kK) ?_
  refine xe (fun _ _ kK => x_alen (j := 0) dJ7_copyOf_59c91_2 (by rw [hK]; decide) (show nI (e_len T a) = nI N from congrArg nI hN) kK) ?_
  refine xe (fun _ _ kK => x_icmp_neT (tgt := 14) dJ7_copyOf_59c91_3 (by decide) (fun z9 => by have := cv_eq (by omega) (by omega) z9; omega) kK) ?_
  refine xe (fun _ _ kK => x_iload_n dJ7_copyOf_59c91_14 rfl 1 rfl kK) ?_
  refine xe (fun _ _ kK => x_newai dJ7_copyOf_59c91_15 (show (nI n) = nI n from rfl) (by omega) kK) ?_
  refine xe (fun _ _ kK => x_astore_n dJ7_copyOf_59c91_17 rfl (by decide) (show _ = [(2, .ref (e_n T)), (0, .ref a), (1, .int (nI n))] from rfl) kK) ?_
  have hA : FrA (fun x => x = e_n T) T (s_new T 20 n) := FrA.rf.new rfl
  have hK1 : e_K (s_new T 20 n) a = 20 := by rw [hA.K (by omega)]; exact hK
  have hN1 : e_len (s_new T 20 n) a = N := by rw [hA.len (by omega)]; exact hN
  have hK2 : e_K (s_new T 20 n) (e_n T) = 20 := sn_K
  have hN2 : e_len (s_new T 20 n) (e_n T) = n := sn_len
  have hc1 : e_ai (s_new T 20 n) a = e_ai T a := hA.ai (by omega)
  have hn1 : e_n (s_new T 20 n) = e_n T + 1 := rfl
  have hs1 : e_s (s_new T 20 n) = e_s T + n := rfl
  generalize hT1 : s_new T 20 n = T1 at hA hK1 hN1 hK2 hN2 hc1 hn1 hs1 ⊢
  refine xe (fun _ _ kK => x_aload_n dJ7_copyOf_59c91_18 rfl 1 rfl kK) ?_
  refine xe (fun _ _ kK => x_iconst dJ7_copyOf_59c91_19 (show _ = nI 0 by decide) kK) ?_
  refine xe (fun _ _ kK => x_aload_n dJ7_copyOf_59c91_20 rfl 0 rfl kK) ?_
  refine xe (fun _ _ kK => x_iconst dJ7_copyOf_59c91_21 (show _ = nI 0 by decide) kK) ?_
  refine xe (fun _ _ kK => x_aload_n dJ7_copyOf_59c91_22 rfl 1 rfl kK) ?_
  refine xe (fun _ _ kK => x_alen (j := 0) dJ7_copyOf_59c91_23 (by rw [hK1]; decide) (show nI (e_len T1 a) = nI N from congrArg nI hN1) kK) ?_
  refine xe (fun _ _ kK => x_iload_n dJ7_copyOf_59c91_24 rfl 2 rfl kK) ?_
  refine xe (fun _ _ kK => x_mmin dJ7_copyOf_59c91_25 ml_J7_304 (Nat.le_of_ble_eq_true rfl) kK) ?_
  refine xe_ti (show _ = nI (min N n) from nI_min (by omega) (by omega)) ?_
  refine xe (fun _ _ kK => x_acopyi (n := N) dJ7_copyOf_59c91_28 ml_J7_150 hK1 hK2 (show nI (min N n) = nI N by rw [show min N n = N by omega]) (by omega) (by omega) (Nat.le_of_ble_eq_true rfl) kK) ?_
  refine xe (fun _ _ kK => x_aload_n dJ7_copyOf_59c91_31 rfl 0 rfl kK) ?_
  refine xe_retr dJ7_copyOf_59c91_32 rfl (⟨rfl, hn1, hs1, hA.ais rfl _, hK2, hN2, fun _ j hj => ?_, fun z => absurd z (by decide)⟩)
  rw [sa_ai, va_cpy, if_pos (by omega), hc1, show 0 + (j - 0) = j by omega]

set_option maxHeartbeats 4000000 in
theorem c_copyL (d : Nat) {T : TH} {a N n : Nat} (hK : e_K T a = 23) (hN : e_len T a = N) (ha : a < e_n T) (hNn : N < n) (hn : n < 1000000) : Xe m_J7_copyOf_c38d5 (d + 1) 0 [(0, .ref a), (1, .int (nI n))] [] T (fun r T1 => r = some (.ref (e_n T)) ∧ Cpy T T1 23 a N n) := by
  refine xe (fun _ _ kK => x_iload_n dJ7_copyOf_c38d5_0 rfl 1 rfl kK) ?_
  refine xe (fun _ _ kK => x_aload_n dJ7_copyOf_c38d5_1 rfl 0 rfl kK) ?_
  refine xe (fun _ _ kK => x_alen (j := 0) dJ7_copyOf_c38d5_2 (by rw [hK]; decide) (show nI (e_len T a) = nI N from congrArg nI hN) kK) ?_
  refine xe (fun _ _ kK => x_icmp_neT (tgt := 14) dJ7_copyOf_c38d5_3 (by decide) (fun z9 => by have := cv_eq (by omega) (by omega) z9; omega) kK) ?_
  refine xe (fun _ _ kK => x_iload_n dJ7_copyOf_c38d5_14 rfl 1 rfl kK) ?_
  refine xe (fun _ _ kK => x_newaj dJ7_copyOf_c38d5_15 (show (nI n) = nI n from rfl) (by omega) kK) ?_
  refine xe (fun _ _ kK => x_astore_n dJ7_copyOf_c38d5_17 rfl (by decide) (show _ = [(2, .ref (e_n T)), (0, .ref a), (1, .int (nI n))] from rfl) kK) ?_
  have hA : FrA (fun x => x = e_n T) T (s_new T 23 n) := FrA.rf.new rfl
  have hK1 : e_K (s_new T 23 n) a = 23 := by rw [hA.K (by omega)]; exact hK
  have hN1 : e_len (s_new T 23 n) a = N := by rw [hA.len (by omega)]; exact hN
  have hK2 : e_K (s_new T 23 n) (e_n T) = 23 := sn_K
  have hN2 : e_len (s_new T 23 n) (e_n T) = n := sn_len
  have hc1 : e_al (s_new T 23 n) a = e_al T a := hA.al (by omega)
  have hn1 : e_n (s_new T 23 n) = e_n T + 1 := rfl
  have hs1 : e_s (s_new T 23 n) = e_s T + n := rfl
  generalize hT1 : s_new T 23 n = T1 at hA hK1 hN1 hK2 hN2 hc1 hn1 hs1 ⊢
  refine xe (fun _ _ kK => x_aload_n dJ7_copyOf_c38d5_18 rfl 1 rfl kK) ?_
  refine xe (fun _ _ kK => x_iconst dJ7_copyOf_c38d5_19 (show _ = nI 0 by decide) kK) ?_
  refine xe (fun _ _ kK => x_aload_n dJ7_copyOf_c38d5_20 rfl 0 rfl kK) ?_
  refine xe (fun _ _ kK => x_iconst dJ7_copyOf_c38d5_21 (show _ = nI 0 by decide) kK) ?_
  refine xe (fun _ _ kK => x_aload_n dJ7_copyOf_c38d5_22 rfl 1 rfl kK) ?_
  refine xe (fun _ _ kK => x_alen (j := 0) dJ7_copyOf_c38d5_23 (by rw [hK1]; decide) (show nI (e_len T1 a) = nI N from congrArg nI hN1) kK) ?_
  refine xe (fun _ _ kK => x_iload_n dJ7_copyOf_c38d5_24 rfl 2 rfl kK) ?_
  refine xe (fun _ _ kK => x_mmin dJ7_copyOf_c38d5_25 ml_J7_304 (Nat.le_of_ble_eq_true rfl) kK) ?_
  refine xe_ti (show _ = nI (min N n) from nI_min (by omega) (by omega)) ?_
  refine xe (fun _ _ kK => x_acopyl (n := N) dJ7_copyOf_c38d5_28 ml_J7_150 hK1 hK2 (show nI (min N n) = nI N by rw [show min N n = N by omega]) (by omega) (by omega) (Nat.le_of_ble_eq_true rfl) kK) ?_
  refine xe (fun _ _ kK => x_aload_n dJ7_copyOf_c38d5_31 rfl 0 rfl kK) ?_
  refine xe_retr dJ7_copyOf_c38d5_32 rfl (⟨rfl, hn1, hs1, hA.als rfl _, hK2, hN2, fun z => absurd z (by decide), fun _ j hj => ?_⟩)
  rw [sa_al, va_cpy, if_pos (by omega), hc1, show 0 + (j - 0) = j by omega]

/-- a TABLE's object a while it grows: k of its rows are new -/
def Gw (T : TH) (a k : Nat) (src : Nat → Nat) (cap n : Nat) (T' : TH) : Prop := e_n T' = e_n T + k ∧ e_s T' = e_s T + k * n ∧ FrA (fun x => x = a ∨ e_n T ≤ x) T T' ∧ (∀ g, e_i T' g a = e_i T g a) ∧ e_K T' a = e_K T a ∧ (∀ j, j < 4 → e_r T' (192 + j) a = some (if j < k then e_n T + j else src j)) ∧ ∀ j, j < k → e_K T' (e_n T + j) = (if j = 3 then 23 else 20) ∧ e_len T' (e_n T + j) = n ∧ (j ≠ 3 → ∀ i, i < cap → e_ai T' (e_n T + j) i = e_ai T (src j) i) ∧ (j = 3 → ∀ i, i < cap → e_al T' (e_n T + j) i = e_al T (src j) i)
theorem Gw.zero {T : TH} {a cap n : Nat} {src : Nat → Nat} (h : ∀ j, j < 4 → e_r T (192 + j) a = some (src j)) : Gw T a 0 src cap n T := ⟨rfl, by simp, FrA.rf, fun _ => rfl, rfl, fun j hj => by rw [if_neg (by omega)]; exact h j hj, fun j hj => absurd hj (Nat.not_lt_zero _)⟩
theorem Gw.step {T T1 T2 : TH} {a k cap n : Nat} {src : Nat → Nat} (h : Gw T a k src cap n T1) (hk : k < 4) (ha : a < e_n T) (hs : src k < e_n T) (hsa : src k ≠ a) (hC : Cpy T1 T2 (if k = 3 then 23 else 20) (src k) cap n) : Gw T a (k + 1) src cap n (s_r T2 (192 + k) a (some (e_n T1))) := by
  obtain ⟨h1, h2, h3, h4, h5, h6, h7⟩ := h
  obtain ⟨c1, c2, c3, c4, c5, c6, c7⟩ := hC
  have hne : ¬ a = e_n T1 := by omega
  refine ⟨by show e_n T2 = _; omega, by show e_s T2 = _; rw [c2, h2, Nat.succ_mul]; omega, (h3.tr (c3.mono (fun x hx => Or.inr (by omega)))).sr (Or.inl rfl) _ _, fun g => ?_, ?_, fun j hj => ?_, fun j hj => ?_⟩
  · show e_i T2 g a = _
    rw [c3.i hne]; exact h4 g
  · show e_K T2 a = _
    rw [c3.K hne]; exact h5
  · rw [q_r_r]
    by_cases e : j = k
    · subst e; rw [if_pos ⟨rfl, rfl⟩, if_pos (by omega), h1]
    · rw [if_neg (by omega), c3.r hne, h6 j hj]
      by_cases e2 : j < k
      · rw [if_pos e2, if_pos (by omega)]
      · rw [if_neg e2, if_neg (by omega)]
  · show e_K T2 (e_n T + j) = _ ∧ e_len T2 (e_n T + j) = n ∧ (j ≠ 3 → ∀ i, i < cap → e_ai T2 (e_n T + j) i = _) ∧ (j = 3 → ∀ i, i < cap → e_al T2 (e_n T + j) i = _)
    by_cases e : j = k
    · subst e
      rw [h1] at c4 c5 c6 c7
      have e1 : e_ai T1 (src j) = e_ai T (src j) := h3.ai (by omega)
      have e2 : e_al T1 (src j) = e_al T (src j) := h3.al (by omega)
      refine ⟨c4, c5, fun z i hi => ?_, fun z i hi => ?_⟩
      · rw [if_neg z] at c6; rw [c6 rfl i hi, e1]
      · rw [if_pos z] at c7; rw [c7 rfl i hi, e2]
    · obtain ⟨k1, k2, k3, k4⟩ := h7 j (by omega)
      have hn2 : ¬ e_n T + j = e_n T1 := by omega
      rw [c3.K hn2, c3.len hn2, c3.ai hn2, c3.al hn2]
      exact ⟨k1, k2, k3, k4⟩

set_option maxHeartbeats 4000000 in
theorem t_X3_grow (d : Nat) {T : TH} {a cap : Nat} {src : Nat → Nat} {x1 x2 x3 : Int32} {v : Int64} {Q : Option Value → TH → Prop} (hK : e_K T a = 4) (ha : a < e_n T) (hcn : e_i T 196 a = nI cap) (hc3 : cap < 3000) (hr : ∀ j, j < 4 → e_r T (192 + j) a = some (src j)) (hs : ∀ j, j < 4 → src j < e_n T ∧ src j ≠ a ∧ e_K T (src j) = (if j = 3 then 23 else 20) ∧ e_len T (src j) = cap) (kk : ∀ T1, Gw T a 4 src cap (cap + cap / 2 + 16) T1 → Xe m_X3_add (d + 3) 91 [(0, .ref a), (1, .int x1), (2, .int x2), (3, .int x3), (4, .long v)] [] T1 Q) : Xe m_X3_add (d + 3) 23 [(0, .ref a), (1, .int x1), (2, .int x2), (3, .int x3), (4, .long v)] [] T Q := by
  have hg0 : Gw T a 0 src cap (cap + cap / 2 + 16) T := Gw.zero hr
  refine xe (fun _ _ kK => x_aload_n dX3_add_23 rfl 0 rfl kK) ?_
  refine xe (fun _ _ kK => x_get dX3_add_24 fl_X3_25 (hg0.2.2.2.2.1.trans hK) (gvl_i fz_3_4.2.2 (show e_i T 196 a = nI cap from hcn)) kK) ?_
  refine xe (fun _ _ kK => x_aload_n dX3_add_27 rfl 0 rfl kK) ?_
  refine xe (fun _ _ kK => x_get dX3_add_28 fl_X3_25 (hg0.2.2.2.2.1.trans hK) (gvl_i fz_3_4.2.2 (show e_i T 196 a = nI cap from hcn)) kK) ?_
  refine xe (fun _ _ kK => x_iconst dX3_add_31 (show _ = nI 2 by decide) kK) ?_
  refine xe (fun _ _ kK => x_idiv dX3_add_32 (by decide) kK) ?_
  refine xe_ti (show _ = nI (cap / 2) from pk_div (by omega) (by decide) (by decide)) ?_
  refine xe (fun _ _ kK => x_iadd dX3_add_33 kK) ?_
  refine xe_ti (show _ = nI (cap + (cap / 2)) from nI_add cap (cap / 2)) ?_
  refine xe (fun _ _ kK => x_bipush dX3_add_34 (show _ = nI 16 by decide) kK) ?_
  refine xe (fun _ _ kK => x_iadd dX3_add_36 kK) ?_
  refine xe_ti (show _ = nI ((cap + (cap / 2)) + 16) from nI_add (cap + (cap / 2)) 16) ?_
  refine xe (fun _ _ kK => x_istore dX3_add_37 (by decide) (show _ = [(6, .int (nI ((cap + (cap / 2)) + 16))), (0, .ref a), (1, .int x1), (2, .int x2), (3, .int x3), (4, .long v)] from rfl) kK) ?_
  refine xe (fun _ _ kK => x_aload_n dX3_add_39 rfl 1 rfl kK) ?_
  refine xe (fun _ _ kK => x_aload_n dX3_add_40 rfl 1 rfl kK) ?_
  refine xe (fun _ _ kK => x_get dX3_add_41 fl_X3_9 (hg0.2.2.2.2.1.trans hK) (gvl_r1 fz_3_0.2.2 (show e_r T 192 a = some (src 0) from (by have := hg0.2.2.2.2.2.1 0 (by decide); simpa using this))) kK) ?_
  refine xe (fun _ _ kK => x_iload dX3_add_44 0 rfl kK) ?_
  refine xe_callS [.ref (src 0), .int (nI ((cap + (cap / 2)) + 16))] dX3_add_46 ml_X3_42 mf_J7_copyOf_59c91 (c_copyI (d + 1) (a := src 0) (N := cap) (n := cap + cap / 2 + 16) ((hs 0 (by decide)).2.2.1) ((hs 0 (by decide)).2.2.2) (by have := hs 0 (by decide); have := hg0.1; omega) (by omega) (by omega)) rfl rfl (Nat.le_of_ble_eq_true rfl) (Nat.le_of_ble_eq_true rfl) ?_
  rintro _ V0 ⟨rfl, hV0⟩
  refine xe (fun _ _ kK => x_putr dX3_add_49 ⟨fl_X3_9, fz_3_0.1, fz_3_0.2.1⟩ fz_3_0.2.2 (fun _ => rfl) (fun _ => rfl) ((hV0.2.2.1.K (by have := hg0.1; omega)).trans (hg0.2.2.2.2.1.trans hK)) kK) ?_
  have hg1 := hg0.step (by decide) ha (hs 0 (by decide)).1 (hs 0 (by decide)).2.1 hV0
  generalize hT1 : (s_r V0 192 a (some (e_n T))) = T1 at hg1 ⊢
  refine xe (fun _ _ kK => x_aload_n dX3_add_52 rfl 1 rfl kK) ?_
  refine xe (fun _ _ kK => x_aload_n dX3_add_53 rfl 1 rfl kK) ?_
  refine xe (fun _ _ kK => x_get dX3_add_54 fl_X3_15 (hg1.2.2.2.2.1.trans hK) (gvl_r1 fz_3_1.2.2 (show e_r T1 193 a = some (src 1) from (by have := hg1.2.2.2.2.2.1 1 (by decide); simpa using this))) kK) ?_
  refine xe (fun _ _ kK => x_iload dX3_add_57 0 rfl kK) ?_
  refine xe_callS [.ref (src 1), .int (nI ((cap + (cap / 2)) + 16))] dX3_add_59 ml_X3_42 mf_J7_copyOf_59c91 (c_copyI (d + 1) (a := src 1) (N := cap) (n := cap + cap / 2 + 16) ((hg1.2.2.1.K (show ¬ (src 1 = a ∨ e_n T ≤ src 1) by have := hs 1 (by decide); omega)).trans (hs 1 (by decide)).2.2.1) ((hg1.2.2.1.len (show ¬ (src 1 = a ∨ e_n T ≤ src 1) by have := hs 1 (by decide); omega)).trans (hs 1 (by decide)).2.2.2) (by have := hs 1 (by decide); have := hg1.1; omega) (by omega) (by omega)) rfl rfl (Nat.le_of_ble_eq_true rfl) (Nat.le_of_ble_eq_true rfl) ?_
  rintro _ V1 ⟨rfl, hV1⟩
  refine xe (fun _ _ kK => x_putr dX3_add_62 ⟨fl_X3_15, fz_3_1.1, fz_3_1.2.1⟩ fz_3_1.2.2 (fun _ => rfl) (fun _ => rfl) ((hV1.2.2.1.K (by have := hg1.1; omega)).trans (hg1.2.2.2.2.1.trans hK)) kK) ?_
  have hg2 := hg1.step (by decide) ha (hs 1 (by decide)).1 (hs 1 (by decide)).2.1 hV1
  generalize hT2 : (s_r V1 193 a (some (e_n T1))) = T2 at hg2 ⊢
  refine xe (fun _ _ kK => x_aload_n dX3_add_65 rfl 1 rfl kK) ?_
  refine xe (fun _ _ kK => x_aload_n dX3_add_66 rfl 1 rfl kK) ?_
  refine xe (fun _ _ kK => x_get dX3_add_67 fl_X3_18 (hg2.2.2.2.2.1.trans hK) (gvl_r1 fz_3_2.2.2 (show e_r T2 194 a = some (src 2) from (by have := hg2.2.2.2.2.2.1 2 (by decide); simpa using this))) kK) ?_
  refine xe (fun _ _ kK => x_iload dX3_add_70 0 rfl kK) ?_
  refine xe_callS [.ref (src 2), .int (nI ((cap + (cap / 2)) + 16))] dX3_add_72 ml_X3_42 mf_J7_copyOf_59c91 (c_copyI (d + 1) (a := src 2) (N := cap) (n := cap + cap / 2 + 16) ((hg2.2.2.1.K (show ¬ (src 2 = a ∨ e_n T ≤ src 2) by have := hs 2 (by decide); omega)).trans (hs 2 (by decide)).2.2.1) ((hg2.2.2.1.len (show ¬ (src 2 = a ∨ e_n T ≤ src 2) by have := hs 2 (by decide); omega)).trans (hs 2 (by decide)).2.2.2) (by have := hs 2 (by decide); have := hg2.1; omega) (by omega) (by omega)) rfl rfl (Nat.le_of_ble_eq_true rfl) (Nat.le_of_ble_eq_true rfl) ?_
  rintro _ V2 ⟨rfl, hV2⟩
  refine xe (fun _ _ kK => x_putr dX3_add_75 ⟨fl_X3_18, fz_3_2.1, fz_3_2.2.1⟩ fz_3_2.2.2 (fun _ => rfl) (fun _ => rfl) ((hV2.2.2.1.K (by have := hg2.1; omega)).trans (hg2.2.2.2.2.1.trans hK)) kK) ?_
  have hg3 := hg2.step (by decide) ha (hs 2 (by decide)).1 (hs 2 (by decide)).2.1 hV2
  generalize hT3 : (s_r V2 194 a (some (e_n T2))) = T3 at hg3 ⊢
  refine xe (fun _ _ kK => x_aload_n dX3_add_78 rfl 1 rfl kK) ?_
  refine xe (fun _ _ kK => x_aload_n dX3_add_79 rfl 1 rfl kK) ?_
  refine xe (fun _ _ kK => x_get dX3_add_80 fl_X3_21 (hg3.2.2.2.2.1.trans hK) (gvl_r1 fz_3_3.2.2 (show e_r T3 195 a = some (src 3) from (by have := hg3.2.2.2.2.2.1 3 (by decide); simpa using this))) kK) ?_
  refine xe (fun _ _ kK => x_iload dX3_add_83 0 rfl kK) ?_
  refine xe_callS [.ref (src 3), .int (nI ((cap + (cap / 2)) + 16))] dX3_add_85 ml_X3_48 mf_J7_copyOf_c38d5 (c_copyL (d + 1) (a := src 3) (N := cap) (n := cap + cap / 2 + 16) ((hg3.2.2.1.K (show ¬ (src 3 = a ∨ e_n T ≤ src 3) by have := hs 3 (by decide); omega)).trans (hs 3 (by decide)).2.2.1) ((hg3.2.2.1.len (show ¬ (src 3 = a ∨ e_n T ≤ src 3) by have := hs 3 (by decide); omega)).trans (hs 3 (by decide)).2.2.2) (by have := hs 3 (by decide); have := hg3.1; omega) (by omega) (by omega)) rfl rfl (Nat.le_of_ble_eq_true rfl) (Nat.le_of_ble_eq_true rfl) ?_
  rintro _ V3 ⟨rfl, hV3⟩
  refine xe (fun _ _ kK => x_putr dX3_add_88 ⟨fl_X3_21, fz_3_3.1, fz_3_3.2.1⟩ fz_3_3.2.2 (fun _ => rfl) (fun _ => rfl) ((hV3.2.2.1.K (by have := hg3.1; omega)).trans (hg3.2.2.2.2.1.trans hK)) kK) ?_
  have hg4 := hg3.step (by decide) ha (hs 3 (by decide)).1 (hs 3 (by decide)).2.1 hV3
  generalize hT4 : (s_r V3 195 a (some (e_n T3))) = T4 at hg4 ⊢
  exact xe_loc (by simp) (kk T4 hg4)

/-- the twelve TABLES: A c k the cell of rows k of TABLE c, cp c how long -/
def TbA (T : TH) (A : Nat → Nat → Nat) (cp : Nat → Nat) : Prop := (∀ c, c < 12 → e_K T (4 + 5 * c) = 4 ∧ 16 ≤ cp c ∧ cp c ≤ 4516) ∧ (∀ c k, c < 12 → k < 4 → e_r T (192 + k) (4 + 5 * c) = some (A c k) ∧ e_K T (A c k) = (if k = 3 then 23 else 20) ∧ e_len T (A c k) = cp c ∧ A c k < e_n T ∧ (A c k = 5 + 5 * c + k ∨ 120 ≤ A c k)) ∧ (∀ c k c' k', c < 12 → k < 4 → c' < 12 → k' < 4 → A c k = A c' k' → c = c' ∧ k = k') ∧ 120 ≤ e_n T
/-- its rows -/
def TbR (T : TH) (A : Nat → Nat → Nat) (cp : Nat → Nat) (c : Nat) (R : List Row) : Prop := e_i T 196 (4 + 5 * c) = nI R.length ∧ R.length ≤ cp c ∧ ∀ k, k < R.length → e_ai T (A c 0) k = nI (rowAt R k).1 ∧ e_ai T (A c 1) k = nI (rowAt R k).2.1 ∧ e_ai T (A c 2) k = nI (rowAt R k).2.2.2.2 ∧ e_al T (A c 3) k = (rowAt R k).2.2.2.1
def TbM (T : TH) (c dg ag gr : Nat) (nm : Bool) : Prop := e_i T 197 (4 + 5 * c) = nI dg ∧ e_i T 198 (4 + 5 * c) = nI ag ∧ e_i T 199 (4 + 5 * c) = bI nm ∧ e_i T 200 (4 + 5 * c) = nI gr
theorem TbA.ne {T : TH} {A : Nat → Nat → Nat} {cp : Nat → Nat} (h : TbA T A cp) {c k c' : Nat} (hc : c < 12) (hk : k < 4) (hc' : c' < 12) : A c k ≠ 4 + 5 * c' := by
  have := (h.2.1 c k hc hk).2.2.2.2
  omega
theorem TbA.tb {T : TH} {A : Nat → Nat → Nat} {cp : Nat → Nat} {c : Nat} {R : List Row} {dg ag gr : Nat} {nm : Bool} (h : TbA T A cp) (hc : c < 12) (hR : TbR T A cp c R) (hM : TbM T c dg ag gr nm) : Tb T (4 + 5 * c) (A c 0) (A c 1) (A c 2) (A c 3) (cp c) R dg ag gr nm := by
  obtain ⟨a0, a1, a2, -⟩ := h.2.1 c 0 hc (by decide)
  obtain ⟨b0, b1, b2, -⟩ := h.2.1 c 1 hc (by decide)
  obtain ⟨c0, c1, c2, -⟩ := h.2.1 c 2 hc (by decide)
  obtain ⟨d0, d1, d2, -⟩ := h.2.1 c 3 hc (by decide)
  exact ⟨(h.1 c hc).1, ⟨a0, b0, c0, d0⟩, ⟨a1, b1, c1, d1⟩, ⟨a2, b2, c2, d2, hR.2.1⟩, ⟨hR.1, hM⟩, hR.2.2⟩
theorem TbA.ofG {I : List (Nat × Nat)} {B : List Nat} {T T1 : TH} {A : Nat → Nat → Nat} {cp : Nat → Nat} (h : TbA T A cp) (hF : FrG I B T T1) : TbA T1 A cp := by
  refine ⟨fun c hc => by rw [hF.1]; exact h.1 c hc, fun c k hc hk => ?_, h.2.2.1, by rw [hF.2.2.2.2.1]; exact h.2.2.2⟩
  rw [hF.1, hF.2.1, hF.2.2.1, hF.2.2.2.2.1]; exact h.2.1 c k hc hk
theorem TbR.ofG {I : List (Nat × Nat)} {B : List Nat} {T T1 : TH} {A : Nat → Nat → Nat} {cp : Nat → Nat} {c : Nat} {R : List Row} (h : TbR T A cp c R) (hF : FrG I B T T1) (hI : (196, 4 + 5 * c) ∉ I) (hB : ∀ k, k < 4 → A c k ∉ B) : TbR T1 A cp c R := by
  refine ⟨(hF.i hI).trans h.1, h.2.1, fun k hk => ?_⟩
  rw [hF.ai (hB 0 (by decide)), hF.ai (hB 1 (by decide)), hF.ai (hB 2 (by decide)), hF.al (hB 3 (by decide))]; exact h.2.2 k hk
theorem TbR.ofA {S : Nat → Prop} {T T1 : TH} {A : Nat → Nat → Nat} {cp : Nat → Nat} {c : Nat} {R : List Row} (h : TbR T A cp c R) (hF : FrA S T T1) (hI : ¬ S (4 + 5 * c)) (hB : ∀ k, k < 4 → ¬ S (A c k)) : TbR T1 A cp c R := by
  refine ⟨hF.i hI ▸ h.1, h.2.1, fun k hk => ?_⟩
  rw [hF.ai (hB 0 (by decide)), hF.ai (hB 1 (by decide)), hF.ai (hB 2 (by decide)), hF.al (hB 3 (by decide))]; exact h.2.2 k hk
theorem TbM.ofA {S : Nat → Prop} {T T1 : TH} {c dg ag gr : Nat} {nm : Bool} (h : TbM T c dg ag gr nm) (hF : FrA S T T1) (hI : ¬ S (4 + 5 * c)) : TbM T1 c dg ag gr nm := ⟨(hF.i hI).trans h.1, (hF.i hI).trans h.2.1, (hF.i hI).trans h.2.2.1, (hF.i hI).trans h.2.2.2⟩
theorem TbA.ofA {S : Nat → Prop} {T T1 : TH} {A : Nat → Nat → Nat} {cp : Nat → Nat} (h : TbA T A cp) (hF : FrA S T T1) (hI : ∀ c, c < 12 → ¬ S (4 + 5 * c)) (hB : ∀ c k, c < 12 → k < 4 → ¬ S (A c k)) : TbA T1 A cp := by
  refine ⟨fun c hc => by rw [hF.K (hI c hc)]; exact h.1 c hc, fun c k hc hk => ?_, h.2.2.1, Nat.le_trans h.2.2.2 hF.2.1⟩
  obtain ⟨h1, h2, h3, h4, h5⟩ := h.2.1 c k hc hk
  exact ⟨by rw [hF.r (hI c hc)]; exact h1, by rw [hF.K (hB c k hc hk)]; exact h2, by rw [hF.len (hB c k hc hk)]; exact h3, Nat.lt_of_lt_of_le h4 hF.2.1, h5⟩
theorem rowAt_app {R : List Row} {r : Row} {k : Nat} (h : k < R.length) : rowAt (R ++ [r]) k = rowAt R k := by
  unfold rowAt; simp [List.getD, List.getElem?_append_left h]
theorem rowAt_end {R : List Row} {r : Row} : rowAt (R ++ [r]) R.length = r := by
  unfold rowAt; simp [List.getD]
theorem TbR_add {T T1 : TH} {A : Nat → Nat → Nat} {cp : Nat → Nat} {c : Nat} {R : List Row} {r : Row} (h : TbR T A cp c R) (hl : R.length < cp c) (r0 : e_i T1 196 (4 + 5 * c) = nI (R.length + 1)) (r1 : ∀ j, e_ai T1 (A c 0) j = if j = R.length then nI r.1 else e_ai T (A c 0) j) (r2 : ∀ j, e_ai T1 (A c 1) j = if j = R.length then nI r.2.1 else e_ai T (A c 1) j) (r3 : ∀ j, e_ai T1 (A c 2) j = if j = R.length then nI r.2.2.2.2 else e_ai T (A c 2) j) (r4 : ∀ j, e_al T1 (A c 3) j = if j = R.length then r.2.2.2.1 else e_al T (A c 3) j) : TbR T1 A cp c (R ++ [r]) := by
  refine ⟨by rw [r0]; simp, by simp; omega, fun k hk => ?_⟩
  rw [r1, r2, r3, r4]
  by_cases e : k = R.length
  · subst e; rw [rowAt_end]; simp
  · have hk2 : k < R.length := by simp at hk; omega
    rw [rowAt_app hk2, if_neg e, if_neg e, if_neg e, if_neg e]; exact h.2.2 k hk2

set_option maxHeartbeats 4000000 in
theorem l_X3_add91 (d : Nat) {T : TH} {A : Nat → Nat → Nat} {cp : Nat → Nat} {c i lv t : Nat} {v : Int64} {R : List Row} (hA : TbA T A cp) (hc : c < 12) (hR : TbR T A cp c R) (hl : R.length < cp c) (hv : Bool) : Xe m_X3_add d 91 [(0, .ref (4 + 5 * c)), (1, .int (nI i)), (2, .int (nI lv)), (3, .int (nI t)), (4, .long v)] [] T (fun r T1 => r = none ∧ FrG [(196, 4 + 5 * c)] [A c 0, A c 1, A c 2, A c 3] T T1 ∧ TbR T1 A cp c (R ++ [(lv, t, hv, v, i)])) := by
  have n01 : A c 0 ≠ A c 1 := fun z => by have := hA.2.2.1 c 0 c 1 hc (by decide) hc (by decide) z; omega
  have n02 : A c 0 ≠ A c 2 := fun z => by have := hA.2.2.1 c 0 c 2 hc (by decide) hc (by decide) z; omega
  have n12 : A c 1 ≠ A c 2 := fun z => by have := hA.2.2.1 c 1 c 2 hc (by decide) hc (by decide) z; omega
  refine xe (fun _ _ kK => x_aload_n dX3_add_91 rfl 0 rfl kK) ?_
  refine xe (fun _ _ kK => x_get dX3_add_92 fl_X3_9 (hA.1 c hc).1 (gvl_r1 fz_3_0.2.2 (show e_r T 192 (4 + 5 * c) = some (A c 0) from (hA.2.1 c 0 hc (by decide)).1)) kK) ?_
  refine xe (fun _ _ kK => x_aload_n dX3_add_95 rfl 0 rfl kK) ?_
  refine xe (fun _ _ kK => x_get dX3_add_96 fl_X3_25 (hA.1 c hc).1 (gvl_i fz_3_4.2.2 (show e_i T 196 (4 + 5 * c) = nI R.length from hR.1)) kK) ?_
  refine xe (fun _ _ kK => x_iload_n dX3_add_99 rfl 2 rfl kK) ?_
  refine xe (fun _ _ kK => x_iast dX3_add_100 (show e_K _ (A c 0) = 20 from (hA.2.1 c 0 hc (by decide)).2.1) (show (nI R.length) = nI R.length from rfl) (by rw [(hA.2.1 c 0 hc (by decide)).2.2.1]; omega) kK) ?_
  refine xe (fun _ _ kK => x_aload_n dX3_add_101 rfl 0 rfl kK) ?_
  refine xe (fun _ _ kK => x_get dX3_add_102 fl_X3_15 (wK_ai (hA.1 c hc).1) (gvl_r1 fz_3_1.2.2 (show e_r (s_ai T (A c 0) R.length (nI lv)) 193 (4 + 5 * c) = some (A c 1) from (wr_ai (hA.2.1 c 1 hc (by decide)).1))) kK) ?_
  refine xe (fun _ _ kK => x_aload_n dX3_add_105 rfl 0 rfl kK) ?_
  refine xe (fun _ _ kK => x_get dX3_add_106 fl_X3_25 (wK_ai (hA.1 c hc).1) (gvl_i fz_3_4.2.2 (show e_i (s_ai T (A c 0) R.length (nI lv)) 196 (4 + 5 * c) = nI R.length from (wi_ai hR.1))) kK) ?_
  refine xe (fun _ _ kK => x_iload_n dX3_add_109 rfl 3 rfl kK) ?_
  refine xe (fun _ _ kK => x_iast dX3_add_110 (wK_ai (show e_K _ (A c 1) = 20 from (hA.2.1 c 1 hc (by decide)).2.1)) (show (nI R.length) = nI R.length from rfl) (wN_ai (by rw [(hA.2.1 c 1 hc (by decide)).2.2.1]; omega)) kK) ?_
  refine xe (fun _ _ kK => x_aload_n dX3_add_111 rfl 0 rfl kK) ?_
  refine xe (fun _ _ kK => x_get dX3_add_112 fl_X3_18 (wK_ai (wK_ai (hA.1 c hc).1)) (gvl_r1 fz_3_2.2.2 (show e_r (s_ai (s_ai T (A c 0) R.length (nI lv)) (A c 1) R.length (nI t)) 194 (4 + 5 * c) = some (A c 2) from (wr_ai (wr_ai (hA.2.1 c 2 hc (by decide)).1)))) kK) ?_
  refine xe (fun _ _ kK => x_aload_n dX3_add_115 rfl 0 rfl kK) ?_
  refine xe (fun _ _ kK => x_get dX3_add_116 fl_X3_25 (wK_ai (wK_ai (hA.1 c hc).1)) (gvl_i fz_3_4.2.2 (show e_i (s_ai (s_ai T (A c 0) R.length (nI lv)) (A c 1) R.length (nI t)) 196 (4 + 5 * c) = nI R.length from (wi_ai (wi_ai hR.1)))) kK) ?_
  refine xe (fun _ _ kK => x_iload_n dX3_add_119 rfl 1 rfl kK) ?_
  refine xe (fun _ _ kK => x_iast dX3_add_120 (wK_ai (wK_ai (show e_K _ (A c 2) = 20 from (hA.2.1 c 2 hc (by decide)).2.1))) (show (nI R.length) = nI R.length from rfl) (wN_ai (wN_ai (by rw [(hA.2.1 c 2 hc (by decide)).2.2.1]; omega))) kK) ?_
  refine xe (fun _ _ kK => x_aload_n dX3_add_121 rfl 0 rfl kK) ?_
  refine xe (fun _ _ kK => x_get dX3_add_122 fl_X3_21 (wK_ai (wK_ai (wK_ai (hA.1 c hc).1))) (gvl_r1 fz_3_3.2.2 (show e_r (s_ai (s_ai (s_ai T (A c 0) R.length (nI lv)) (A c 1) R.length (nI t)) (A c 2) R.length (nI i)) 195 (4 + 5 * c) = some (A c 3) from (wr_ai (wr_ai (wr_ai (hA.2.1 c 3 hc (by decide)).1))))) kK) ?_
  refine xe (fun _ _ kK => x_aload_n dX3_add_125 rfl 0 rfl kK) ?_
  refine xe (fun _ _ kK => x_get dX3_add_126 fl_X3_25 (wK_ai (wK_ai (wK_ai (hA.1 c hc).1))) (gvl_i fz_3_4.2.2 (show e_i (s_ai (s_ai (s_ai T (A c 0) R.length (nI lv)) (A c 1) R.length (nI t)) (A c 2) R.length (nI i)) 196 (4 + 5 * c) = nI R.length from (wi_ai (wi_ai (wi_ai hR.1))))) kK) ?_
  refine xe (fun _ _ kK => x_lload dX3_add_129 4 rfl kK) ?_
  refine xe (fun _ _ kK => x_last dX3_add_131 (wK_ai (wK_ai (wK_ai (show e_K _ (A c 3) = 23 from (hA.2.1 c 3 hc (by decide)).2.1)))) (show (nI R.length) = nI R.length from rfl) (wN_ai (wN_ai (wN_ai (by rw [(hA.2.1 c 3 hc (by decide)).2.2.1]; omega)))) kK) ?_
  refine xe (fun _ _ kK => x_aload_n dX3_add_132 rfl 0 rfl kK) ?_
  refine xe (fun _ _ kK => x_dup dX3_add_133 rfl kK) ?_
  refine xe (fun _ _ kK => x_get dX3_add_134 fl_X3_25 (wK_al (wK_ai (wK_ai (wK_ai (hA.1 c hc).1)))) (gvl_i fz_3_4.2.2 (show e_i (s_al (s_ai (s_ai (s_ai T (A c 0) R.length (nI lv)) (A c 1) R.length (nI t)) (A c 2) R.length (nI i)) (A c 3) R.length v) 196 (4 + 5 * c) = nI R.length from (wi_al (wi_ai (wi_ai (wi_ai hR.1)))))) kK) ?_
  refine xe (fun _ _ kK => x_iconst dX3_add_137 (show _ = nI 1 by decide) kK) ?_
  refine xe (fun _ _ kK => x_iadd dX3_add_138 kK) ?_
  refine xe_ti (show _ = nI (R.length + 1) from nI_add R.length 1) ?_
  refine xe (fun _ _ kK => x_puti dX3_add_139 ⟨fl_X3_25, fz_3_4.1, fz_3_4.2.1⟩ (Or.inl fz_3_4.2.2) rfl rfl (wK_al (wK_ai (wK_ai (wK_ai (hA.1 c hc).1)))) kK) ?_
  have hF : FrG [(196, 4 + 5 * c)] [A c 0, A c 1, A c 2, A c 3] T (s_i (s_al (s_ai (s_ai (s_ai T (A c 0) R.length (nI lv)) (A c 1) R.length (nI t)) (A c 2) R.length (nI i)) (A c 3) R.length v) 196 (4 + 5 * c) (nI (R.length + 1))) := (FrG.si (FrG.sal (FrG.sai (FrG.sai (FrG.sai FrG.rf (by simp) _ _) (by simp) _ _) (by simp) _ _) (by simp) _ _) (by simp) _)
  refine xe_retv dX3_add_142 rfl (⟨rfl, hF, TbR_add hR hl (by simp [q_i_i, q_i_l, q_i_ai, q_i_al, q_ai_ai, q_ai_i, q_ai_l, q_ai_al, q_al_al, q_al_i, q_al_ai, q_al_l, q_l_i, q_l_l, q_l_ai, q_l_al, q_r_r, q_r_i, q_r_l, q_r_ai, q_r_al, q_i_r, q_l_r, q_ai_r, q_al_r, q_K_i, q_K_r, q_K_l, q_K_ai, q_K_al, q_len_i, q_len_r, q_len_l, q_len_ai, q_len_al, q_n_i, q_n_r, q_n_l, q_n_ai, q_n_al, q_s_i, q_s_r, q_s_l, q_s_ai, q_s_al]) (fun j => ?_) (fun j => ?_) (fun j => ?_) (fun j => ?_)⟩)
  · simp [q_i_i, q_i_l, q_i_ai, q_i_al, q_ai_ai, q_ai_i, q_ai_l, q_ai_al, q_al_al, q_al_i, q_al_ai, q_al_l, q_l_i, q_l_l, q_l_ai, q_l_al, q_r_r, q_r_i, q_r_l, q_r_ai, q_r_al, q_i_r, q_l_r, q_ai_r, q_al_r, q_K_i, q_K_r, q_K_l, q_K_ai, q_K_al, q_len_i, q_len_r, q_len_l, q_len_ai, q_len_al, q_n_i, q_n_r, q_n_l, q_n_ai, q_n_al, q_s_i, q_s_r, q_s_l, q_s_ai, q_s_al, n01, n02, n12, n01.symm, n02.symm, n12.symm]
  · simp [q_i_i, q_i_l, q_i_ai, q_i_al, q_ai_ai, q_ai_i, q_ai_l, q_ai_al, q_al_al, q_al_i, q_al_ai, q_al_l, q_l_i, q_l_l, q_l_ai, q_l_al, q_r_r, q_r_i, q_r_l, q_r_ai, q_r_al, q_i_r, q_l_r, q_ai_r, q_al_r, q_K_i, q_K_r, q_K_l, q_K_ai, q_K_al, q_len_i, q_len_r, q_len_l, q_len_ai, q_len_al, q_n_i, q_n_r, q_n_l, q_n_ai, q_n_al, q_s_i, q_s_r, q_s_l, q_s_ai, q_s_al, n01, n02, n12, n01.symm, n02.symm, n12.symm]
  · simp [q_i_i, q_i_l, q_i_ai, q_i_al, q_ai_ai, q_ai_i, q_ai_l, q_ai_al, q_al_al, q_al_i, q_al_ai, q_al_l, q_l_i, q_l_l, q_l_ai, q_l_al, q_r_r, q_r_i, q_r_l, q_r_ai, q_r_al, q_i_r, q_l_r, q_ai_r, q_al_r, q_K_i, q_K_r, q_K_l, q_K_ai, q_K_al, q_len_i, q_len_r, q_len_l, q_len_ai, q_len_al, q_n_i, q_n_r, q_n_l, q_n_ai, q_n_al, q_s_i, q_s_r, q_s_l, q_s_ai, q_s_al, n01, n02, n12, n01.symm, n02.symm, n12.symm]
  · simp [q_i_i, q_i_l, q_i_ai, q_i_al, q_ai_ai, q_ai_i, q_ai_l, q_ai_al, q_al_al, q_al_i, q_al_ai, q_al_l, q_l_i, q_l_l, q_l_ai, q_l_al, q_r_r, q_r_i, q_r_l, q_r_ai, q_r_al, q_i_r, q_l_r, q_ai_r, q_al_r, q_K_i, q_K_r, q_K_l, q_K_ai, q_K_al, q_len_i, q_len_r, q_len_l, q_len_ai, q_len_al, q_n_i, q_n_r, q_n_l, q_n_ai, q_n_al, q_s_i, q_s_r, q_s_l, q_s_ai, q_s_al, n01, n02, n12, n01.symm, n02.symm, n12.symm]

/-- T1 has one row more in TABLE c, and maybe longer rows -/
def AddP (T T1 : TH) (A A' : Nat → Nat → Nat) (cp cp' : Nat → Nat) (c : Nat) : Prop := TbA T1 A' cp' ∧ (∀ c', c' ≠ c → A' c' = A c' ∧ cp' c' = cp c') ∧ (∀ k, k < 4 → A' c k = A c k ∨ e_n T ≤ A' c k) ∧ cp c ≤ cp' c ∧ e_n T1 + cp c ≤ e_n T + cp' c ∧ e_s T1 + 12 * cp c ≤ e_s T + 12 * cp' c ∧ FrA (fun x => x = 4 + 5 * c ∨ (∃ k, k < 4 ∧ x = A c k) ∨ e_n T ≤ x) T T1 ∧ ∀ g, g ≠ 196 → e_i T1 g (4 + 5 * c) = e_i T g (4 + 5 * c)
theorem AddP.of {I : List (Nat × Nat)} {T T1 T2 : TH} {A A' : Nat → Nat → Nat} {cp cp' : Nat → Nat} {c : Nat} (h : AddP T T1 A A' cp cp' c) (hc : c < 12) (hF : FrG [(196, 4 + 5 * c)] [A' c 0, A' c 1, A' c 2, A' c 3] T1 T2) : AddP T T2 A A' cp cp' c := by
  obtain ⟨h1, h2, h3, h4, h5, h6, h7, h8⟩ := h
  refine ⟨h1.ofG hF, h2, h3, h4, by rw [hF.2.2.2.2.1]; exact h5, by rw [hF.2.2.2.2.2.1]; exact h6, h7.tr (hF.A (fun q hq => ?_) (fun a ha => ?_)), fun g hg => (hF.i (by simp; exact fun z => absurd z hg)).trans (h8 g hg)⟩
  · simp at hq; rw [hq]; exact Or.inl rfl
  · have : ∃ k, k < 4 ∧ a = A' c k := by
      simp at ha
      rcases ha with e | e | e | e
      · exact ⟨0, by decide, e⟩
      · exact ⟨1, by decide, e⟩
      · exact ⟨2, by decide, e⟩
      · exact ⟨3, by decide, e⟩
    obtain ⟨k, hk, e⟩ := this
    rcases h3 k hk with z | z
    · exact Or.inr (Or.inl ⟨k, hk, e.trans z⟩)
    · exact Or.inr (Or.inr (by omega))
theorem AddP.rf {T : TH} {A : Nat → Nat → Nat} {cp : Nat → Nat} {c : Nat} (hA : TbA T A cp) : AddP T T A A cp cp c := ⟨hA, fun _ _ => ⟨rfl, rfl⟩, fun _ _ => Or.inl rfl, Nat.le_refl _, Nat.le_refl _, Nat.le_refl _, FrA.rf, fun _ _ => rfl⟩
theorem AddP.grow {T T1 : TH} {A : Nat → Nat → Nat} {cp : Nat → Nat} {c : Nat} (hA : TbA T A cp) (hc : c < 12) (h3 : cp c < 3000) (hG : Gw T (4 + 5 * c) 4 (A c) (cp c) (cp c + cp c / 2 + 16) T1) : AddP T T1 A (va_up A c (fun k => e_n T + k)) cp (va_up cp c (cp c + cp c / 2 + 16)) c := by
  obtain ⟨g1, g2, g3, g4, g5, g6, g7⟩ := hG
  have h120 := hA.2.2.2
  have hne : ∀ c', c' < 12 → c' ≠ c → ¬ (4 + 5 * c' = 4 + 5 * c ∨ e_n T ≤ 4 + 5 * c') := fun c' h1 h2 => by omega
  have hne2 : ∀ c' k, c' < 12 → k < 4 → ¬ (A c' k = 4 + 5 * c ∨ e_n T ≤ A c' k) := fun c' k h1 h2 => by have := hA.ne h1 h2 hc; have := (hA.2.1 c' k h1 h2).2.2.2.1; omega
  have hcp := (hA.1 c hc).2.1
  refine ⟨⟨fun c' hc' => ?_, fun c' k hc' hk => ?_, fun c1 k1 c2 k2 q1 q2 q3 q4 e => ?_, by omega⟩, fun c' h => ⟨upn h, upn h⟩, fun k hk => Or.inr (by rw [ups]; omega), by rw [ups]; omega, by rw [ups]; omega, by rw [ups]; omega, g3.mono (fun x hx => by rcases hx with z | z; exact Or.inl z; exact Or.inr (Or.inr z)), fun g _ => g4 g⟩
  · by_cases e : c' = c
    · subst e; rw [ups, g5]; exact ⟨(hA.1 c' hc).1, by omega, by omega⟩
    · rw [upn e, g3.K (hne c' hc' e)]; exact hA.1 c' hc'
  · by_cases e : c' = c
    · subst e
      rw [ups, ups]
      obtain ⟨k1, k2, -⟩ := g7 k hk
      refine ⟨by have := g6 k hk; rw [if_pos hk] at this; exact this, k1, k2, by show e_n T + k < _; omega, Or.inr (by show 120 ≤ e_n T + k; omega)⟩
    · rw [upn e, upn e]
      obtain ⟨k1, k2, k3, k4, k5⟩ := hA.2.1 c' k hc' hk
      exact ⟨by rw [g3.r (hne c' hc' e)]; exact k1, by rw [g3.K (hne2 c' k hc' hk)]; exact k2, by rw [g3.len (hne2 c' k hc' hk)]; exact k3, by omega, k5⟩
  · have l1 := (hA.2.1 c1 k1 q1 q2).2.2.2.1
    have l2 := (hA.2.1 c2 k2 q3 q4).2.2.2.1
    by_cases e1 : c1 = c
    · by_cases e2 : c2 = c
      · subst e1; subst e2; rw [ups] at e; omega
      · subst e1; rw [ups, upn e2] at e; omega
    · by_cases e2 : c2 = c
      · subst e2; rw [ups, upn e1] at e; omega
      · rw [upn e1, upn e2] at e; exact hA.2.2.1 c1 k1 c2 k2 q1 q2 q3 q4 e
theorem TbR.grow {T T1 : TH} {A : Nat → Nat → Nat} {cp : Nat → Nat} {c n : Nat} {R : List Row} (hR : TbR T A cp c R) (hn : cp c ≤ n) (hG : Gw T (4 + 5 * c) 4 (A c) (cp c) n T1) : TbR T1 (va_up A c (fun k => e_n T + k)) (va_up cp c n) c R := by
  obtain ⟨g1, g2, g3, g4, g5, g6, g7⟩ := hG
  refine ⟨(g4 196).trans hR.1, by rw [ups]; have := hR.2.1; omega, fun k hk => ?_⟩
  rw [ups]
  have hk2 : k < cp c := by have := hR.2.1; omega
  have e0 := (g7 0 (by decide)).2.2.1 (by decide) k hk2
  have e1 := (g7 1 (by decide)).2.2.1 (by decide) k hk2
  have e2 := (g7 2 (by decide)).2.2.1 (by decide) k hk2
  have e3 := (g7 3 (by decide)).2.2.2 rfl k hk2
  rw [e0, e1, e2, e3]; exact hR.2.2 k hk

set_option maxHeartbeats 4000000 in
theorem c_X3_add (d : Nat) {T : TH} {A : Nat → Nat → Nat} {cp : Nat → Nat} {c i lv t : Nat} {v : Int64} {R : List Row} (hA : TbA T A cp) (hc : c < 12) (hR : TbR T A cp c R) (hl3 : R.length < 3000) (hv : Bool) : Xe m_X3_add (d + 3) 0 [(0, .ref (4 + 5 * c)), (1, .int (nI i)), (2, .int (nI lv)), (3, .int (nI t)), (4, .long v)] [] T (fun r T1 => r = none ∧ ∃ A' cp', AddP T T1 A A' cp cp' c ∧ TbR T1 A' cp' c (R ++ [(lv, t, hv, v, i)])) := by
  have hcl := hR.2.1
  have hcp := (hA.1 c hc).2.2
  refine xe (fun _ _ kK => x_aload_n dX3_add_0 rfl 0 rfl kK) ?_
  refine xe (fun _ _ kK => x_get dX3_add_1 fl_X3_25 (hA.1 c hc).1 (gvl_i fz_3_4.2.2 (show e_i T 196 (4 + 5 * c) = nI R.length from hR.1)) kK) ?_
  refine xe (fun _ _ kK => x_sipush dX3_add_4 (show _ = nI 3000 by decide) kK) ?_
  refine xe (fun _ _ kK => x_icmp_ltT (tgt := 11) dX3_add_7 (by decide) ((nI_ltI (by omega) (by omega)).mpr (by omega)) kK) ?_
  refine xe (fun _ _ kK => x_aload_n dX3_add_11 rfl 0 rfl kK) ?_
  refine xe (fun _ _ kK => x_get dX3_add_12 fl_X3_25 (hA.1 c hc).1 (gvl_i fz_3_4.2.2 (show e_i T 196 (4 + 5 * c) = nI R.length from hR.1)) kK) ?_
  refine xe (fun _ _ kK => x_aload_n dX3_add_15 rfl 0 rfl kK) ?_
  refine xe (fun _ _ kK => x_get dX3_add_16 fl_X3_9 (hA.1 c hc).1 (gvl_r1 fz_3_0.2.2 (show e_r T 192 (4 + 5 * c) = some (A c 0) from (hA.2.1 c 0 hc (by decide)).1)) kK) ?_
  refine xe (fun _ _ kK => x_alen (j := 0) dX3_add_19 (by rw [(hA.2.1 c 0 hc (by decide)).2.1]; decide) (show nI (e_len T (A c 0)) = nI (cp c) from congrArg nI ((hA.2.1 c 0 hc (by decide)).2.2.1)) kK) ?_
  refine xe_icmp_lt (tgt := 91) dX3_add_20 (by decide) (fun h20 => ?_) (fun h20 => ?_)
  · -- pc 91
    have h20 := cv_lt (by omega) (by omega) h20
    refine Xe.imp (l_X3_add91 (d + 3) hA hc hR h20 hv) ?_
    rintro _ T1 ⟨rfl, hF1, hR1⟩
    exact ⟨rfl, A, cp, (AddP.rf hA).of (I := []) hc hF1, hR1⟩
  · -- pc 23
    have h20 := cv_nlt (by omega) (by omega) h20
    have hce : R.length = cp c := by omega
    have hcn : e_i T 196 (4 + 5 * c) = nI (cp c) := by rw [← hce]; exact hR.1
    refine t_X3_grow d (a := 4 + 5 * c) (cap := cp c) (src := A c) (hA.1 c hc).1 (by have := hA.2.2.2; omega) hcn (by omega) (fun j hj => (hA.2.1 c j hc hj).1) (fun j hj => ⟨(hA.2.1 c j hc hj).2.2.2.1, hA.ne hc hj hc, (hA.2.1 c j hc hj).2.1, (hA.2.1 c j hc hj).2.2.1⟩) (fun T1 hG1 => ?_)
    have hP1 := AddP.grow hA hc (by omega) hG1
    have hR1 := hR.grow (by omega) hG1
    refine Xe.imp (l_X3_add91 (d + 3) hP1.1 hc hR1 (by rw [ups]; omega) hv) ?_
    rintro _ T2 ⟨rfl, hF2, hR2⟩
    exact ⟨rfl, _, _, hP1.of (I := []) hc hF2, hR2⟩
