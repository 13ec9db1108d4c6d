/-! the law's entry: both are made, then the loop -/
abbrev lM : List (Nat × Nat × Nat) := [(512, 20, 400), (528, 20, 80), (529, 23, 80), (530, 20, 80), (531, 20, 80), (532, 20, 12), (535, 20, 80), (536, 23, 80), (537, 20, 80), (538, 20, 80), (539, 20, 12), (540, 20, 8), (541, 20, 8), (544, 20, 31), (545, 20, 6200), (546, 20, 6200), (547, 23, 6200), (550, 20, 8), (552, 20, 6300), (553, 20, 6300), (554, 22, 6300), (555, 23, 6300), (556, 20, 6300), (557, 20, 8), (558, 20, 8), (559, 20, 8), (560, 20, 8), (561, 20, 8), (563, 20, 1000), (564, 22, 80), (565, 20, 8)]
abbrev iM : Nat → Int32 := va_up (fun _ => 0) 519 (-1)
abbrev jM : Nat → Int64 := va_up (va_up (va_up (va_up (va_up (fun _ => 0) 520 (lN w_num)) 521 (lN w_word)) 522 (lN w_one)) 523 (lN w_opt)) 524 (lN w_many)
theorem lM_r : ∀ k, k < 54 → (512 + k ∉ lM.map (fun q => q.1) ∧ mref k = none) ∨ ∃ j, j < 31 ∧ (lM.map (fun q => q.1))[j]? = some (512 + k) ∧ mref k = some (88 + 1 + j) := by decide +kernel
theorem lM_kn : ∀ k, k < 31 → lM[k]?.map (fun q => q.2) = some (mkd k, mln k) := by decide +kernel
theorem lM_big : ∀ q ∈ lM.map (fun q => q.1), q < 566 := by decide +kernel
theorem NwA.mi {T T1 : TH} (h : NwA T 88 9 lM iM jM T1) : MI T1 := by
  obtain ⟨n1, n2, n3, n4, n5, n6, n7, n8⟩ := h
  have hK : ∀ k, k < 31 → e_K T1 (89 + k) = mkd k ∧ e_len T1 (89 + k) = mln k := fun k hk => by
    have h1 := lM_kn k hk
    cases hq : lM[k]? with
    | none => rw [hq] at h1; cases h1
    | some q =>
      rw [hq] at h1
      obtain ⟨g, K, N⟩ := q
      have h2 : (K, N) = (mkd k, mln k) := Option.some.inj h1
      obtain ⟨-, h3, h4, -⟩ := n8 k g K N hq
      have h5 := (Prod.mk.inj h2)
      rw [show 89 + k = 88 + 1 + k by omega, h3, h4]
      exact h5
  refine ⟨n4, fun k => ?_, fun k hk => (hK k hk).1, fun k hk => (hK k hk).2, fun k h1 h2 => ?_⟩
  · by_cases hk : k < 54
    · rcases lM_r k hk with ⟨h1, h2⟩ | ⟨j, hj, h1, h2⟩
      · rw [h2]; exact n7 _ h1
      · rw [List.getElem?_map] at h1
        cases hq : lM[j]? with
        | none => rw [hq] at h1; cases h1
        | some q =>
          rw [hq] at h1
          obtain ⟨g, K, N⟩ := q
          have h3 : g = 512 + k := Option.some.inj h1
          obtain ⟨h4, -⟩ := n8 j g K N hq
          rw [h3] at h4
          rw [h2]; exact h4
    · rw [n7 (512 + k) (fun hm => by have := lM_big _ hm; omega)]
      show none = mrefL.getD k none
      rw [List.getD_eq_getElem?_getD, List.getElem?_eq_none (by show 54 ≤ k; omega)]
      rfl
  · rw [n6]
    have hk : k = 8 ∨ k = 9 ∨ k = 10 ∨ k = 11 ∨ k = 12 := by omega
    rcases hk with rfl | rfl | rfl | rfl | rfl <;> rfl
theorem LIn0 {N : Nat} {xs : Nat → Int32} {T T0 T1 : TH} (h : X7p T) (hz : e_sc T = (N, xs)) (hF0 : FrA (fun x => 88 ≤ x) T T0) (hs0 : e_s T0 ≤ e_s T + 100) (hN : NwA T0 88 9 lM iM jM T1) : LIn (N, xs) T1 0 := by
  have hM := hN.mi
  obtain ⟨n1, n2, n3, n4, n5, n6, n7, n8⟩ := hN
  obtain ⟨x1, x2, x3, x4, ⟨x5, x6, x7⟩, x8, ⟨x9, x10⟩, x11, x12, x13⟩ := h
  have hF : FrA (fun x => 88 ≤ x) T T1 := hF0.tr n3
  have i0 : ∀ g, g ≠ 519 → e_i T1 g 88 = nI 0 := fun g hg => by rw [n5]; show va_up (fun _ => 0) 519 (-1) g = nI 0; rw [up_ne hg]; rfl
  have hc : CI T1 := x1.ofA hF (fun a h1 h2 => by omega)
  have hn : e_n T1 = 120 := n1
  have hs : e_s T1 = e_s T0 + 52347 := n2
  refine ⟨hF.1.trans hz, false, Sh0, fun _ => 0, fun _ => none, (0, fun _ => default), 0, fun _ => 0, [], nI 0, -1, fun c k => 5 + 5 * c + k, fun _ => 16, 66, 77, ?_, ?_, ?_⟩
  · refine ⟨⟨hc, (hF.r (by omega)).trans x2, (hF.r (by omega)).trans x3, Or.inl ⟨rfl, rfl⟩, (hF.i (by omega)).trans x4⟩, ⟨fun j hj => absurd hj (Nat.not_lt_zero _), (hF.i (by omega)).trans x5, by omega, (hF.i (by omega)).trans x6, (hF.i (by omega)).trans x7⟩, ⟨⟨hc.sh (Or.inl rfl), (hF.i (by omega)).trans x9, (hF.i (by omega)).trans x10, fun f hf => absurd hf (Nat.not_lt_zero _), fun c hc => absurd hc (Nat.not_lt_zero _)⟩, fun f hf => absurd hf (Nat.not_lt_zero _), PShp.of (n := 0) (p := 0) ShV0 (PI0 (by omega)), ⟨Nat.zero_le _, fun i hi => absurd hi (Nat.not_lt_zero _)⟩⟩, ⟨fun c hc => ?_, fun c k hc hk => ?_, fun c k c' k' h1 h2 h3 h4 h5 => by have h6 : 5 + 5 * c + k = 5 + 5 * c' + k' := h5; omega, by omega⟩, fun c hc => absurd hc (Nat.not_lt_zero _), (hF.i (by omega)).trans x8, Nat.zero_le _, fun k c hk => by cases hk⟩
    · exact ⟨(hF.K (by omega)).trans (x11 c hc).1, Nat.le_refl _, by show 16 ≤ 4516; omega⟩
    · obtain ⟨y1, y2, y3⟩ := (x11 c hc).2 k hk
      exact ⟨(hF.r (by omega)).trans y1, (hF.K (show ¬ 88 ≤ 5 + 5 * c + k by omega)).trans y2, (hF.len (show ¬ 88 ≤ 5 + 5 * c + k by omega)).trans y3, by rw [hn]; show 5 + 5 * c + k < 120; omega, Or.inl rfl⟩
  · exact ⟨hM, fun j hj => absurd hj (Nat.not_lt_zero _), i0 513 (by decide), ⟨i0 518 (by decide), (n5 519).trans rfl⟩, ⟨i0 562 (by decide), fun k c hk => (by cases hk)⟩, fun e => (by cases e), fun _ => ⟨i0 525 (by decide), rfl, rfl⟩, i0 543 (by decide), fun h => absurd h (Nat.lt_irrefl _), fun i hi => absurd hi (Nat.not_lt_zero _)⟩
  · exact ⟨by rw [hn]; omega, by rw [hs]; omega⟩
set_option maxHeartbeats 4000000 in
theorem c_law {N : Nat} {xs : Nat → Int32} (hN : N ≤ 3584) : Xe m_law 1000 0 [(0, .float 0)] [] (T_0 N xs) (fun r T1 => r = some (.int 1) ∧ e_n T1 ≤ 600000 ∧ e_s T1 ≤ 7302250) := by
  refine xe (fun _ _ kK => x_new dL_law_0 kc_L_7 kK) ?_
  refine xe (fun _ _ kK => x_dup dL_law_3 rfl kK) ?_
  have hi := xe_sc (c_X7_init 996 (T := s_new (T_0 N xs) (7 + 1) (nfd 7)) rfl rfl (show nfd 7 ≤ 100 by decide +kernel))
  refine xe_callI (a := 0) [] dL_law_4 ml_L_9 mf_X7_init hi rfl rfl (Nat.le_of_ble_eq_true rfl) (Nat.le_of_ble_eq_true rfl) ?_
  rintro _ T1 ⟨⟨rfl, hp⟩, hz⟩
  refine xe (fun _ _ kK => x_astore_n dL_law_7 rfl (by decide) (show _ = [(1, .ref 0), (0, .float 0)] from rfl) kK) ?_
  refine xe (fun _ _ kK => x_new dL_law_8 kc_L_10 kK) ?_
  refine xe (fun _ _ kK => x_dup dL_law_11 rfl kK) ?_
  have hn88 : e_n T1 = 88 := hp.2.2.2.2.2.2.2.2.1
  rw [hn88]
  refine xe_callI (a := 88) [] dL_law_12 ml_L_12 mf_X8_init (c_X8_init 997 (NwA.made hn88)) rfl rfl (Nat.le_of_ble_eq_true rfl) (Nat.le_of_ble_eq_true rfl) ?_
  rintro _ T2 ⟨rfl, hN2⟩
  have hL : LIn (N, xs) T2 0 := LIn0 (T0 := s_new T1 (8 + 1) (nfd 8)) hp (hz.trans rfl) (FrA.rf.new (by show 88 ≤ e_n T1; omega)) (Nat.add_le_add_left (show nfd 8 ≤ 100 by decide +kernel) (e_s T1)) hN2
  refine xe (fun _ _ kK => x_astore_n dL_law_15 rfl (by decide) (show _ = [(2, .ref 88), (1, .ref 0), (0, .float 0)] from rfl) kK) ?_
  refine xe (fun _ _ kK => x_iconst dL_law_16 (show _ = nI (7 * 0) by decide) kK) ?_
  refine xe (fun _ _ kK => x_istore_n dL_law_17 rfl (by decide) (show _ = [(3, .int (nI (7 * 0))), (2, .ref 88), (1, .ref 0), (0, .float 0)] from rfl) kK) ?_
  exact l_law hN (N - 7 * 0) 0 T2 rfl (by omega) hL
