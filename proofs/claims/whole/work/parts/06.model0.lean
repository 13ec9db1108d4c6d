/-! THE REFERENCE: where its cells lie, and the text on the tape -/
def mrefL : List (Option Nat) := [some 89, none, none, none, none, none, none, none, none, none, none, none, none, none, none, none, some 90, some 91, some 92, some 93, some 94, none, none, some 95, some 96, some 97, some 98, some 99, some 100, some 101, none, none, some 102, some 103, some 104, some 105, none, none, some 106, none, some 107, some 108, some 109, some 110, some 111, some 112, some 113, some 114, some 115, some 116, none, some 117, some 118, some 119]
def mref (k : Nat) : Option Nat := mrefL.getD k none
def mkdL : List Nat := [20, 20, 23, 20, 20, 20, 20, 23, 20, 20, 20, 20, 20, 20, 20, 20, 23, 20, 20, 20, 22, 23, 20, 20, 20, 20, 20, 20, 20, 22, 20]
def mkd (k : Nat) : Nat := mkdL.getD k 0
def mlnL : List Nat := [400, 80, 80, 80, 80, 12, 80, 80, 80, 80, 12, 8, 8, 31, 6200, 6200, 6200, 8, 6300, 6300, 6300, 6300, 6300, 8, 8, 8, 8, 8, 1000, 80, 8]
def mln (k : Nat) : Nat := mlnL.getD k 0
def w_num : Nat := 10786
def w_word : Nat := 464134
def w_one : Nat := 11318
def w_opt : Nat := 11387
def w_many : Nat := 257011
def mlw (k : Nat) : Int64 := lN ([w_num, w_word, w_one, w_opt, w_many].getD (k - 8) 0)
/-- the reference's cells: its object is 88, its rows 89 and on -/
def MI (T : TH) : Prop := e_K T 88 = 9 ∧ (∀ k, e_r T (512 + k) 88 = mref k) ∧ (∀ k, k < 31 → e_K T (89 + k) = mkd k) ∧ (∀ k, k < 31 → e_len T (89 + k) = mln k) ∧ ∀ k, 8 ≤ k → k < 13 → e_l T (512 + k) 88 = mlw k
theorem mi_len {T : TH} (h : MI T) (k : Nat) (hk : k < 31) {j : Nat} (hj : j < mln k) : j < e_len T (89 + k) := by rw [h.2.2.2.1 k hk]; exact hj
theorem si_self {T : TH} {g a : Nat} {v : Int32} (h : e_i T g a = v) : s_i T g a v = T := by
  unfold s_i
  have : up2 T.2.1 g a v = T.2.1 := by
    funext g' a'
    unfold up2
    split
    · rename_i q; rw [q.1, q.2]; exact h.symm
    · rfl
  rw [this]
theorem si_si (T : TH) (g a : Nat) (v w : Int32) : s_i (s_i T g a v) g a w = s_i T g a w := by
  unfold s_i
  have : up2 (up2 T.2.1 g a v) g a w = up2 T.2.1 g a w := by
    funext g' a'
    unfold up2
    split <;> simp_all
  show (T.1, up2 (up2 T.2.1 g a v) g a w, T.2.2) = _
  rw [this]
/-- a tape of n bytes -/
def Bt (T : TH) (n : Nat) (b : Nat → Nat) : Prop := ∀ j, j < n → e_ai T 89 j = nI (b j) ∧ b j < 256
def bl (x : Nat) : Bool := x == 10 || x == 32
def skF (b : Nat → Nat) (n : Nat) : Nat → Nat → Nat
  | 0, p => p
  | f + 1, p => if p < n ∧ bl (b p) = true then skF b n f (p + 1) else p
/-- the place behind the blanks -/
def sk (b : Nat → Nat) (n p : Nat) : Nat := skF b n (n - p) p
theorem sk_out {b : Nat → Nat} {n p : Nat} (h : n ≤ p) : sk b n p = p := by
  unfold sk; rw [show n - p = 0 by omega]; rfl
theorem sk_stop {b : Nat → Nat} {n p : Nat} (h : bl (b p) = false) : sk b n p = p := by
  unfold sk
  cases hk : n - p with
  | zero => rfl
  | succ f => simp [skF, h]
theorem sk_go {b : Nat → Nat} {n p : Nat} (h1 : p < n) (h : bl (b p) = true) : sk b n p = sk b n (p + 1) := by
  unfold sk
  rw [show n - p = (n - (p + 1)) + 1 by omega]
  simp [skF, h1, h]
theorem sk_le (b : Nat → Nat) (n : Nat) : ∀ (k p : Nat), n - p = k → p ≤ sk b n p ∧ (p ≤ n → sk b n p ≤ n) := by
  intro k
  induction k with
  | zero => intro p h; rw [sk_out (by omega)]; omega
  | succ k ih =>
    intro p h
    cases hb : bl (b p) with
    | false => rw [sk_stop hb]; omega
    | true => rw [sk_go (by omega) hb]; have := ih (p + 1) (by omega); omega
theorem sk_ge (b : Nat → Nat) (n p : Nat) : p ≤ sk b n p := (sk_le b n _ p rfl).1
theorem sk_n {b : Nat → Nat} {n p : Nat} (h : p ≤ n) : sk b n p ≤ n := (sk_le b n _ p rfl).2 h
/-- the byte at a place, or -1 -/
def pk (b : Nat → Nat) (n p : Nat) : Int32 := if p < n then nI (b p) else -1

set_option maxHeartbeats 4000000 in
theorem c_X8_next (d : Nat) : ∀ (k : Nat) (T : TH) (p n : Nat) (b : Nat → Nat), n - p = k → MI T → Bt T n b → e_i T 514 88 = nI p → e_i T 515 88 = nI n → p ≤ n → n ≤ 400 →
    Xe m_X8_next d 0 [(0, .ref 88)] [] T (fun r T' => r = some (.int (pk b n (sk b n p))) ∧ T' = s_i T 514 88 (nI (sk b n p))) := by
  intro k
  induction k using Nat.strongRecOn with
  | ind k ih =>
    intro T p n b hk hM hB hp hn h1 h2
    subst hk
    refine xe (fun _ _ kK => x_aload_n dX8_next_0 rfl 0 rfl kK) ?_
    refine xe (fun _ _ kK => x_get dX8_next_1 fl_X8_138 hM.1 (gvl_i fz_8_2.2.2 (show e_i T 514 88 = nI p from hp)) kK) ?_
    refine xe (fun _ _ kK => x_aload_n dX8_next_4 rfl 0 rfl kK) ?_
    refine xe (fun _ _ kK => x_get dX8_next_5 fl_X8_141 hM.1 (gvl_i fz_8_3.2.2 (show e_i T 515 88 = nI n from hn)) kK) ?_
    refine xe_icmp_ge (tgt := 52) dX8_next_8 (by decide) (fun h8 => ?_) (fun h8 => ?_)
    · -- pc 52
      have h8n : n ≤ p := (nI_leI (by omega) (by omega)).mp h8
      refine xe (fun _ _ kK => x_aload_n dX8_next_52 rfl 0 rfl kK) ?_
      refine xe (fun _ _ kK => x_get dX8_next_53 fl_X8_138 hM.1 (gvl_i fz_8_2.2.2 (show e_i T 514 88 = nI p from hp)) kK) ?_
      refine xe (fun _ _ kK => x_aload_n dX8_next_56 rfl 0 rfl kK) ?_
      refine xe (fun _ _ kK => x_get dX8_next_57 fl_X8_141 hM.1 (gvl_i fz_8_3.2.2 (show e_i T 515 88 = nI n from hn)) kK) ?_
      refine xe (fun _ _ kK => x_icmp_geT (tgt := 75) dX8_next_60 (by decide) h8 kK) ?_
      refine xe (fun _ _ kK => x_iconst dX8_next_75 (show _ = (-1) by decide) kK) ?_
      exact xe_reti dX8_next_76 rfl (⟨by rw [sk_out h8n, pk, if_neg (by omega)], by rw [sk_out h8n, si_self hp]⟩)
    · -- pc 11
      have h8 : p < n := by rcases Nat.lt_or_ge p n with q | q; exact q; exact absurd ((nI_leI (by omega) (by omega)).mpr q) h8
      have hbp := (hB p h8).2
      refine xe (fun _ _ kK => x_aload_n dX8_next_11 rfl 0 rfl kK) ?_
      refine xe (fun _ _ kK => x_get dX8_next_12 fl_X8_7 hM.1 (gvl_r1 fz_8_0.2.2 (show e_r T 512 88 = some 89 from (hM.2.1 0))) kK) ?_
      refine xe (fun _ _ kK => x_aload_n dX8_next_15 rfl 0 rfl kK) ?_
      refine xe (fun _ _ kK => x_get dX8_next_16 fl_X8_138 hM.1 (gvl_i fz_8_2.2.2 (show e_i T 514 88 = nI p from hp)) kK) ?_
      refine xe (fun _ _ kK => x_iald dX8_next_19 (hM.2.2.1 0 (by decide)) (show (nI p) = nI p from rfl) (mi_len hM 0 (by decide) (show p < 400 by omega)) (show e_ai T 89 p = nI (b p) from (hB p h8).1) kK) ?_
      refine xe (fun _ _ kK => x_bipush dX8_next_20 (show _ = nI 10 by decide) kK) ?_
      refine xe_icmp_eq (tgt := 39) dX8_next_22 (by decide) (fun h22 => ?_) (fun h22 => ?_)
      · -- pc 39
        have hbl : bl (b p) = true := by rw [(nI_eq (by omega) (by omega)).mp h22]; rfl
        refine xe (fun _ _ kK => x_aload_n dX8_next_39 rfl 0 rfl kK) ?_
        refine xe (fun _ _ kK => x_dup dX8_next_40 rfl kK) ?_
        refine xe (fun _ _ kK => x_get dX8_next_41 fl_X8_138 hM.1 (gvl_i fz_8_2.2.2 (show e_i T 514 88 = nI p from hp)) kK) ?_
        refine xe (fun _ _ kK => x_iconst dX8_next_44 (show _ = nI 1 by decide) kK) ?_
        refine xe (fun _ _ kK => x_iadd dX8_next_45 kK) ?_
        refine xe_ti (show _ = nI (p + 1) from nI_add p 1) ?_
        refine xe (fun _ _ kK => x_puti dX8_next_46 ⟨fl_X8_138, fz_8_2.1, fz_8_2.2.1⟩ (Or.inl fz_8_2.2.2) rfl rfl hM.1 kK) ?_
        refine xe (fun _ _ kK => x_goto (tgt := 0) dX8_next_49 (by decide) kK) ?_
        refine Xe.imp (ih (n - (p + 1)) (by omega) (s_i T 514 88 (nI (p + 1))) (p + 1) n b rfl hM hB rfl hn (by omega) h2) ?_
        rintro _ _ ⟨rfl, rfl⟩
        exact ⟨by rw [sk_go h8 hbl], by rw [sk_go h8 hbl, si_si]⟩
      · -- pc 25
        refine xe (fun _ _ kK => x_aload_n dX8_next_25 rfl 0 rfl kK) ?_
        refine xe (fun _ _ kK => x_get dX8_next_26 fl_X8_7 hM.1 (gvl_r1 fz_8_0.2.2 (show e_r T 512 88 = some 89 from (hM.2.1 0))) kK) ?_
        refine xe (fun _ _ kK => x_aload_n dX8_next_29 rfl 0 rfl kK) ?_
        refine xe (fun _ _ kK => x_get dX8_next_30 fl_X8_138 hM.1 (gvl_i fz_8_2.2.2 (show e_i T 514 88 = nI p from hp)) kK) ?_
        refine xe (fun _ _ kK => x_iald dX8_next_33 (hM.2.2.1 0 (by decide)) (show (nI p) = nI p from rfl) (mi_len hM 0 (by decide) (show p < 400 by omega)) (show e_ai T 89 p = nI (b p) from (hB p h8).1) kK) ?_
        refine xe (fun _ _ kK => x_bipush dX8_next_34 (show _ = nI 32 by decide) kK) ?_
        refine xe_icmp_ne (tgt := 52) dX8_next_36 (by decide) (fun h36 => ?_) (fun h36 => ?_)
        · -- pc 52
          have hbl : bl (b p) = false := by have q1 := fun q => h22 ((nI_eq (by omega) (by omega)).mpr q); have q2 := fun q => h36 ((nI_eq (by omega) (by omega)).mpr q); simp [bl]; exact ⟨q1, q2⟩
          refine xe (fun _ _ kK => x_aload_n dX8_next_52 rfl 0 rfl kK) ?_
          refine xe (fun _ _ kK => x_get dX8_next_53 fl_X8_138 hM.1 (gvl_i fz_8_2.2.2 (show e_i T 514 88 = nI p from hp)) kK) ?_
          refine xe (fun _ _ kK => x_aload_n dX8_next_56 rfl 0 rfl kK) ?_
          refine xe (fun _ _ kK => x_get dX8_next_57 fl_X8_141 hM.1 (gvl_i fz_8_3.2.2 (show e_i T 515 88 = nI n from hn)) kK) ?_
          refine xe (fun _ _ kK => x_icmp_geF (tgt := 75) dX8_next_60 (by decide) (fun h => absurd ((nI_leI (by omega) (by omega)).mp h) (by omega)) kK) ?_
          refine xe (fun _ _ kK => x_aload_n dX8_next_63 rfl 0 rfl kK) ?_
          refine xe (fun _ _ kK => x_get dX8_next_64 fl_X8_7 hM.1 (gvl_r1 fz_8_0.2.2 (show e_r T 512 88 = some 89 from (hM.2.1 0))) kK) ?_
          refine xe (fun _ _ kK => x_aload_n dX8_next_67 rfl 0 rfl kK) ?_
          refine xe (fun _ _ kK => x_get dX8_next_68 fl_X8_138 hM.1 (gvl_i fz_8_2.2.2 (show e_i T 514 88 = nI p from hp)) kK) ?_
          refine xe (fun _ _ kK => x_iald dX8_next_71 (hM.2.2.1 0 (by decide)) (show (nI p) = nI p from rfl) (mi_len hM 0 (by decide) (show p < 400 by omega)) (show e_ai T 89 p = nI (b p) from (hB p h8).1) kK) ?_
          refine xe (fun _ _ kK => x_goto (tgt := 76) dX8_next_72 (by decide) kK) ?_
          exact xe_reti dX8_next_76 rfl (⟨by rw [sk_stop hbl, pk, if_pos h8], by rw [sk_stop hbl, si_self hp]⟩)
        · -- pc 39
          have hbl : bl (b p) = true := by rw [(nI_eq (by omega) (by omega)).mp h36]; rfl
          refine xe (fun _ _ kK => x_aload_n dX8_next_39 rfl 0 rfl kK) ?_
          refine xe (fun _ _ kK => x_dup dX8_next_40 rfl kK) ?_
          refine xe (fun _ _ kK => x_get dX8_next_41 fl_X8_138 hM.1 (gvl_i fz_8_2.2.2 (show e_i T 514 88 = nI p from hp)) kK) ?_
          refine xe (fun _ _ kK => x_iconst dX8_next_44 (show _ = nI 1 by decide) kK) ?_
          refine xe (fun _ _ kK => x_iadd dX8_next_45 kK) ?_
          refine xe_ti (show _ = nI (p + 1) from nI_add p 1) ?_
          refine xe (fun _ _ kK => x_puti dX8_next_46 ⟨fl_X8_138, fz_8_2.1, fz_8_2.2.1⟩ (Or.inl fz_8_2.2.2) rfl rfl hM.1 kK) ?_
          refine xe (fun _ _ kK => x_goto (tgt := 0) dX8_next_49 (by decide) kK) ?_
          refine Xe.imp (ih (n - (p + 1)) (by omega) (s_i T 514 88 (nI (p + 1))) (p + 1) n b rfl hM hB rfl hn (by omega) h2) ?_
          rintro _ _ ⟨rfl, rfl⟩
          exact ⟨by rw [sk_go h8 hbl], by rw [sk_go h8 hbl, si_si]⟩
