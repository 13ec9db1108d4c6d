/-! a read told of an earlier heap holds of a later one (so that no heap is ever unfolded) -/
theorem wK_i {T : TH} {g a : Nat} {v : Int32} {x : Nat} {z : Nat} (h : e_K T x = z) : e_K (s_i T g a v) x = z := h
theorem wK_l {T : TH} {g a : Nat} {v : Int64} {x : Nat} {z : Nat} (h : e_K T x = z) : e_K (s_l T g a v) x = z := h
theorem wK_r {T : TH} {g a : Nat} {v : Option Nat} {x : Nat} {z : Nat} (h : e_K T x = z) : e_K (s_r T g a v) x = z := h
theorem wK_ai {T : TH} {g a : Nat} {v : Int32} {x : Nat} {z : Nat} (h : e_K T x = z) : e_K (s_ai T g a v) x = z := h
theorem wK_al {T : TH} {g a : Nat} {v : Int64} {x : Nat} {z : Nat} (h : e_K T x = z) : e_K (s_al T g a v) x = z := h
theorem wK_ar {T : TH} {g a : Nat} {v : Option Nat} {x : Nat} {z : Nat} (h : e_K T x = z) : e_K (s_ar T g a v) x = z := h
theorem wr_i {T : TH} {g a : Nat} {v : Int32} {x y : Nat} {z : Option Nat} (h : e_r T x y = z) : e_r (s_i T g a v) x y = z := h
theorem wr_l {T : TH} {g a : Nat} {v : Int64} {x y : Nat} {z : Option Nat} (h : e_r T x y = z) : e_r (s_l T g a v) x y = z := h
theorem wr_r {T : TH} {g a : Nat} {v : Option Nat} {x y : Nat} {z : Option Nat} (hne : ¬ (x = g ∧ y = a)) (h : e_r T x y = z) : e_r (s_r T g a v) x y = z := (if_neg hne).trans h
theorem wr_ai {T : TH} {g a : Nat} {v : Int32} {x y : Nat} {z : Option Nat} (h : e_r T x y = z) : e_r (s_ai T g a v) x y = z := h
theorem wr_al {T : TH} {g a : Nat} {v : Int64} {x y : Nat} {z : Option Nat} (h : e_r T x y = z) : e_r (s_al T g a v) x y = z := h
theorem wr_ar {T : TH} {g a : Nat} {v : Option Nat} {x y : Nat} {z : Option Nat} (h : e_r T x y = z) : e_r (s_ar T g a v) x y = z := h
theorem wi_i {T : TH} {g a : Nat} {v : Int32} {x y : Nat} {z : Int32} (hne : ¬ (x = g ∧ y = a)) (h : e_i T x y = z) : e_i (s_i T g a v) x y = z := (if_neg hne).trans h
theorem wi_l {T : TH} {g a : Nat} {v : Int64} {x y : Nat} {z : Int32} (h : e_i T x y = z) : e_i (s_l T g a v) x y = z := h
theorem wi_r {T : TH} {g a : Nat} {v : Option Nat} {x y : Nat} {z : Int32} (h : e_i T x y = z) : e_i (s_r T g a v) x y = z := h
theorem wi_ai {T : TH} {g a : Nat} {v : Int32} {x y : Nat} {z : Int32} (h : e_i T x y = z) : e_i (s_ai T g a v) x y = z := h
theorem wi_al {T : TH} {g a : Nat} {v : Int64} {x y : Nat} {z : Int32} (h : e_i T x y = z) : e_i (s_al T g a v) x y = z := h
theorem wi_ar {T : TH} {g a : Nat} {v : Option Nat} {x y : Nat} {z : Int32} (h : e_i T x y = z) : e_i (s_ar T g a v) x y = z := h
theorem wl_i {T : TH} {g a : Nat} {v : Int32} {x y : Nat} {z : Int64} (h : e_l T x y = z) : e_l (s_i T g a v) x y = z := h
theorem wl_l {T : TH} {g a : Nat} {v : Int64} {x y : Nat} {z : Int64} (hne : ¬ (x = g ∧ y = a)) (h : e_l T x y = z) : e_l (s_l T g a v) x y = z := (if_neg hne).trans h
theorem wl_r {T : TH} {g a : Nat} {v : Option Nat} {x y : Nat} {z : Int64} (h : e_l T x y = z) : e_l (s_r T g a v) x y = z := h
theorem wl_ai {T : TH} {g a : Nat} {v : Int32} {x y : Nat} {z : Int64} (h : e_l T x y = z) : e_l (s_ai T g a v) x y = z := h
theorem wl_al {T : TH} {g a : Nat} {v : Int64} {x y : Nat} {z : Int64} (h : e_l T x y = z) : e_l (s_al T g a v) x y = z := h
theorem wl_ar {T : TH} {g a : Nat} {v : Option Nat} {x y : Nat} {z : Int64} (h : e_l T x y = z) : e_l (s_ar T g a v) x y = z := h
theorem wai_i {T : TH} {g a : Nat} {v : Int32} {x y : Nat} {z : Int32} (h : e_ai T x y = z) : e_ai (s_i T g a v) x y = z := h
theorem wai_l {T : TH} {g a : Nat} {v : Int64} {x y : Nat} {z : Int32} (h : e_ai T x y = z) : e_ai (s_l T g a v) x y = z := h
theorem wai_r {T : TH} {g a : Nat} {v : Option Nat} {x y : Nat} {z : Int32} (h : e_ai T x y = z) : e_ai (s_r T g a v) x y = z := h
theorem wai_ai {T : TH} {g a : Nat} {v : Int32} {x y : Nat} {z : Int32} (hne : ¬ (x = g ∧ y = a)) (h : e_ai T x y = z) : e_ai (s_ai T g a v) x y = z := (if_neg hne).trans h
theorem wai_al {T : TH} {g a : Nat} {v : Int64} {x y : Nat} {z : Int32} (h : e_ai T x y = z) : e_ai (s_al T g a v) x y = z := h
theorem wai_ar {T : TH} {g a : Nat} {v : Option Nat} {x y : Nat} {z : Int32} (h : e_ai T x y = z) : e_ai (s_ar T g a v) x y = z := h
theorem wal_i {T : TH} {g a : Nat} {v : Int32} {x y : Nat} {z : Int64} (h : e_al T x y = z) : e_al (s_i T g a v) x y = z := h
theorem wal_l {T : TH} {g a : Nat} {v : Int64} {x y : Nat} {z : Int64} (h : e_al T x y = z) : e_al (s_l T g a v) x y = z := h
theorem wal_r {T : TH} {g a : Nat} {v : Option Nat} {x y : Nat} {z : Int64} (h : e_al T x y = z) : e_al (s_r T g a v) x y = z := h
theorem wal_ai {T : TH} {g a : Nat} {v : Int32} {x y : Nat} {z : Int64} (h : e_al T x y = z) : e_al (s_ai T g a v) x y = z := h
theorem wal_al {T : TH} {g a : Nat} {v : Int64} {x y : Nat} {z : Int64} (hne : ¬ (x = g ∧ y = a)) (h : e_al T x y = z) : e_al (s_al T g a v) x y = z := (if_neg hne).trans h
theorem wal_ar {T : TH} {g a : Nat} {v : Option Nat} {x y : Nat} {z : Int64} (h : e_al T x y = z) : e_al (s_ar T g a v) x y = z := h
theorem war_i {T : TH} {g a : Nat} {v : Int32} {x y : Nat} {z : Option Nat} (h : e_ar T x y = z) : e_ar (s_i T g a v) x y = z := h
theorem war_l {T : TH} {g a : Nat} {v : Int64} {x y : Nat} {z : Option Nat} (h : e_ar T x y = z) : e_ar (s_l T g a v) x y = z := h
theorem war_r {T : TH} {g a : Nat} {v : Option Nat} {x y : Nat} {z : Option Nat} (h : e_ar T x y = z) : e_ar (s_r T g a v) x y = z := h
theorem war_ai {T : TH} {g a : Nat} {v : Int32} {x y : Nat} {z : Option Nat} (h : e_ar T x y = z) : e_ar (s_ai T g a v) x y = z := h
theorem war_al {T : TH} {g a : Nat} {v : Int64} {x y : Nat} {z : Option Nat} (h : e_ar T x y = z) : e_ar (s_al T g a v) x y = z := h
theorem war_ar {T : TH} {g a : Nat} {v : Option Nat} {x y : Nat} {z : Option Nat} (hne : ¬ (x = g ∧ y = a)) (h : e_ar T x y = z) : e_ar (s_ar T g a v) x y = z := (if_neg hne).trans h
theorem wN_i {T : TH} {g a : Nat} {v : Int32} {x j : Nat} (h : j < e_len T x) : j < e_len (s_i T g a v) x := h
theorem wNe_i {T : TH} {g a : Nat} {v : Int32} {x j : Nat} (h : e_len T x = j) : e_len (s_i T g a v) x = j := h
theorem wN_l {T : TH} {g a : Nat} {v : Int64} {x j : Nat} (h : j < e_len T x) : j < e_len (s_l T g a v) x := h
theorem wNe_l {T : TH} {g a : Nat} {v : Int64} {x j : Nat} (h : e_len T x = j) : e_len (s_l T g a v) x = j := h
theorem wN_r {T : TH} {g a : Nat} {v : Option Nat} {x j : Nat} (h : j < e_len T x) : j < e_len (s_r T g a v) x := h
theorem wNe_r {T : TH} {g a : Nat} {v : Option Nat} {x j : Nat} (h : e_len T x = j) : e_len (s_r T g a v) x = j := h
theorem wN_ai {T : TH} {g a : Nat} {v : Int32} {x j : Nat} (h : j < e_len T x) : j < e_len (s_ai T g a v) x := h
theorem wNe_ai {T : TH} {g a : Nat} {v : Int32} {x j : Nat} (h : e_len T x = j) : e_len (s_ai T g a v) x = j := h
theorem wN_al {T : TH} {g a : Nat} {v : Int64} {x j : Nat} (h : j < e_len T x) : j < e_len (s_al T g a v) x := h
theorem wNe_al {T : TH} {g a : Nat} {v : Int64} {x j : Nat} (h : e_len T x = j) : e_len (s_al T g a v) x = j := h
theorem wN_ar {T : TH} {g a : Nat} {v : Option Nat} {x j : Nat} (h : j < e_len T x) : j < e_len (s_ar T g a v) x := h
theorem wNe_ar {T : TH} {g a : Nat} {v : Option Nat} {x j : Nat} (h : e_len T x = j) : e_len (s_ar T g a v) x = j := h
