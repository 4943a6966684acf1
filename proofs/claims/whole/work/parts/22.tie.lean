/-! class and reference reckon the same: steps and days -/
theorem t_go {lk ln ln' : Nat → Int32} {ce : Nat} {db : Int32} {p : Nat → Int64} (h : ∀ j, j + 1 < ce → ln j = ln' j) (j : Nat) : k_go lk ln ce db p j = k_go lk ln' ce db p j := by
  unfold k_go
  by_cases q : j + 1 < ce
  · rw [if_pos q, if_pos q, h j q]
  · rw [if_neg q, if_neg q]
theorem t_fl {lk ln ln' : Nat → Int32} {ce : Nat} {da db : Int32} {p : Nat → Int64} (h : ∀ j, j + 1 < ce → ln j = ln' j) : k_fl lk ln ce da db p = k_fl lk ln' ce da db p := by
  funext j
  cases j with
  | zero => rfl
  | succ j => exact t_go h j
theorem t_np {lk ln ln' : Nat → Int32} {ce : Nat} {da db dr : Int32} {p : Nat → Int64} {n : Nat} (h : ∀ j, j + 1 < ce → ln j = ln' j) : k_np lk ln ce da db dr p n = k_np lk ln' ce da db dr p n := by
  unfold k_np; rw [t_fl h]
theorem t_ow {lk ln ln' : Nat → Int32} {ce : Nat} {da db dr : Int32} {p : Nat → Int64} {wo : Int64} {n : Nat} (h : ∀ j, j + 1 < ce → ln j = ln' j) : k_ow lk ln ce da db dr p wo n = k_ow lk ln' ce da db dr p wo n := by
  unfold k_ow; rw [t_fl h]
theorem t_p {lk ln ln' : Nat → Int32} {ce : Nat} {da db dr : Int32} {p : Nat → Int64} (h : ∀ j, j + 1 < ce → ln j = ln' j) : ∀ n, k_p lk ln ce da db dr p n = k_p lk ln' ce da db dr p n
  | 0 => rfl
  | n + 1 => by rw [k_p, k_p, t_p h n, t_np h]
theorem t_w {lk ln ln' : Nat → Int32} {ce : Nat} {da db dr : Int32} {p : Nat → Int64} {wo : Int64} (h : ∀ j, j + 1 < ce → ln j = ln' j) : ∀ n, k_w lk ln ce da db dr p wo n = k_w lk ln' ce da db dr p wo n
  | 0 => rfl
  | n + 1 => by rw [k_w, k_w, t_w h n, t_p h n, t_ow h, t_fl h]
theorem t_a {lk ln ln' : Nat → Int32} {ce : Nat} {da db dr : Int32} {co : Int64} {p pa : Nat → Int64} (h : ∀ j, j + 1 < ce → ln j = ln' j) : ∀ n, k_a lk ln ce da db dr co p pa n = k_a lk ln' ce da db dr co p pa n
  | 0 => rfl
  | n + 1 => by rw [k_a, k_a, t_a h n, t_p h (n + 1)]
theorem tD_p {lk ln ln' : Nat → Int32} {ce : Nat} {da db dr : Int32} {ld lz : Nat → Int32} {mn dy : Nat} {p : Nat → Int64} (h : ∀ j, j + 1 < ce → ln j = ln' j) : ∀ d, kD_p lk ln ce da db dr ld lz mn dy p d = kD_p lk ln' ce da db dr ld lz mn dy p d
  | 0 => rfl
  | d + 1 => by rw [kD_p, kD_p, tD_p h d, t_p h]
theorem tD_w {lk ln ln' : Nat → Int32} {ce : Nat} {da db dr : Int32} {ld lz : Nat → Int32} {mn dy : Nat} {p : Nat → Int64} {wo : Int64} (h : ∀ j, j + 1 < ce → ln j = ln' j) : ∀ d, kD_w lk ln ce da db dr ld lz mn dy p wo d = kD_w lk ln' ce da db dr ld lz mn dy p wo d
  | 0 => rfl
  | d + 1 => by rw [kD_w, kD_w, tD_w h d, tD_p h d, t_w h]
theorem tD_a {lk ln ln' : Nat → Int32} {ce : Nat} {da db dr : Int32} {ld lz : Nat → Int32} {mn dy : Nat} {co : Int64} {p pa : Nat → Int64} (h : ∀ j, j + 1 < ce → ln j = ln' j) : ∀ d, kD_a lk ln ce da db dr ld lz mn dy co p pa d = kD_a lk ln' ce da db dr ld lz mn dy co p pa d
  | 0 => rfl
  | d + 1 => by rw [kD_a, kD_a, tD_a h d, tD_p h d, t_a h]
theorem tD_u {hd sf fp lk ln ln' : Nat → Int32} {ce : Nat} {da db dr : Int32} {ld lz : Nat → Int32} {mn dy : Nat} {co : Int64} {p pa : Nat → Int64} (h : ∀ j, j + 1 < ce → ln j = ln' j) (d : Nat) : kD_u hd sf fp lk ln ce da db dr ld lz mn dy co p pa d = kD_u hd sf fp lk ln' ce da db dr ld lz mn dy co p pa d := by
  unfold kD_u; rw [tD_p h, tD_a h]
-- sinking
def t_rg (hd sf : Nat → Int32) (ce : Nat) : Prop := ∀ c, c < ce → 0 ≤ (hd c).toInt ∧ (hd c).toInt ≤ (sf c).toInt ∧ (sf c).toInt ≤ 1000
theorem t_sub {a b : Int32} (h1 : 0 ≤ b.toInt) (h2 : b.toInt ≤ a.toInt) (h3 : a.toInt ≤ 1000) : (a - b).toInt64 = a.toInt64 - b.toInt64 := by
  apply Int64.toInt_inj.mp
  rw [Int64.toInt_sub, Int32.toInt_toInt64, Int32.toInt_toInt64, Int32.toInt_toInt64, Int32.toInt_sub]
  rw [Int.bmod_eq_of_le (by omega) (by omega), Int.bmod_eq_of_le (by omega) (by omega)]
theorem t_sink {hd sf fp : Nat → Int32} {pa : Nat → Int64} {c : Nat} {u v : Int64} (hs : (sf c - hd c).toInt64 = (sf c).toInt64 - (hd c).toInt64) (hu : u ≤ pa c) : k_u1 hd sf fp c u (pa c) + k_sk hd sf pa c u v = k_u1 hd sf fp c v (k_mx (pa c) v) := by
  unfold k_u1 k_sk
  rw [hs]
  by_cases h1 : v < u
  · have h2 : v < pa c := Int64.lt_of_lt_of_le h1 hu
    have e : k_mx (pa c) v = pa c := if_pos h2
    rw [if_pos h1, e]
    generalize (hd c).toInt64 = h; generalize (sf c).toInt64 = g; generalize (fp c).toInt64 = f; generalize pa c = P
    grind
  · rw [if_neg h1]
    by_cases h2 : pa c < v
    · have e : k_mx (pa c) v = v := if_neg (fun q => Int64.lt_irrefl (Int64.lt_trans h2 q))
      rw [if_pos h2, e]
      generalize (hd c).toInt64 = h; generalize (sf c).toInt64 = g; generalize (fp c).toInt64 = f; generalize pa c = P
      grind
    · have e : k_mx (pa c) v = pa c := by
        unfold k_mx
        by_cases q : v < pa c
        · rw [if_pos q]
        · rw [if_neg q]; exact Int64.le_antisymm (Int64.not_lt.mp h2) (Int64.not_lt.mp q)
      rw [if_neg h2, e]
      generalize (hd c).toInt64 = h; generalize (sf c).toInt64 = g; generalize (fp c).toInt64 = f; generalize pa c = P
      grind
def t_ok (hd sf fp : Nat → Int32) (ce : Nat) (co : Int64) (p pa sk : Nat → Int64) : Prop := ∀ c, c < ce → sk c = k_u1 hd sf fp c (co - p c) (pa c) ∧ co - p c ≤ pa c
theorem t_ok_lay {hd sf fp : Nat → Int32} {ce : Nat} {co u : Int64} {p pa sk : Nat → Int64} (h : t_ok hd sf fp ce co p pa sk) : t_ok hd sf fp ce (co + u) (k_lay p ce u) pa sk := by
  intro c hc
  have e : co + u - k_lay p ce u c = co - p c := by
    unfold k_lay; rw [if_pos hc]; grind
  rw [e]; exact h c hc
theorem t_mx_ge {a b : Int64} : b ≤ k_mx a b := by
  unfold k_mx
  by_cases h : b < a
  · rw [if_pos h]; exact Int64.le_of_lt h
  · rw [if_neg h]; exact Int64.le_refl b
theorem t_ok_step {hd sf fp : Nat → Int32} {ce : Nat} {co : Int64} {p q pa sk : Nat → Int64} (hr : t_rg hd sf ce) (h : t_ok hd sf fp ce co p pa sk) : t_ok hd sf fp ce co q (k_rs co q pa ce) (k_ss hd sf co p q pa sk ce) := by
  intro c hc
  obtain ⟨h1, h2⟩ := h c hc
  have e1 : k_rs co q pa ce c = k_mx (pa c) (co - q c) := if_pos hc
  have e2 : k_ss hd sf co p q pa sk ce c = sk c + k_sk hd sf pa c (co - p c) (co - q c) := if_pos hc
  rw [e1, e2, h1]
  exact ⟨t_sink (t_sub (hr c hc).1 (hr c hc).2.1 (hr c hc).2.2) h2, t_mx_ge⟩
theorem t_ok_steps {hd sf fp lk ln : Nat → Int32} {ce : Nat} {da db dr : Int32} {co : Int64} {p pa sk : Nat → Int64} (hr : t_rg hd sf ce) (h : t_ok hd sf fp ce co p pa sk) : ∀ n, t_ok hd sf fp ce co (k_p lk ln ce da db dr p n) (k_a lk ln ce da db dr co p pa n) (k_s hd sf lk ln ce da db dr co p pa sk n)
  | 0 => h
  | n + 1 => t_ok_step hr (t_ok_steps hr h n)
theorem t_ok_days {hd sf fp lk ln : Nat → Int32} {ce : Nat} {da db dr : Int32} {ld lz : Nat → Int32} {mn dy : Nat} {co : Int64} {p pa sk : Nat → Int64} (hr : t_rg hd sf ce) (h : t_ok hd sf fp ce co p pa sk) : ∀ d, t_ok hd sf fp ce (kD_c ld lz mn dy co d) (kD_p lk ln ce da db dr ld lz mn dy p d) (kD_a lk ln ce da db dr ld lz mn dy co p pa d) (kD_s hd sf lk ln ce da db dr ld lz mn dy co p pa sk d)
  | 0 => h
  | d + 1 => t_ok_steps hr (t_ok_lay (t_ok_days hr h d)) 24
theorem t_mu1 {lof : Nat → Int32} {sk : Nat → Int64} {n : Nat} : k_mu lof sk (-1) n = k_sum sk n := k_sum_congr (fun _ _ => if_pos (Or.inl rfl))
theorem t_mu {hd sf fp lof : Nat → Int32} {ce : Nat} {co : Int64} {p pa sk : Nat → Int64} (h : t_ok hd sf fp ce co p pa sk) : k_mu lof sk (-1) ce = k_units hd sf fp co p pa 0 ce := by
  unfold k_units
  rw [t_mu1, k_seg_all]
  exact k_sum_congr (fun j hj => (h j hj).1)
theorem t_sum_add {f g : Nat → Int64} : ∀ {n : Nat}, k_sum f n + k_sum g n = k_sum (fun j => f j + g j) n
  | 0 => rfl
  | n + 1 => by
    rw [k_sum, k_sum, k_sum, ← t_sum_add (n := n)]
    grind
theorem t_me {hd sf fp lof lz : Nat → Int32} {ce mn : Nat} {co : Int64} {p pa sk : Nat → Int64} (hr : t_rg hd sf ce) (h : t_ok hd sf fp ce co p pa sk) : k_me hd sf lof lz mn co p pa sk ce ce = k_end hd sf fp (k_all lz mn) pa ce := by
  unfold k_me k_end
  rw [t_mu1, t_sum_add]
  refine k_sum_congr (fun c hc => ?_)
  rw [(h c hc).1]
  exact t_sink (t_sub (hr c hc).1 (hr c hc).2.1 (hr c hc).2.2) (h c hc).2
theorem t_th {u e : Int64} : k_th u e = k_msh u e := by
  unfold k_th k_msh; rw [Int64.mul_comm]
theorem t_bal {co wo s : Int64} {n : Int64} : kb (co * n = s + wo) = kb (wo + s = co * n) := kb_congr (by rw [Int64.add_comm s wo]; exact eq_comm)
-- a layer alone
def t_fc (fc lof : Nat → Int32) (ly ce : Nat) (fn ff : Nat → Nat) : Prop := fn 0 = 0 ∧ fn ly = ce ∧ (∀ l, l ≤ ly → fc l = nI (fn l)) ∧ (∀ l, l < ly → fn l < fn (l + 1)) ∧ (∀ c, c < ce → lof c = nI (ff c) ∧ ff c < ly ∧ fn (ff c) ≤ c ∧ c < fn (ff c + 1))
theorem t_mono {fn : Nat → Nat} {ly : Nat} (h : ∀ l, l < ly → fn l < fn (l + 1)) : ∀ {a b : Nat}, a ≤ b → b ≤ ly → fn a + (b - a) ≤ fn b := by
  intro a b hab hb
  obtain ⟨k, rfl⟩ : ∃ k, b = a + k := ⟨b - a, by omega⟩
  clear hab
  induction k with
  | zero => simp
  | succ k ih =>
    have h1 := ih (by omega)
    have h2 := h (a + k) (by omega)
    rw [show a + (k + 1) = a + k + 1 by omega]
    omega
theorem t_layer {hd sf fp fc lof : Nat → Int32} {ly ce j : Nat} {fn ff : Nat → Nat} {co : Int64} {p pa sk : Nat → Int64} (hly : ly ≤ 30) (hF : t_fc fc lof ly ce fn ff) (hj : j < ly) (h : t_ok hd sf fp ce co p pa sk) : k_mu lof sk (nI j) ce = k_units hd sf fp co p pa (fn j) (fn (j + 1)) := by
  obtain ⟨h0, hE, h1, h2, h3⟩ := hF
  have hle : fn (j + 1) ≤ ce := by have := t_mono h2 (a := j + 1) (b := ly) (by omega) (Nat.le_refl _); omega
  have hne : ¬ nI j = -1 := fun q => by
    have := congrArg Int32.toInt q
    rw [nI_toInt (by omega)] at this
    have e : (-1 : Int32).toInt = -1 := by decide
    rw [e] at this; omega
  have key : ∀ n, fn (j + 1) ≤ n → n ≤ ce → k_mu lof sk (nI j) n = k_units hd sf fp co p pa (fn j) (fn (j + 1)) := by
    intro n
    induction n with
    | zero =>
      intro a b
      have := h2 j hj
      omega
    | succ n ih =>
      intro a b
      by_cases q : fn (j + 1) ≤ n
      · have hx : ¬ lof n = nI j := fun e => by
          obtain ⟨a1, a2, a3, a4⟩ := h3 n (by omega)
          rw [a1, nI_eq (by omega) (by omega)] at e
          rw [e] at a4; omega
        rw [← k_mu_f hne hx, Int64.add_zero]
        exact ih q (by omega)
      · have hn : n + 1 = fn (j + 1) := by omega
        rw [hn]
        unfold k_mu k_units k_seg
        refine k_sum_congr (fun c hc => ?_)
        obtain ⟨a1, a2, a3, a4⟩ := h3 c (by omega)
        by_cases qc : fn j ≤ c
        · have : ff c = j := by
            rcases Nat.lt_trichotomy (ff c) j with z | z | z
            · have := t_mono h2 (a := ff c + 1) (b := j) (by omega) (by omega); omega
            · exact z
            · have := t_mono h2 (a := j + 1) (b := ff c) (by omega) (by omega); omega
          rw [if_pos (Or.inr (by rw [a1, this])), if_pos qc]
          exact (h c (by omega)).1
        · have : ¬ lof c = nI j := fun e => by
            rw [a1, nI_eq (by omega) (by omega)] at e
            rw [e] at a3; omega
          rw [if_neg (fun z => z.elim hne this), if_neg qc]
  exact key ce hle (Nat.le_refl _)
