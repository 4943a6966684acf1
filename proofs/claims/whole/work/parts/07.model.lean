/-! what the class and the reference reckon, as functions -/
def kb (P : Prop) [Decidable P] : Int32 := if P then nI 1 else nI 0
theorem kb_t {P : Prop} [Decidable P] (h : P) : nI 1 = kb P := (if_pos h).symm
theorem kb_f {P : Prop} [Decidable P] (h : ¬ P) : nI 0 = kb P := (if_neg h).symm
theorem kb_eq0 {P : Prop} [Decidable P] : kb P = 0 ↔ ¬ P := by
  unfold kb
  by_cases h : P
  · simp only [h, if_true, not_true, iff_false]; decide
  · simp only [h, if_false, not_false_iff, iff_true]; decide
theorem kb_nar {P : Prop} [Decidable P] : narrow .boolean (.int (kb P)) = .int (kb P) := by
  unfold kb
  by_cases h : P
  · rw [if_pos h]; decide
  · rw [if_neg h]; decide
theorem kb_fit {P : Prop} [Decidable P] : fits .boolean (.int (kb P)) = true := by
  unfold kb
  by_cases h : P
  · rw [if_pos h]; decide
  · rw [if_neg h]; decide
theorem kb_congr {P Q : Prop} [Decidable P] [Decidable Q] (h : P ↔ Q) : kb P = kb Q := by
  by_cases hq : Q
  · rw [← kb_t hq, ← kb_t (h.mpr hq)]
  · rw [← kb_f hq, ← kb_f (fun p => hq (h.mp p))]
/-- a boolean of Java -/
def k_bo (x : Int32) : Prop := x = nI 0 ∨ x = nI 1
theorem k_bo_nar {x : Int32} (h : k_bo x) : narrow .boolean (.int x) = .int x := by rcases h with rfl | rfl <;> decide
theorem k_bo_fit {x : Int32} (h : k_bo x) : fits .boolean (.int x) = true := by rcases h with rfl | rfl <;> decide
theorem k_bo_kb {P : Prop} [Decidable P] : k_bo (kb P) := by
  unfold kb k_bo
  by_cases h : P
  · rw [if_pos h]; exact Or.inr rfl
  · rw [if_neg h]; exact Or.inl rfl
-- sums
def k_sum (f : Nat → Int64) : Nat → Int64
  | 0 => 0
  | n + 1 => k_sum f n + f n
theorem k_sum_congr {f g : Nat → Int64} : ∀ {n : Nat}, (∀ j, j < n → f j = g j) → k_sum f n = k_sum g n
  | 0, _ => rfl
  | n + 1, h => by rw [k_sum, k_sum, k_sum_congr (fun j hj => h j (by omega)), h n (by omega)]
theorem k_sum_zero {f : Nat → Int64} : ∀ {n : Nat}, (∀ j, j < n → f j = 0) → k_sum f n = 0
  | 0, _ => rfl
  | n + 1, h => by rw [k_sum, k_sum_zero (fun j hj => h j (by omega)), h n (by omega)]; rfl
def k_seg (f : Nat → Int64) (a n : Nat) : Int64 := k_sum (fun j => if a ≤ j then f j else 0) n
theorem k_seg_0 {f : Nat → Int64} {a : Nat} : (0 : Int64) = k_seg f a a := (k_sum_zero (fun j hj => if_neg (by omega))).symm
theorem k_seg_s {f : Nat → Int64} {a n : Nat} (h : a ≤ n) : k_seg f a n + f n = k_seg f a (n + 1) := by
  show _ = k_sum _ n + (if a ≤ n then f n else 0)
  rw [if_pos h]; rfl
theorem k_seg_all {f : Nat → Int64} {n : Nat} : k_seg f 0 n = k_sum f n := k_sum_congr (fun j _ => if_pos (Nat.zero_le j))
-- sinking
def k_u1 (hd sf fp : Nat → Int32) (i : Nat) (ca pz : Int64) : Int64 := (hd i).toInt64 * ca + (sf i - hd i).toInt64 * (pz - (fp i).toInt64)
def k_mx (a b : Int64) : Int64 := if b < a then a else b
def k_units (hd sf fp : Nat → Int32) (co : Int64) (pr pa : Nat → Int64) (a n : Nat) : Int64 := k_seg (fun j => k_u1 hd sf fp j (co - pr j) (pa j)) a n
def k_end (hd sf fp : Nat → Int32) (sm : Int64) (pa : Nat → Int64) (n : Nat) : Int64 := k_sum (fun j => k_u1 hd sf fp j sm (k_mx (pa j) sm)) n
-- loads
def k_come (ld lz : Nat → Int32) (x : Int32) (n : Nat) : Int64 := k_sum (fun k => (if ld k = x then lz k else 0).toInt64) n
theorem k_come_t {ld lz : Nat → Int32} {x : Int32} {n : Nat} (h : ld n = x) : k_come ld lz x n + (lz n).toInt64 = k_come ld lz x (n + 1) := by
  show _ = k_sum _ n + (if ld n = x then lz n else 0).toInt64
  rw [if_pos h]; rfl
theorem k_come_f {ld lz : Nat → Int32} {x : Int32} {n : Nat} (h : ¬ ld n = x) : k_come ld lz x n = k_come ld lz x (n + 1) := by
  show _ = k_sum _ n + (if ld n = x then lz n else 0).toInt64
  rw [if_neg h]
  show k_come ld lz x n = k_come ld lz x n + 0
  rw [Int64.add_zero]
def k_lay (pr : Nat → Int64) (n : Nat) (u : Int64) : Nat → Int64 := fun j => if j < n then pr j + u else pr j
theorem k_lay_0 {pr : Nat → Int64} {u : Int64} : pr = k_lay pr 0 u := funext fun j => (if_neg (by omega)).symm
theorem k_lay_s {pr : Nat → Int64} {u : Int64} {i : Nat} : vp_updL (k_lay pr i u) i (k_lay pr i u i + u) = k_lay pr (i + 1) u := by
  funext j
  unfold vp_updL k_lay
  by_cases h : j = i
  · subst h; simp
  · by_cases h2 : j < i
    · simp [h, h2, show j < i + 1 by omega]
    · simp [h, h2, show ¬ j < i + 1 by omega]
def k_beg (pa : Nat → Int64) (a n : Nat) (v : Int64) : Nat → Int64 := fun j => if a ≤ j ∧ j < n then v else pa j
theorem k_beg_0 {pa : Nat → Int64} {a : Nat} {v : Int64} : pa = k_beg pa a a v := funext fun j => (if_neg (by omega)).symm
theorem k_beg_s {pa : Nat → Int64} {a i : Nat} {v : Int64} (h0 : a ≤ i) : vp_updL (k_beg pa a i v) i v = k_beg pa a (i + 1) v := by
  funext j
  unfold vp_updL k_beg
  by_cases h : j = i
  · subst h; simp [h0]
  · by_cases h2 : a ≤ j ∧ j < i
    · simp [h, h2, show j < i + 1 by omega]
    · rw [if_neg h, if_neg h2, if_neg (by omega)]
def k_cp (f g : Nat → Int64) (n : Nat) : Nat → Int64 := fun j => if j < n then f j else g j
theorem k_cp_0 {f g : Nat → Int64} : g = k_cp f g 0 := funext fun j => (if_neg (by omega)).symm
theorem k_cp_s {f g : Nat → Int64} {i : Nat} : vp_updL (k_cp f g i) i (f i) = k_cp f g (i + 1) := by
  funext j
  unfold vp_updL k_cp
  by_cases h : j = i
  · subst h; simp
  · by_cases h2 : j < i
    · simp [h, h2, show j < i + 1 by omega]
    · simp [h, h2, show ¬ j < i + 1 by omega]
-- a step
def k_go (lk ln : Nat → Int32) (ce : Nat) (db : Int32) (p : Nat → Int64) (j : Nat) : Int64 :=
  if j + 1 < ce then (p j - p (j + 1)) * (ln j).toInt64 / 1000 else if db = 0 then 0 else p j * (lk j).toInt64 / 1000
def k_up (lk : Nat → Int32) (da : Int32) (p : Nat → Int64) : Int64 := if da = 0 then 0 else p 0 * (lk 0).toInt64 / 1000
def k_fl (lk ln : Nat → Int32) (ce : Nat) (da db : Int32) (p : Nat → Int64) : Nat → Int64
  | 0 => -(k_up lk da p)
  | j + 1 => k_go lk ln ce db p j
def k_dr (dr : Int32) (p : Nat → Int64) (j : Nat) : Int64 := p j * dr.toInt64 / 1000
/-- the first n cells behind a step -/
def k_np (lk ln : Nat → Int32) (ce : Nat) (da db dr : Int32) (p : Nat → Int64) (n : Nat) : Nat → Int64 := fun j =>
  if j < n then p j + (k_fl lk ln ce da db p j - k_fl lk ln ce da db p (j + 1) - k_dr dr p j) else p j
def k_ow (lk ln : Nat → Int32) (ce : Nat) (da db dr : Int32) (p : Nat → Int64) (wo : Int64) (n : Nat) : Int64 := wo - k_fl lk ln ce da db p 0 + k_sum (k_dr dr p) n
def k_mv (lk ln : Nat → Int32) (ce : Nat) (da db dr : Int32) (p : Nat → Int64) : Nat → Bool
  | 0 => false
  | i + 1 => k_mv lk ln ce da db dr p i || k_fl lk ln ce da db p i != 0 || k_fl lk ln ce da db p (i + 1) != 0 || k_dr dr p i != 0
theorem k_np_0 {lk ln : Nat → Int32} {ce : Nat} {da db dr : Int32} {p : Nat → Int64} : p = k_np lk ln ce da db dr p 0 := funext fun j => (if_neg (by omega)).symm
theorem k_np_at {lk ln : Nat → Int32} {ce : Nat} {da db dr : Int32} {p : Nat → Int64} {n i : Nat} (h : n ≤ i) : k_np lk ln ce da db dr p n i = p i := if_neg (by omega)
theorem k_np_s {lk ln : Nat → Int32} {ce : Nat} {da db dr : Int32} {p : Nat → Int64} {i : Nat} :
    vp_updL (k_np lk ln ce da db dr p i) i (p i + (k_fl lk ln ce da db p i - k_fl lk ln ce da db p (i + 1) - k_dr dr p i)) = k_np lk ln ce da db dr p (i + 1) := by
  funext j
  unfold vp_updL
  by_cases h : j = i
  · subst h; rw [if_pos rfl]; exact (if_pos (by omega)).symm
  · rw [if_neg h]
    by_cases h2 : j < i
    · show (if _ then _ else _) = (if _ then _ else _); rw [if_pos h2, if_pos (by omega)]
    · show (if _ then _ else _) = (if _ then _ else _); rw [if_neg h2, if_neg (by omega)]
theorem k_go_np {lk ln : Nat → Int32} {ce : Nat} {da db dr : Int32} {p : Nat → Int64} {i : Nat} : k_go lk ln ce db (k_np lk ln ce da db dr p i) i = k_fl lk ln ce da db p (i + 1) := by
  show _ = k_go lk ln ce db p i
  unfold k_go
  rw [k_np_at (Nat.le_refl i), k_np_at (Nat.le_succ i)]
theorem k_ow_s {lk ln : Nat → Int32} {ce : Nat} {da db dr : Int32} {p : Nat → Int64} {wo : Int64} {i : Nat} : k_ow lk ln ce da db dr p wo i + k_dr dr p i = k_ow lk ln ce da db dr p wo (i + 1) := by
  unfold k_ow
  rw [Int64.add_assoc]; rfl
def k_rs (co : Int64) (p pa : Nat → Int64) (n : Nat) : Nat → Int64 := fun j => if j < n then k_mx (pa j) (co - p j) else pa j
theorem k_rs_0 {co : Int64} {p pa : Nat → Int64} : pa = k_rs co p pa 0 := funext fun j => (if_neg (by omega)).symm
theorem k_rs_s {co : Int64} {p pa : Nat → Int64} {i : Nat} : vp_updL (k_rs co p pa i) i (k_mx (k_rs co p pa i i) (co - p i)) = k_rs co p pa (i + 1) := by
  funext j
  unfold vp_updL k_rs
  by_cases h : j = i
  · subst h; simp
  · by_cases h2 : j < i
    · simp [h, h2, show j < i + 1 by omega]
    · simp [h, h2, show ¬ j < i + 1 by omega]
-- n steps
def k_p (lk ln : Nat → Int32) (ce : Nat) (da db dr : Int32) (p : Nat → Int64) : Nat → Nat → Int64
  | 0 => p
  | n + 1 => k_np lk ln ce da db dr (k_p lk ln ce da db dr p n) ce
def k_w (lk ln : Nat → Int32) (ce : Nat) (da db dr : Int32) (p : Nat → Int64) (wo : Int64) : Nat → Int64
  | 0 => wo
  | n + 1 => k_ow lk ln ce da db dr (k_p lk ln ce da db dr p n) (k_w lk ln ce da db dr p wo n) ce + k_fl lk ln ce da db (k_p lk ln ce da db dr p n) ce
def k_a (lk ln : Nat → Int32) (ce : Nat) (da db dr : Int32) (co : Int64) (p pa : Nat → Int64) : Nat → Nat → Int64
  | 0 => pa
  | n + 1 => k_rs co (k_p lk ln ce da db dr p (n + 1)) (k_a lk ln ce da db dr co p pa n) ce
def k_on (lk ln : Nat → Int32) (ce : Nat) (da db dr : Int32) (p : Nat → Int64) : Nat → Bool
  | 0 => true
  | n + 1 => k_mv lk ln ce da db dr (k_p lk ln ce da db dr p n) ce
theorem k_mv1 {lk ln : Nat → Int32} {ce : Nat} {da db dr : Int32} {p : Nat → Int64} {i : Nat} (h : ¬ ¬ k_mv lk ln ce da db dr p i = true) : k_mv lk ln ce da db dr p (i + 1) = true := by
  rw [k_mv]; simp [Classical.not_not.mp h]
theorem k_mv2 {lk ln : Nat → Int32} {ce : Nat} {da db dr : Int32} {p : Nat → Int64} {i : Nat} (h : ¬ k_fl lk ln ce da db p i = 0) : k_mv lk ln ce da db dr p (i + 1) = true := by
  rw [k_mv]; simp [h]
theorem k_mv3 {lk ln : Nat → Int32} {ce : Nat} {da db dr : Int32} {p : Nat → Int64} {i : Nat} (h : ¬ k_fl lk ln ce da db p (i + 1) = 0) : k_mv lk ln ce da db dr p (i + 1) = true := by
  rw [k_mv]; simp [h]
theorem k_mv4 {lk ln : Nat → Int32} {ce : Nat} {da db dr : Int32} {p : Nat → Int64} {i : Nat} (h : ¬ k_dr dr p i = 0) : k_mv lk ln ce da db dr p (i + 1) = true := by
  rw [k_mv]; simp [h]
theorem k_mv5 {lk ln : Nat → Int32} {ce : Nat} {da db dr : Int32} {p : Nat → Int64} {i : Nat} (h1 : ¬ k_mv lk ln ce da db dr p i = true) (h2 : k_fl lk ln ce da db p i = 0) (h3 : k_fl lk ln ce da db p (i + 1) = 0) (h4 : k_dr dr p i = 0) : ¬ k_mv lk ln ce da db dr p (i + 1) = true := by
  rw [k_mv]; simp [h1, h2, h3, h4]
-- when nothing moves
theorem k_still {lk ln : Nat → Int32} {ce : Nat} {da db dr : Int32} {p : Nat → Int64} : ∀ {n : Nat}, ¬ k_mv lk ln ce da db dr p n = true → ∀ j, j < n → k_fl lk ln ce da db p j = 0 ∧ k_fl lk ln ce da db p (j + 1) = 0 ∧ k_dr dr p j = 0
  | 0, _, j, hj => absurd hj (by omega)
  | n + 1, h, j, hj => by
    rw [k_mv] at h
    simp only [Bool.or_eq_true, bne_iff_ne, ne_eq, not_or, Classical.not_not] at h
    rcases Nat.lt_or_ge j n with q | q
    · exact k_still h.1.1.1 j q
    · have : j = n := by omega
      subst this
      exact ⟨h.1.1.2, h.1.2, h.2⟩
theorem k_still_p {lk ln : Nat → Int32} {ce : Nat} {da db dr : Int32} {p : Nat → Int64} (h : ¬ k_mv lk ln ce da db dr p ce = true) : k_np lk ln ce da db dr p ce = p := by
  funext j
  unfold k_np
  by_cases hj : j < ce
  · obtain ⟨h1, h2, h3⟩ := k_still h j hj
    rw [if_pos hj, h1, h2, h3]
    show p j + 0 = p j
    rw [Int64.add_zero]
  · rw [if_neg hj]
theorem k_still_w {lk ln : Nat → Int32} {ce : Nat} {da db dr : Int32} {p : Nat → Int64} {wo : Int64} (h0 : 0 < ce) (h : ¬ k_mv lk ln ce da db dr p ce = true) : k_ow lk ln ce da db dr p wo ce + k_fl lk ln ce da db p ce = wo := by
  unfold k_ow
  rw [(k_still h 0 h0).1, k_sum_zero (fun j hj => (k_still h j hj).2.2)]
  have h2 := (k_still h (ce - 1) (by omega)).2.1
  rw [show ce - 1 + 1 = ce by omega] at h2
  rw [h2, Int64.sub_zero, Int64.add_zero, Int64.add_zero]
theorem k_mx_mx {a b : Int64} : k_mx (k_mx a b) b = k_mx a b := by
  unfold k_mx
  by_cases h : b < a
  · simp [h]
  · simp [h]
theorem k_rs_rs {co : Int64} {p pa : Nat → Int64} {n : Nat} : k_rs co p (k_rs co p pa n) n = k_rs co p pa n := by
  funext j
  unfold k_rs
  by_cases h : j < n
  · simp only [h, if_true]; exact k_mx_mx
  · simp only [h, if_false]
/-- no step more is wanted when one has moved nothing -/
theorem k_stop {lk ln : Nat → Int32} {ce : Nat} {da db dr : Int32} {co wo : Int64} {p pa : Nat → Int64} {i : Nat} (h0 : 0 < ce) (h : ¬ k_on lk ln ce da db dr p i = true) : ∀ n : Nat,
    k_p lk ln ce da db dr p (i + n) = k_p lk ln ce da db dr p i ∧ k_a lk ln ce da db dr co p pa (i + n) = k_a lk ln ce da db dr co p pa i ∧ k_w lk ln ce da db dr p wo (i + n) = k_w lk ln ce da db dr p wo i := by
  cases i with
  | zero => exact absurd rfl h
  | succ i =>
    have h : ¬ k_mv lk ln ce da db dr (k_p lk ln ce da db dr p i) ce = true := h
    have hp : k_p lk ln ce da db dr p (i + 1) = k_p lk ln ce da db dr p i := k_still_p h
    intro n
    induction n with
    | zero => exact ⟨rfl, rfl, rfl⟩
    | succ n ih =>
      obtain ⟨i1, i2, i3⟩ := ih
      have e1 : k_p lk ln ce da db dr p (i + 1 + n + 1) = k_p lk ln ce da db dr p (i + 1) := by
        show k_np lk ln ce da db dr (k_p lk ln ce da db dr p (i + 1 + n)) ce = _
        rw [i1, hp]; exact hp
      refine ⟨e1, ?_, ?_⟩
      · show k_rs co (k_p lk ln ce da db dr p (i + 1 + n + 1)) (k_a lk ln ce da db dr co p pa (i + 1 + n)) ce = _
        rw [e1, i2]
        exact k_rs_rs
      · show k_ow lk ln ce da db dr (k_p lk ln ce da db dr p (i + 1 + n)) (k_w lk ln ce da db dr p wo (i + 1 + n)) ce + k_fl lk ln ce da db (k_p lk ln ce da db dr p (i + 1 + n)) ce = _
        rw [i1, i3, hp]
        exact k_still_w h0 h
-- a layer's cells
def k_fi (f : Nat → Int32) (a n : Nat) (v : Int32) : Nat → Int32 := fun j => if a ≤ j ∧ j < n then v else f j
theorem k_fi_0 {f : Nat → Int32} {a : Nat} {v : Int32} : f = k_fi f a a v := funext fun j => (if_neg (by omega)).symm
theorem k_fi_s {f : Nat → Int32} {a i : Nat} {v : Int32} (h0 : a ≤ i) : upd (k_fi f a i v) i v = k_fi f a (i + 1) v := by
  funext j
  unfold upd k_fi
  by_cases h : j = i
  · subst h; simp [h0]
  · by_cases h2 : a ≤ j ∧ j < i
    · simp [h, h2, show j < i + 1 by omega]
    · rw [if_neg h, if_neg h2, if_neg (by omega)]
def k_mn (x y : Int32) : Int32 := if y < x then y else x
def k_lnf (lk ln : Nat → Int32) (a n : Nat) (v : Int32) : Nat → Int32 := fun j => if a ≤ j + 1 ∧ j + 1 < n then k_mn (if a ≤ j then v else lk j) v else ln j
theorem k_lnf_0 {lk ln : Nat → Int32} {a : Nat} {v : Int32} : ln = k_lnf lk ln a a v := funext fun j => (if_neg (by omega)).symm
theorem k_lnf_1 {lk ln : Nat → Int32} {a i : Nat} {v : Int32} (h : i = 0) : k_lnf lk ln a i v = k_lnf lk ln a (i + 1) v := by
  funext j
  unfold k_lnf
  rw [if_neg (by omega), if_neg (by omega)]
theorem k_lnf_s {lk ln : Nat → Int32} {a i : Nat} {v : Int32} (h0 : a ≤ i) (h : 0 < i) : upd (k_lnf lk ln a i v) (i - 1) (k_mn (k_fi lk a (i + 1) v (i - 1)) v) = k_lnf lk ln a (i + 1) v := by
  funext j
  unfold upd k_lnf
  by_cases hj : j = i - 1
  · subst hj
    rw [if_pos rfl, if_pos (by omega)]
    unfold k_fi
    by_cases h2 : a ≤ i - 1
    · rw [if_pos (by omega), if_pos h2]
    · rw [if_neg (by omega), if_neg h2]
  · rw [if_neg hj]
    by_cases h2 : a ≤ j + 1 ∧ j + 1 < i
    · rw [if_pos h2, if_pos (show a ≤ j + 1 ∧ j + 1 < i + 1 by omega)]
    · rw [if_neg h2, if_neg (show ¬ (a ≤ j + 1 ∧ j + 1 < i + 1) by omega)]
-- readings
def k_ff (rd : Nat → Int32) (rn : Nat) : Int32 := if rn = 0 then nI 0 else rd (rn - 1) + nI 1
def k_quo (u v : Int64) : Int64 := if v = 0 then -1 else u / v
def k_f0 (rv : Nat → Int64) (n : Nat) : Int64 :=
  if n < 3 then -1 else if 100000000 < rv (n - 3) ∨ 100000000 < rv (n - 2) ∨ 100000000 < rv (n - 1) then -1
  else k_quo (rv (n - 2) * rv (n - 2) - rv (n - 3) * rv (n - 1)) (2 * rv (n - 2) - rv (n - 3) - rv (n - 1))
def k_f1 (rd : Nat → Int32) (rv : Nat → Int64) (n : Nat) : Int64 :=
  if n < 2 then -1 else if 100000000 < rv (n - 2) ∨ 100000000 < rv (n - 1) then -1
  else k_quo (((rd (n - 1)).toInt64 - (rd (n - 2)).toInt64) * rv (n - 2) * rv (n - 1)) ((rd (n - 1)).toInt64 * rv (n - 2) - (rd (n - 2)).toInt64 * rv (n - 1))
def k_f2 (rd : Nat → Int32) (rv : Nat → Int64) (n : Nat) : Int64 :=
  if n < 2 then -1 else if 100000000 < rv 0 ∨ 100000000 < rv (n - 1) ∨ (rd (n - 1) - rd 0).toInt64 = 0 then -1
  else rv (n - 1) + (rv (n - 1) - rv 0) * 100 / (rd (n - 1) - rd 0).toInt64
def k_th (u v : Int64) : Int32 := if v = 0 then nI 1000 else (u * 1000 / v).toInt32
theorem k_wi {x y z : Int32} : (y ≤ x ∧ x ≤ z) ↔ (y.toInt ≤ x.toInt ∧ x.toInt ≤ z.toInt) := by rw [Int32.le_iff_toInt_le, Int32.le_iff_toInt_le]
theorem k_nI {x : Int32} (h : 0 ≤ x.toInt) : x = nI x.toNatClampNeg := by
  obtain ⟨j, hj, rfl⟩ := nI_of (x := x) (fun h2 => by rw [Int32.lt_iff_toInt_lt] at h2; have : (0 : Int32).toInt = 0 := rfl; omega)
  rw [nI_clamp hj]
-- days
def kD_c (ld lz : Nat → Int32) (mn dy : Nat) (co : Int64) : Nat → Int64
  | 0 => co
  | d + 1 => kD_c ld lz mn dy co d + k_come ld lz (nI (dy + d)) mn
def kD_p (lk ln : Nat → Int32) (ce : Nat) (da db dr : Int32) (ld lz : Nat → Int32) (mn dy : Nat) (p : Nat → Int64) : Nat → Nat → Int64
  | 0 => p
  | d + 1 => k_p lk ln ce da db dr (k_lay (kD_p lk ln ce da db dr ld lz mn dy p d) ce (k_come ld lz (nI (dy + d)) mn)) 24
def kD_a (lk ln : Nat → Int32) (ce : Nat) (da db dr : Int32) (ld lz : Nat → Int32) (mn dy : Nat) (co : Int64) (p pa : Nat → Int64) : Nat → Nat → Int64
  | 0 => pa
  | d + 1 => k_a lk ln ce da db dr (kD_c ld lz mn dy co d + k_come ld lz (nI (dy + d)) mn) (k_lay (kD_p lk ln ce da db dr ld lz mn dy p d) ce (k_come ld lz (nI (dy + d)) mn)) (kD_a lk ln ce da db dr ld lz mn dy co p pa d) 24
def kD_w (lk ln : Nat → Int32) (ce : Nat) (da db dr : Int32) (ld lz : Nat → Int32) (mn dy : Nat) (p : Nat → Int64) (wo : Int64) : Nat → Int64
  | 0 => wo
  | d + 1 => k_w lk ln ce da db dr (k_lay (kD_p lk ln ce da db dr ld lz mn dy p d) ce (k_come ld lz (nI (dy + d)) mn)) (kD_w lk ln ce da db dr ld lz mn dy p wo d) 24
/-- what had sunk at the days' beginnings, d days on; u: what has sunk d days on -/
def kD_m (dy : Nat) (u : Nat → Int64) (mi : Nat → Int64) : Nat → Nat → Int64
  | 0 => mi
  | d + 1 => vp_updL (kD_m dy u mi d) (dy + d + 1) (u (d + 1) / 1000)
/-- what has sunk d days on -/
def kD_u (hd sf fp lk ln : Nat → Int32) (ce : Nat) (da db dr : Int32) (ld lz : Nat → Int32) (mn dy : Nat) (co : Int64) (p pa : Nat → Int64) (d : Nat) : Int64 :=
  k_units hd sf fp (kD_c ld lz mn dy co d) (kD_p lk ln ce da db dr ld lz mn dy p d) (kD_a lk ln ce da db dr ld lz mn dy co p pa d) 0 ce
/-- the first of n that it holds of, or n -/
def k_first (P : Nat → Bool) : Nat → Nat
  | 0 => 0
  | n + 1 => if P 0 = true then 0 else k_first (fun d => P (d + 1)) n + 1
theorem k_first_at : ∀ {n i : Nat} {P : Nat → Bool}, (∀ d, d < i → ¬ P d = true) → (i < n → P i = true) → i ≤ n → k_first P n = i
  | 0, i, P, _, _, h => by show 0 = i; omega
  | n + 1, 0, P, _, h2, _ => if_pos (h2 (by omega))
  | n + 1, i + 1, P, h1, h2, h3 => by
    show (if P 0 = true then 0 else k_first (fun d => P (d + 1)) n + 1) = i + 1
    rw [if_neg (h1 0 (by omega)), k_first_at (i := i) (P := fun d => P (d + 1)) (fun d hd => h1 (d + 1) (by omega)) (fun h => h2 (by omega)) (by omega)]
def k_until (sh : Nat → Int32) (x : Int32) : Int32 := if k_first (fun d => decide (x ≤ sh d)) 301 = 301 then -1 else nI (k_first (fun d => decide (x ≤ sh d)) 301)
theorem k_until_t {sh : Nat → Int32} {x : Int32} {i : Nat} (h1 : ∀ d, d < i → ¬ x ≤ sh d) (h2 : x ≤ sh i) (h : i ≤ 300) : nI i = k_until sh x := by
  have e : k_first (fun d => decide (x ≤ sh d)) 301 = i := k_first_at (fun d hd => by simpa using h1 d hd) (fun _ => by simpa using h2) (by omega)
  unfold k_until
  rw [e, if_neg (by omega)]
theorem k_until_f {sh : Nat → Int32} {x : Int32} (h1 : ∀ d, d < 301 → ¬ x ≤ sh d) : (-1 : Int32) = k_until sh x := by
  have e : k_first (fun d => decide (x ≤ sh d)) 301 = 301 := k_first_at (fun d hd => by simpa using h1 d hd) (fun h => absurd h (by omega)) (by omega)
  unfold k_until
  rw [e, if_pos rfl]
def k_sur (U : Nat → Int64) (E : Int64) (x : Int32) : Int32 := if k_first (fun k => decide (E ≤ U k)) 21 = 21 then -1 else nI (k_first (fun k => decide (E ≤ U k)) 21) * x
theorem k_sur_t {U : Nat → Int64} {E : Int64} {x : Int32} {i : Nat} (h1 : ∀ d, d < i → ¬ E ≤ U d) (h2 : E ≤ U i) (h : i ≤ 20) : nI i * x = k_sur U E x := by
  have e : k_first (fun d => decide (E ≤ U d)) 21 = i := k_first_at (fun d hd => by simpa using h1 d hd) (fun _ => by simpa using h2) (by omega)
  unfold k_sur
  rw [e, if_neg (by omega)]
theorem k_sur_f {U : Nat → Int64} {E : Int64} {x : Int32} (h1 : ∀ d, d < 21 → ¬ E ≤ U d) : (-1 : Int32) = k_sur U E x := by
  have e : k_first (fun d => decide (E ≤ U d)) 21 = 21 := k_first_at (fun d hd => by simpa using h1 d hd) (fun h => absurd h (by omega)) (by omega)
  unfold k_sur
  rw [e, if_pos rfl]
def k_told (co : Int64) (pr pa : Nat → Int64) (i : Nat) (y : Int32) : Int32 := if y = nI 0 then (pr i).toInt32 else if y = nI 1 then (co - pr i).toInt32 else if y = nI 2 then (pa i).toInt32 else -1
def k_count (ly ce mn dy rn : Nat) (co : Int64) (x : Int32) : Int32 := if x = nI 0 then nI ly else if x = nI 1 then nI ce else if x = nI 2 then nI mn else if x = nI 3 then nI dy else if x = nI 4 then nI rn else if x = nI 5 then co.toInt32 else -1
def k_foretold (rd : Nat → Int32) (rv : Nat → Int64) (rn : Nat) (x : Int32) : Int64 := if x = nI 0 then k_f0 rv rn else if x = nI 1 then k_f1 rd rv rn else if x = nI 2 then k_f2 rd rv rn else -1
def k_ab (x : Int64) : Int64 := if 0 < x then x else -x
def k_d (rd : Nat → Int32) (i : Nat) : Nat := (rd i).toNatClampNeg
def k_off (rd : Nat → Int32) (rv mi : Nat → Int64) (dy : Nat) (v : Int64) : Nat → Nat
  | 0 => 0
  | i + 1 => if k_d rd i ≤ dy ∧ v < k_ab (rv i - mi (k_d rd i)) then k_off rd rv mi dy v i + 1 else k_off rd rv mi dy v i
theorem k_off_t {rd : Nat → Int32} {rv mi : Nat → Int64} {dy i : Nat} {v : Int64} (h1 : k_d rd i ≤ dy) (h2 : v < k_ab (rv i - mi (k_d rd i))) : k_off rd rv mi dy v i + 1 = k_off rd rv mi dy v (i + 1) := (if_pos ⟨h1, h2⟩).symm
theorem k_off_f {rd : Nat → Int32} {rv mi : Nat → Int64} {dy i : Nat} {v : Int64} (h : ¬ (k_d rd i ≤ dy ∧ v < k_ab (rv i - mi (k_d rd i)))) : k_off rd rv mi dy v i = k_off rd rv mi dy v (i + 1) := (if_neg h).symm
theorem k_off_le {rd : Nat → Int32} {rv mi : Nat → Int64} {dy : Nat} {v : Int64} : ∀ {i : Nat}, k_off rd rv mi dy v i ≤ i
  | 0 => Nat.le_refl _
  | i + 1 => by
    have := k_off_le (rd := rd) (rv := rv) (mi := mi) (dy := dy) (v := v) (i := i)
    rw [k_off]
    split <;> omega
