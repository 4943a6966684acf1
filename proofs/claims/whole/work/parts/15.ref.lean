/-! what the reference reckons, in the same words where they are the same -/
theorem k_wl {x y z : Int64} : (y ≤ x ∧ x ≤ z) ↔ (y.toInt ≤ x.toInt ∧ x.toInt ≤ z.toInt) := by rw [Int64.le_iff_toInt_le, Int64.le_iff_toInt_le]
theorem k_addT {a : Nat} {x : Int32} (ha : a ≤ 1000000) (h1 : -1000000 ≤ x.toInt) (h2 : x.toInt ≤ 1000000) : (nI a + x).toInt = (a : Int) + x.toInt := by
  rw [Int32.toInt_add, nI_toInt (by omega)]
  exact Int.bmod_eq_of_le (by omega) (by omega)
/-- the lesser leak of a cell and the one below -/
def k_lm (lk : Nat → Int32) (j : Nat) : Int32 := if lk j < lk (j + 1) then lk j else lk (j + 1)
def k_sk (hd sf : Nat → Int32) (pa : Nat → Int64) (i : Nat) (u v : Int64) : Int64 :=
  if v < u then (hd i).toInt64 * (v - u) else (hd i).toInt64 * ((if pa i < v then pa i else v) - u) + (sf i).toInt64 * (v - (if pa i < v then pa i else v))
theorem k_fa0 {lk ln : Nat → Int32} {ce i : Nat} {da db : Int32} {p : Nat → Int64} (hi : i = 0) (h : da = 0) : (0 : Int64) = k_fl lk ln ce da db p i := by
  subst hi; show (0 : Int64) = -(k_up lk da p); unfold k_up; rw [if_pos h]; rfl
theorem k_fa1 {lk ln : Nat → Int32} {ce i : Nat} {da db : Int32} {p : Nat → Int64} (hi : i = 0) (h : ¬ da = 0) : -(p 0 * (lk 0).toInt64 / 1000) = k_fl lk ln ce da db p i := by
  subst hi; show _ = -(k_up lk da p); unfold k_up; rw [if_neg h]
theorem k_fb0 {lk ln : Nat → Int32} {ce i : Nat} {da db : Int32} {p : Nat → Int64} (h0 : ¬ i = 0) (hi : i = ce) (h : db = 0) : (0 : Int64) = k_fl lk ln ce da db p i := by
  obtain ⟨j, rfl⟩ : ∃ j, i = j + 1 := ⟨i - 1, by omega⟩
  show _ = k_go lk ln ce db p j; unfold k_go; rw [if_neg (by omega), if_pos h]
theorem k_fb1 {lk ln : Nat → Int32} {ce i : Nat} {da db : Int32} {p : Nat → Int64} (h0 : ¬ i = 0) (hi : i = ce) (h : ¬ db = 0) : p (i - 1) * (lk (i - 1)).toInt64 / 1000 = k_fl lk ln ce da db p i := by
  obtain ⟨j, rfl⟩ : ∃ j, i = j + 1 := ⟨i - 1, by omega⟩
  show _ = k_go lk ln ce db p j; unfold k_go; rw [if_neg (by omega), if_neg h]; rfl
theorem k_fm1 {lk : Nat → Int32} {ce i : Nat} {da db : Int32} {p : Nat → Int64} (h0 : ¬ i = 0) (hi : i < ce) (h : ¬ lk i ≤ lk (i - 1)) : (p (i - 1) - p i) * (lk (i - 1)).toInt64 / 1000 = k_fl lk (k_lm lk) ce da db p i := by
  obtain ⟨j, rfl⟩ : ∃ j, i = j + 1 := ⟨i - 1, by omega⟩
  show _ = k_go lk (k_lm lk) ce db p j; unfold k_go; rw [if_pos (by omega)]; unfold k_lm; rw [if_pos (show lk j < lk (j + 1) from Int32.not_le.mp h)]; rfl
theorem k_fm2 {lk : Nat → Int32} {ce i : Nat} {da db : Int32} {p : Nat → Int64} (h0 : ¬ i = 0) (hi : i < ce) (h : lk i ≤ lk (i - 1)) : (p (i - 1) - p i) * (lk i).toInt64 / 1000 = k_fl lk (k_lm lk) ce da db p i := by
  obtain ⟨j, rfl⟩ : ∃ j, i = j + 1 := ⟨i - 1, by omega⟩
  show _ = k_go lk (k_lm lk) ce db p j; unfold k_go; rw [if_pos (by omega)]; unfold k_lm; rw [if_neg (show ¬ lk j < lk (j + 1) from Int32.not_lt.mpr h)]; rfl
theorem k_now {lk ln : Nat → Int32} {ce i : Nat} {da db dr : Int32} {p : Nat → Int64} (h : i < ce) : p i + k_fl lk ln ce da db p i - k_fl lk ln ce da db p (i + 1) - k_dr dr p i = k_np lk ln ce da db dr p ce i := by
  unfold k_np; rw [if_pos h]; grind
theorem k_np_t {lk ln : Nat → Int32} {ce i : Nat} {da db dr : Int32} {p : Nat → Int64} (h : i < ce) : vp_updL (k_np lk ln ce da db dr p i) i (k_np lk ln ce da db dr p ce i) = k_np lk ln ce da db dr p (i + 1) := by
  have e : k_np lk ln ce da db dr p ce i = p i + (k_fl lk ln ce da db p i - k_fl lk ln ce da db p (i + 1) - k_dr dr p i) := if_pos h
  rw [e]; exact k_np_s
theorem k_rs_t {co : Int64} {p pa : Nat → Int64} {i : Nat} : vp_updL (k_rs co p pa i) i (k_mx (pa i) (co - p i)) = k_rs co p pa (i + 1) := by
  have e : k_rs co p pa i i = pa i := if_neg (by omega)
  have := k_rs_s (co := co) (p := p) (pa := pa) (i := i)
  rw [e] at this; exact this
theorem k_mx1 {a b : Int64} (h : ¬ b ≤ a) : b = k_mx a b := (if_neg (fun q => h (Int64.le_of_lt q))).symm
theorem k_mx2 {a b : Int64} (h : b ≤ a) : a = k_mx a b := by
  unfold k_mx
  by_cases q : b < a
  · rw [if_pos q]
  · rw [if_neg q]; exact Int64.le_antisymm (Int64.not_lt.mp q) h
theorem k_gone {wo a b c : Int64} : wo + (a - b) + c = wo - b + c + a := by grind
def k_ss (hd sf : Nat → Int32) (co : Int64) (p q pa sk : Nat → Int64) (n : Nat) : Nat → Int64 := fun j => if j < n then sk j + k_sk hd sf pa j (co - p j) (co - q j) else sk j
theorem k_ss_0 {hd sf : Nat → Int32} {co : Int64} {p q pa sk : Nat → Int64} : sk = k_ss hd sf co p q pa sk 0 := funext fun j => (if_neg (by omega)).symm
theorem k_ss_s {hd sf : Nat → Int32} {co : Int64} {p q pa sk : Nat → Int64} {i : Nat} : vp_updL (k_ss hd sf co p q pa sk i) i (k_ss hd sf co p q pa sk i i + k_sk hd sf pa i (co - p i) (co - q i)) = k_ss hd sf co p q pa sk (i + 1) := by
  funext j
  unfold vp_updL k_ss
  by_cases h : j = i
  · subst h; simp
  · by_cases h2 : j < i
    · simp [h, h2, show j < i + 1 by omega]
    · simp [h, h2, show ¬ j < i + 1 by omega]
theorem k_sk_rs {hd sf : Nat → Int32} {co : Int64} {p pa : Nat → Int64} {i : Nat} {u v : Int64} : k_sk hd sf (k_rs co p pa i) i u v = k_sk hd sf pa i u v := by
  have e : k_rs co p pa i i = pa i := if_neg (by omega)
  unfold k_sk; rw [e]
def k_s (hd sf lk ln : Nat → Int32) (ce : Nat) (da db dr : Int32) (co : Int64) (p pa sk : Nat → Int64) : Nat → Nat → Int64
  | 0 => sk
  | n + 1 => k_ss hd sf co (k_p lk ln ce da db dr p n) (k_p lk ln ce da db dr p (n + 1)) (k_a lk ln ce da db dr co p pa n) (k_s hd sf lk ln ce da db dr co p pa sk n) ce
theorem k_more_t {ld lz : Nat → Int32} {x : Int32} {u : Int64} {n : Nat} (h : ld n = x) : u + k_come ld lz x n + (lz n).toInt64 = u + k_come ld lz x (n + 1) := by rw [Int64.add_assoc, k_come_t h]
theorem k_more_f {ld lz : Nat → Int32} {x : Int32} {u : Int64} {n : Nat} (h : ¬ ld n = x) : u + k_come ld lz x n + 0 = u + k_come ld lz x (n + 1) := by rw [Int64.add_zero, k_come_f h]
def k_mu (lof : Nat → Int32) (sk : Nat → Int64) (x : Int32) (n : Nat) : Int64 := k_sum (fun c => if x = -1 ∨ lof c = x then sk c else 0) n
theorem k_mu_t {lof : Nat → Int32} {sk : Nat → Int64} {x : Int32} {n : Nat} (h : x = -1 ∨ lof n = x) : k_mu lof sk x n + sk n = k_mu lof sk x (n + 1) := by
  show _ = k_sum _ n + (if x = -1 ∨ lof n = x then sk n else 0)
  rw [if_pos h]; rfl
theorem k_mu_f {lof : Nat → Int32} {sk : Nat → Int64} {x : Int32} {n : Nat} (h1 : ¬ x = -1) (h2 : ¬ lof n = x) : k_mu lof sk x n + 0 = k_mu lof sk x (n + 1) := by
  show _ = k_sum _ n + (if x = -1 ∨ lof n = x then sk n else 0)
  rw [if_neg (fun h => h.elim h1 h2)]; rfl
def k_all (lz : Nat → Int32) (n : Nat) : Int64 := k_sum (fun k => (lz k).toInt64) n
def k_me (hd sf lof lz : Nat → Int32) (mn : Nat) (co : Int64) (pr pa sk : Nat → Int64) (ce : Nat) (n : Nat) : Int64 := k_mu lof sk (-1) ce + k_sum (fun c => k_sk hd sf pa c (co - pr c) (k_all lz mn)) n
theorem k_me_s {hd sf lof lz : Nat → Int32} {mn : Nat} {co : Int64} {pr pa sk : Nat → Int64} {ce n : Nat} : k_me hd sf lof lz mn co pr pa sk ce n + k_sk hd sf pa n (co - pr n) (k_all lz mn) = k_me hd sf lof lz mn co pr pa sk ce (n + 1) := by
  unfold k_me; rw [Int64.add_assoc]; rfl
def k_msh (u e : Int64) : Int32 := if e = 0 then nI 1000 else (1000 * u / e).toInt32
def kD_s (hd sf lk ln : Nat → Int32) (ce : Nat) (da db dr : Int32) (ld lz : Nat → Int32) (mn dy : Nat) (co : Int64) (p pa sk : Nat → Int64) : Nat → Nat → Int64
  | 0 => sk
  | d + 1 => k_s hd sf lk ln ce da db dr (kD_c ld lz mn dy co d + k_come ld lz (nI (dy + d)) mn) (k_lay (kD_p lk ln ce da db dr ld lz mn dy p d) ce (k_come ld lz (nI (dy + d)) mn)) (kD_a lk ln ce da db dr ld lz mn dy co p pa d) (kD_s hd sf lk ln ce da db dr ld lz mn dy co p pa sk d) 24
-- what is kept
def k_kl (pr pa sk kp : Nat → Int64) (i : Nat) : Nat → Int64 := fun j => if j < i then pr j else if 30 ≤ j ∧ j < 30 + i then pa (j - 30) else if 60 ≤ j ∧ j < 60 + i then sk (j - 60) else kp j
theorem k_kl_0 {pr pa sk kp : Nat → Int64} : kp = k_kl pr pa sk kp 0 := by
  funext j; unfold k_kl; rw [if_neg (by omega), if_neg (by omega), if_neg (by omega)]
theorem k_kl_s {pr pa sk kp : Nat → Int64} {i : Nat} (h : i < 30) : vp_updL (vp_updL (vp_updL (k_kl pr pa sk kp i) i (pr i)) (30 + i) (pa i)) (60 + i) (sk i) = k_kl pr pa sk kp (i + 1) := by
  funext j
  unfold vp_updL k_kl
  by_cases h1 : j = 60 + i
  · subst h1; simp [show ¬ 60 + i < i + 1 by omega, show ¬ (60 + i < 30 + (i + 1)) by omega]
  · by_cases h2 : j = 30 + i
    · subst h2; simp [show ¬ (30 + i = 60 + i) by omega, show ¬ 30 + i < i + 1 by omega]
    · by_cases h3 : j = i
      · subst h3; simp [h1, h2]
      · rw [if_neg h1, if_neg h2, if_neg h3]
        by_cases a1 : j < i
        · rw [if_pos a1, if_pos (by omega)]
        · rw [if_neg a1, if_neg (show ¬ j < i + 1 by omega)]
          by_cases a2 : 30 ≤ j ∧ j < 30 + i
          · rw [if_pos a2, if_pos (show 30 ≤ j ∧ j < 30 + (i + 1) by omega)]
          · rw [if_neg a2, if_neg (show ¬ (30 ≤ j ∧ j < 30 + (i + 1)) by omega)]
            by_cases a3 : 60 ≤ j ∧ j < 60 + i
            · rw [if_pos a3, if_pos (show 60 ≤ j ∧ j < 60 + (i + 1) by omega)]
            · rw [if_neg a3, if_neg (show ¬ (60 ≤ j ∧ j < 60 + (i + 1)) by omega)]
def k_kept (pr pa sk : Nat → Int64) (co wo : Int64) (kp : Nat → Int64) : Nat → Int64 := vp_updL (vp_updL (k_kl pr pa sk kp 30) 90 co) 91 wo
theorem k_kept_1 {pr pa sk : Nat → Int64} {co wo : Int64} {kp : Nat → Int64} : ∀ j, j < 30 → k_kept pr pa sk co wo kp j = pr j := fun j hj => by
  unfold k_kept vp_updL k_kl; rw [if_neg (by omega), if_neg (by omega), if_pos hj]
theorem k_kept_2 {pr pa sk : Nat → Int64} {co wo : Int64} {kp : Nat → Int64} : ∀ j, j < 30 → k_kept pr pa sk co wo kp (30 + j) = pa j := fun j hj => by
  unfold k_kept vp_updL k_kl; rw [if_neg (by omega), if_neg (by omega), if_neg (by omega), if_pos (by omega), show 30 + j - 30 = j by omega]
theorem k_kept_3 {pr pa sk : Nat → Int64} {co wo : Int64} {kp : Nat → Int64} : ∀ j, j < 30 → k_kept pr pa sk co wo kp (60 + j) = sk j := fun j hj => by
  unfold k_kept vp_updL k_kl; rw [if_neg (by omega), if_neg (by omega), if_neg (by omega), if_neg (by omega), if_pos (by omega), show 60 + j - 60 = j by omega]
theorem k_kept_4 {pr pa sk : Nat → Int64} {co wo : Int64} {kp : Nat → Int64} : k_kept pr pa sk co wo kp 90 = co := rfl
theorem k_kept_5 {pr pa sk : Nat → Int64} {co wo : Int64} {kp : Nat → Int64} : k_kept pr pa sk co wo kp 91 = wo := rfl
theorem k_ab1 {x : Int64} (h : 0 ≤ x) : x = k_ab x := by
  unfold k_ab
  by_cases q : 0 < x
  · rw [if_pos q]
  · have : x = 0 := Int64.le_antisymm (Int64.not_lt.mp q) h
    subst this; rfl
theorem k_ab2 {x : Int64} (h : ¬ 0 ≤ x) : -x = k_ab x := (if_neg (fun q => h (Int64.le_of_lt q))).symm
theorem k_is2 {y : Int32} (h0 : ¬ y = 0) (h1 : ¬ y = nI 1) (h : 0 ≤ y.toInt ∧ y.toInt ≤ 2) : y = nI 2 := by
  have e0 : ¬ y.toInt = 0 := fun q => h0 (Int32.toInt_inj.mp (by rw [q]; rfl))
  have e1 : ¬ y.toInt = 1 := fun q => h1 (Int32.toInt_inj.mp (by rw [q]; rfl))
  exact Int32.toInt_inj.mp (by rw [nI_toInt (by omega)]; omega)
theorem k_not {y : Int32} {k n : Nat} (hk : k ≤ n) (hn : n < 1000) (h : ¬ (0 ≤ y.toInt ∧ y.toInt ≤ n)) : ¬ y = nI k := fun q => by
  subst q; rw [nI_toInt (by omega)] at h; omega
/-- the first day's besides -/
theorem k_lay_lay {p : Nat → Int64} {n : Nat} {a b : Int64} : k_lay (k_lay p n a) n b = k_lay p n (a + b) := by
  funext j; unfold k_lay
  by_cases h : j < n
  · simp only [h, if_true]; rw [Int64.add_assoc]
  · simp only [h, if_false]
theorem k_mulT {k : Nat} {x : Int32} (hk : k ≤ 20) (h1 : 0 ≤ x.toInt) (h2 : x.toInt ≤ 100000) : (nI k).toInt64 * x.toInt64 = (nI k * x).toInt64 := by
  apply Int64.toInt_inj.mp
  have hb : (k : Int) * x.toInt ≤ 20 * 100000 := Int.mul_le_mul (by omega) h2 h1 (by omega)
  have hb0 : 0 ≤ (k : Int) * x.toInt := Int.mul_nonneg (by omega) h1
  rw [Int64.toInt_mul, Int32.toInt_toInt64, Int32.toInt_toInt64, Int32.toInt_toInt64, Int32.toInt_mul, nI_toInt (by omega)]
  rw [Int.bmod_eq_of_le (by omega) (by omega), Int.bmod_eq_of_le (by omega) (by omega)]
