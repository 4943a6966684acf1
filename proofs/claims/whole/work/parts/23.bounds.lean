/-! pressures stay between 0 and what has come; so the end stays while days go by -/
theorem t_tdiv {x : Int} (h : 0 ≤ x) : 0 ≤ x.tdiv 1000 ∧ 1000 * x.tdiv 1000 ≤ x := by
  rw [Int.tdiv_eq_ediv_of_nonneg h]; omega
theorem t_tdivn {x : Int} (h : x ≤ 0) : x.tdiv 1000 ≤ 0 ∧ x ≤ 1000 * x.tdiv 1000 := by
  have e : x.tdiv 1000 = -((-x).tdiv 1000) := by rw [Int.neg_tdiv]; omega
  have := t_tdiv (x := -x) (by omega)
  rw [e]; omega
theorem t_div {a : Int64} {k : Int32} (h1 : -100000000 ≤ a.toInt) (h2 : a.toInt ≤ 100000000) (h3 : 0 ≤ k.toInt) (h4 : k.toInt ≤ 300) : (a * k.toInt64 / 1000).toInt = (a.toInt * k.toInt).tdiv 1000 := by
  have b1 : a.toInt * k.toInt ≤ 100000000 * 300 := by
    rcases Int.le_total 0 a.toInt with q | q
    · exact Int.mul_le_mul h2 h4 h3 (by omega)
    · have : a.toInt * k.toInt ≤ 0 := Int.mul_nonpos_of_nonpos_of_nonneg q h3
      omega
  have b2 : -(100000000 * 300) ≤ a.toInt * k.toInt := by
    rcases Int.le_total 0 a.toInt with q | q
    · have : 0 ≤ a.toInt * k.toInt := Int.mul_nonneg q h3
      omega
    · have : (-a.toInt) * k.toInt ≤ 100000000 * 300 := Int.mul_le_mul (by omega) h4 h3 (by omega)
      rw [Int.neg_mul] at this; omega
  have e1 : (a * k.toInt64).toInt = a.toInt * k.toInt := by
    rw [Int64.toInt_mul, Int32.toInt_toInt64]
    exact Int.bmod_eq_of_le (by omega) (by omega)
  have e2 : (1000 : Int64).toInt = 1000 := by decide
  rw [Int64.toInt_div, e1, e2]
  generalize a.toInt * k.toInt = x at b1 b2
  have hx : -30000000000 ≤ x.tdiv 1000 ∧ x.tdiv 1000 ≤ 30000000000 := by
    rcases Int.le_total 0 x with q | q
    · have := t_tdiv q; omega
    · have := t_tdivn q; omega
  exact Int.bmod_eq_of_le (by omega) (by omega)
/-- what flows, by a leak of at most K thousandths -/
theorem t_flow {a : Int64} {k : Int32} {K : Int} (h1 : -100000000 ≤ a.toInt) (h2 : a.toInt ≤ 100000000) (h3 : 0 ≤ k.toInt) (h4 : k.toInt ≤ K) (hK : K ≤ 300) :
    (0 ≤ a.toInt → 0 ≤ (a * k.toInt64 / 1000).toInt ∧ 1000 * (a * k.toInt64 / 1000).toInt ≤ K * a.toInt) ∧ (a.toInt ≤ 0 → (a * k.toInt64 / 1000).toInt ≤ 0 ∧ K * a.toInt ≤ 1000 * (a * k.toInt64 / 1000).toInt) := by
  rw [t_div h1 h2 h3 (by omega)]
  refine ⟨fun q => ?_, fun q => ?_⟩
  · have p1 : 0 ≤ a.toInt * k.toInt := Int.mul_nonneg q h3
    have p2 : a.toInt * k.toInt ≤ K * a.toInt := by rw [Int.mul_comm K]; exact Int.mul_le_mul_of_nonneg_left h4 q
    have := t_tdiv p1; omega
  · have p1 : a.toInt * k.toInt ≤ 0 := Int.mul_nonpos_of_nonpos_of_nonneg q h3
    have p2 : K * a.toInt ≤ a.toInt * k.toInt := by rw [Int.mul_comm K]; exact Int.mul_le_mul_of_nonpos_left q h4
    have := t_tdivn p1; omega
def t_bd (ce : Nat) (p : Nat → Int64) (M : Int) : Prop := ∀ c, c < ce → 0 ≤ (p c).toInt ∧ (p c).toInt ≤ M
def t_lk (lk : Nat → Int32) (ce : Nat) : Prop := ∀ c, c < ce → 0 ≤ (lk c).toInt ∧ (lk c).toInt ≤ 300
theorem t_lm {lk : Nat → Int32} {ce j : Nat} (h : t_lk lk ce) (hj : j + 1 < ce) : 0 ≤ (k_lm lk j).toInt ∧ (k_lm lk j).toInt ≤ 300 := by
  unfold k_lm
  by_cases q : lk j < lk (j + 1)
  · rw [if_pos q]; exact h j (by omega)
  · rw [if_neg q]; exact h (j + 1) hj
theorem t_dif {a b : Int64} {M : Int} (hM : M ≤ 10000000) (ha : 0 ≤ a.toInt ∧ a.toInt ≤ M) (hb : 0 ≤ b.toInt ∧ b.toInt ≤ M) : (a - b).toInt = a.toInt - b.toInt := by
  rw [Int64.toInt_sub]; exact Int.bmod_eq_of_le (by omega) (by omega)
/-- below a cell -/
theorem t_below {lk : Nat → Int32} {ce c : Nat} {db : Int32} {p : Nat → Int64} {M : Int} (hM : M ≤ 10000000) (hl : t_lk lk ce) (hp : t_bd ce p M) (hc : c < ce) :
    -300 * (M - (p c).toInt) ≤ 1000 * (k_go lk (k_lm lk) ce db p c).toInt ∧ 1000 * (k_go lk (k_lm lk) ce db p c).toInt ≤ 300 * (p c).toInt ∧ (c + 1 < ce → -300 * (p (c + 1)).toInt ≤ 1000 * (k_go lk (k_lm lk) ce db p c).toInt ∧ 1000 * (k_go lk (k_lm lk) ce db p c).toInt ≤ 300 * (M - (p (c + 1)).toInt)) := by
  have hpc := hp c hc
  unfold k_go
  by_cases q : c + 1 < ce
  · rw [if_pos q]
    have hpd := hp (c + 1) q
    have e := t_dif hM hpc hpd
    have hlm := t_lm hl q
    obtain ⟨f1, f2⟩ := t_flow (a := p c - p (c + 1)) (k := k_lm lk c) (K := 300) (by omega) (by omega) hlm.1 hlm.2 (by omega)
    rcases Int.le_total 0 (p c - p (c + 1)).toInt with z | z
    · have := f1 z; omega
    · have := f2 z; omega
  · rw [if_neg q]
    by_cases d : db = 0
    · rw [if_pos d]
      have : (0 : Int64).toInt = 0 := rfl
      rw [this]; omega
    · rw [if_neg d]
      have hlc := hl c hc
      have := (t_flow (a := p c) (k := lk c) (K := 300) (by omega) (by omega) hlc.1 hlc.2 (by omega)).1 hpc.1
      omega
/-- above a cell -/
theorem t_above {lk : Nat → Int32} {ce c : Nat} {da db : Int32} {p : Nat → Int64} {M : Int} (hM : M ≤ 10000000) (hl : t_lk lk ce) (hp : t_bd ce p M) (hc : c < ce) :
    -300 * (p c).toInt ≤ 1000 * (k_fl lk (k_lm lk) ce da db p c).toInt ∧ 1000 * (k_fl lk (k_lm lk) ce da db p c).toInt ≤ 300 * (M - (p c).toInt) := by
  have hpc := hp c hc
  cases c with
  | zero =>
    show -300 * (p 0).toInt ≤ 1000 * (-(k_up lk da p)).toInt ∧ 1000 * (-(k_up lk da p)).toInt ≤ 300 * (M - (p 0).toInt)
    unfold k_up
    by_cases d : da = 0
    · rw [if_pos d]
      have : (-(0 : Int64)).toInt = 0 := rfl
      rw [this]; omega
    · rw [if_neg d]
      have hlc := hl 0 hc
      have f := (t_flow (a := p 0) (k := lk 0) (K := 300) (by omega) (by omega) hlc.1 hlc.2 (by omega)).1 hpc.1
      have e : (-(p 0 * (lk 0).toInt64 / 1000)).toInt = -(p 0 * (lk 0).toInt64 / 1000).toInt := by
        rw [Int64.toInt_neg]; exact Int.bmod_eq_of_le (by omega) (by omega)
      rw [e]; omega
  | succ c => exact (t_below (db := db) hM hl hp (c := c) (by omega)).2.2 hc
theorem t_bd_np {lk : Nat → Int32} {ce : Nat} {da db dr : Int32} {p : Nat → Int64} {M : Int} (hM : M ≤ 10000000) (hl : t_lk lk ce) (hd : 0 ≤ dr.toInt ∧ dr.toInt ≤ 200) (hp : t_bd ce p M) : t_bd ce (k_np lk (k_lm lk) ce da db dr p ce) M := by
  intro c hc
  have hpc := hp c hc
  have h1 := t_above (da := da) (db := db) hM hl hp hc
  have h2 := t_below (db := db) hM hl hp hc
  have h3 := (t_flow (a := p c) (k := dr) (K := 200) (by omega) (by omega) hd.1 hd.2 (by omega)).1 hpc.1
  have e : k_np lk (k_lm lk) ce da db dr p ce c = p c + (k_fl lk (k_lm lk) ce da db p c - k_go lk (k_lm lk) ce db p c - p c * dr.toInt64 / 1000) := if_pos hc
  rw [e]
  generalize k_fl lk (k_lm lk) ce da db p c = f at h1
  generalize k_go lk (k_lm lk) ce db p c = g at h2
  generalize p c * dr.toInt64 / 1000 = r at h3
  generalize p c = x at hpc h1 h2 h3
  have e1 : (f - g).toInt = f.toInt - g.toInt := by rw [Int64.toInt_sub]; exact Int.bmod_eq_of_le (by omega) (by omega)
  have e2 : (f - g - r).toInt = f.toInt - g.toInt - r.toInt := by rw [Int64.toInt_sub, e1]; exact Int.bmod_eq_of_le (by omega) (by omega)
  have e3 : (x + (f - g - r)).toInt = x.toInt + (f.toInt - g.toInt - r.toInt) := by rw [Int64.toInt_add, e2]; exact Int.bmod_eq_of_le (by omega) (by omega)
  rw [e3]; omega
theorem t_bd_p {lk : Nat → Int32} {ce : Nat} {da db dr : Int32} {p : Nat → Int64} {M : Int} (hM : M ≤ 10000000) (hl : t_lk lk ce) (hd : 0 ≤ dr.toInt ∧ dr.toInt ≤ 200) (hp : t_bd ce p M) : ∀ n, t_bd ce (k_p lk (k_lm lk) ce da db dr p n) M
  | 0 => hp
  | n + 1 => t_bd_np hM hl hd (t_bd_p hM hl hd hp n)
-- what has come
def t_cs (ld lz : Nat → Int32) (D : Nat) : Nat → Int
  | 0 => 0
  | k + 1 => t_cs ld lz D k + (if (ld k).toInt < D then (lz k).toInt else 0)
def t_al (lz : Nat → Int32) : Nat → Int
  | 0 => 0
  | k + 1 => t_al lz k + (lz k).toInt
def t_ld (ld lz : Nat → Int32) (n : Nat) : Prop := ∀ k, k < n → 0 ≤ (ld k).toInt ∧ (ld k).toInt ≤ 399 ∧ 1 ≤ (lz k).toInt ∧ (lz k).toInt ≤ 200000
theorem t_cs_b {ld lz : Nat → Int32} {D : Nat} : ∀ {n : Nat}, t_ld ld lz n → 0 ≤ t_cs ld lz D n ∧ t_cs ld lz D n ≤ t_al lz n ∧ t_al lz n ≤ 200000 * n
  | 0, _ => by simp [t_cs, t_al]
  | n + 1, h => by
    have ih := t_cs_b (D := D) (n := n) (fun k hk => h k (by omega))
    have hn := h n (by omega)
    rw [t_cs, t_al]
    by_cases q : (ld n).toInt < D
    · rw [if_pos q]; omega
    · rw [if_neg q]; omega
theorem t_all {lz ld : Nat → Int32} : ∀ {n : Nat}, n ≤ 12 → t_ld ld lz n → (k_all lz n).toInt = t_al lz n
  | 0, _, _ => rfl
  | n + 1, hn, h => by
    have ih := t_all (n := n) (by omega) (fun k hk => h k (by omega))
    have hb := t_cs_b (D := 0) (n := n) (fun k hk => h k (by omega))
    have hk := h n (by omega)
    show (k_all lz n + (lz n).toInt64).toInt = t_al lz n + (lz n).toInt
    rw [Int64.toInt_add, ih, Int32.toInt_toInt64]
    exact Int.bmod_eq_of_le (by omega) (by omega)
theorem t_come {ld lz : Nat → Int32} {D : Nat} (hD : D < 100000) : ∀ {n : Nat}, n ≤ 12 → t_ld ld lz n → (k_come ld lz (nI D) n).toInt = t_cs ld lz (D + 1) n - t_cs ld lz D n ∧ 0 ≤ t_cs ld lz (D + 1) n - t_cs ld lz D n
  | 0, _, _ => ⟨rfl, by simp [t_cs]⟩
  | n + 1, hn, h => by
    obtain ⟨ih, ih0⟩ := t_come hD (n := n) (by omega) (fun k hk => h k (by omega))
    have hb := t_cs_b (D := D + 1) (n := n) (fun k hk => h k (by omega))
    have hb2 := t_cs_b (D := D) (n := n) (fun k hk => h k (by omega))
    have hk := h n (by omega)
    have e : k_come ld lz (nI D) (n + 1) = k_come ld lz (nI D) n + (if ld n = nI D then lz n else 0).toInt64 := rfl
    have hx : ((if ld n = nI D then lz n else 0).toInt64).toInt = (if (ld n).toInt < D + 1 then (lz n).toInt else 0) - (if (ld n).toInt < D then (lz n).toInt else 0) := by
      rw [Int32.toInt_toInt64]
      by_cases q : ld n = nI D
      · have q2 : (ld n).toInt = D := by rw [q, nI_toInt (by omega)]
        rw [if_pos q, if_pos (by omega), if_neg (by omega)]; omega
      · have q2 : ¬ (ld n).toInt = D := fun z => q (Int32.toInt_inj.mp (by rw [z, nI_toInt (by omega)]))
        rw [if_neg q]
        by_cases w : (ld n).toInt < D
        · rw [if_pos (by omega), if_pos w]
          show (0 : Int32).toInt = _
          have : (0 : Int32).toInt = 0 := rfl
          omega
        · rw [if_neg (by omega), if_neg w]; rfl
    have hy : 0 ≤ (if (ld n).toInt < D + 1 then (lz n).toInt else 0) - (if (ld n).toInt < D then (lz n).toInt else 0) ∧ (if (ld n).toInt < D + 1 then (lz n).toInt else 0) - (if (ld n).toInt < D then (lz n).toInt else 0) ≤ 200000 := by
      by_cases w : (ld n).toInt < D
      · rw [if_pos (by omega), if_pos w]; omega
      · rw [if_neg w]
        by_cases w2 : (ld n).toInt < D + 1
        · rw [if_pos w2]; omega
        · rw [if_neg w2]; omega
    have c1 : t_cs ld lz (D + 1) (n + 1) = t_cs ld lz (D + 1) n + (if (ld n).toInt < ((D + 1 : Nat) : Int) then (lz n).toInt else 0) := rfl
    have c2 : t_cs ld lz D (n + 1) = t_cs ld lz D n + (if (ld n).toInt < (D : Int) then (lz n).toInt else 0) := rfl
    have c3 : ((D + 1 : Nat) : Int) = (D : Int) + 1 := by omega
    rw [c3] at c1
    rw [e, Int64.toInt_add, ih, hx, c1, c2]
    generalize (if (ld n).toInt < (D : Int) + 1 then (lz n).toInt else 0) = A at hy
    generalize (if (ld n).toInt < (D : Int) then (lz n).toInt else 0) = B at hy
    refine ⟨?_, by omega⟩
    rw [Int.bmod_eq_of_le (by omega) (by omega)]
    omega
theorem t_mx_le {a b v : Int64} (h : b ≤ v) : k_mx (k_mx a b) v = k_mx a v := by
  unfold k_mx
  by_cases h1 : b < a
  · rw [if_pos h1]
  · rw [if_neg h1]
    have hv : ¬ v < b := Int64.not_lt.mpr h
    rw [if_neg hv]
    by_cases h2 : v < a
    · exact absurd (Int64.lt_of_le_of_lt h h2) h1
    · rw [if_neg h2]
/-- the day's course with the bounds; S: the sum of all loads -/
theorem t_steps {lk : Nat → Int32} {ce : Nat} {da db dr : Int32} {co S : Int64} {p pa : Nat → Int64} (hM : co.toInt ≤ 10000000) (hl : t_lk lk ce) (hd : 0 ≤ dr.toInt ∧ dr.toInt ≤ 200) (hp : t_bd ce p co.toInt) (hS : co.toInt ≤ S.toInt) {c : Nat} (hc : c < ce) : ∀ n, k_mx (k_a lk (k_lm lk) ce da db dr co p pa n c) S = k_mx (pa c) S
  | 0 => rfl
  | n + 1 => by
    have e : k_a lk (k_lm lk) ce da db dr co p pa (n + 1) c = k_mx (k_a lk (k_lm lk) ce da db dr co p pa n c) (co - k_p lk (k_lm lk) ce da db dr p (n + 1) c) := if_pos hc
    have hb := t_bd_p (da := da) (db := db) hM hl hd hp (n + 1) c hc
    have e2 : (co - k_p lk (k_lm lk) ce da db dr p (n + 1) c).toInt = co.toInt - (k_p lk (k_lm lk) ce da db dr p (n + 1) c).toInt := by
      rw [Int64.toInt_sub]; exact Int.bmod_eq_of_le (by omega) (by omega)
    rw [e, t_mx_le (by rw [Int64.le_iff_toInt_le, e2]; omega)]
    exact t_steps hM hl hd hp hS hc n
theorem t_bd_lay {ce : Nat} {p : Nat → Int64} {co u : Int64} (h1 : 0 ≤ u.toInt) (h2 : co.toInt + u.toInt ≤ 10000000) (hp : t_bd ce p co.toInt) : t_bd ce (k_lay p ce u) (co.toInt + u.toInt) := by
  intro c hc
  have hpc := hp c hc
  have e : k_lay p ce u c = p c + u := if_pos hc
  have e2 : (p c + u).toInt = (p c).toInt + u.toInt := by rw [Int64.toInt_add]; exact Int.bmod_eq_of_le (by omega) (by omega)
  rw [e, e2]; omega
theorem t_days {lk ld lz : Nat → Int32} {ce mn dy : Nat} {da db dr : Int32} {co : Int64} {p pa : Nat → Int64} (hmn : mn ≤ 12) (hdy : dy ≤ 400) (hL : t_ld ld lz mn) (hl : t_lk lk ce) (hd : 0 ≤ dr.toInt ∧ dr.toInt ≤ 200) (hco : co.toInt = t_cs ld lz dy mn) (hp : t_bd ce p co.toInt) : ∀ d, d ≤ 1000 →
    (kD_c ld lz mn dy co d).toInt = t_cs ld lz (dy + d) mn ∧ t_bd ce (kD_p lk (k_lm lk) ce da db dr ld lz mn dy p d) (kD_c ld lz mn dy co d).toInt ∧ ∀ c, c < ce → k_mx (kD_a lk (k_lm lk) ce da db dr ld lz mn dy co p pa d c) (k_all lz mn) = k_mx (pa c) (k_all lz mn)
  | 0, _ => ⟨hco, hp, fun _ _ => rfl⟩
  | d + 1, h => by
    obtain ⟨i1, i2, i3⟩ := t_days (da := da) (db := db) (pa := pa) hmn hdy hL hl hd hco hp d (by omega)
    obtain ⟨c1, c2⟩ := t_come (D := dy + d) (by omega) hmn hL
    have b1 := t_cs_b (D := dy + d) hL
    have b2 := t_cs_b (D := dy + d + 1) hL
    have ea := t_all hmn hL
    have es : (kD_c ld lz mn dy co d + k_come ld lz (nI (dy + d)) mn).toInt = (kD_c ld lz mn dy co d).toInt + (k_come ld lz (nI (dy + d)) mn).toInt := by
      rw [Int64.toInt_add]; exact Int.bmod_eq_of_le (by omega) (by omega)
    have hbl := t_bd_lay (u := k_come ld lz (nI (dy + d)) mn) (by omega) (by omega) i2
    rw [← es] at hbl
    refine ⟨?_, ?_, ?_⟩
    · show (kD_c ld lz mn dy co d + k_come ld lz (nI (dy + d)) mn).toInt = _
      rw [es, i1, c1, show dy + (d + 1) = dy + d + 1 by omega]; omega
    · exact t_bd_p (by omega) hl hd hbl 24
    · intro c hc
      refine Eq.trans ?_ (i3 c hc)
      exact t_steps (co := kD_c ld lz mn dy co d + k_come ld lz (nI (dy + d)) mn) (by omega) hl hd hbl (by omega) hc 24
/-- what until asks of both -/
theorem t_until {hd sf fp lk ln lof ld lz : Nat → Int32} {ce mn dy : Nat} {da db dr : Int32} {co sm : Int64} {p pa sk : Nat → Int64} (hmn : mn ≤ 12) (hdy : dy ≤ 400) (hL : t_ld ld lz mn) (hl : t_lk lk ce) (hdr : 0 ≤ dr.toInt ∧ dr.toInt ≤ 200) (hco : co.toInt = t_cs ld lz dy mn) (hp : t_bd ce p co.toInt)
    (hln : ∀ j, j + 1 < ce → ln j = k_lm lk j) (hr : t_rg hd sf ce) (h : t_ok hd sf fp ce co p pa sk) (hsm : sm = k_all lz mn) {d : Nat} (hq : d ≤ 1000) :
    k_th (kD_u hd sf fp lk ln ce da db dr ld lz mn dy co p pa d) (k_end hd sf fp sm pa ce) = k_msh (k_mu lof (kD_s hd sf lk (k_lm lk) ce da db dr ld lz mn dy co p pa sk d) (-1) ce) (k_me hd sf lof lz mn (kD_c ld lz mn dy co d) (kD_p lk (k_lm lk) ce da db dr ld lz mn dy p d) (kD_a lk (k_lm lk) ce da db dr ld lz mn dy co p pa d) (kD_s hd sf lk (k_lm lk) ce da db dr ld lz mn dy co p pa sk d) ce ce) := by
  have hd' := t_ok_days (lk := lk) (ln := k_lm lk) (da := da) (db := db) (dr := dr) (ld := ld) (lz := lz) (mn := mn) (dy := dy) hr h d
  rw [t_mu hd', t_me hr hd', tD_u hln, t_th, hsm]
  have hE : k_end hd sf fp (k_all lz mn) (kD_a lk (k_lm lk) ce da db dr ld lz mn dy co p pa d) ce = k_end hd sf fp (k_all lz mn) pa ce := by
    unfold k_end
    exact k_sum_congr (fun c hc => by rw [(t_days (da := da) (db := db) (pa := pa) hmn hdy hL hl hdr hco hp d hq).2.2 c hc])
  rw [hE]; rfl
theorem t_first {P Q : Nat → Bool} : ∀ {n : Nat}, (∀ d, d < n → P d = Q d) → k_first P n = k_first Q n
  | 0, _ => rfl
  | n + 1, h => by
    show (if P 0 = true then 0 else k_first (fun d => P (d + 1)) n + 1) = (if Q 0 = true then 0 else k_first (fun d => Q (d + 1)) n + 1)
    rw [h 0 (by omega), t_first (n := n) (P := fun d => P (d + 1)) (Q := fun d => Q (d + 1)) (fun d hd => h (d + 1) (by omega))]
theorem t_untils {f g : Nat → Int32} {x : Int32} (h : ∀ d, d < 301 → f d = g d) : k_until f x = k_until g x := by
  unfold k_until; rw [t_first (fun d hd => by rw [h d hd])]
theorem t_surs {f g : Nat → Int64} {E : Int64} {x : Int32} (h : ∀ d, d < 21 → f d = g d) : k_sur f E x = k_sur g E x := by
  unfold k_sur; rw [t_first (fun d hd => by rw [h d hd])]
