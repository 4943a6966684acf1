/-! what holds between class and reference at the law's head -/
def KI (ly ce dy mn rn : Nat) (lk ln hd sf fp fc lof ld lz rd : Nat → Int32) (dr : Int32) (pr pa sk : Nat → Int64) (co sm : Int64) : Prop :=
  (ce ≤ 30 ∧ ly ≤ ce ∧ (ly = 0 → ce = 0) ∧ dy ≤ 400 ∧ mn ≤ 12 ∧ rn ≤ 20) ∧ (∀ j, j + 1 < ce → ln j = k_lm lk j) ∧ t_rg hd sf ce ∧ t_lk lk ce ∧ (0 ≤ dr.toInt ∧ dr.toInt ≤ 200) ∧
  t_ok hd sf fp ce co pr pa sk ∧ (∃ fn ff : Nat → Nat, t_fc fc lof ly ce fn ff) ∧ sm = k_all lz mn ∧ t_ld ld lz mn ∧ co.toInt = t_cs ld lz dy mn ∧ t_bd ce pr co.toInt ∧
  (dy = 0 → co = 0 ∧ ∀ c, pr c = 0 ∧ sk c = 0) ∧ (∀ i, i < rn → 0 ≤ (rd i).toInt ∧ (rd i).toInt ≤ 400) ∧ (∀ i, i + 1 < rn → (rd i).toInt < (rd (i + 1)).toInt)
theorem t_nat {x : Int32} (h : 0 ≤ x.toInt) : ∃ n : Nat, x = nI n ∧ (n : Int) = x.toInt ∧ n < 2147483648 := by
  obtain ⟨j, hj, rfl⟩ := nI_of (x := x) (fun h2 => by rw [Int32.lt_iff_toInt_lt] at h2; have : (0 : Int32).toInt = 0 := rfl; omega)
  exact ⟨j, rfl, (nI_toInt hj).symm, by omega⟩
theorem KI_0 {pr pa sk : Nat → Int64} {lk ln hd sf fp fc lof ld lz rd : Nat → Int32} (hpr : ∀ c, pr c = 0) (hsk : ∀ c, sk c = 0) (hfc : fc 0 = 0) : KI 0 0 0 0 0 lk ln hd sf fp fc lof ld lz rd 0 pr pa sk 0 0 :=
  ⟨⟨by omega, by omega, fun _ => rfl, by omega, by omega, by omega⟩, fun j h => absurd h (by omega), fun c h => absurd h (by omega), fun c h => absurd h (by omega), by decide, fun c h => absurd h (by omega),
    ⟨fun _ => 0, fun _ => 0, rfl, rfl, fun l hl => (by have e : l = 0 := (by omega); rw [e, hfc]; rfl), fun l h => absurd h (by omega), fun c h => absurd h (by omega)⟩,
    rfl, fun k h => absurd h (by omega), rfl, fun c h => absurd h (by omega), fun _ => ⟨rfl, fun c => ⟨hpr c, hsk c⟩⟩, fun i h => absurd h (by omega), fun i h => absurd h (by omega)⟩
theorem KI_drains {ly ce dy mn rn : Nat} {lk ln hd sf fp fc lof ld lz rd : Nat → Int32} {dr x : Int32} {pr pa sk : Nat → Int64} {co sm : Int64} (h : KI ly ce dy mn rn lk ln hd sf fp fc lof ld lz rd dr pr pa sk co sm) (hx : 0 ≤ x.toInt ∧ x.toInt ≤ 200) : KI ly ce dy mn rn lk ln hd sf fp fc lof ld lz rd x pr pa sk co sm := by
  obtain ⟨h1, h2, h3, h4, -, h6⟩ := h
  exact ⟨h1, h2, h3, h4, hx, h6⟩
theorem t_cs_congr {ld lz ld' lz' : Nat → Int32} {D : Nat} : ∀ {n : Nat}, (∀ k, k < n → ld k = ld' k ∧ lz k = lz' k) → t_cs ld lz D n = t_cs ld' lz' D n
  | 0, _ => rfl
  | n + 1, h => by rw [t_cs, t_cs, t_cs_congr (fun k hk => h k (by omega)), (h n (by omega)).1, (h n (by omega)).2]
theorem KI_load {ly ce dy mn rn : Nat} {lk ln hd sf fp fc lof ld lz rd : Nat → Int32} {dr x y : Int32} {pr pa sk : Nat → Int64} {co sm : Int64} (h : KI ly ce dy mn rn lk ln hd sf fp fc lof ld lz rd dr pr pa sk co sm)
    (hq : (dy : Int) ≤ x.toInt ∧ x.toInt ≤ 399 ∧ 1 ≤ y.toInt ∧ y.toInt ≤ 200000 ∧ mn < 12) : KI ly ce dy (mn + 1) rn lk ln hd sf fp fc lof (upd ld mn x) (upd lz mn y) rd dr pr pa sk co (sm + y.toInt64) := by
  obtain ⟨⟨g1, g2, g3, g4, g5, g6⟩, h2, h3, h4, h5, h6, h7, h8, h9, h10, h11⟩ := h
  have a1 : ∀ k, k < mn → ld k = upd ld mn x k ∧ lz k = upd lz mn y k := fun k hk => ⟨(pk_un (by omega)).symm, (pk_un (by omega)).symm⟩
  refine ⟨⟨g1, g2, g3, g4, by omega, g6⟩, h2, h3, h4, h5, h6, h7, ?_, ?_, ?_, h11⟩
  · show _ = k_all (upd lz mn y) mn + (upd lz mn y mn).toInt64
    rw [pk_us, h8]
    exact congrArg (· + y.toInt64) (k_sum_congr (fun k hk => by rw [(a1 k hk).2]))
  · intro k hk
    by_cases q : k = mn
    · subst q; rw [pk_us, pk_us]; omega
    · rw [pk_un q, pk_un q]; exact h9 k (by omega)
  · rw [t_cs, pk_us, if_neg (by omega), h10, t_cs_congr a1]; omega
theorem KI_read {ly ce dy mn rn : Nat} {lk ln hd sf fp fc lof ld lz rd : Nat → Int32} {dr x : Int32} {pr pa sk : Nat → Int64} {co sm : Int64} (h : KI ly ce dy mn rn lk ln hd sf fp fc lof ld lz rd dr pr pa sk co sm)
    (h1 : (k_ff rd rn).toInt ≤ x.toInt) (h2 : x.toInt ≤ 400) (h3 : rn < 20) : KI ly ce dy mn (rn + 1) lk ln hd sf fp fc lof ld lz (upd rd rn x) dr pr pa sk co sm := by
  obtain ⟨⟨g1, g2, g3, g4, g5, g6⟩, i2, i3, i4, i5, i6, i7, i8, i9, i10, i11, i12, i13, i14⟩ := h
  have hx : 0 ≤ x.toInt ∧ (0 < rn → (rd (rn - 1)).toInt < x.toInt) := by
    unfold k_ff at h1
    by_cases q : rn = 0
    · rw [if_pos q, nI_toInt (by omega)] at h1; omega
    · have hr := i13 (rn - 1) (by omega)
      have e : (rd (rn - 1) + nI 1).toInt = (rd (rn - 1)).toInt + 1 := by
        rw [Int32.toInt_add, nI_toInt (by omega)]; exact Int.bmod_eq_of_le (by omega) (by omega)
      rw [if_neg q, e] at h1; omega
  refine ⟨⟨g1, g2, g3, g4, g5, by omega⟩, i2, i3, i4, i5, i6, i7, i8, i9, i10, i11, i12, ?_, ?_⟩
  · intro i hi
    by_cases q : i = rn
    · subst q; rw [pk_us]; omega
    · rw [pk_un q]; exact i13 i (by omega)
  · intro i hi
    by_cases q : i + 1 = rn
    · rw [pk_un (show i ≠ rn by omega), q, pk_us]
      have := hx.2 (by omega)
      rw [show rn - 1 = i by omega] at this; exact this
    · rw [pk_un (show i ≠ rn by omega), pk_un q]; exact i14 i (by omega)
theorem KI_offs {ly ce dy mn rn : Nat} {lk ln hd sf fp fc lof ld lz rd : Nat → Int32} {dr : Int32} {pr pa sk : Nat → Int64} {co sm : Int64} (h : KI ly ce dy mn rn lk ln hd sf fp fc lof ld lz rd dr pr pa sk co sm) : ∀ i, i < rn → 0 ≤ (rd i).toInt ∧ k_d rd i ≤ 400 := by
  intro i hi
  have := h.2.2.2.2.2.2.2.2.2.2.2.2.1 i hi
  refine ⟨this.1, ?_⟩
  obtain ⟨n, e, e2, -⟩ := t_nat this.1
  unfold k_d
  rw [e, nI_clamp (by omega)]; omega
theorem KI_diff {ly ce dy mn rn : Nat} {lk ln hd sf fp fc lof ld lz rd : Nat → Int32} {dr : Int32} {pr pa sk : Nat → Int64} {co sm : Int64} (h : KI ly ce dy mn rn lk ln hd sf fp fc lof ld lz rd dr pr pa sk co sm) (h2 : 2 ≤ rn) : ¬ (rd (rn - 1) - rd 0).toInt64 = 0 := by
  have hb := h.2.2.2.2.2.2.2.2.2.2.2.2.1
  have hi := h.2.2.2.2.2.2.2.2.2.2.2.2.2
  have key : ∀ k, k < rn → (rd 0).toInt + k ≤ (rd k).toInt := by
    intro k
    induction k with
    | zero => intro _; omega
    | succ k ih =>
      intro hk
      have := ih (by omega)
      have := hi k hk
      omega
  have a := key (rn - 1) (by omega)
  have b0 := hb 0 (by omega)
  have b1 := hb (rn - 1) (by omega)
  intro q
  have q2 := congrArg Int64.toInt q
  rw [Int32.toInt_toInt64, Int32.toInt_sub, Int.bmod_eq_of_le (by omega) (by omega)] at q2
  have : (0 : Int64).toInt = 0 := rfl
  omega
theorem KI_run {ly ce dy mn rn n : Nat} {lk ln hd sf fp fc lof ld lz rd : Nat → Int32} {da db dr : Int32} {pr pa sk : Nat → Int64} {co sm : Int64} (h : KI ly ce dy mn rn lk ln hd sf fp fc lof ld lz rd dr pr pa sk co sm) (hn : 1 ≤ n) (h60 : n ≤ 60) (h4 : n + dy ≤ 400) :
    KI ly ce (dy + n) mn rn lk ln hd sf fp fc lof ld lz rd dr (kD_p lk (k_lm lk) ce da db dr ld lz mn dy pr n) (kD_a lk (k_lm lk) ce da db dr ld lz mn dy co pr pa n) (kD_s hd sf lk (k_lm lk) ce da db dr ld lz mn dy co pr pa sk n) (kD_c ld lz mn dy co n) sm := by
  obtain ⟨⟨g1, g2, g3, g4, g5, g6⟩, i2, i3, i4, i5, i6, i7, i8, i9, i10, i11, i12, i13, i14⟩ := h
  obtain ⟨d1, d2, -⟩ := t_days (da := da) (db := db) (pa := pa) g5 g4 i9 i4 i5 i10 i11 n (by omega)
  exact ⟨⟨g1, g2, g3, by omega, g5, g6⟩, i2, i3, i4, i5, t_ok_days i3 i6 n, i7, i8, i9, d1, d2, fun q => absurd q (by omega), i13, i14⟩
theorem t_mnlm {a b : Int32} : k_mn a b = if a < b then a else b := by
  unfold k_mn
  by_cases h : b < a
  · rw [if_pos h, if_neg (fun q => Int32.lt_irrefl (Int32.lt_trans h q))]
  · rw [if_neg h]
    by_cases q : a < b
    · rw [if_pos q]
    · rw [if_neg q]; exact Int32.le_antisymm (Int32.not_lt.mp h) (Int32.not_lt.mp q)
theorem KI_layer {ly ce dy mn rn n : Nat} {lk ln hd sf fp fc lof ld lz rd : Nat → Int32} {dr x1 x2 x3 x4 : Int32} {pr pa sk : Nat → Int64} {co sm : Int64} (h : KI ly ce dy mn rn lk ln hd sf fp fc lof ld lz rd dr pr pa sk co sm)
    (hq : dy = 0 ∧ mn = 0 ∧ 1 ≤ n ∧ n ≤ 10 ∧ n + ce ≤ 30 ∧ 0 ≤ x1.toInt ∧ x1.toInt ≤ 300 ∧ 0 ≤ x4.toInt ∧ x4.toInt ≤ 1000000 ∧ 0 ≤ x2.toInt ∧ x2.toInt ≤ 1000 ∧ x2.toInt ≤ x3.toInt ∧ x3.toInt ≤ 1000) :
    KI (ly + 1) (ce + n) dy mn rn (k_fi lk ce (ce + n) x1) (k_lnf lk ln ce (ce + n) x1) (k_fi hd ce (ce + n) x2) (k_fi sf ce (ce + n) x3) (k_fi fp ce (ce + n) x4) (upd fc (ly + 1) (nI (ce + n))) (k_fi lof ce (ce + n) (nI ly)) ld lz rd dr pr (k_beg pa ce (ce + n) x4.toInt64) sk co sm := by
  obtain ⟨⟨g1, g2, g3, g4, g5, g6⟩, i2, i3, i4, i5, i6, ⟨fn, ff, f0, fE, f1, f2, f3⟩, i8, i9, i10, i11, i12, i13, i14⟩ := h
  obtain ⟨e0, e1⟩ := i12 hq.1
  have old : ∀ {f : Nat → Int32} {v : Int32} {c : Nat}, c < ce → k_fi f ce (ce + n) v c = f c := fun hc => if_neg (by omega)
  have new : ∀ {f : Nat → Int32} {v : Int32} {c : Nat}, ce ≤ c → c < ce + n → k_fi f ce (ce + n) v c = v := fun h1 h2 => if_pos ⟨h1, h2⟩
  refine ⟨⟨by omega, by omega, fun q => absurd q (by omega), g4, g5, g6⟩, ?_, ?_, ?_, i5, ?_, ?_, i8, i9, i10, ?_, i12, i13, i14⟩
  · intro j hj
    unfold k_lnf k_lm
    by_cases q : ce ≤ j + 1
    · rw [if_pos ⟨q, hj⟩, new q hj, t_mnlm]
      by_cases q2 : ce ≤ j
      · rw [if_pos q2, new q2 (by omega)]
      · rw [if_neg q2, old (by omega)]
    · rw [if_neg (by omega), old (by omega), old (by omega), i2 j (by omega)]; rfl
  · intro c hc
    by_cases q : c < ce
    · rw [old q, old q]; exact i3 c q
    · rw [new (by omega) hc, new (by omega) hc]; omega
  · intro c hc
    by_cases q : c < ce
    · rw [old q]; exact i4 c q
    · rw [new (by omega) hc]; omega
  · intro c hc
    by_cases q : c < ce
    · have := i6 c q
      have eb : k_beg pa ce (ce + n) x4.toInt64 c = pa c := if_neg (by omega)
      unfold k_u1 at this ⊢
      rw [old q, old q, old q, eb]; exact this
    · have eb : k_beg pa ce (ce + n) x4.toInt64 c = x4.toInt64 := if_pos (by omega)
      unfold k_u1
      rw [new (f := hd) (by omega) hc, new (f := sf) (by omega) hc, new (f := fp) (by omega) hc, eb, e0, (e1 c).1, (e1 c).2]
      refine ⟨by grind, ?_⟩
      rw [Int64.le_iff_toInt_le, Int32.toInt_toInt64]
      have : ((0 : Int64) - 0).toInt = 0 := rfl
      omega
  · refine ⟨fun l => if l ≤ ly then fn l else ce + n, fun c => if c < ce then ff c else ly, ?_, ?_, ?_, ?_, ?_⟩
    · show (if 0 ≤ ly then fn 0 else ce + n) = 0; rw [if_pos (by omega)]; exact f0
    · show (if ly + 1 ≤ ly then fn (ly + 1) else ce + n) = ce + n; rw [if_neg (by omega)]
    · intro l hl
      show _ = nI (if l ≤ ly then fn l else ce + n)
      by_cases q : l ≤ ly
      · rw [pk_un (by omega), if_pos q]; exact f1 l q
      · rw [if_neg q, show l = ly + 1 by omega, pk_us]
    · intro l hl
      show (if l ≤ ly then fn l else ce + n) < (if l + 1 ≤ ly then fn (l + 1) else ce + n)
      by_cases q : l + 1 ≤ ly
      · rw [if_pos (by omega), if_pos q]; exact f2 l (by omega)
      · rw [if_pos (by omega), if_neg q, show l = ly by omega, fE]; omega
    · intro c hc
      show k_fi lof ce (ce + n) (nI ly) c = nI (if c < ce then ff c else ly) ∧ (if c < ce then ff c else ly) < ly + 1 ∧ (if (if c < ce then ff c else ly) ≤ ly then fn (if c < ce then ff c else ly) else ce + n) ≤ c ∧ c < (if (if c < ce then ff c else ly) + 1 ≤ ly then fn ((if c < ce then ff c else ly) + 1) else ce + n)
      by_cases q : c < ce
      · obtain ⟨a1, a2, a3, a4⟩ := f3 c q
        rw [if_pos q, old q, if_pos (show ff c ≤ ly by omega), if_pos (show ff c + 1 ≤ ly by omega)]
        exact ⟨a1, by omega, a3, a4⟩
      · rw [if_neg q, new (by omega) hc, if_pos (Nat.le_refl ly), if_neg (show ¬ ly + 1 ≤ ly by omega), fE]
        exact ⟨rfl, by omega, by omega, hc⟩
  · intro c hc
    rw [(e1 c).1, e0]; decide
/-- what until, surcharge, share, end, run ask -/
theorem t_runu {hd sf fp lk ln lof ld lz : Nat → Int32} {ce mn dy : Nat} {da db dr : Int32} {co : Int64} {p pa sk : Nat → Int64} (hln : ∀ j, j + 1 < ce → ln j = k_lm lk j) (hr : t_rg hd sf ce) (h : t_ok hd sf fp ce co p pa sk) (d : Nat) :
    kD_u hd sf fp lk ln ce da db dr ld lz mn dy co p pa d = k_mu lof (kD_s hd sf lk (k_lm lk) ce da db dr ld lz mn dy co p pa sk d) (-1) ce := by
  rw [tD_u hln, t_mu (t_ok_days hr h d)]; rfl
theorem t_runm {dy n : Nat} {mi : Nat → Int64} {f g : Nat → Int64} (h : ∀ d, f d = g d) : kD_m dy f mi n = kD_m dy g mi n := by rw [show f = g from funext h]
