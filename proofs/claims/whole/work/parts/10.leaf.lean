set_option maxHeartbeats 4000000 in
set_option maxRecDepth 100000 in
/-- within: 1 where it lies between -/
theorem kX_within (l : Launch) (dC : Nat → ClassId) (dI : Nat → Nat → Nat) (cI cJ : ClassId) (sz : Nat) (x : Int32) (y : Int32) (z : Int32) : Met l yX_within wX_within ({ frames := 0, cells := 0, slots := 0, locals := 0 }) (va_Pc [.int x, .int y, .int z] (fun U => U.heap.size = sz ∧ va_P (dC, dI) vwCl [] U.heap ∧ va_K (dC, dI) vwCl [(cI, .int), (cJ, .long)] U ∧ va_D (fun _ => True) [])) (va_Qi (fun res_ (_ : Unit) => res_ = kb (y ≤ x ∧ x ≤ z)) (fun _ t => va_P (dC, dI) vwCl [] t.heap ∧ va_K (dC, dI) vwCl [(cI, .int), (cJ, .long)] t ∧ va_D (va_A [] sz) []) (va_A [] sz)) 0 0 (va_A [] sz) := by
  refine Met.ofW (cc := bX_within) (maxL := 3) (ret := (some .boolean)) (by decide) rfl ?_
  intro p e s m args below meth c s₁ B hml hv
  obtain ⟨rfl, hsz, hP, hK, hD0⟩ := hv
  have hx := B.exec
  have hb := B.bytes
  have hr := B.returns
  have hts := atoms_spec (ws := wX_within) B.pre
  have hown : s.vm.findClass R_X = some m.cls := findClass_of_methodNamed B.named
  have htw : ∀ w ∈ WA, w.before _ s = true := fun w h => hts w (List.mem_cons_of_mem _ h)
  clear hts
  have hlocks := B.notSynchronized
  subst hsz
  have hD := hD0.self (sz := s.heap.size)
  generalize hAe : va_A [] s.heap.size = A at hD ⊢
  have hA : ∀ q : Nat, s.heap.size ≤ q → A q := fun q h => by rw [← hAe]; exact Or.inr h
  clear hAe hD0
  have hS : va_S A s.heap s.heap [] := va_S.rf
  have hP : va_P (dC, dI) vwCl [] s.heap := hP
  have hl := lv_entry ([.int x, .int y, .int z]) (n := 3) (Nat.le_of_ble_eq_true rfl)
  rw [lg_entry_eq]
  generalize (lg_sl ([.int x, .int y, .int z]) ++ List.replicate (3 - (lg_sl ([.int x, .int y, .int z])).length) Slot.unset).toArray = ls at hl ⊢
  have hl : lv_has ls 3 [(0, .int x), (1, .int y), (2, .int z)] := hl
  refine lv_iload_n hx hb dX_within_0 rfl (lv_at hl 0 rfl) ?_
  refine lv_iload_n hx hb dX_within_1 rfl (lv_at hl 1 rfl) ?_
  refine lv_icmp_lt (tgt := 14) hx hb dX_within_2 (by decide) (fun hc2 => ?_) (fun hc2 => ?_)
  · -- 2 taken
    rw [Int32.lt_iff_toInt_lt] at hc2
    have hret := kb_f (P := y ≤ x ∧ x ≤ z) (fun h => by have a0_ := hc2; have a1_ := h.1; (try simp only [Int32.lt_iff_toInt_lt, Int32.le_iff_toInt_le] at a0_ a1_); omega)
    refine lv_iconst (v := nI 0) hx hb dX_within_14 (by decide) ?_
    have hP : va_P (dC, dI) vwCl [] s.heap := by first | exact hP | simpa only [] using hP
    have hD : va_D A [] := by first | exact hD | simpa only [] using hD
    exact W.zret (v := nI 0) hx hb hr (by decide) (fun t ht hW => ⟨⟨nI 0, (), rfl, hret, by rw [ht]; exact hP, va_K.moved hW.alike hK, hD⟩, hS.F ht⟩) hS.2.2 dX_within_15
  · -- 2 not taken
    rw [Int32.lt_iff_toInt_lt] at hc2
    refine lv_iload_n hx hb dX_within_5 rfl (lv_at hl 0 rfl) ?_
    refine lv_iload_n hx hb dX_within_6 rfl (lv_at hl 2 rfl) ?_
    refine lv_icmp_gt (tgt := 14) hx hb dX_within_7 (by decide) (fun hc7 => ?_) (fun hc7 => ?_)
    · -- 7 taken
      rw [Int32.lt_iff_toInt_lt] at hc7
      have hret := kb_f (P := y ≤ x ∧ x ≤ z) (fun h => by have a0_ := hc7; have a1_ := h.2; (try simp only [Int32.lt_iff_toInt_lt, Int32.le_iff_toInt_le] at a0_ a1_); omega)
      refine lv_iconst (v := nI 0) hx hb dX_within_14 (by decide) ?_
      have hP : va_P (dC, dI) vwCl [] s.heap := by first | exact hP | simpa only [] using hP
      have hD : va_D A [] := by first | exact hD | simpa only [] using hD
      exact W.zret (v := nI 0) hx hb hr (by decide) (fun t ht hW => ⟨⟨nI 0, (), rfl, hret, by rw [ht]; exact hP, va_K.moved hW.alike hK, hD⟩, hS.F ht⟩) hS.2.2 dX_within_15
    · -- 7 not taken
      rw [Int32.lt_iff_toInt_lt] at hc7
      have hret := kb_t (P := y ≤ x ∧ x ≤ z) ⟨by rw [Int32.le_iff_toInt_le]; have a0_ := hc2; (try simp only [Int32.lt_iff_toInt_lt, Int32.le_iff_toInt_le] at a0_); omega, by rw [Int32.le_iff_toInt_le]; have a0_ := hc7; (try simp only [Int32.lt_iff_toInt_lt, Int32.le_iff_toInt_le] at a0_); omega⟩
      refine lv_iconst (v := nI 1) hx hb dX_within_10 (by decide) ?_
      refine lv_goto (tgt := 15) hx hb dX_within_11 (by decide) ?_
      have hP : va_P (dC, dI) vwCl [] s.heap := by first | exact hP | simpa only [] using hP
      have hD : va_D A [] := by first | exact hD | simpa only [] using hD
      exact W.zret (v := nI 1) hx hb hr (by decide) (fun t ht hW => ⟨⟨nI 1, (), rfl, hret, by rw [ht]; exact hP, va_K.moved hW.alike hK, hD⟩, hS.F ht⟩) hS.2.2 dX_within_15
set_option maxHeartbeats 4000000 in
set_option maxRecDepth 100000 in
theorem kG_carried (l : Launch) (dC : Nat → ClassId) (dI : Nat → Nat → Nat) (cI cJ : ClassId) (g so lo qpr qpa : Nat) (sz : Nat) (i : Nat) (dy : Nat) (co : Int64) (wo : Int64) (pr : Nat → Int64) (hi : i < 30) : Met l yG_carried wG_carried ({ frames := 0, cells := 0, slots := 0, locals := 0 }) (va_Pc [.ref g, .int (nI i)] (fun U => U.heap.size = sz ∧ va_P (dC, dI) vwCl [(g, .inr (0, [.ref so, .ref lo, .ref qpr, .ref qpa, .int (nI dy), .long co, .long wo])), (qpr, .inl (cJ, 30, .inr (.inl pr)))] U.heap ∧ va_K (dC, dI) vwCl [(cI, .int), (cJ, .long)] U ∧ va_D (fun _ => True) [(g, .inr (0, [.ref so, .ref lo, .ref qpr, .ref qpa, .int (nI dy), .long co, .long wo])), (qpr, .inl (cJ, 30, .inr (.inl pr)))])) (va_Ql (fun res_ (_ : Unit) => res_ = co - pr i) (fun _ t => va_P (dC, dI) vwCl [(g, .inr (0, [.ref so, .ref lo, .ref qpr, .ref qpa, .int (nI dy), .long co, .long wo])), (qpr, .inl (cJ, 30, .inr (.inl pr)))] t.heap ∧ va_K (dC, dI) vwCl [(cI, .int), (cJ, .long)] t ∧ va_D (va_A [(g, .inr (0, [.ref so, .ref lo, .ref qpr, .ref qpa, .int (nI dy), .long co, .long wo])), (qpr, .inl (cJ, 30, .inr (.inl pr)))] sz) [(g, .inr (0, [.ref so, .ref lo, .ref qpr, .ref qpa, .int (nI dy), .long co, .long wo])), (qpr, .inl (cJ, 30, .inr (.inl pr)))]) (va_A [(g, .inr (0, [.ref so, .ref lo, .ref qpr, .ref qpa, .int (nI dy), .long co, .long wo])), (qpr, .inl (cJ, 30, .inr (.inl pr)))] sz)) 0 0 (va_A [(g, .inr (0, [.ref so, .ref lo, .ref qpr, .ref qpa, .int (nI dy), .long co, .long wo])), (qpr, .inl (cJ, 30, .inr (.inl pr)))] sz) := by
  refine Met.ofW (cc := bG_carried) (maxL := 2) (ret := (some .long)) (by decide) rfl ?_
  intro p e s m args below meth c s₁ B hml hv
  obtain ⟨rfl, hsz, hP, hK, hD0⟩ := hv
  have hx := B.exec
  have hb := B.bytes
  have hr := B.returns
  have hts := atoms_spec (ws := wG_carried) B.pre
  have hown : s.vm.findClass R_G = some m.cls := findClass_of_methodNamed B.named
  have htw : ∀ w ∈ WA, w.before _ s = true := fun w h => hts w (List.mem_cons_of_mem _ h)
  clear hts
  have hlocks := B.notSynchronized
  subst hsz
  have hD := hD0.self (sz := s.heap.size)
  generalize hAe : va_A [(g, .inr (0, [.ref so, .ref lo, .ref qpr, .ref qpa, .int (nI dy), .long co, .long wo])), (qpr, .inl (cJ, 30, .inr (.inl pr)))] s.heap.size = A at hD ⊢
  have hA : ∀ q : Nat, s.heap.size ≤ q → A q := fun q h => by rw [← hAe]; exact Or.inr h
  clear hAe hD0
  have hS : va_S A s.heap s.heap [] := va_S.rf
  have hP : va_P (dC, dI) vwCl [(g, .inr (0, [.ref so, .ref lo, .ref qpr, .ref qpa, .int (nI dy), .long co, .long wo])), (qpr, .inl (cJ, 30, .inr (.inl pr)))] s.heap := hP
  have hl := lv_entry ([.ref g, .int (nI i)]) (n := 2) (Nat.le_of_ble_eq_true rfl)
  rw [lg_entry_eq]
  generalize (lg_sl ([.ref g, .int (nI i)]) ++ List.replicate (2 - (lg_sl ([.ref g, .int (nI i)])).length) Slot.unset).toArray = ls at hl ⊢
  have hl : lv_has ls 2 [(0, .ref g), (1, .int (nI i))] := hl
  refine lv_aload_n hx hb dG_carried_0 rfl (lv_at hl 0 rfl) ?_
  refine va_get (D := (dC, dI)) (ci := 0) (v := .long co) (C := R_G) (T := T_G) (N := 7) hx hb htw in_G hown hK hP 0 rfl rfl 5 (by decide) (htw _ m_122) (fun _ h9 => h9) rfl dG_carried_1 ?_
  refine lv_aload_n hx hb dG_carried_4 rfl (lv_at hl 0 rfl) ?_
  refine va_get (D := (dC, dI)) (ci := 0) (v := .ref qpr) (C := R_G) (T := T_G) (N := 7) hx hb htw in_G hown hK hP 0 rfl rfl 2 (by decide) (htw _ m_116) (fun _ h9 => h9) rfl dG_carried_5 ?_
  refine lv_iload_n hx hb dG_carried_8 rfl (lv_at hl 1 rfl) ?_
  refine xa_lald hx hb hK hP 1 1 rfl rfl (i := i) (by omega) (by decide) dG_carried_9 ?_
  refine lv_lsub hx hb dG_carried_10 ?_
  have hP : va_P (dC, dI) vwCl [(g, .inr (0, [.ref so, .ref lo, .ref qpr, .ref qpa, .int (nI dy), .long co, .long wo])), (qpr, .inl (cJ, 30, .inr (.inl pr)))] s.heap := by first | exact hP | simpa only [] using hP
  have hD : va_D A [(g, .inr (0, [.ref so, .ref lo, .ref qpr, .ref qpa, .int (nI dy), .long co, .long wo])), (qpr, .inl (cJ, 30, .inr (.inl pr)))] := by first | exact hD | simpa only [] using hD
  exact W.lret (v := co - (pr i)) hx hb hr (fun t ht hW => ⟨⟨co - (pr i), (), rfl, rfl, by rw [ht]; exact hP, va_K.moved hW.alike hK, hD⟩, hS.F ht⟩) hS.2.2 dG_carried_11
set_option maxHeartbeats 4000000 in
set_option maxRecDepth 100000 in
theorem kS_unitsSunk (l : Launch) (dC : Nat → ClassId) (dI : Nat → Nat → Nat) (cI cJ : ClassId) (so qlk qln qhd qsf qfp qfc : Nat) (sz : Nat) (i : Nat) (ca : Int64) (pz : Int64) (ly : Nat) (ce : Nat) (da : Int32) (db : Int32) (dr : Int32) (hd : Nat → Int32) (sf : Nat → Int32) (fp : Nat → Int32) (hi : i < 30) : Met l yS_unitsSunk wS_unitsSunk ({ frames := 0, cells := 0, slots := 0, locals := 0 }) (va_Pc [.ref so, .int (nI i), .long ca, .long pz] (fun U => U.heap.size = sz ∧ va_P (dC, dI) vwCl [(so, .inr (3, [.ref qlk, .ref qln, .ref qhd, .ref qsf, .ref qfp, .ref qfc, .int (nI ly), .int (nI ce), .int da, .int db, .int dr])), (qhd, .inl (cI, 30, .inl hd)), (qsf, .inl (cI, 30, .inl sf)), (qfp, .inl (cI, 30, .inl fp))] U.heap ∧ va_K (dC, dI) vwCl [(cI, .int), (cJ, .long)] U ∧ va_D (fun _ => True) [(so, .inr (3, [.ref qlk, .ref qln, .ref qhd, .ref qsf, .ref qfp, .ref qfc, .int (nI ly), .int (nI ce), .int da, .int db, .int dr])), (qhd, .inl (cI, 30, .inl hd)), (qsf, .inl (cI, 30, .inl sf)), (qfp, .inl (cI, 30, .inl fp))])) (va_Ql (fun res_ (_ : Unit) => res_ = k_u1 hd sf fp i ca pz) (fun _ t => va_P (dC, dI) vwCl [(so, .inr (3, [.ref qlk, .ref qln, .ref qhd, .ref qsf, .ref qfp, .ref qfc, .int (nI ly), .int (nI ce), .int da, .int db, .int dr])), (qhd, .inl (cI, 30, .inl hd)), (qsf, .inl (cI, 30, .inl sf)), (qfp, .inl (cI, 30, .inl fp))] t.heap ∧ va_K (dC, dI) vwCl [(cI, .int), (cJ, .long)] t ∧ va_D (va_A [(so, .inr (3, [.ref qlk, .ref qln, .ref qhd, .ref qsf, .ref qfp, .ref qfc, .int (nI ly), .int (nI ce), .int da, .int db, .int dr])), (qhd, .inl (cI, 30, .inl hd)), (qsf, .inl (cI, 30, .inl sf)), (qfp, .inl (cI, 30, .inl fp))] sz) [(so, .inr (3, [.ref qlk, .ref qln, .ref qhd, .ref qsf, .ref qfp, .ref qfc, .int (nI ly), .int (nI ce), .int da, .int db, .int dr])), (qhd, .inl (cI, 30, .inl hd)), (qsf, .inl (cI, 30, .inl sf)), (qfp, .inl (cI, 30, .inl fp))]) (va_A [(so, .inr (3, [.ref qlk, .ref qln, .ref qhd, .ref qsf, .ref qfp, .ref qfc, .int (nI ly), .int (nI ce), .int da, .int db, .int dr])), (qhd, .inl (cI, 30, .inl hd)), (qsf, .inl (cI, 30, .inl sf)), (qfp, .inl (cI, 30, .inl fp))] sz)) 0 0 (va_A [(so, .inr (3, [.ref qlk, .ref qln, .ref qhd, .ref qsf, .ref qfp, .ref qfc, .int (nI ly), .int (nI ce), .int da, .int db, .int dr])), (qhd, .inl (cI, 30, .inl hd)), (qsf, .inl (cI, 30, .inl sf)), (qfp, .inl (cI, 30, .inl fp))] sz) := by
  refine Met.ofW (cc := bS_unitsSunk) (maxL := 6) (ret := (some .long)) (by decide) rfl ?_
  intro p e s m args below meth c s₁ B hml hv
  obtain ⟨rfl, hsz, hP, hK, hD0⟩ := hv
  have hx := B.exec
  have hb := B.bytes
  have hr := B.returns
  have hts := atoms_spec (ws := wS_unitsSunk) B.pre
  have hown : s.vm.findClass R_S = some m.cls := findClass_of_methodNamed B.named
  have htw : ∀ w ∈ WA, w.before _ s = true := fun w h => hts w (List.mem_cons_of_mem _ h)
  clear hts
  have hlocks := B.notSynchronized
  subst hsz
  have hD := hD0.self (sz := s.heap.size)
  generalize hAe : va_A [(so, .inr (3, [.ref qlk, .ref qln, .ref qhd, .ref qsf, .ref qfp, .ref qfc, .int (nI ly), .int (nI ce), .int da, .int db, .int dr])), (qhd, .inl (cI, 30, .inl hd)), (qsf, .inl (cI, 30, .inl sf)), (qfp, .inl (cI, 30, .inl fp))] s.heap.size = A at hD ⊢
  have hA : ∀ q : Nat, s.heap.size ≤ q → A q := fun q h => by rw [← hAe]; exact Or.inr h
  clear hAe hD0
  have hS : va_S A s.heap s.heap [] := va_S.rf
  have hP : va_P (dC, dI) vwCl [(so, .inr (3, [.ref qlk, .ref qln, .ref qhd, .ref qsf, .ref qfp, .ref qfc, .int (nI ly), .int (nI ce), .int da, .int db, .int dr])), (qhd, .inl (cI, 30, .inl hd)), (qsf, .inl (cI, 30, .inl sf)), (qfp, .inl (cI, 30, .inl fp))] s.heap := hP
  have hl := lv_entry ([.ref so, .int (nI i), .long ca, .long pz]) (n := 6) (Nat.le_of_ble_eq_true rfl)
  rw [lg_entry_eq]
  generalize (lg_sl ([.ref so, .int (nI i), .long ca, .long pz]) ++ List.replicate (6 - (lg_sl ([.ref so, .int (nI i), .long ca, .long pz])).length) Slot.unset).toArray = ls at hl ⊢
  have hl : lv_has ls 6 [(0, .ref so), (1, .int (nI i)), (2, .long ca), (4, .long pz)] := hl
  refine lv_aload_n hx hb dS_unitsSunk_0 rfl (lv_at hl 0 rfl) ?_
  refine va_get (D := (dC, dI)) (ci := 3) (v := .ref qhd) (C := R_S) (T := T_S) (N := 11) hx hb htw in_S hown hK hP 0 rfl rfl 2 (by decide) (htw _ m_26) (fun _ h9 => h9) rfl dS_unitsSunk_1 ?_
  refine lv_iload_n hx hb dS_unitsSunk_4 rfl (lv_at hl 1 rfl) ?_
  refine xa_iald hx hb hK hP 1 0 rfl rfl (i := i) (by omega) (by decide) dS_unitsSunk_5 ?_
  refine lv_i2l (v := (hd i).toInt64) hx hb dS_unitsSunk_6 rfl ?_
  refine lv_lload_n hx hb dS_unitsSunk_7 rfl (lv_at hl 2 rfl) ?_
  refine lv_lmul hx hb dS_unitsSunk_8 ?_
  refine lv_aload_n hx hb dS_unitsSunk_9 rfl (lv_at hl 0 rfl) ?_
  refine va_get (D := (dC, dI)) (ci := 3) (v := .ref qsf) (C := R_S) (T := T_S) (N := 11) hx hb htw in_S hown hK hP 0 rfl rfl 3 (by decide) (htw _ m_27) (fun _ h9 => h9) rfl dS_unitsSunk_10 ?_
  refine lv_iload_n hx hb dS_unitsSunk_13 rfl (lv_at hl 1 rfl) ?_
  refine xa_iald hx hb hK hP 2 0 rfl rfl (i := i) (by omega) (by decide) dS_unitsSunk_14 ?_
  refine lv_aload_n hx hb dS_unitsSunk_15 rfl (lv_at hl 0 rfl) ?_
  refine va_get (D := (dC, dI)) (ci := 3) (v := .ref qhd) (C := R_S) (T := T_S) (N := 11) hx hb htw in_S hown hK hP 0 rfl rfl 2 (by decide) (htw _ m_26) (fun _ h9 => h9) rfl dS_unitsSunk_16 ?_
  refine lv_iload_n hx hb dS_unitsSunk_19 rfl (lv_at hl 1 rfl) ?_
  refine xa_iald hx hb hK hP 1 0 rfl rfl (i := i) (by omega) (by decide) dS_unitsSunk_20 ?_
  refine lv_isub hx hb dS_unitsSunk_21 ?_
  refine lv_i2l (v := ((sf i) - (hd i)).toInt64) hx hb dS_unitsSunk_22 rfl ?_
  refine lv_lload hx hb dS_unitsSunk_23 (lv_at hl 3 rfl) ?_
  refine lv_aload_n hx hb dS_unitsSunk_25 rfl (lv_at hl 0 rfl) ?_
  refine va_get (D := (dC, dI)) (ci := 3) (v := .ref qfp) (C := R_S) (T := T_S) (N := 11) hx hb htw in_S hown hK hP 0 rfl rfl 4 (by decide) (htw _ m_28) (fun _ h9 => h9) rfl dS_unitsSunk_26 ?_
  refine lv_iload_n hx hb dS_unitsSunk_29 rfl (lv_at hl 1 rfl) ?_
  refine xa_iald hx hb hK hP 3 0 rfl rfl (i := i) (by omega) (by decide) dS_unitsSunk_30 ?_
  refine lv_i2l (v := (fp i).toInt64) hx hb dS_unitsSunk_31 rfl ?_
  refine lv_lsub hx hb dS_unitsSunk_32 ?_
  refine lv_lmul hx hb dS_unitsSunk_33 ?_
  refine lv_ladd hx hb dS_unitsSunk_34 ?_
  have hP : va_P (dC, dI) vwCl [(so, .inr (3, [.ref qlk, .ref qln, .ref qhd, .ref qsf, .ref qfp, .ref qfc, .int (nI ly), .int (nI ce), .int da, .int db, .int dr])), (qhd, .inl (cI, 30, .inl hd)), (qsf, .inl (cI, 30, .inl sf)), (qfp, .inl (cI, 30, .inl fp))] s.heap := by first | exact hP | simpa only [] using hP
  have hD : va_D A [(so, .inr (3, [.ref qlk, .ref qln, .ref qhd, .ref qsf, .ref qfp, .ref qfc, .int (nI ly), .int (nI ce), .int da, .int db, .int dr])), (qhd, .inl (cI, 30, .inl hd)), (qsf, .inl (cI, 30, .inl sf)), (qfp, .inl (cI, 30, .inl fp))] := by first | exact hD | simpa only [] using hD
  exact W.lret (v := (((hd i).toInt64) * ca) + ((((sf i) - (hd i)).toInt64) * (pz - ((fp i).toInt64)))) hx hb hr (fun t ht hW => ⟨⟨(((hd i).toInt64) * ca) + ((((sf i) - (hd i)).toInt64) * (pz - ((fp i).toInt64))), (), rfl, rfl, by rw [ht]; exact hP, va_K.moved hW.alike hK, hD⟩, hS.F ht⟩) hS.2.2 dS_unitsSunk_35
set_option maxHeartbeats 4000000 in
set_option maxRecDepth 100000 in
theorem kO_comingOn (l : Launch) (dC : Nat → ClassId) (dI : Nat → Nat → Nat) (cI cJ : ClassId) (lo qld qlz : Nat) (sz : Nat) (x : Int32) (mn : Nat) (sm : Int64) (ld : Nat → Int32) (lz : Nat → Int32) (hmn : mn ≤ 12) : Met l yO_comingOn wO_comingOn ({ frames := 0, cells := 0, slots := 0, locals := 0 }) (va_Pc [.ref lo, .int x] (fun U => U.heap.size = sz ∧ va_P (dC, dI) vwCl [(lo, .inr (1, [.ref qld, .ref qlz, .int (nI mn), .long sm])), (qld, .inl (cI, 12, .inl ld)), (qlz, .inl (cI, 12, .inl lz))] U.heap ∧ va_K (dC, dI) vwCl [(cI, .int), (cJ, .long)] U ∧ va_D (fun _ => True) [(lo, .inr (1, [.ref qld, .ref qlz, .int (nI mn), .long sm])), (qld, .inl (cI, 12, .inl ld)), (qlz, .inl (cI, 12, .inl lz))])) (va_Ql (fun res_ (_ : Unit) => res_ = k_come ld lz x mn) (fun _ t => va_P (dC, dI) vwCl [(lo, .inr (1, [.ref qld, .ref qlz, .int (nI mn), .long sm])), (qld, .inl (cI, 12, .inl ld)), (qlz, .inl (cI, 12, .inl lz))] t.heap ∧ va_K (dC, dI) vwCl [(cI, .int), (cJ, .long)] t ∧ va_D (va_A [(lo, .inr (1, [.ref qld, .ref qlz, .int (nI mn), .long sm])), (qld, .inl (cI, 12, .inl ld)), (qlz, .inl (cI, 12, .inl lz))] sz) [(lo, .inr (1, [.ref qld, .ref qlz, .int (nI mn), .long sm])), (qld, .inl (cI, 12, .inl ld)), (qlz, .inl (cI, 12, .inl lz))]) (va_A [(lo, .inr (1, [.ref qld, .ref qlz, .int (nI mn), .long sm])), (qld, .inl (cI, 12, .inl ld)), (qlz, .inl (cI, 12, .inl lz))] sz)) 0 0 (va_A [(lo, .inr (1, [.ref qld, .ref qlz, .int (nI mn), .long sm])), (qld, .inl (cI, 12, .inl ld)), (qlz, .inl (cI, 12, .inl lz))] sz) := by
  refine Met.ofW (cc := bO_comingOn) (maxL := 5) (ret := (some .long)) (by decide) rfl ?_
  intro p e s m args below meth c s₁ B hml hv
  obtain ⟨rfl, hsz, hP, hK, hD0⟩ := hv
  have hx := B.exec
  have hb := B.bytes
  have hr := B.returns
  have hts := atoms_spec (ws := wO_comingOn) B.pre
  have hown : s.vm.findClass R_O = some m.cls := findClass_of_methodNamed B.named
  have htw : ∀ w ∈ WA, w.before _ s = true := fun w h => hts w (List.mem_cons_of_mem _ h)
  clear hts
  have hlocks := B.notSynchronized
  subst hsz
  have hD := hD0.self (sz := s.heap.size)
  generalize hAe : va_A [(lo, .inr (1, [.ref qld, .ref qlz, .int (nI mn), .long sm])), (qld, .inl (cI, 12, .inl ld)), (qlz, .inl (cI, 12, .inl lz))] s.heap.size = A at hD ⊢
  have hA : ∀ q : Nat, s.heap.size ≤ q → A q := fun q h => by rw [← hAe]; exact Or.inr h
  clear hAe hD0
  have hS : va_S A s.heap s.heap [] := va_S.rf
  have hP : va_P (dC, dI) vwCl [(lo, .inr (1, [.ref qld, .ref qlz, .int (nI mn), .long sm])), (qld, .inl (cI, 12, .inl ld)), (qlz, .inl (cI, 12, .inl lz))] s.heap := hP
  have hl := lv_entry ([.ref lo, .int x]) (n := 5) (Nat.le_of_ble_eq_true rfl)
  rw [lg_entry_eq]
  generalize (lg_sl ([.ref lo, .int x]) ++ List.replicate (5 - (lg_sl ([.ref lo, .int x])).length) Slot.unset).toArray = ls at hl ⊢
  have hl : lv_has ls 5 [(0, .ref lo), (1, .int x)] := hl
  refine lv_lconst (v := 0) hx hb dO_comingOn_0 (by decide) ?_
  refine lv_lstore_n (lv' := [(2, .long 0), (0, .ref lo), (1, .int x)]) hx hb dO_comingOn_1 rfl hl (by decide) rfl (fun ls hl => ?_)
  refine lv_iconst (v := nI 0) hx hb dO_comingOn_2 (by decide) ?_
  refine lv_istore (lv' := [(4, .int (nI 0)), (2, .long 0), (0, .ref lo), (1, .int x)]) hx hb dO_comingOn_3 hl (by decide) rfl (fun ls hl => ?_)
  -- the loop at 5
  have hP : va_P (dC, dI) vwCl [(lo, .inr (1, [.ref qld, .ref qlz, .int (nI mn), .long sm])), (qld, .inl (cI, 12, .inl ld)), (qlz, .inl (cI, 12, .inl lz))] s.heap := by first | exact hP | simpa only [] using hP
  have hD : va_D A [(lo, .inr (1, [.ref qld, .ref qlz, .int (nI mn), .long sm])), (qld, .inl (cI, 12, .inl ld)), (qlz, .inl (cI, 12, .inl lz))] := by first | exact hD | simpa only [] using hD
  refine x_loop (N := mn) (I := fun i H locs ls => va_P (dC, dI) vwCl [(lo, .inr (1, [.ref qld, .ref qlz, .int (nI mn), .long sm])), (qld, .inl (cI, 12, .inl ld)), (qlz, .inl (cI, 12, .inl lz))] H ∧ va_D A [(lo, .inr (1, [.ref qld, .ref qlz, .int (nI mn), .long sm])), (qld, .inl (cI, 12, .inl ld)), (qlz, .inl (cI, 12, .inl lz))] ∧ va_S A s.heap H locs ∧ lv_has ls 5 [(0, .ref lo), (1, .int x), (2, .long (k_come ld lz x i)), (4, .int (nI i))]) (i0 := 0) ?_ (Nat.zero_le _) ⟨hP, hD, hS, lv_sub hl [2, 3, 1, 0] rfl⟩
  intro i hi ih5 H locs ls hI
  obtain ⟨hP, hD, hS, hl⟩ := hI
  refine lv_iload hx hb dO_comingOn_5 (lv_at hl 3 rfl) ?_
  refine lv_aload_n hx hb dO_comingOn_7 rfl (lv_at hl 0 rfl) ?_
  refine va_get (D := (dC, dI)) (ci := 1) (v := .int (nI mn)) (C := R_O) (T := T_O) (N := 4) hx hb htw in_O hown hK hP 0 rfl rfl 2 (by decide) (htw _ m_75) (fun _ h9 => h9) rfl dO_comingOn_8 ?_
  refine lv_icmp_ge (tgt := 42) hx hb dO_comingOn_11 (by decide) (fun hc11 => ?_) (fun hc11 => ?_)
  · -- 11 taken
    rw [nI_leI (by omega) (by omega)] at hc11
    obtain rfl : mn = i := by omega
    refine lv_lload_n hx hb dO_comingOn_42 rfl (lv_at hl 2 rfl) ?_
    have hP : va_P (dC, dI) vwCl [(lo, .inr (1, [.ref qld, .ref qlz, .int (nI mn), .long sm])), (qld, .inl (cI, 12, .inl ld)), (qlz, .inl (cI, 12, .inl lz))] H := by first | exact hP | simpa only [] using hP
    have hD : va_D A [(lo, .inr (1, [.ref qld, .ref qlz, .int (nI mn), .long sm])), (qld, .inl (cI, 12, .inl ld)), (qlz, .inl (cI, 12, .inl lz))] := by first | exact hD | simpa only [] using hD
    exact W.lret (v := k_come ld lz x mn) hx hb hr (fun t ht hW => ⟨⟨k_come ld lz x mn, (), rfl, rfl, by rw [ht]; exact hP, va_K.moved hW.alike hK, hD⟩, hS.F ht⟩) hS.2.2 dO_comingOn_43
  · -- 11 not taken
    rw [nI_leI (by omega) (by omega)] at hc11
    refine lv_aload_n hx hb dO_comingOn_14 rfl (lv_at hl 0 rfl) ?_
    refine va_get (D := (dC, dI)) (ci := 1) (v := .ref qld) (C := R_O) (T := T_O) (N := 4) hx hb htw in_O hown hK hP 0 rfl rfl 0 (by decide) (htw _ m_73) (fun _ h9 => h9) rfl dO_comingOn_15 ?_
    refine lv_iload hx hb dO_comingOn_18 (lv_at hl 3 rfl) ?_
    refine xa_iald hx hb hK hP 1 0 rfl rfl (i := i) (by omega) (by decide) dO_comingOn_20 ?_
    refine lv_iload_n hx hb dO_comingOn_21 rfl (lv_at hl 1 rfl) ?_
    refine lv_icmp_ne (tgt := 36) hx hb dO_comingOn_22 (by decide) (fun hc22 => ?_) (fun hc22 => ?_)
    · -- 22 taken
      have eq1 : (k_come ld lz x i : Int64) = k_come ld lz x (i + 1) := k_come_f hc22
      rw [eq1] at hl
      refine lv_iinc (v := nI (i + 1)) (lv' := [(4, .int (nI (i + 1))), (0, .ref lo), (1, .int x), (2, .long (k_come ld lz x (i + 1)))]) hx hb dO_comingOn_36 hl (k := 3) rfl (nI_1 _) (by decide) rfl (fun ls hl => ?_)
      refine lv_goto (tgt := 5) hx hb dO_comingOn_39 (by decide) ?_
      have hP : va_P (dC, dI) vwCl [(lo, .inr (1, [.ref qld, .ref qlz, .int (nI mn), .long sm])), (qld, .inl (cI, 12, .inl ld)), (qlz, .inl (cI, 12, .inl lz))] H := by first | exact hP | simpa only [] using hP
      have hD : va_D A [(lo, .inr (1, [.ref qld, .ref qlz, .int (nI mn), .long sm])), (qld, .inl (cI, 12, .inl ld)), (qlz, .inl (cI, 12, .inl lz))] := by first | exact hD | simpa only [] using hD
      exact ih5 (by omega) _ _ _ ⟨hP, hD, hS, lv_sub hl [1, 2, 3, 0] rfl⟩
    · -- 22 not taken
      refine lv_lload_n hx hb dO_comingOn_25 rfl (lv_at hl 2 rfl) ?_
      refine lv_aload_n hx hb dO_comingOn_26 rfl (lv_at hl 0 rfl) ?_
      refine va_get (D := (dC, dI)) (ci := 1) (v := .ref qlz) (C := R_O) (T := T_O) (N := 4) hx hb htw in_O hown hK hP 0 rfl rfl 1 (by decide) (htw _ m_74) (fun _ h9 => h9) rfl dO_comingOn_27 ?_
      refine lv_iload hx hb dO_comingOn_30 (lv_at hl 3 rfl) ?_
      refine xa_iald hx hb hK hP 2 0 rfl rfl (i := i) (by omega) (by decide) dO_comingOn_32 ?_
      refine lv_i2l (v := (lz i).toInt64) hx hb dO_comingOn_33 rfl ?_
      refine lv_ladd hx hb dO_comingOn_34 ?_
      refine lv_lstore_n (lv' := [(2, .long ((k_come ld lz x i) + ((lz i).toInt64))), (0, .ref lo), (1, .int x), (4, .int (nI i))]) hx hb dO_comingOn_35 rfl hl (by decide) rfl (fun ls hl => ?_)
      have eq2 : ((k_come ld lz x i) + ((lz i).toInt64) : Int64) = k_come ld lz x (i + 1) := k_come_t hc22
      rw [eq2] at hl
      refine lv_iinc (v := nI (i + 1)) (lv' := [(4, .int (nI (i + 1))), (2, .long (k_come ld lz x (i + 1))), (0, .ref lo), (1, .int x)]) hx hb dO_comingOn_36 hl (k := 3) rfl (nI_1 _) (by decide) rfl (fun ls hl => ?_)
      refine lv_goto (tgt := 5) hx hb dO_comingOn_39 (by decide) ?_
      have hP : va_P (dC, dI) vwCl [(lo, .inr (1, [.ref qld, .ref qlz, .int (nI mn), .long sm])), (qld, .inl (cI, 12, .inl ld)), (qlz, .inl (cI, 12, .inl lz))] H := by first | exact hP | simpa only [] using hP
      have hD : va_D A [(lo, .inr (1, [.ref qld, .ref qlz, .int (nI mn), .long sm])), (qld, .inl (cI, 12, .inl ld)), (qlz, .inl (cI, 12, .inl lz))] := by first | exact hD | simpa only [] using hD
      exact ih5 (by omega) _ _ _ ⟨hP, hD, hS, lv_sub hl [2, 3, 1, 0] rfl⟩
set_option maxHeartbeats 4000000 in
set_option maxRecDepth 100000 in
theorem kG_lay (l : Launch) (dC : Nat → ClassId) (dI : Nat → Nat → Nat) (cI cJ : ClassId) (g so lo qpr qpa qlk qln qhd qsf qfp qfc : Nat) (sz : Nat) (u : Int64) (dy : Nat) (co : Int64) (wo : Int64) (pr : Nat → Int64) (ly : Nat) (ce : Nat) (da : Int32) (db : Int32) (dr : Int32) (hce : ce ≤ 30) : Met l yG_lay wG_lay ({ frames := 0, cells := 0, slots := 0, locals := 0 }) (va_Pc [.ref g, .long u] (fun U => U.heap.size = sz ∧ va_P (dC, dI) vwCl [(g, .inr (0, [.ref so, .ref lo, .ref qpr, .ref qpa, .int (nI dy), .long co, .long wo])), (qpr, .inl (cJ, 30, .inr (.inl pr))), (so, .inr (3, [.ref qlk, .ref qln, .ref qhd, .ref qsf, .ref qfp, .ref qfc, .int (nI ly), .int (nI ce), .int da, .int db, .int dr]))] U.heap ∧ va_K (dC, dI) vwCl [(cI, .int), (cJ, .long)] U ∧ va_D (fun _ => True) [(g, .inr (0, [.ref so, .ref lo, .ref qpr, .ref qpa, .int (nI dy), .long co, .long wo])), (qpr, .inl (cJ, 30, .inr (.inl pr))), (so, .inr (3, [.ref qlk, .ref qln, .ref qhd, .ref qsf, .ref qfp, .ref qfc, .int (nI ly), .int (nI ce), .int da, .int db, .int dr]))])) (va_Qv (fun (_ : Unit) => True) (fun _ t => va_P (dC, dI) vwCl [(g, .inr (0, [.ref so, .ref lo, .ref qpr, .ref qpa, .int (nI dy), .long (co + u), .long wo])), (qpr, .inl (cJ, 30, .inr (.inl (k_lay pr ce u)))), (so, .inr (3, [.ref qlk, .ref qln, .ref qhd, .ref qsf, .ref qfp, .ref qfc, .int (nI ly), .int (nI ce), .int da, .int db, .int dr]))] t.heap ∧ va_K (dC, dI) vwCl [(cI, .int), (cJ, .long)] t ∧ va_D (va_A [(g, .inr (0, [.ref so, .ref lo, .ref qpr, .ref qpa, .int (nI dy), .long co, .long wo])), (qpr, .inl (cJ, 30, .inr (.inl pr))), (so, .inr (3, [.ref qlk, .ref qln, .ref qhd, .ref qsf, .ref qfp, .ref qfc, .int (nI ly), .int (nI ce), .int da, .int db, .int dr]))] sz) [(g, .inr (0, [.ref so, .ref lo, .ref qpr, .ref qpa, .int (nI dy), .long (co + u), .long wo])), (qpr, .inl (cJ, 30, .inr (.inl (k_lay pr ce u)))), (so, .inr (3, [.ref qlk, .ref qln, .ref qhd, .ref qsf, .ref qfp, .ref qfc, .int (nI ly), .int (nI ce), .int da, .int db, .int dr]))]) (va_A [(g, .inr (0, [.ref so, .ref lo, .ref qpr, .ref qpa, .int (nI dy), .long co, .long wo])), (qpr, .inl (cJ, 30, .inr (.inl pr))), (so, .inr (3, [.ref qlk, .ref qln, .ref qhd, .ref qsf, .ref qfp, .ref qfc, .int (nI ly), .int (nI ce), .int da, .int db, .int dr]))] sz)) 0 0 (va_A [(g, .inr (0, [.ref so, .ref lo, .ref qpr, .ref qpa, .int (nI dy), .long co, .long wo])), (qpr, .inl (cJ, 30, .inr (.inl pr))), (so, .inr (3, [.ref qlk, .ref qln, .ref qhd, .ref qsf, .ref qfp, .ref qfc, .int (nI ly), .int (nI ce), .int da, .int db, .int dr]))] sz) := by
  refine Met.ofW (cc := bG_lay) (maxL := 4) (ret := none) (by decide) rfl ?_
  intro p e s m args below meth c s₁ B hml hv
  obtain ⟨rfl, hsz, hP, hK, hD0⟩ := hv
  have hx := B.exec
  have hb := B.bytes
  have hr := B.returns
  have hts := atoms_spec (ws := wG_lay) B.pre
  have hown : s.vm.findClass R_G = some m.cls := findClass_of_methodNamed B.named
  have htw : ∀ w ∈ WA, w.before _ s = true := fun w h => hts w (List.mem_cons_of_mem _ h)
  clear hts
  have hlocks := B.notSynchronized
  subst hsz
  have hD := hD0.self (sz := s.heap.size)
  generalize hAe : va_A [(g, .inr (0, [.ref so, .ref lo, .ref qpr, .ref qpa, .int (nI dy), .long co, .long wo])), (qpr, .inl (cJ, 30, .inr (.inl pr))), (so, .inr (3, [.ref qlk, .ref qln, .ref qhd, .ref qsf, .ref qfp, .ref qfc, .int (nI ly), .int (nI ce), .int da, .int db, .int dr]))] s.heap.size = A at hD ⊢
  have hA : ∀ q : Nat, s.heap.size ≤ q → A q := fun q h => by rw [← hAe]; exact Or.inr h
  clear hAe hD0
  have hS : va_S A s.heap s.heap [] := va_S.rf
  have hP : va_P (dC, dI) vwCl [(g, .inr (0, [.ref so, .ref lo, .ref qpr, .ref qpa, .int (nI dy), .long co, .long wo])), (qpr, .inl (cJ, 30, .inr (.inl pr))), (so, .inr (3, [.ref qlk, .ref qln, .ref qhd, .ref qsf, .ref qfp, .ref qfc, .int (nI ly), .int (nI ce), .int da, .int db, .int dr]))] s.heap := hP
  have hl := lv_entry ([.ref g, .long u]) (n := 4) (Nat.le_of_ble_eq_true rfl)
  rw [lg_entry_eq]
  generalize (lg_sl ([.ref g, .long u]) ++ List.replicate (4 - (lg_sl ([.ref g, .long u])).length) Slot.unset).toArray = ls at hl ⊢
  have hl : lv_has ls 4 [(0, .ref g), (1, .long u)] := hl
  refine lv_iconst (v := nI 0) hx hb dG_lay_0 (by decide) ?_
  refine lv_istore_n (lv' := [(3, .int (nI 0)), (0, .ref g), (1, .long u)]) hx hb dG_lay_1 rfl hl (by decide) rfl (fun ls hl => ?_)
  -- the loop at 2
  have eq1 : (pr : Nat → Int64) = k_lay pr 0 u := k_lay_0
  have hP := Eq.mp (congrArg (fun zz => va_P (dC, dI) vwCl [(g, .inr (0, [.ref so, .ref lo, .ref qpr, .ref qpa, .int (nI dy), .long co, .long wo])), (qpr, .inl (cJ, 30, .inr (.inl zz))), (so, .inr (3, [.ref qlk, .ref qln, .ref qhd, .ref qsf, .ref qfp, .ref qfc, .int (nI ly), .int (nI ce), .int da, .int db, .int dr]))] s.heap) eq1) hP
  have hD := Eq.mp (congrArg (fun zz => va_D A [(g, .inr (0, [.ref so, .ref lo, .ref qpr, .ref qpa, .int (nI dy), .long co, .long wo])), (qpr, .inl (cJ, 30, .inr (.inl zz))), (so, .inr (3, [.ref qlk, .ref qln, .ref qhd, .ref qsf, .ref qfp, .ref qfc, .int (nI ly), .int (nI ce), .int da, .int db, .int dr]))]) eq1) hD
  have hP : va_P (dC, dI) vwCl [(g, .inr (0, [.ref so, .ref lo, .ref qpr, .ref qpa, .int (nI dy), .long co, .long wo])), (qpr, .inl (cJ, 30, .inr (.inl (k_lay pr 0 u)))), (so, .inr (3, [.ref qlk, .ref qln, .ref qhd, .ref qsf, .ref qfp, .ref qfc, .int (nI ly), .int (nI ce), .int da, .int db, .int dr]))] s.heap := by first | exact hP | simpa only [] using hP
  have hD : va_D A [(g, .inr (0, [.ref so, .ref lo, .ref qpr, .ref qpa, .int (nI dy), .long co, .long wo])), (qpr, .inl (cJ, 30, .inr (.inl (k_lay pr 0 u)))), (so, .inr (3, [.ref qlk, .ref qln, .ref qhd, .ref qsf, .ref qfp, .ref qfc, .int (nI ly), .int (nI ce), .int da, .int db, .int dr]))] := by first | exact hD | simpa only [] using hD
  refine x_loop (N := ce) (I := fun i H locs ls => va_P (dC, dI) vwCl [(g, .inr (0, [.ref so, .ref lo, .ref qpr, .ref qpa, .int (nI dy), .long co, .long wo])), (qpr, .inl (cJ, 30, .inr (.inl (k_lay pr i u)))), (so, .inr (3, [.ref qlk, .ref qln, .ref qhd, .ref qsf, .ref qfp, .ref qfc, .int (nI ly), .int (nI ce), .int da, .int db, .int dr]))] H ∧ va_D A [(g, .inr (0, [.ref so, .ref lo, .ref qpr, .ref qpa, .int (nI dy), .long co, .long wo])), (qpr, .inl (cJ, 30, .inr (.inl (k_lay pr i u)))), (so, .inr (3, [.ref qlk, .ref qln, .ref qhd, .ref qsf, .ref qfp, .ref qfc, .int (nI ly), .int (nI ce), .int da, .int db, .int dr]))] ∧ va_S A s.heap H locs ∧ lv_has ls 4 [(0, .ref g), (1, .long u), (3, .int (nI i))]) (i0 := 0) ?_ (Nat.zero_le _) ⟨hP, hD, hS, lv_sub hl [1, 2, 0] rfl⟩
  intro i hi ih2 H locs ls hI
  obtain ⟨hP, hD, hS, hl⟩ := hI
  refine lv_iload_n hx hb dG_lay_2 rfl (lv_at hl 2 rfl) ?_
  refine lv_aload_n hx hb dG_lay_3 rfl (lv_at hl 0 rfl) ?_
  refine va_get (D := (dC, dI)) (ci := 0) (v := .ref so) (C := R_G) (T := T_G) (N := 7) hx hb htw in_G hown hK hP 0 rfl rfl 0 (by decide) (htw _ m_114) (fun _ h9 => h9) rfl dG_lay_4 ?_
  refine va_get (D := (dC, dI)) (ci := 3) (v := .int (nI ce)) (C := R_S) (T := T_S) (N := 11) hx hb htw in_S hown hK hP 2 rfl rfl 7 (by decide) (htw _ m_35) (fun _ h9 => h9) rfl dG_lay_7 ?_
  refine lv_icmp_ge (tgt := 29) hx hb dG_lay_10 (by decide) (fun hc10 => ?_) (fun hc10 => ?_)
  · -- 10 taken
    rw [nI_leI (by omega) (by omega)] at hc10
    obtain rfl : ce = i := by omega
    refine lv_aload_n hx hb dG_lay_29 rfl (lv_at hl 0 rfl) ?_
    refine lv_dup hx hb dG_lay_30 rfl ?_
    refine va_get (D := (dC, dI)) (ci := 0) (v := .long co) (C := R_G) (T := T_G) (N := 7) hx hb htw in_G hown hK hP 0 rfl rfl 5 (by decide) (htw _ m_122) (fun _ h9 => h9) rfl dG_lay_31 ?_
    refine lv_lload_n hx hb dG_lay_34 rfl (lv_at hl 1 rfl) ?_
    refine lv_ladd hx hb dG_lay_35 ?_
    refine va_put (D := (dC, dI)) (ci := 0) (v := .long (co + u)) (ty := .long) (C := R_G) (T := T_G) (N := 7) hx hb htw in_G ty_G tok_G nnm_G hown hK hP hD hS 0 rfl rfl 5 (by decide) (htw _ m_122) (fun _ h9 => h9) rfl (by decide +kernel) rfl rfl (Nat.le_of_ble_eq_true rfl) dG_lay_36 (fun H locs hP hD hS => ?_)
    have hP : va_P (dC, dI) vwCl [(g, .inr (0, [.ref so, .ref lo, .ref qpr, .ref qpa, .int (nI dy), .long (co + u), .long wo])), (qpr, .inl (cJ, 30, .inr (.inl (k_lay pr ce u)))), (so, .inr (3, [.ref qlk, .ref qln, .ref qhd, .ref qsf, .ref qfp, .ref qfc, .int (nI ly), .int (nI ce), .int da, .int db, .int dr]))] H := hP
    have hD : va_D A [(g, .inr (0, [.ref so, .ref lo, .ref qpr, .ref qpa, .int (nI dy), .long (co + u), .long wo])), (qpr, .inl (cJ, 30, .inr (.inl (k_lay pr ce u)))), (so, .inr (3, [.ref qlk, .ref qln, .ref qhd, .ref qsf, .ref qfp, .ref qfc, .int (nI ly), .int (nI ce), .int da, .int db, .int dr]))] := hD
    have hP : va_P (dC, dI) vwCl [(g, .inr (0, [.ref so, .ref lo, .ref qpr, .ref qpa, .int (nI dy), .long (co + u), .long wo])), (qpr, .inl (cJ, 30, .inr (.inl (k_lay pr ce u)))), (so, .inr (3, [.ref qlk, .ref qln, .ref qhd, .ref qsf, .ref qfp, .ref qfc, .int (nI ly), .int (nI ce), .int da, .int db, .int dr]))] H := by first | exact hP | simpa only [] using hP
    have hD : va_D A [(g, .inr (0, [.ref so, .ref lo, .ref qpr, .ref qpa, .int (nI dy), .long (co + u), .long wo])), (qpr, .inl (cJ, 30, .inr (.inl (k_lay pr ce u)))), (so, .inr (3, [.ref qlk, .ref qln, .ref qhd, .ref qsf, .ref qfp, .ref qfc, .int (nI ly), .int (nI ce), .int da, .int db, .int dr]))] := by first | exact hD | simpa only [] using hD
    exact W.vret hx hb hr (fun t ht hW => ⟨⟨(), rfl, trivial, by rw [ht]; exact hP, va_K.moved hW.alike hK, hD⟩, hS.F ht⟩) hS.2.2 dG_lay_39
  · -- 10 not taken
    rw [nI_leI (by omega) (by omega)] at hc10
    refine lv_aload_n hx hb dG_lay_13 rfl (lv_at hl 0 rfl) ?_
    refine va_get (D := (dC, dI)) (ci := 0) (v := .ref qpr) (C := R_G) (T := T_G) (N := 7) hx hb htw in_G hown hK hP 0 rfl rfl 2 (by decide) (htw _ m_116) (fun _ h9 => h9) rfl dG_lay_14 ?_
    refine lv_iload_n hx hb dG_lay_17 rfl (lv_at hl 2 rfl) ?_
    refine lv_dup2_11 hx hb dG_lay_18 rfl rfl ?_
    refine xa_lald hx hb hK hP 1 1 rfl rfl (i := i) (by omega) (by decide) dG_lay_19 ?_
    refine lv_lload_n hx hb dG_lay_20 rfl (lv_at hl 1 rfl) ?_
    refine lv_ladd hx hb dG_lay_21 ?_
    refine xa_last hx hb hK hP hD hS 1 1 rfl rfl (i := i) (by omega) (by decide) dG_lay_22 (fun H locs hP hD hS => ?_)
    have hP : va_P (dC, dI) vwCl [(g, .inr (0, [.ref so, .ref lo, .ref qpr, .ref qpa, .int (nI dy), .long co, .long wo])), (qpr, .inl (cJ, 30, .inr (.inl (vp_updL (k_lay pr i u) i (((k_lay pr i u) i) + u))))), (so, .inr (3, [.ref qlk, .ref qln, .ref qhd, .ref qsf, .ref qfp, .ref qfc, .int (nI ly), .int (nI ce), .int da, .int db, .int dr]))] H := hP
    have hD : va_D A [(g, .inr (0, [.ref so, .ref lo, .ref qpr, .ref qpa, .int (nI dy), .long co, .long wo])), (qpr, .inl (cJ, 30, .inr (.inl (vp_updL (k_lay pr i u) i (((k_lay pr i u) i) + u))))), (so, .inr (3, [.ref qlk, .ref qln, .ref qhd, .ref qsf, .ref qfp, .ref qfc, .int (nI ly), .int (nI ce), .int da, .int db, .int dr]))] := hD
    refine lv_iinc (v := nI (i + 1)) (lv' := [(3, .int (nI (i + 1))), (0, .ref g), (1, .long u)]) hx hb dG_lay_23 hl (k := 2) rfl (nI_1 _) (by decide) rfl (fun ls hl => ?_)
    refine lv_goto (tgt := 2) hx hb dG_lay_26 (by decide) ?_
    have eq2 : (vp_updL (k_lay pr i u) i (((k_lay pr i u) i) + u) : Nat → Int64) = k_lay pr (i + 1) u := k_lay_s
    have hP := Eq.mp (congrArg (fun zz => va_P (dC, dI) vwCl [(g, .inr (0, [.ref so, .ref lo, .ref qpr, .ref qpa, .int (nI dy), .long co, .long wo])), (qpr, .inl (cJ, 30, .inr (.inl zz))), (so, .inr (3, [.ref qlk, .ref qln, .ref qhd, .ref qsf, .ref qfp, .ref qfc, .int (nI ly), .int (nI ce), .int da, .int db, .int dr]))] H) eq2) hP
    have hD := Eq.mp (congrArg (fun zz => va_D A [(g, .inr (0, [.ref so, .ref lo, .ref qpr, .ref qpa, .int (nI dy), .long co, .long wo])), (qpr, .inl (cJ, 30, .inr (.inl zz))), (so, .inr (3, [.ref qlk, .ref qln, .ref qhd, .ref qsf, .ref qfp, .ref qfc, .int (nI ly), .int (nI ce), .int da, .int db, .int dr]))]) eq2) hD
    have hP : va_P (dC, dI) vwCl [(g, .inr (0, [.ref so, .ref lo, .ref qpr, .ref qpa, .int (nI dy), .long co, .long wo])), (qpr, .inl (cJ, 30, .inr (.inl (k_lay pr (i + 1) u)))), (so, .inr (3, [.ref qlk, .ref qln, .ref qhd, .ref qsf, .ref qfp, .ref qfc, .int (nI ly), .int (nI ce), .int da, .int db, .int dr]))] H := by first | exact hP | simpa only [] using hP
    have hD : va_D A [(g, .inr (0, [.ref so, .ref lo, .ref qpr, .ref qpa, .int (nI dy), .long co, .long wo])), (qpr, .inl (cJ, 30, .inr (.inl (k_lay pr (i + 1) u)))), (so, .inr (3, [.ref qlk, .ref qln, .ref qhd, .ref qsf, .ref qfp, .ref qfc, .int (nI ly), .int (nI ce), .int da, .int db, .int dr]))] := by first | exact hD | simpa only [] using hD
    exact ih2 (by omega) _ _ _ ⟨hP, hD, hS, lv_sub hl [1, 2, 0] rfl⟩
set_option maxHeartbeats 4000000 in
set_option maxRecDepth 100000 in
theorem kG_leavingAbove (l : Launch) (dC : Nat → ClassId) (dI : Nat → Nat → Nat) (cI cJ : ClassId) (g so lo qpr qpa qlk qln qhd qsf qfp qfc : Nat) (sz : Nat) (dy : Nat) (co : Int64) (wo : Int64) (pr : Nat → Int64) (ly : Nat) (ce : Nat) (da : Int32) (db : Int32) (dr : Int32) (lk : Nat → Int32) : Met l yG_leavingAbove wG_leavingAbove ({ frames := 0, cells := 0, slots := 0, locals := 0 }) (va_Pc [.ref g] (fun U => U.heap.size = sz ∧ va_P (dC, dI) vwCl [(g, .inr (0, [.ref so, .ref lo, .ref qpr, .ref qpa, .int (nI dy), .long co, .long wo])), (qpr, .inl (cJ, 30, .inr (.inl pr))), (so, .inr (3, [.ref qlk, .ref qln, .ref qhd, .ref qsf, .ref qfp, .ref qfc, .int (nI ly), .int (nI ce), .int da, .int db, .int dr])), (qlk, .inl (cI, 30, .inl lk))] U.heap ∧ va_K (dC, dI) vwCl [(cI, .int), (cJ, .long)] U ∧ va_D (fun _ => True) [(g, .inr (0, [.ref so, .ref lo, .ref qpr, .ref qpa, .int (nI dy), .long co, .long wo])), (qpr, .inl (cJ, 30, .inr (.inl pr))), (so, .inr (3, [.ref qlk, .ref qln, .ref qhd, .ref qsf, .ref qfp, .ref qfc, .int (nI ly), .int (nI ce), .int da, .int db, .int dr])), (qlk, .inl (cI, 30, .inl lk))])) (va_Ql (fun res_ (_ : Unit) => res_ = k_up lk da pr) (fun _ t => va_P (dC, dI) vwCl [(g, .inr (0, [.ref so, .ref lo, .ref qpr, .ref qpa, .int (nI dy), .long co, .long wo])), (qpr, .inl (cJ, 30, .inr (.inl pr))), (so, .inr (3, [.ref qlk, .ref qln, .ref qhd, .ref qsf, .ref qfp, .ref qfc, .int (nI ly), .int (nI ce), .int da, .int db, .int dr])), (qlk, .inl (cI, 30, .inl lk))] t.heap ∧ va_K (dC, dI) vwCl [(cI, .int), (cJ, .long)] t ∧ va_D (va_A [(g, .inr (0, [.ref so, .ref lo, .ref qpr, .ref qpa, .int (nI dy), .long co, .long wo])), (qpr, .inl (cJ, 30, .inr (.inl pr))), (so, .inr (3, [.ref qlk, .ref qln, .ref qhd, .ref qsf, .ref qfp, .ref qfc, .int (nI ly), .int (nI ce), .int da, .int db, .int dr])), (qlk, .inl (cI, 30, .inl lk))] sz) [(g, .inr (0, [.ref so, .ref lo, .ref qpr, .ref qpa, .int (nI dy), .long co, .long wo])), (qpr, .inl (cJ, 30, .inr (.inl pr))), (so, .inr (3, [.ref qlk, .ref qln, .ref qhd, .ref qsf, .ref qfp, .ref qfc, .int (nI ly), .int (nI ce), .int da, .int db, .int dr])), (qlk, .inl (cI, 30, .inl lk))]) (va_A [(g, .inr (0, [.ref so, .ref lo, .ref qpr, .ref qpa, .int (nI dy), .long co, .long wo])), (qpr, .inl (cJ, 30, .inr (.inl pr))), (so, .inr (3, [.ref qlk, .ref qln, .ref qhd, .ref qsf, .ref qfp, .ref qfc, .int (nI ly), .int (nI ce), .int da, .int db, .int dr])), (qlk, .inl (cI, 30, .inl lk))] sz)) 0 0 (va_A [(g, .inr (0, [.ref so, .ref lo, .ref qpr, .ref qpa, .int (nI dy), .long co, .long wo])), (qpr, .inl (cJ, 30, .inr (.inl pr))), (so, .inr (3, [.ref qlk, .ref qln, .ref qhd, .ref qsf, .ref qfp, .ref qfc, .int (nI ly), .int (nI ce), .int da, .int db, .int dr])), (qlk, .inl (cI, 30, .inl lk))] sz) := by
  refine Met.ofW (cc := bG_leavingAbove) (maxL := 1) (ret := (some .long)) (by decide) rfl ?_
  intro p e s m args below meth c s₁ B hml hv
  obtain ⟨rfl, hsz, hP, hK, hD0⟩ := hv
  have hx := B.exec
  have hb := B.bytes
  have hr := B.returns
  have hts := atoms_spec (ws := wG_leavingAbove) B.pre
  have hown : s.vm.findClass R_G = some m.cls := findClass_of_methodNamed B.named
  have htw : ∀ w ∈ WA, w.before _ s = true := fun w h => hts w (List.mem_cons_of_mem _ h)
  clear hts
  have hlocks := B.notSynchronized
  subst hsz
  have hD := hD0.self (sz := s.heap.size)
  generalize hAe : va_A [(g, .inr (0, [.ref so, .ref lo, .ref qpr, .ref qpa, .int (nI dy), .long co, .long wo])), (qpr, .inl (cJ, 30, .inr (.inl pr))), (so, .inr (3, [.ref qlk, .ref qln, .ref qhd, .ref qsf, .ref qfp, .ref qfc, .int (nI ly), .int (nI ce), .int da, .int db, .int dr])), (qlk, .inl (cI, 30, .inl lk))] s.heap.size = A at hD ⊢
  have hA : ∀ q : Nat, s.heap.size ≤ q → A q := fun q h => by rw [← hAe]; exact Or.inr h
  clear hAe hD0
  have hS : va_S A s.heap s.heap [] := va_S.rf
  have hP : va_P (dC, dI) vwCl [(g, .inr (0, [.ref so, .ref lo, .ref qpr, .ref qpa, .int (nI dy), .long co, .long wo])), (qpr, .inl (cJ, 30, .inr (.inl pr))), (so, .inr (3, [.ref qlk, .ref qln, .ref qhd, .ref qsf, .ref qfp, .ref qfc, .int (nI ly), .int (nI ce), .int da, .int db, .int dr])), (qlk, .inl (cI, 30, .inl lk))] s.heap := hP
  have hl := lv_entry ([.ref g]) (n := 1) (Nat.le_of_ble_eq_true rfl)
  rw [lg_entry_eq]
  generalize (lg_sl ([.ref g]) ++ List.replicate (1 - (lg_sl ([.ref g])).length) Slot.unset).toArray = ls at hl ⊢
  have hl : lv_has ls 1 [(0, .ref g)] := hl
  refine lv_aload_n hx hb dG_leavingAbove_0 rfl (lv_at hl 0 rfl) ?_
  refine va_get (D := (dC, dI)) (ci := 0) (v := .ref so) (C := R_G) (T := T_G) (N := 7) hx hb htw in_G hown hK hP 0 rfl rfl 0 (by decide) (htw _ m_114) (fun _ h9 => h9) rfl dG_leavingAbove_1 ?_
  refine va_get (D := (dC, dI)) (ci := 3) (v := .int da) (C := R_S) (T := T_S) (N := 11) hx hb htw in_S hown hK hP 2 rfl rfl 8 (by decide) (htw _ m_38) (fun _ h9 => h9) rfl dG_leavingAbove_4 ?_
  refine lv_if_eq (tgt := 34) hx hb dG_leavingAbove_7 (by decide) (fun hc7 => ?_) (fun hc7 => ?_)
  · -- 7 taken
    have hret : (0 : Int64) = k_up lk da pr := (if_pos hc7).symm
    refine lv_lconst (v := 0) hx hb dG_leavingAbove_34 (by decide) ?_
    have hP : va_P (dC, dI) vwCl [(g, .inr (0, [.ref so, .ref lo, .ref qpr, .ref qpa, .int (nI dy), .long co, .long wo])), (qpr, .inl (cJ, 30, .inr (.inl pr))), (so, .inr (3, [.ref qlk, .ref qln, .ref qhd, .ref qsf, .ref qfp, .ref qfc, .int (nI ly), .int (nI ce), .int da, .int db, .int dr])), (qlk, .inl (cI, 30, .inl lk))] s.heap := by first | exact hP | simpa only [] using hP
    have hD : va_D A [(g, .inr (0, [.ref so, .ref lo, .ref qpr, .ref qpa, .int (nI dy), .long co, .long wo])), (qpr, .inl (cJ, 30, .inr (.inl pr))), (so, .inr (3, [.ref qlk, .ref qln, .ref qhd, .ref qsf, .ref qfp, .ref qfc, .int (nI ly), .int (nI ce), .int da, .int db, .int dr])), (qlk, .inl (cI, 30, .inl lk))] := by first | exact hD | simpa only [] using hD
    exact W.lret (v := 0) hx hb hr (fun t ht hW => ⟨⟨0, (), rfl, hret, by rw [ht]; exact hP, va_K.moved hW.alike hK, hD⟩, hS.F ht⟩) hS.2.2 dG_leavingAbove_35
  · -- 7 not taken
    have hret : pr 0 * (lk 0).toInt64 / 1000 = k_up lk da pr := (if_neg hc7).symm
    refine lv_aload_n hx hb dG_leavingAbove_10 rfl (lv_at hl 0 rfl) ?_
    refine va_get (D := (dC, dI)) (ci := 0) (v := .ref qpr) (C := R_G) (T := T_G) (N := 7) hx hb htw in_G hown hK hP 0 rfl rfl 2 (by decide) (htw _ m_116) (fun _ h9 => h9) rfl dG_leavingAbove_11 ?_
    refine lv_iconst (v := nI 0) hx hb dG_leavingAbove_14 (by decide) ?_
    refine xa_lald hx hb hK hP 1 1 rfl rfl (i := 0) (by omega) (by decide) dG_leavingAbove_15 ?_
    refine lv_aload_n hx hb dG_leavingAbove_16 rfl (lv_at hl 0 rfl) ?_
    refine va_get (D := (dC, dI)) (ci := 0) (v := .ref so) (C := R_G) (T := T_G) (N := 7) hx hb htw in_G hown hK hP 0 rfl rfl 0 (by decide) (htw _ m_114) (fun _ h9 => h9) rfl dG_leavingAbove_17 ?_
    refine va_get (D := (dC, dI)) (ci := 3) (v := .ref qlk) (C := R_S) (T := T_S) (N := 11) hx hb htw in_S hown hK hP 2 rfl rfl 0 (by decide) (htw _ m_23) (fun _ h9 => h9) rfl dG_leavingAbove_20 ?_
    refine lv_iconst (v := nI 0) hx hb dG_leavingAbove_23 (by decide) ?_
    refine xa_iald hx hb hK hP 3 0 rfl rfl (i := 0) (by omega) (by decide) dG_leavingAbove_24 ?_
    refine lv_i2l (v := (lk 0).toInt64) hx hb dG_leavingAbove_25 rfl ?_
    refine lv_lmul hx hb dG_leavingAbove_26 ?_
    refine lv_ldc2 (v := 1000) hx hb hown (htw _ m_216) dG_leavingAbove_27 ?_
    refine lv_ldiv hx hb dG_leavingAbove_30 (by decide) ?_
    refine lv_goto (tgt := 35) hx hb dG_leavingAbove_31 (by decide) ?_
    have hP : va_P (dC, dI) vwCl [(g, .inr (0, [.ref so, .ref lo, .ref qpr, .ref qpa, .int (nI dy), .long co, .long wo])), (qpr, .inl (cJ, 30, .inr (.inl pr))), (so, .inr (3, [.ref qlk, .ref qln, .ref qhd, .ref qsf, .ref qfp, .ref qfc, .int (nI ly), .int (nI ce), .int da, .int db, .int dr])), (qlk, .inl (cI, 30, .inl lk))] s.heap := by first | exact hP | simpa only [] using hP
    have hD : va_D A [(g, .inr (0, [.ref so, .ref lo, .ref qpr, .ref qpa, .int (nI dy), .long co, .long wo])), (qpr, .inl (cJ, 30, .inr (.inl pr))), (so, .inr (3, [.ref qlk, .ref qln, .ref qhd, .ref qsf, .ref qfp, .ref qfc, .int (nI ly), .int (nI ce), .int da, .int db, .int dr])), (qlk, .inl (cI, 30, .inl lk))] := by first | exact hD | simpa only [] using hD
    exact W.lret (v := ((pr 0) * ((lk 0).toInt64)) / 1000) hx hb hr (fun t ht hW => ⟨⟨((pr 0) * ((lk 0).toInt64)) / 1000, (), rfl, hret, by rw [ht]; exact hP, va_K.moved hW.alike hK, hD⟩, hS.F ht⟩) hS.2.2 dG_leavingAbove_35
set_option maxHeartbeats 4000000 in
set_option maxRecDepth 100000 in
theorem kG_goingBelow (l : Launch) (dC : Nat → ClassId) (dI : Nat → Nat → Nat) (cI cJ : ClassId) (g so lo qpr qpa qlk qln qhd qsf qfp qfc : Nat) (sz : Nat) (i : Nat) (dy : Nat) (co : Int64) (wo : Int64) (pr : Nat → Int64) (ly : Nat) (ce : Nat) (da : Int32) (db : Int32) (dr : Int32) (lk : Nat → Int32) (ln : Nat → Int32) (hi : i < ce) (hce : ce ≤ 30) : Met l yG_goingBelow wG_goingBelow ({ frames := 0, cells := 0, slots := 0, locals := 0 }) (va_Pc [.ref g, .int (nI i)] (fun U => U.heap.size = sz ∧ va_P (dC, dI) vwCl [(g, .inr (0, [.ref so, .ref lo, .ref qpr, .ref qpa, .int (nI dy), .long co, .long wo])), (qpr, .inl (cJ, 30, .inr (.inl pr))), (so, .inr (3, [.ref qlk, .ref qln, .ref qhd, .ref qsf, .ref qfp, .ref qfc, .int (nI ly), .int (nI ce), .int da, .int db, .int dr])), (qlk, .inl (cI, 30, .inl lk)), (qln, .inl (cI, 30, .inl ln))] U.heap ∧ va_K (dC, dI) vwCl [(cI, .int), (cJ, .long)] U ∧ va_D (fun _ => True) [(g, .inr (0, [.ref so, .ref lo, .ref qpr, .ref qpa, .int (nI dy), .long co, .long wo])), (qpr, .inl (cJ, 30, .inr (.inl pr))), (so, .inr (3, [.ref qlk, .ref qln, .ref qhd, .ref qsf, .ref qfp, .ref qfc, .int (nI ly), .int (nI ce), .int da, .int db, .int dr])), (qlk, .inl (cI, 30, .inl lk)), (qln, .inl (cI, 30, .inl ln))])) (va_Ql (fun res_ (_ : Unit) => res_ = k_go lk ln ce db pr i) (fun _ t => va_P (dC, dI) vwCl [(g, .inr (0, [.ref so, .ref lo, .ref qpr, .ref qpa, .int (nI dy), .long co, .long wo])), (qpr, .inl (cJ, 30, .inr (.inl pr))), (so, .inr (3, [.ref qlk, .ref qln, .ref qhd, .ref qsf, .ref qfp, .ref qfc, .int (nI ly), .int (nI ce), .int da, .int db, .int dr])), (qlk, .inl (cI, 30, .inl lk)), (qln, .inl (cI, 30, .inl ln))] t.heap ∧ va_K (dC, dI) vwCl [(cI, .int), (cJ, .long)] t ∧ va_D (va_A [(g, .inr (0, [.ref so, .ref lo, .ref qpr, .ref qpa, .int (nI dy), .long co, .long wo])), (qpr, .inl (cJ, 30, .inr (.inl pr))), (so, .inr (3, [.ref qlk, .ref qln, .ref qhd, .ref qsf, .ref qfp, .ref qfc, .int (nI ly), .int (nI ce), .int da, .int db, .int dr])), (qlk, .inl (cI, 30, .inl lk)), (qln, .inl (cI, 30, .inl ln))] sz) [(g, .inr (0, [.ref so, .ref lo, .ref qpr, .ref qpa, .int (nI dy), .long co, .long wo])), (qpr, .inl (cJ, 30, .inr (.inl pr))), (so, .inr (3, [.ref qlk, .ref qln, .ref qhd, .ref qsf, .ref qfp, .ref qfc, .int (nI ly), .int (nI ce), .int da, .int db, .int dr])), (qlk, .inl (cI, 30, .inl lk)), (qln, .inl (cI, 30, .inl ln))]) (va_A [(g, .inr (0, [.ref so, .ref lo, .ref qpr, .ref qpa, .int (nI dy), .long co, .long wo])), (qpr, .inl (cJ, 30, .inr (.inl pr))), (so, .inr (3, [.ref qlk, .ref qln, .ref qhd, .ref qsf, .ref qfp, .ref qfc, .int (nI ly), .int (nI ce), .int da, .int db, .int dr])), (qlk, .inl (cI, 30, .inl lk)), (qln, .inl (cI, 30, .inl ln))] sz)) 0 0 (va_A [(g, .inr (0, [.ref so, .ref lo, .ref qpr, .ref qpa, .int (nI dy), .long co, .long wo])), (qpr, .inl (cJ, 30, .inr (.inl pr))), (so, .inr (3, [.ref qlk, .ref qln, .ref qhd, .ref qsf, .ref qfp, .ref qfc, .int (nI ly), .int (nI ce), .int da, .int db, .int dr])), (qlk, .inl (cI, 30, .inl lk)), (qln, .inl (cI, 30, .inl ln))] sz) := by
  refine Met.ofW (cc := bG_goingBelow) (maxL := 2) (ret := (some .long)) (by decide) rfl ?_
  intro p e s m args below meth c s₁ B hml hv
  obtain ⟨rfl, hsz, hP, hK, hD0⟩ := hv
  have hx := B.exec
  have hb := B.bytes
  have hr := B.returns
  have hts := atoms_spec (ws := wG_goingBelow) B.pre
  have hown : s.vm.findClass R_G = some m.cls := findClass_of_methodNamed B.named
  have htw : ∀ w ∈ WA, w.before _ s = true := fun w h => hts w (List.mem_cons_of_mem _ h)
  clear hts
  have hlocks := B.notSynchronized
  subst hsz
  have hD := hD0.self (sz := s.heap.size)
  generalize hAe : va_A [(g, .inr (0, [.ref so, .ref lo, .ref qpr, .ref qpa, .int (nI dy), .long co, .long wo])), (qpr, .inl (cJ, 30, .inr (.inl pr))), (so, .inr (3, [.ref qlk, .ref qln, .ref qhd, .ref qsf, .ref qfp, .ref qfc, .int (nI ly), .int (nI ce), .int da, .int db, .int dr])), (qlk, .inl (cI, 30, .inl lk)), (qln, .inl (cI, 30, .inl ln))] s.heap.size = A at hD ⊢
  have hA : ∀ q : Nat, s.heap.size ≤ q → A q := fun q h => by rw [← hAe]; exact Or.inr h
  clear hAe hD0
  have hS : va_S A s.heap s.heap [] := va_S.rf
  have hP : va_P (dC, dI) vwCl [(g, .inr (0, [.ref so, .ref lo, .ref qpr, .ref qpa, .int (nI dy), .long co, .long wo])), (qpr, .inl (cJ, 30, .inr (.inl pr))), (so, .inr (3, [.ref qlk, .ref qln, .ref qhd, .ref qsf, .ref qfp, .ref qfc, .int (nI ly), .int (nI ce), .int da, .int db, .int dr])), (qlk, .inl (cI, 30, .inl lk)), (qln, .inl (cI, 30, .inl ln))] s.heap := hP
  have hl := lv_entry ([.ref g, .int (nI i)]) (n := 2) (Nat.le_of_ble_eq_true rfl)
  rw [lg_entry_eq]
  generalize (lg_sl ([.ref g, .int (nI i)]) ++ List.replicate (2 - (lg_sl ([.ref g, .int (nI i)])).length) Slot.unset).toArray = ls at hl ⊢
  have hl : lv_has ls 2 [(0, .ref g), (1, .int (nI i))] := hl
  refine lv_iload_n hx hb dG_goingBelow_0 rfl (lv_at hl 1 rfl) ?_
  refine lv_iconst (v := nI 1) hx hb dG_goingBelow_1 (by decide) ?_
  refine lv_iadd hx hb dG_goingBelow_2 ?_
  refine lv_topi (fun kv ekv => ?_)
  obtain rfl : kv = nI (i + 1) := by rw [ekv]; exact nI_add _ _
  refine lv_aload_n hx hb dG_goingBelow_3 rfl (lv_at hl 0 rfl) ?_
  refine va_get (D := (dC, dI)) (ci := 0) (v := .ref so) (C := R_G) (T := T_G) (N := 7) hx hb htw in_G hown hK hP 0 rfl rfl 0 (by decide) (htw _ m_114) (fun _ h9 => h9) rfl dG_goingBelow_4 ?_
  refine va_get (D := (dC, dI)) (ci := 3) (v := .int (nI ce)) (C := R_S) (T := T_S) (N := 11) hx hb htw in_S hown hK hP 2 rfl rfl 7 (by decide) (htw _ m_35) (fun _ h9 => h9) rfl dG_goingBelow_7 ?_
  refine lv_icmp_ge (tgt := 44) hx hb dG_goingBelow_10 (by decide) (fun hc10 => ?_) (fun hc10 => ?_)
  · -- 10 taken
    rw [nI_leI (by omega) (by omega)] at hc10
    refine lv_aload_n hx hb dG_goingBelow_44 rfl (lv_at hl 0 rfl) ?_
    refine va_get (D := (dC, dI)) (ci := 0) (v := .ref so) (C := R_G) (T := T_G) (N := 7) hx hb htw in_G hown hK hP 0 rfl rfl 0 (by decide) (htw _ m_114) (fun _ h9 => h9) rfl dG_goingBelow_45 ?_
    refine va_get (D := (dC, dI)) (ci := 3) (v := .int db) (C := R_S) (T := T_S) (N := 11) hx hb htw in_S hown hK hP 2 rfl rfl 9 (by decide) (htw _ m_40) (fun _ h9 => h9) rfl dG_goingBelow_48 ?_
    refine lv_if_eq (tgt := 78) hx hb dG_goingBelow_51 (by decide) (fun hc51 => ?_) (fun hc51 => ?_)
    · -- 51 taken
      have hret : (0 : Int64) = k_go lk ln ce db pr i := by unfold k_go; rw [if_neg (by omega), if_pos hc51]
      refine lv_lconst (v := 0) hx hb dG_goingBelow_78 (by decide) ?_
      have hP : va_P (dC, dI) vwCl [(g, .inr (0, [.ref so, .ref lo, .ref qpr, .ref qpa, .int (nI dy), .long co, .long wo])), (qpr, .inl (cJ, 30, .inr (.inl pr))), (so, .inr (3, [.ref qlk, .ref qln, .ref qhd, .ref qsf, .ref qfp, .ref qfc, .int (nI ly), .int (nI ce), .int da, .int db, .int dr])), (qlk, .inl (cI, 30, .inl lk)), (qln, .inl (cI, 30, .inl ln))] s.heap := by first | exact hP | simpa only [] using hP
      have hD : va_D A [(g, .inr (0, [.ref so, .ref lo, .ref qpr, .ref qpa, .int (nI dy), .long co, .long wo])), (qpr, .inl (cJ, 30, .inr (.inl pr))), (so, .inr (3, [.ref qlk, .ref qln, .ref qhd, .ref qsf, .ref qfp, .ref qfc, .int (nI ly), .int (nI ce), .int da, .int db, .int dr])), (qlk, .inl (cI, 30, .inl lk)), (qln, .inl (cI, 30, .inl ln))] := by first | exact hD | simpa only [] using hD
      exact W.lret (v := 0) hx hb hr (fun t ht hW => ⟨⟨0, (), rfl, hret, by rw [ht]; exact hP, va_K.moved hW.alike hK, hD⟩, hS.F ht⟩) hS.2.2 dG_goingBelow_79
    · -- 51 not taken
      have hret : pr i * (lk i).toInt64 / 1000 = k_go lk ln ce db pr i := by unfold k_go; rw [if_neg (by omega), if_neg hc51]
      refine lv_aload_n hx hb dG_goingBelow_54 rfl (lv_at hl 0 rfl) ?_
      refine va_get (D := (dC, dI)) (ci := 0) (v := .ref qpr) (C := R_G) (T := T_G) (N := 7) hx hb htw in_G hown hK hP 0 rfl rfl 2 (by decide) (htw _ m_116) (fun _ h9 => h9) rfl dG_goingBelow_55 ?_
      refine lv_iload_n hx hb dG_goingBelow_58 rfl (lv_at hl 1 rfl) ?_
      refine xa_lald hx hb hK hP 1 1 rfl rfl (i := i) (by omega) (by decide) dG_goingBelow_59 ?_
      refine lv_aload_n hx hb dG_goingBelow_60 rfl (lv_at hl 0 rfl) ?_
      refine va_get (D := (dC, dI)) (ci := 0) (v := .ref so) (C := R_G) (T := T_G) (N := 7) hx hb htw in_G hown hK hP 0 rfl rfl 0 (by decide) (htw _ m_114) (fun _ h9 => h9) rfl dG_goingBelow_61 ?_
      refine va_get (D := (dC, dI)) (ci := 3) (v := .ref qlk) (C := R_S) (T := T_S) (N := 11) hx hb htw in_S hown hK hP 2 rfl rfl 0 (by decide) (htw _ m_23) (fun _ h9 => h9) rfl dG_goingBelow_64 ?_
      refine lv_iload_n hx hb dG_goingBelow_67 rfl (lv_at hl 1 rfl) ?_
      refine xa_iald hx hb hK hP 3 0 rfl rfl (i := i) (by omega) (by decide) dG_goingBelow_68 ?_
      refine lv_i2l (v := (lk i).toInt64) hx hb dG_goingBelow_69 rfl ?_
      refine lv_lmul hx hb dG_goingBelow_70 ?_
      refine lv_ldc2 (v := 1000) hx hb hown (htw _ m_216) dG_goingBelow_71 ?_
      refine lv_ldiv hx hb dG_goingBelow_74 (by decide) ?_
      refine lv_goto (tgt := 79) hx hb dG_goingBelow_75 (by decide) ?_
      have hP : va_P (dC, dI) vwCl [(g, .inr (0, [.ref so, .ref lo, .ref qpr, .ref qpa, .int (nI dy), .long co, .long wo])), (qpr, .inl (cJ, 30, .inr (.inl pr))), (so, .inr (3, [.ref qlk, .ref qln, .ref qhd, .ref qsf, .ref qfp, .ref qfc, .int (nI ly), .int (nI ce), .int da, .int db, .int dr])), (qlk, .inl (cI, 30, .inl lk)), (qln, .inl (cI, 30, .inl ln))] s.heap := by first | exact hP | simpa only [] using hP
      have hD : va_D A [(g, .inr (0, [.ref so, .ref lo, .ref qpr, .ref qpa, .int (nI dy), .long co, .long wo])), (qpr, .inl (cJ, 30, .inr (.inl pr))), (so, .inr (3, [.ref qlk, .ref qln, .ref qhd, .ref qsf, .ref qfp, .ref qfc, .int (nI ly), .int (nI ce), .int da, .int db, .int dr])), (qlk, .inl (cI, 30, .inl lk)), (qln, .inl (cI, 30, .inl ln))] := by first | exact hD | simpa only [] using hD
      exact W.lret (v := ((pr i) * ((lk i).toInt64)) / 1000) hx hb hr (fun t ht hW => ⟨⟨((pr i) * ((lk i).toInt64)) / 1000, (), rfl, hret, by rw [ht]; exact hP, va_K.moved hW.alike hK, hD⟩, hS.F ht⟩) hS.2.2 dG_goingBelow_79
  · -- 10 not taken
    rw [nI_leI (by omega) (by omega)] at hc10
    have hret : (pr i - pr (i + 1)) * (ln i).toInt64 / 1000 = k_go lk ln ce db pr i := (if_pos (by omega)).symm
    refine lv_aload_n hx hb dG_goingBelow_13 rfl (lv_at hl 0 rfl) ?_
    refine va_get (D := (dC, dI)) (ci := 0) (v := .ref qpr) (C := R_G) (T := T_G) (N := 7) hx hb htw in_G hown hK hP 0 rfl rfl 2 (by decide) (htw _ m_116) (fun _ h9 => h9) rfl dG_goingBelow_14 ?_
    refine lv_iload_n hx hb dG_goingBelow_17 rfl (lv_at hl 1 rfl) ?_
    refine xa_lald hx hb hK hP 1 1 rfl rfl (i := i) (by omega) (by decide) dG_goingBelow_18 ?_
    refine lv_aload_n hx hb dG_goingBelow_19 rfl (lv_at hl 0 rfl) ?_
    refine va_get (D := (dC, dI)) (ci := 0) (v := .ref qpr) (C := R_G) (T := T_G) (N := 7) hx hb htw in_G hown hK hP 0 rfl rfl 2 (by decide) (htw _ m_116) (fun _ h9 => h9) rfl dG_goingBelow_20 ?_
    refine lv_iload_n hx hb dG_goingBelow_23 rfl (lv_at hl 1 rfl) ?_
    refine lv_iconst (v := nI 1) hx hb dG_goingBelow_24 (by decide) ?_
    refine lv_iadd hx hb dG_goingBelow_25 ?_
    refine lv_topi (fun kv ekv => ?_)
    obtain rfl : kv = nI (i + 1) := by rw [ekv]; exact nI_add _ _
    refine xa_lald hx hb hK hP 1 1 rfl rfl (i := (i + 1)) (by omega) (by decide) dG_goingBelow_26 ?_
    refine lv_lsub hx hb dG_goingBelow_27 ?_
    refine lv_aload_n hx hb dG_goingBelow_28 rfl (lv_at hl 0 rfl) ?_
    refine va_get (D := (dC, dI)) (ci := 0) (v := .ref so) (C := R_G) (T := T_G) (N := 7) hx hb htw in_G hown hK hP 0 rfl rfl 0 (by decide) (htw _ m_114) (fun _ h9 => h9) rfl dG_goingBelow_29 ?_
    refine va_get (D := (dC, dI)) (ci := 3) (v := .ref qln) (C := R_S) (T := T_S) (N := 11) hx hb htw in_S hown hK hP 2 rfl rfl 1 (by decide) (htw _ m_25) (fun _ h9 => h9) rfl dG_goingBelow_32 ?_
    refine lv_iload_n hx hb dG_goingBelow_35 rfl (lv_at hl 1 rfl) ?_
    refine xa_iald hx hb hK hP 4 0 rfl rfl (i := i) (by omega) (by decide) dG_goingBelow_36 ?_
    refine lv_i2l (v := (ln i).toInt64) hx hb dG_goingBelow_37 rfl ?_
    refine lv_lmul hx hb dG_goingBelow_38 ?_
    refine lv_ldc2 (v := 1000) hx hb hown (htw _ m_216) dG_goingBelow_39 ?_
    refine lv_ldiv hx hb dG_goingBelow_42 (by decide) ?_
    have hP : va_P (dC, dI) vwCl [(g, .inr (0, [.ref so, .ref lo, .ref qpr, .ref qpa, .int (nI dy), .long co, .long wo])), (qpr, .inl (cJ, 30, .inr (.inl pr))), (so, .inr (3, [.ref qlk, .ref qln, .ref qhd, .ref qsf, .ref qfp, .ref qfc, .int (nI ly), .int (nI ce), .int da, .int db, .int dr])), (qlk, .inl (cI, 30, .inl lk)), (qln, .inl (cI, 30, .inl ln))] s.heap := by first | exact hP | simpa only [] using hP
    have hD : va_D A [(g, .inr (0, [.ref so, .ref lo, .ref qpr, .ref qpa, .int (nI dy), .long co, .long wo])), (qpr, .inl (cJ, 30, .inr (.inl pr))), (so, .inr (3, [.ref qlk, .ref qln, .ref qhd, .ref qsf, .ref qfp, .ref qfc, .int (nI ly), .int (nI ce), .int da, .int db, .int dr])), (qlk, .inl (cI, 30, .inl lk)), (qln, .inl (cI, 30, .inl ln))] := by first | exact hD | simpa only [] using hD
    exact W.lret (v := (((pr i) - (pr (i + 1))) * ((ln i).toInt64)) / 1000) hx hb hr (fun t ht hW => ⟨⟨(((pr i) - (pr (i + 1))) * ((ln i).toInt64)) / 1000, (), rfl, hret, by rw [ht]; exact hP, va_K.moved hW.alike hK, hD⟩, hS.F ht⟩) hS.2.2 dG_goingBelow_43
set_option maxHeartbeats 4000000 in
set_option maxRecDepth 100000 in
theorem kG_moveWater (l : Launch) (dC : Nat → ClassId) (dI : Nat → Nat → Nat) (cI cJ : ClassId) (g so lo qpr qpa qlk qln qhd qsf qfp qfc : Nat) (sz : Nat) (dy : Nat) (co : Int64) (wo : Int64) (pr : Nat → Int64) (ly : Nat) (ce : Nat) (da : Int32) (db : Int32) (dr : Int32) (lk : Nat → Int32) (ln : Nat → Int32) (hce : ce ≤ 30) : Met l yG_moveWater wG_moveWater ({ frames := 1, cells := 0, slots := 0, locals := 21 }) (va_Pc [.ref g] (fun U => U.heap.size = sz ∧ va_P (dC, dI) vwCl [(g, .inr (0, [.ref so, .ref lo, .ref qpr, .ref qpa, .int (nI dy), .long co, .long wo])), (qpr, .inl (cJ, 30, .inr (.inl pr))), (so, .inr (3, [.ref qlk, .ref qln, .ref qhd, .ref qsf, .ref qfp, .ref qfc, .int (nI ly), .int (nI ce), .int da, .int db, .int dr])), (qlk, .inl (cI, 30, .inl lk)), (qln, .inl (cI, 30, .inl ln))] U.heap ∧ va_K (dC, dI) vwCl [(cI, .int), (cJ, .long)] U ∧ va_D (fun _ => True) [(g, .inr (0, [.ref so, .ref lo, .ref qpr, .ref qpa, .int (nI dy), .long co, .long wo])), (qpr, .inl (cJ, 30, .inr (.inl pr))), (so, .inr (3, [.ref qlk, .ref qln, .ref qhd, .ref qsf, .ref qfp, .ref qfc, .int (nI ly), .int (nI ce), .int da, .int db, .int dr])), (qlk, .inl (cI, 30, .inl lk)), (qln, .inl (cI, 30, .inl ln))])) (va_Qi (fun res_ (_ : Unit) => res_ = kb (k_mv lk ln ce da db dr pr ce = true)) (fun _ t => va_P (dC, dI) vwCl [(g, .inr (0, [.ref so, .ref lo, .ref qpr, .ref qpa, .int (nI dy), .long co, .long (k_ow lk ln ce da db dr pr wo ce + k_fl lk ln ce da db pr ce)])), (qpr, .inl (cJ, 30, .inr (.inl (k_np lk ln ce da db dr pr ce)))), (so, .inr (3, [.ref qlk, .ref qln, .ref qhd, .ref qsf, .ref qfp, .ref qfc, .int (nI ly), .int (nI ce), .int da, .int db, .int dr])), (qlk, .inl (cI, 30, .inl lk)), (qln, .inl (cI, 30, .inl ln))] t.heap ∧ va_K (dC, dI) vwCl [(cI, .int), (cJ, .long)] t ∧ va_D (va_A [(g, .inr (0, [.ref so, .ref lo, .ref qpr, .ref qpa, .int (nI dy), .long co, .long wo])), (qpr, .inl (cJ, 30, .inr (.inl pr))), (so, .inr (3, [.ref qlk, .ref qln, .ref qhd, .ref qsf, .ref qfp, .ref qfc, .int (nI ly), .int (nI ce), .int da, .int db, .int dr])), (qlk, .inl (cI, 30, .inl lk)), (qln, .inl (cI, 30, .inl ln))] sz) [(g, .inr (0, [.ref so, .ref lo, .ref qpr, .ref qpa, .int (nI dy), .long co, .long (k_ow lk ln ce da db dr pr wo ce + k_fl lk ln ce da db pr ce)])), (qpr, .inl (cJ, 30, .inr (.inl (k_np lk ln ce da db dr pr ce)))), (so, .inr (3, [.ref qlk, .ref qln, .ref qhd, .ref qsf, .ref qfp, .ref qfc, .int (nI ly), .int (nI ce), .int da, .int db, .int dr])), (qlk, .inl (cI, 30, .inl lk)), (qln, .inl (cI, 30, .inl ln))]) (va_A [(g, .inr (0, [.ref so, .ref lo, .ref qpr, .ref qpa, .int (nI dy), .long co, .long wo])), (qpr, .inl (cJ, 30, .inr (.inl pr))), (so, .inr (3, [.ref qlk, .ref qln, .ref qhd, .ref qsf, .ref qfp, .ref qfc, .int (nI ly), .int (nI ce), .int da, .int db, .int dr])), (qlk, .inl (cI, 30, .inl lk)), (qln, .inl (cI, 30, .inl ln))] sz)) 0 0 (va_A [(g, .inr (0, [.ref so, .ref lo, .ref qpr, .ref qpa, .int (nI dy), .long co, .long wo])), (qpr, .inl (cJ, 30, .inr (.inl pr))), (so, .inr (3, [.ref qlk, .ref qln, .ref qhd, .ref qsf, .ref qfp, .ref qfc, .int (nI ly), .int (nI ce), .int da, .int db, .int dr])), (qlk, .inl (cI, 30, .inl lk)), (qln, .inl (cI, 30, .inl ln))] sz) := by
  refine Met.ofW (cc := bG_moveWater) (maxL := 9) (ret := (some .boolean)) (by decide) rfl ?_
  intro p e s m args below meth c s₁ B hml hv
  obtain ⟨rfl, hsz, hP, hK, hD0⟩ := hv
  have hx := B.exec
  have hb := B.bytes
  have hr := B.returns
  have hts := atoms_spec (ws := wG_moveWater) B.pre
  have hown : s.vm.findClass R_G = some m.cls := findClass_of_methodNamed B.named
  have htw : ∀ w ∈ WA, w.before _ s = true := fun w h => hts w (List.mem_cons_of_mem _ h)
  clear hts
  have hlocks := B.notSynchronized
  subst hsz
  have hD := hD0.self (sz := s.heap.size)
  generalize hAe : va_A [(g, .inr (0, [.ref so, .ref lo, .ref qpr, .ref qpa, .int (nI dy), .long co, .long wo])), (qpr, .inl (cJ, 30, .inr (.inl pr))), (so, .inr (3, [.ref qlk, .ref qln, .ref qhd, .ref qsf, .ref qfp, .ref qfc, .int (nI ly), .int (nI ce), .int da, .int db, .int dr])), (qlk, .inl (cI, 30, .inl lk)), (qln, .inl (cI, 30, .inl ln))] s.heap.size = A at hD ⊢
  have hA : ∀ q : Nat, s.heap.size ≤ q → A q := fun q h => by rw [← hAe]; exact Or.inr h
  clear hAe hD0
  have hS : va_S A s.heap s.heap [] := va_S.rf
  have hP : va_P (dC, dI) vwCl [(g, .inr (0, [.ref so, .ref lo, .ref qpr, .ref qpa, .int (nI dy), .long co, .long wo])), (qpr, .inl (cJ, 30, .inr (.inl pr))), (so, .inr (3, [.ref qlk, .ref qln, .ref qhd, .ref qsf, .ref qfp, .ref qfc, .int (nI ly), .int (nI ce), .int da, .int db, .int dr])), (qlk, .inl (cI, 30, .inl lk)), (qln, .inl (cI, 30, .inl ln))] s.heap := hP
  have hl := lv_entry ([.ref g]) (n := 9) (Nat.le_of_ble_eq_true rfl)
  rw [lg_entry_eq]
  generalize (lg_sl ([.ref g]) ++ List.replicate (9 - (lg_sl ([.ref g])).length) Slot.unset).toArray = ls at hl ⊢
  have hl : lv_has ls 9 [(0, .ref g)] := hl
  refine lv_iconst (v := nI 0) hx hb dG_moveWater_0 (by decide) ?_
  refine lv_istore_n (lv' := [(1, .int (nI 0)), (0, .ref g)]) hx hb dG_moveWater_1 rfl hl (by decide) rfl (fun ls hl => ?_)
  refine lv_aload_n hx hb dG_moveWater_2 rfl (lv_at hl 1 rfl) ?_
  have hPc := hP.sub (ws' := [(g, .inr (0, [.ref so, .ref lo, .ref qpr, .ref qpa, .int (nI dy), .long co, .long wo])), (qpr, .inl (cJ, 30, .inr (.inl pr))), (so, .inr (3, [.ref qlk, .ref qln, .ref qhd, .ref qsf, .ref qfp, .ref qfc, .int (nI ly), .int (nI ce), .int da, .int db, .int dr])), (qlk, .inl (cI, 30, .inl lk))]) [0, 1, 2, 3] rfl
  have hDc := hD.sub (ws' := [(g, .inr (0, [.ref so, .ref lo, .ref qpr, .ref qpa, .int (nI dy), .long co, .long wo])), (qpr, .inl (cJ, 30, .inr (.inl pr))), (so, .inr (3, [.ref qlk, .ref qln, .ref qhd, .ref qsf, .ref qfp, .ref qfc, .int (nI ly), .int (nI ce), .int da, .int db, .int dr])), (qlk, .inl (cI, 30, .inl lk))]) [0, 1, 2, 3] (by decide) rfl
  have hFc := va_free (wc := [(g, .inr (0, [.ref so, .ref lo, .ref qpr, .ref qpa, .int (nI dy), .long co, .long wo])), (qpr, .inl (cJ, 30, .inr (.inl pr))), (so, .inr (3, [.ref qlk, .ref qln, .ref qhd, .ref qsf, .ref qfp, .ref qfc, .int (nI ly), .int (nI ce), .int da, .int db, .int dr])), (qlk, .inl (cI, 30, .inl lk))]) hD hS hA [0, 1, 2, 3] rfl
  refine va_calll (va_runV (As := []) (rest := []) ⟨hx, hb, hml, hown, htw⟩ (kG_leavingAbove l dC dI cI cJ g so lo qpr qpa qlk qln qhd qsf qfp qfc s.heap.size dy co wo pr ly ce da db dr lk) (cwV 0 htw (wv_good m_212 m_214 ms_1 m_5 m_215) rfl rfl rfl (by decide +kernel) ⟨Nat.le_of_ble_eq_true rfl, Nat.le_of_ble_eq_true rfl⟩) ⟨fun a U g mk q => by obtain ⟨q0, q1, qP, qK, qD⟩ := q; exact ⟨q0, q1, qP, va_K.moved (u := U) (U := U.calling g mk a) (Vm.Alike.refl U.vm) qK, qD⟩, va_recv hK hPc (ci := 0) (q0 := 0) rfl rfl, fun U hU hW => ⟨rfl, by rw [hU], by rw [hU]; exact hPc, va_K.moved hW.alike hK, hDc.weaken (fun _ _ _ _ => trivial)⟩⟩ rfl rfl hl.1 rfl (lv_room (Nat.le_of_ble_eq_true rfl)) dG_moveWater_3 ⟨Nat.le_of_ble_eq_true rfl, Nat.le_of_ble_eq_true rfl⟩) hS (fun q _ h => hFc q h) hFc (fun res_ u_ t H1 locs ht hvm hw hB hz1 hk1 hS => ?_)
  obtain ⟨hP1, hK1, hD1⟩ := hB
  rw [ht] at hP1
  obtain ⟨hP, hD⟩ := va_join (wr := [(qln, .inl (cI, 30, .inl ln))]) (w1 := [(g, .inr (0, [.ref so, .ref lo, .ref qpr, .ref qpa, .int (nI dy), .long co, .long wo])), (qpr, .inl (cJ, 30, .inr (.inl pr))), (so, .inr (3, [.ref qlk, .ref qln, .ref qhd, .ref qsf, .ref qfp, .ref qfc, .int (nI ly), .int (nI ce), .int da, .int db, .int dr])), (qlk, .inl (cI, 30, .inl lk))]) hP hD [0, 1, 2, 3] [4] rfl rfl (by decide) (by decide) hk1 hFc hP1 hD1
  generalize H1 = H at hP hS ⊢
  have hP := hP.sub (ws' := [(g, .inr (0, [.ref so, .ref lo, .ref qpr, .ref qpa, .int (nI dy), .long co, .long wo])), (qpr, .inl (cJ, 30, .inr (.inl pr))), (so, .inr (3, [.ref qlk, .ref qln, .ref qhd, .ref qsf, .ref qfp, .ref qfc, .int (nI ly), .int (nI ce), .int da, .int db, .int dr])), (qlk, .inl (cI, 30, .inl lk)), (qln, .inl (cI, 30, .inl ln))]) [1, 2, 3, 4, 0] rfl
  have hD := hD.sub (ws' := [(g, .inr (0, [.ref so, .ref lo, .ref qpr, .ref qpa, .int (nI dy), .long co, .long wo])), (qpr, .inl (cJ, 30, .inr (.inl pr))), (so, .inr (3, [.ref qlk, .ref qln, .ref qhd, .ref qsf, .ref qfp, .ref qfc, .int (nI ly), .int (nI ce), .int da, .int db, .int dr])), (qlk, .inl (cI, 30, .inl lk)), (qln, .inl (cI, 30, .inl ln))]) [1, 2, 3, 4, 0] (by decide) rfl
  clear hPc hDc hFc hP1 hD1 hK1 hk1 hz1 hvm ht
  obtain rfl : k_up lk da pr = res_ := hw.symm
  refine lv_lneg hx hb dG_moveWater_6 ?_
  refine lv_lstore_n (lv' := [(2, .long (-(k_up lk da pr))), (1, .int (nI 0)), (0, .ref g)]) hx hb dG_moveWater_7 rfl hl (by decide) rfl (fun ls hl => ?_)
  refine lv_aload_n hx hb dG_moveWater_8 rfl (lv_at hl 2 rfl) ?_
  refine lv_dup hx hb dG_moveWater_9 rfl ?_
  refine va_get (D := (dC, dI)) (ci := 0) (v := .long wo) (C := R_G) (T := T_G) (N := 7) hx hb htw in_G hown hK hP 0 rfl rfl 6 (by decide) (htw _ m_124) (fun _ h9 => h9) rfl dG_moveWater_10 ?_
  refine lv_lload_n hx hb dG_moveWater_13 rfl (lv_at hl 0 rfl) ?_
  refine lv_lsub hx hb dG_moveWater_14 ?_
  refine va_put (D := (dC, dI)) (ci := 0) (v := .long (wo - (-(k_up lk da pr)))) (ty := .long) (C := R_G) (T := T_G) (N := 7) hx hb htw in_G ty_G tok_G nnm_G hown hK hP hD hS 0 rfl rfl 6 (by decide) (htw _ m_124) (fun _ h9 => h9) rfl (by decide +kernel) rfl rfl (Nat.le_of_ble_eq_true rfl) dG_moveWater_15 (fun H locs hP hD hS => ?_)
  have hP : va_P (dC, dI) vwCl [(g, .inr (0, [.ref so, .ref lo, .ref qpr, .ref qpa, .int (nI dy), .long co, .long (wo - (-(k_up lk da pr)))])), (qpr, .inl (cJ, 30, .inr (.inl pr))), (so, .inr (3, [.ref qlk, .ref qln, .ref qhd, .ref qsf, .ref qfp, .ref qfc, .int (nI ly), .int (nI ce), .int da, .int db, .int dr])), (qlk, .inl (cI, 30, .inl lk)), (qln, .inl (cI, 30, .inl ln))] H := hP
  have hD : va_D A [(g, .inr (0, [.ref so, .ref lo, .ref qpr, .ref qpa, .int (nI dy), .long co, .long (wo - (-(k_up lk da pr)))])), (qpr, .inl (cJ, 30, .inr (.inl pr))), (so, .inr (3, [.ref qlk, .ref qln, .ref qhd, .ref qsf, .ref qfp, .ref qfc, .int (nI ly), .int (nI ce), .int da, .int db, .int dr])), (qlk, .inl (cI, 30, .inl lk)), (qln, .inl (cI, 30, .inl ln))] := hD
  refine lv_iconst (v := nI 0) hx hb dG_moveWater_18 (by decide) ?_
  refine lv_istore (lv' := [(4, .int (nI 0)), (2, .long (-(k_up lk da pr))), (1, .int (nI 0)), (0, .ref g)]) hx hb dG_moveWater_19 hl (by decide) rfl (fun ls hl => ?_)
  -- the loop at 21
  have eq1 : (pr : Nat → Int64) = k_np lk ln ce da db dr pr 0 := k_np_0
  have hP := Eq.mp (congrArg (fun zz => va_P (dC, dI) vwCl [(g, .inr (0, [.ref so, .ref lo, .ref qpr, .ref qpa, .int (nI dy), .long co, .long (wo - (-(k_up lk da pr)))])), (qpr, .inl (cJ, 30, .inr (.inl zz))), (so, .inr (3, [.ref qlk, .ref qln, .ref qhd, .ref qsf, .ref qfp, .ref qfc, .int (nI ly), .int (nI ce), .int da, .int db, .int dr])), (qlk, .inl (cI, 30, .inl lk)), (qln, .inl (cI, 30, .inl ln))] H) eq1) hP
  have hD := Eq.mp (congrArg (fun zz => va_D A [(g, .inr (0, [.ref so, .ref lo, .ref qpr, .ref qpa, .int (nI dy), .long co, .long (wo - (-(k_up lk da pr)))])), (qpr, .inl (cJ, 30, .inr (.inl zz))), (so, .inr (3, [.ref qlk, .ref qln, .ref qhd, .ref qsf, .ref qfp, .ref qfc, .int (nI ly), .int (nI ce), .int da, .int db, .int dr])), (qlk, .inl (cI, 30, .inl lk)), (qln, .inl (cI, 30, .inl ln))]) eq1) hD
  have eq2 : (wo - (-(k_up lk da pr)) : Int64) = k_ow lk ln ce da db dr pr wo 0 := (by show _ = wo - -(k_up lk da pr) + 0; rw [Int64.add_zero])
  have hP := Eq.mp (congrArg (fun zz => va_P (dC, dI) vwCl [(g, .inr (0, [.ref so, .ref lo, .ref qpr, .ref qpa, .int (nI dy), .long co, .long zz])), (qpr, .inl (cJ, 30, .inr (.inl (k_np lk ln ce da db dr pr 0)))), (so, .inr (3, [.ref qlk, .ref qln, .ref qhd, .ref qsf, .ref qfp, .ref qfc, .int (nI ly), .int (nI ce), .int da, .int db, .int dr])), (qlk, .inl (cI, 30, .inl lk)), (qln, .inl (cI, 30, .inl ln))] H) eq2) hP
  have hD := Eq.mp (congrArg (fun zz => va_D A [(g, .inr (0, [.ref so, .ref lo, .ref qpr, .ref qpa, .int (nI dy), .long co, .long zz])), (qpr, .inl (cJ, 30, .inr (.inl (k_np lk ln ce da db dr pr 0)))), (so, .inr (3, [.ref qlk, .ref qln, .ref qhd, .ref qsf, .ref qfp, .ref qfc, .int (nI ly), .int (nI ce), .int da, .int db, .int dr])), (qlk, .inl (cI, 30, .inl lk)), (qln, .inl (cI, 30, .inl ln))]) eq2) hD
  have hP : va_P (dC, dI) vwCl [(g, .inr (0, [.ref so, .ref lo, .ref qpr, .ref qpa, .int (nI dy), .long co, .long (k_ow lk ln ce da db dr pr wo 0)])), (qpr, .inl (cJ, 30, .inr (.inl (k_np lk ln ce da db dr pr 0)))), (so, .inr (3, [.ref qlk, .ref qln, .ref qhd, .ref qsf, .ref qfp, .ref qfc, .int (nI ly), .int (nI ce), .int da, .int db, .int dr])), (qlk, .inl (cI, 30, .inl lk)), (qln, .inl (cI, 30, .inl ln))] H := by first | exact hP | simpa only [] using hP
  have hD : va_D A [(g, .inr (0, [.ref so, .ref lo, .ref qpr, .ref qpa, .int (nI dy), .long co, .long (k_ow lk ln ce da db dr pr wo 0)])), (qpr, .inl (cJ, 30, .inr (.inl (k_np lk ln ce da db dr pr 0)))), (so, .inr (3, [.ref qlk, .ref qln, .ref qhd, .ref qsf, .ref qfp, .ref qfc, .int (nI ly), .int (nI ce), .int da, .int db, .int dr])), (qlk, .inl (cI, 30, .inl lk)), (qln, .inl (cI, 30, .inl ln))] := by first | exact hD | simpa only [] using hD
  have eq3 : (nI 0) = kb (k_mv lk ln ce da db dr pr 0 = true) := kb_f (fun h => Bool.false_ne_true h)
  rw [eq3] at hl
  refine x_loop (N := ce) (I := fun i H locs ls => va_P (dC, dI) vwCl [(g, .inr (0, [.ref so, .ref lo, .ref qpr, .ref qpa, .int (nI dy), .long co, .long (k_ow lk ln ce da db dr pr wo i)])), (qpr, .inl (cJ, 30, .inr (.inl (k_np lk ln ce da db dr pr i)))), (so, .inr (3, [.ref qlk, .ref qln, .ref qhd, .ref qsf, .ref qfp, .ref qfc, .int (nI ly), .int (nI ce), .int da, .int db, .int dr])), (qlk, .inl (cI, 30, .inl lk)), (qln, .inl (cI, 30, .inl ln))] H ∧ va_D A [(g, .inr (0, [.ref so, .ref lo, .ref qpr, .ref qpa, .int (nI dy), .long co, .long (k_ow lk ln ce da db dr pr wo i)])), (qpr, .inl (cJ, 30, .inr (.inl (k_np lk ln ce da db dr pr i)))), (so, .inr (3, [.ref qlk, .ref qln, .ref qhd, .ref qsf, .ref qfp, .ref qfc, .int (nI ly), .int (nI ce), .int da, .int db, .int dr])), (qlk, .inl (cI, 30, .inl lk)), (qln, .inl (cI, 30, .inl ln))] ∧ va_S A s.heap H locs ∧ lv_has ls 9 [(0, .ref g), (1, .int (kb (k_mv lk ln ce da db dr pr i = true))), (2, .long (k_fl lk ln ce da db pr i)), (4, .int (nI i))]) (i0 := 0) ?_ (Nat.zero_le _) ⟨hP, hD, hS, lv_sub hl [3, 2, 1, 0] rfl⟩
  intro i hi ih21 H locs ls hI
  obtain ⟨hP, hD, hS, hl⟩ := hI
  refine lv_iload hx hb dG_moveWater_21 (lv_at hl 3 rfl) ?_
  refine lv_aload_n hx hb dG_moveWater_23 rfl (lv_at hl 0 rfl) ?_
  refine va_get (D := (dC, dI)) (ci := 0) (v := .ref so) (C := R_G) (T := T_G) (N := 7) hx hb htw in_G hown hK hP 0 rfl rfl 0 (by decide) (htw _ m_114) (fun _ h9 => h9) rfl dG_moveWater_24 ?_
  refine va_get (D := (dC, dI)) (ci := 3) (v := .int (nI ce)) (C := R_S) (T := T_S) (N := 11) hx hb htw in_S hown hK hP 2 rfl rfl 7 (by decide) (htw _ m_35) (fun _ h9 => h9) rfl dG_moveWater_27 ?_
  refine lv_icmp_ge (tgt := 130) hx hb dG_moveWater_30 (by decide) (fun hc30 => ?_) (fun hc30 => ?_)
  · -- 30 taken
    rw [nI_leI (by omega) (by omega)] at hc30
    obtain rfl : ce = i := by omega
    refine lv_aload_n hx hb dG_moveWater_130 rfl (lv_at hl 0 rfl) ?_
    refine lv_dup hx hb dG_moveWater_131 rfl ?_
    refine va_get (D := (dC, dI)) (ci := 0) (v := .long (k_ow lk ln ce da db dr pr wo ce)) (C := R_G) (T := T_G) (N := 7) hx hb htw in_G hown hK hP 0 rfl rfl 6 (by decide) (htw _ m_124) (fun _ h9 => h9) rfl dG_moveWater_132 ?_
    refine lv_lload_n hx hb dG_moveWater_135 rfl (lv_at hl 2 rfl) ?_
    refine lv_ladd hx hb dG_moveWater_136 ?_
    refine va_put (D := (dC, dI)) (ci := 0) (v := .long ((k_ow lk ln ce da db dr pr wo ce) + (k_fl lk ln ce da db pr ce))) (ty := .long) (C := R_G) (T := T_G) (N := 7) hx hb htw in_G ty_G tok_G nnm_G hown hK hP hD hS 0 rfl rfl 6 (by decide) (htw _ m_124) (fun _ h9 => h9) rfl (by decide +kernel) rfl rfl (Nat.le_of_ble_eq_true rfl) dG_moveWater_137 (fun H locs hP hD hS => ?_)
    have hP : va_P (dC, dI) vwCl [(g, .inr (0, [.ref so, .ref lo, .ref qpr, .ref qpa, .int (nI dy), .long co, .long ((k_ow lk ln ce da db dr pr wo ce) + (k_fl lk ln ce da db pr ce))])), (qpr, .inl (cJ, 30, .inr (.inl (k_np lk ln ce da db dr pr ce)))), (so, .inr (3, [.ref qlk, .ref qln, .ref qhd, .ref qsf, .ref qfp, .ref qfc, .int (nI ly), .int (nI ce), .int da, .int db, .int dr])), (qlk, .inl (cI, 30, .inl lk)), (qln, .inl (cI, 30, .inl ln))] H := hP
    have hD : va_D A [(g, .inr (0, [.ref so, .ref lo, .ref qpr, .ref qpa, .int (nI dy), .long co, .long ((k_ow lk ln ce da db dr pr wo ce) + (k_fl lk ln ce da db pr ce))])), (qpr, .inl (cJ, 30, .inr (.inl (k_np lk ln ce da db dr pr ce)))), (so, .inr (3, [.ref qlk, .ref qln, .ref qhd, .ref qsf, .ref qfp, .ref qfc, .int (nI ly), .int (nI ce), .int da, .int db, .int dr])), (qlk, .inl (cI, 30, .inl lk)), (qln, .inl (cI, 30, .inl ln))] := hD
    refine lv_iload_n hx hb dG_moveWater_140 rfl (lv_at hl 1 rfl) ?_
    have hP : va_P (dC, dI) vwCl [(g, .inr (0, [.ref so, .ref lo, .ref qpr, .ref qpa, .int (nI dy), .long co, .long (k_ow lk ln ce da db dr pr wo ce + k_fl lk ln ce da db pr ce)])), (qpr, .inl (cJ, 30, .inr (.inl (k_np lk ln ce da db dr pr ce)))), (so, .inr (3, [.ref qlk, .ref qln, .ref qhd, .ref qsf, .ref qfp, .ref qfc, .int (nI ly), .int (nI ce), .int da, .int db, .int dr])), (qlk, .inl (cI, 30, .inl lk)), (qln, .inl (cI, 30, .inl ln))] H := by first | exact hP | simpa only [] using hP
    have hD : va_D A [(g, .inr (0, [.ref so, .ref lo, .ref qpr, .ref qpa, .int (nI dy), .long co, .long (k_ow lk ln ce da db dr pr wo ce + k_fl lk ln ce da db pr ce)])), (qpr, .inl (cJ, 30, .inr (.inl (k_np lk ln ce da db dr pr ce)))), (so, .inr (3, [.ref qlk, .ref qln, .ref qhd, .ref qsf, .ref qfp, .ref qfc, .int (nI ly), .int (nI ce), .int da, .int db, .int dr])), (qlk, .inl (cI, 30, .inl lk)), (qln, .inl (cI, 30, .inl ln))] := by first | exact hD | simpa only [] using hD
    exact W.zret (v := kb (k_mv lk ln ce da db dr pr ce = true)) hx hb hr kb_nar (fun t ht hW => ⟨⟨kb (k_mv lk ln ce da db dr pr ce = true), (), rfl, rfl, by rw [ht]; exact hP, va_K.moved hW.alike hK, hD⟩, hS.F ht⟩) hS.2.2 dG_moveWater_141
  · -- 30 not taken
    rw [nI_leI (by omega) (by omega)] at hc30
    refine lv_aload_n hx hb dG_moveWater_33 rfl (lv_at hl 0 rfl) ?_
    refine lv_iload hx hb dG_moveWater_34 (lv_at hl 3 rfl) ?_
    have hPc := hP.sub (ws' := [(g, .inr (0, [.ref so, .ref lo, .ref qpr, .ref qpa, .int (nI dy), .long co, .long (k_ow lk ln ce da db dr pr wo i)])), (qpr, .inl (cJ, 30, .inr (.inl (k_np lk ln ce da db dr pr i)))), (so, .inr (3, [.ref qlk, .ref qln, .ref qhd, .ref qsf, .ref qfp, .ref qfc, .int (nI ly), .int (nI ce), .int da, .int db, .int dr])), (qlk, .inl (cI, 30, .inl lk)), (qln, .inl (cI, 30, .inl ln))]) [0, 1, 2, 3, 4] rfl
    have hDc := hD.sub (ws' := [(g, .inr (0, [.ref so, .ref lo, .ref qpr, .ref qpa, .int (nI dy), .long co, .long (k_ow lk ln ce da db dr pr wo i)])), (qpr, .inl (cJ, 30, .inr (.inl (k_np lk ln ce da db dr pr i)))), (so, .inr (3, [.ref qlk, .ref qln, .ref qhd, .ref qsf, .ref qfp, .ref qfc, .int (nI ly), .int (nI ce), .int da, .int db, .int dr])), (qlk, .inl (cI, 30, .inl lk)), (qln, .inl (cI, 30, .inl ln))]) [0, 1, 2, 3, 4] (by decide) rfl
    have hFc := va_free (wc := [(g, .inr (0, [.ref so, .ref lo, .ref qpr, .ref qpa, .int (nI dy), .long co, .long (k_ow lk ln ce da db dr pr wo i)])), (qpr, .inl (cJ, 30, .inr (.inl (k_np lk ln ce da db dr pr i)))), (so, .inr (3, [.ref qlk, .ref qln, .ref qhd, .ref qsf, .ref qfp, .ref qfc, .int (nI ly), .int (nI ce), .int da, .int db, .int dr])), (qlk, .inl (cI, 30, .inl lk)), (qln, .inl (cI, 30, .inl ln))]) hD hS hA [0, 1, 2, 3, 4] rfl
    refine va_calll (va_runV (As := [.int (nI i)]) (rest := []) ⟨hx, hb, hml, hown, htw⟩ (kG_goingBelow l dC dI cI cJ g so lo qpr qpa qlk qln qhd qsf qfp qfc H.size i dy co (k_ow lk ln ce da db dr pr wo i) (k_np lk ln ce da db dr pr i) ly ce da db dr lk ln (by first | assumption | omega | decide) (by first | assumption | omega | decide)) (cwV 1 htw (wv_good m_217 m_219 ms_2 m_5 m_220) rfl rfl rfl (by decide +kernel) ⟨Nat.le_of_ble_eq_true rfl, Nat.le_of_ble_eq_true rfl⟩) ⟨fun a U g mk q => by obtain ⟨q0, q1, qP, qK, qD⟩ := q; exact ⟨q0, q1, qP, va_K.moved (u := U) (U := U.calling g mk a) (Vm.Alike.refl U.vm) qK, qD⟩, va_recv hK hPc (ci := 0) (q0 := 0) rfl rfl, fun U hU hW => ⟨rfl, by rw [hU], by rw [hU]; exact hPc, va_K.moved hW.alike hK, hDc.weaken (fun _ _ _ _ => trivial)⟩⟩ rfl rfl hl.1 rfl (lv_room (Nat.le_of_ble_eq_true rfl)) dG_moveWater_36 ⟨Nat.le_of_ble_eq_true rfl, Nat.le_of_ble_eq_true rfl⟩) hS (fun q _ h => hFc q h) hFc (fun res_ u_ t H1 locs ht hvm hw hB hz1 hk1 hS => ?_)
    obtain ⟨hP1, hK1, hD1⟩ := hB
    rw [ht] at hP1
    obtain ⟨hP, hD⟩ := va_join (wr := []) (w1 := [(g, .inr (0, [.ref so, .ref lo, .ref qpr, .ref qpa, .int (nI dy), .long co, .long (k_ow lk ln ce da db dr pr wo i)])), (qpr, .inl (cJ, 30, .inr (.inl (k_np lk ln ce da db dr pr i)))), (so, .inr (3, [.ref qlk, .ref qln, .ref qhd, .ref qsf, .ref qfp, .ref qfc, .int (nI ly), .int (nI ce), .int da, .int db, .int dr])), (qlk, .inl (cI, 30, .inl lk)), (qln, .inl (cI, 30, .inl ln))]) hP hD [0, 1, 2, 3, 4] [] rfl rfl (by decide) (by decide) hk1 hFc hP1 hD1
    generalize H1 = H at hP hS ⊢
    have hP : va_P (dC, dI) vwCl [(g, .inr (0, [.ref so, .ref lo, .ref qpr, .ref qpa, .int (nI dy), .long co, .long (k_ow lk ln ce da db dr pr wo i)])), (qpr, .inl (cJ, 30, .inr (.inl (k_np lk ln ce da db dr pr i)))), (so, .inr (3, [.ref qlk, .ref qln, .ref qhd, .ref qsf, .ref qfp, .ref qfc, .int (nI ly), .int (nI ce), .int da, .int db, .int dr])), (qlk, .inl (cI, 30, .inl lk)), (qln, .inl (cI, 30, .inl ln))] H := hP
    have hD : va_D A [(g, .inr (0, [.ref so, .ref lo, .ref qpr, .ref qpa, .int (nI dy), .long co, .long (k_ow lk ln ce da db dr pr wo i)])), (qpr, .inl (cJ, 30, .inr (.inl (k_np lk ln ce da db dr pr i)))), (so, .inr (3, [.ref qlk, .ref qln, .ref qhd, .ref qsf, .ref qfp, .ref qfc, .int (nI ly), .int (nI ce), .int da, .int db, .int dr])), (qlk, .inl (cI, 30, .inl lk)), (qln, .inl (cI, 30, .inl ln))] := hD
    clear hPc hDc hFc hP1 hD1 hK1 hk1 hz1 hvm ht
    obtain rfl : k_go lk ln ce db (k_np lk ln ce da db dr pr i) i = res_ := hw.symm
    refine lv_topl (fun kv ekv => ?_)
    obtain rfl : k_fl lk ln ce da db pr (i + 1) = kv := (ekv.trans (k_go_np)).symm
    refine lv_lstore (lv' := [(5, .long (k_fl lk ln ce da db pr (i + 1))), (0, .ref g), (1, .int (kb (k_mv lk ln ce da db dr pr i = true))), (2, .long (k_fl lk ln ce da db pr i)), (4, .int (nI i))]) hx hb dG_moveWater_39 hl (by decide) rfl (fun ls hl => ?_)
    refine lv_aload_n hx hb dG_moveWater_41 rfl (lv_at hl 1 rfl) ?_
    refine va_get (D := (dC, dI)) (ci := 0) (v := .ref qpr) (C := R_G) (T := T_G) (N := 7) hx hb htw in_G hown hK hP 0 rfl rfl 2 (by decide) (htw _ m_116) (fun _ h9 => h9) rfl dG_moveWater_42 ?_
    refine lv_iload hx hb dG_moveWater_45 (lv_at hl 4 rfl) ?_
    refine xa_lald hx hb hK hP 1 1 rfl rfl (i := i) (by omega) (by decide) dG_moveWater_47 ?_
    refine lv_aload_n hx hb dG_moveWater_48 rfl (lv_at hl 1 rfl) ?_
    refine va_get (D := (dC, dI)) (ci := 0) (v := .ref so) (C := R_G) (T := T_G) (N := 7) hx hb htw in_G hown hK hP 0 rfl rfl 0 (by decide) (htw _ m_114) (fun _ h9 => h9) rfl dG_moveWater_49 ?_
    refine va_get (D := (dC, dI)) (ci := 3) (v := .int dr) (C := R_S) (T := T_S) (N := 11) hx hb htw in_S hown hK hP 2 rfl rfl 10 (by decide) (htw _ m_42) (fun _ h9 => h9) rfl dG_moveWater_52 ?_
    refine lv_i2l (v := dr.toInt64) hx hb dG_moveWater_55 rfl ?_
    refine lv_lmul hx hb dG_moveWater_56 ?_
    refine lv_ldc2 (v := 1000) hx hb hown (htw _ m_216) dG_moveWater_57 ?_
    refine lv_ldiv hx hb dG_moveWater_60 (by decide) ?_
    refine lv_topl (fun kv ekv => ?_)
    obtain rfl : k_dr dr pr i = kv := (ekv.trans (by rw [k_np_at (Nat.le_refl i)]; rfl)).symm
    refine lv_lstore (lv' := [(7, .long (k_dr dr pr i)), (5, .long (k_fl lk ln ce da db pr (i + 1))), (0, .ref g), (1, .int (kb (k_mv lk ln ce da db dr pr i = true))), (2, .long (k_fl lk ln ce da db pr i)), (4, .int (nI i))]) hx hb dG_moveWater_61 hl (by decide) rfl (fun ls hl => ?_)
    refine x_join (pc2 := 92) (v0 := (kb (k_mv lk ln ce da db dr pr (i + 1) = true))) (nL := 9) (lv := [(7, .long (k_dr dr pr i)), (5, .long (k_fl lk ln ce da db pr (i + 1))), (0, .ref g), (1, .int (kb (k_mv lk ln ce da db dr pr i = true))), (2, .long (k_fl lk ln ce da db pr i)), (4, .int (nI i))]) (st2 := []) ?_ ?_
    · intro ls hl
      refine lv_istore_n (lv' := [(1, .int (kb (k_mv lk ln ce da db dr pr (i + 1) = true))), (7, .long (k_dr dr pr i)), (5, .long (k_fl lk ln ce da db pr (i + 1))), (0, .ref g), (2, .long (k_fl lk ln ce da db pr i)), (4, .int (nI i))]) hx hb dG_moveWater_92 rfl hl (by decide) rfl (fun ls hl => ?_)
      refine lv_aload_n hx hb dG_moveWater_93 rfl (lv_at hl 3 rfl) ?_
      refine va_get (D := (dC, dI)) (ci := 0) (v := .ref qpr) (C := R_G) (T := T_G) (N := 7) hx hb htw in_G hown hK hP 0 rfl rfl 2 (by decide) (htw _ m_116) (fun _ h9 => h9) rfl dG_moveWater_94 ?_
      refine lv_iload hx hb dG_moveWater_97 (lv_at hl 5 rfl) ?_
      refine lv_dup2_11 hx hb dG_moveWater_99 rfl rfl ?_
      refine xa_lald hx hb hK hP 1 1 rfl rfl (i := i) (by omega) (by decide) dG_moveWater_100 ?_
      refine lv_lload_n hx hb dG_moveWater_101 rfl (lv_at hl 4 rfl) ?_
      refine lv_lload hx hb dG_moveWater_102 (lv_at hl 2 rfl) ?_
      refine lv_lsub hx hb dG_moveWater_104 ?_
      refine lv_lload hx hb dG_moveWater_105 (lv_at hl 1 rfl) ?_
      refine lv_lsub hx hb dG_moveWater_107 ?_
      refine lv_ladd hx hb dG_moveWater_108 ?_
      refine xa_last hx hb hK hP hD hS 1 1 rfl rfl (i := i) (by omega) (by decide) dG_moveWater_109 (fun H locs hP hD hS => ?_)
      have hP : va_P (dC, dI) vwCl [(g, .inr (0, [.ref so, .ref lo, .ref qpr, .ref qpa, .int (nI dy), .long co, .long (k_ow lk ln ce da db dr pr wo i)])), (qpr, .inl (cJ, 30, .inr (.inl (vp_updL (k_np lk ln ce da db dr pr i) i (((k_np lk ln ce da db dr pr i) i) + (((k_fl lk ln ce da db pr i) - (k_fl lk ln ce da db pr (i + 1))) - (k_dr dr pr i))))))), (so, .inr (3, [.ref qlk, .ref qln, .ref qhd, .ref qsf, .ref qfp, .ref qfc, .int (nI ly), .int (nI ce), .int da, .int db, .int dr])), (qlk, .inl (cI, 30, .inl lk)), (qln, .inl (cI, 30, .inl ln))] H := hP
      have hD : va_D A [(g, .inr (0, [.ref so, .ref lo, .ref qpr, .ref qpa, .int (nI dy), .long co, .long (k_ow lk ln ce da db dr pr wo i)])), (qpr, .inl (cJ, 30, .inr (.inl (vp_updL (k_np lk ln ce da db dr pr i) i (((k_np lk ln ce da db dr pr i) i) + (((k_fl lk ln ce da db pr i) - (k_fl lk ln ce da db pr (i + 1))) - (k_dr dr pr i))))))), (so, .inr (3, [.ref qlk, .ref qln, .ref qhd, .ref qsf, .ref qfp, .ref qfc, .int (nI ly), .int (nI ce), .int da, .int db, .int dr])), (qlk, .inl (cI, 30, .inl lk)), (qln, .inl (cI, 30, .inl ln))] := hD
      refine lv_aload_n hx hb dG_moveWater_110 rfl (lv_at hl 3 rfl) ?_
      refine lv_dup hx hb dG_moveWater_111 rfl ?_
      refine va_get (D := (dC, dI)) (ci := 0) (v := .long (k_ow lk ln ce da db dr pr wo i)) (C := R_G) (T := T_G) (N := 7) hx hb htw in_G hown hK hP 0 rfl rfl 6 (by decide) (htw _ m_124) (fun _ h9 => h9) rfl dG_moveWater_112 ?_
      refine lv_lload hx hb dG_moveWater_115 (lv_at hl 1 rfl) ?_
      refine lv_ladd hx hb dG_moveWater_117 ?_
      refine va_put (D := (dC, dI)) (ci := 0) (v := .long ((k_ow lk ln ce da db dr pr wo i) + (k_dr dr pr i))) (ty := .long) (C := R_G) (T := T_G) (N := 7) hx hb htw in_G ty_G tok_G nnm_G hown hK hP hD hS 0 rfl rfl 6 (by decide) (htw _ m_124) (fun _ h9 => h9) rfl (by decide +kernel) rfl rfl (Nat.le_of_ble_eq_true rfl) dG_moveWater_118 (fun H locs hP hD hS => ?_)
      have hP : va_P (dC, dI) vwCl [(g, .inr (0, [.ref so, .ref lo, .ref qpr, .ref qpa, .int (nI dy), .long co, .long ((k_ow lk ln ce da db dr pr wo i) + (k_dr dr pr i))])), (qpr, .inl (cJ, 30, .inr (.inl (vp_updL (k_np lk ln ce da db dr pr i) i (((k_np lk ln ce da db dr pr i) i) + (((k_fl lk ln ce da db pr i) - (k_fl lk ln ce da db pr (i + 1))) - (k_dr dr pr i))))))), (so, .inr (3, [.ref qlk, .ref qln, .ref qhd, .ref qsf, .ref qfp, .ref qfc, .int (nI ly), .int (nI ce), .int da, .int db, .int dr])), (qlk, .inl (cI, 30, .inl lk)), (qln, .inl (cI, 30, .inl ln))] H := hP
      have hD : va_D A [(g, .inr (0, [.ref so, .ref lo, .ref qpr, .ref qpa, .int (nI dy), .long co, .long ((k_ow lk ln ce da db dr pr wo i) + (k_dr dr pr i))])), (qpr, .inl (cJ, 30, .inr (.inl (vp_updL (k_np lk ln ce da db dr pr i) i (((k_np lk ln ce da db dr pr i) i) + (((k_fl lk ln ce da db pr i) - (k_fl lk ln ce da db pr (i + 1))) - (k_dr dr pr i))))))), (so, .inr (3, [.ref qlk, .ref qln, .ref qhd, .ref qsf, .ref qfp, .ref qfc, .int (nI ly), .int (nI ce), .int da, .int db, .int dr])), (qlk, .inl (cI, 30, .inl lk)), (qln, .inl (cI, 30, .inl ln))] := hD
      refine lv_lload hx hb dG_moveWater_121 (lv_at hl 2 rfl) ?_
      refine lv_lstore_n (lv' := [(2, .long (k_fl lk ln ce da db pr (i + 1))), (1, .int (kb (k_mv lk ln ce da db dr pr (i + 1) = true))), (7, .long (k_dr dr pr i)), (5, .long (k_fl lk ln ce da db pr (i + 1))), (0, .ref g), (4, .int (nI i))]) hx hb dG_moveWater_123 rfl hl (by decide) rfl (fun ls hl => ?_)
      refine lv_iinc (v := nI (i + 1)) (lv' := [(4, .int (nI (i + 1))), (2, .long (k_fl lk ln ce da db pr (i + 1))), (1, .int (kb (k_mv lk ln ce da db dr pr (i + 1) = true))), (7, .long (k_dr dr pr i)), (5, .long (k_fl lk ln ce da db pr (i + 1))), (0, .ref g)]) hx hb dG_moveWater_124 hl (k := 5) rfl (nI_1 _) (by decide) rfl (fun ls hl => ?_)
      refine lv_goto (tgt := 21) hx hb dG_moveWater_127 (by decide) ?_
      have eq5 : (vp_updL (k_np lk ln ce da db dr pr i) i (((k_np lk ln ce da db dr pr i) i) + (((k_fl lk ln ce da db pr i) - (k_fl lk ln ce da db pr (i + 1))) - (k_dr dr pr i))) : Nat → Int64) = k_np lk ln ce da db dr pr (i + 1) := (by rw [k_np_at (Nat.le_refl i)]; exact k_np_s)
      have hP := Eq.mp (congrArg (fun zz => va_P (dC, dI) vwCl [(g, .inr (0, [.ref so, .ref lo, .ref qpr, .ref qpa, .int (nI dy), .long co, .long ((k_ow lk ln ce da db dr pr wo i) + (k_dr dr pr i))])), (qpr, .inl (cJ, 30, .inr (.inl zz))), (so, .inr (3, [.ref qlk, .ref qln, .ref qhd, .ref qsf, .ref qfp, .ref qfc, .int (nI ly), .int (nI ce), .int da, .int db, .int dr])), (qlk, .inl (cI, 30, .inl lk)), (qln, .inl (cI, 30, .inl ln))] H) eq5) hP
      have hD := Eq.mp (congrArg (fun zz => va_D A [(g, .inr (0, [.ref so, .ref lo, .ref qpr, .ref qpa, .int (nI dy), .long co, .long ((k_ow lk ln ce da db dr pr wo i) + (k_dr dr pr i))])), (qpr, .inl (cJ, 30, .inr (.inl zz))), (so, .inr (3, [.ref qlk, .ref qln, .ref qhd, .ref qsf, .ref qfp, .ref qfc, .int (nI ly), .int (nI ce), .int da, .int db, .int dr])), (qlk, .inl (cI, 30, .inl lk)), (qln, .inl (cI, 30, .inl ln))]) eq5) hD
      have eq6 : ((k_ow lk ln ce da db dr pr wo i) + (k_dr dr pr i) : Int64) = k_ow lk ln ce da db dr pr wo (i + 1) := k_ow_s
      have hP := Eq.mp (congrArg (fun zz => va_P (dC, dI) vwCl [(g, .inr (0, [.ref so, .ref lo, .ref qpr, .ref qpa, .int (nI dy), .long co, .long zz])), (qpr, .inl (cJ, 30, .inr (.inl (k_np lk ln ce da db dr pr (i + 1))))), (so, .inr (3, [.ref qlk, .ref qln, .ref qhd, .ref qsf, .ref qfp, .ref qfc, .int (nI ly), .int (nI ce), .int da, .int db, .int dr])), (qlk, .inl (cI, 30, .inl lk)), (qln, .inl (cI, 30, .inl ln))] H) eq6) hP
      have hD := Eq.mp (congrArg (fun zz => va_D A [(g, .inr (0, [.ref so, .ref lo, .ref qpr, .ref qpa, .int (nI dy), .long co, .long zz])), (qpr, .inl (cJ, 30, .inr (.inl (k_np lk ln ce da db dr pr (i + 1))))), (so, .inr (3, [.ref qlk, .ref qln, .ref qhd, .ref qsf, .ref qfp, .ref qfc, .int (nI ly), .int (nI ce), .int da, .int db, .int dr])), (qlk, .inl (cI, 30, .inl lk)), (qln, .inl (cI, 30, .inl ln))]) eq6) hD
      have hP : va_P (dC, dI) vwCl [(g, .inr (0, [.ref so, .ref lo, .ref qpr, .ref qpa, .int (nI dy), .long co, .long (k_ow lk ln ce da db dr pr wo (i + 1))])), (qpr, .inl (cJ, 30, .inr (.inl (k_np lk ln ce da db dr pr (i + 1))))), (so, .inr (3, [.ref qlk, .ref qln, .ref qhd, .ref qsf, .ref qfp, .ref qfc, .int (nI ly), .int (nI ce), .int da, .int db, .int dr])), (qlk, .inl (cI, 30, .inl lk)), (qln, .inl (cI, 30, .inl ln))] H := by first | exact hP | simpa only [] using hP
      have hD : va_D A [(g, .inr (0, [.ref so, .ref lo, .ref qpr, .ref qpa, .int (nI dy), .long co, .long (k_ow lk ln ce da db dr pr wo (i + 1))])), (qpr, .inl (cJ, 30, .inr (.inl (k_np lk ln ce da db dr pr (i + 1))))), (so, .inr (3, [.ref qlk, .ref qln, .ref qhd, .ref qsf, .ref qfp, .ref qfc, .int (nI ly), .int (nI ce), .int da, .int db, .int dr])), (qlk, .inl (cI, 30, .inl lk)), (qln, .inl (cI, 30, .inl ln))] := by first | exact hD | simpa only [] using hD
      exact ih21 (by omega) _ _ _ ⟨hP, hD, hS, lv_sub hl [5, 2, 1, 0] rfl⟩
    · intro J92
      refine lv_iload_n hx hb dG_moveWater_63 rfl (lv_at hl 3 rfl) ?_
      refine lv_if_ne (tgt := 87) hx hb dG_moveWater_64 (by decide) (fun hc64 => ?_) (fun hc64 => ?_)
      · -- 64 taken
        rw [kb_eq0] at hc64
        refine lv_iconst (v := nI 1) hx hb dG_moveWater_87 (by decide) ?_
        refine lv_goto (tgt := 92) hx hb dG_moveWater_88 (by decide) ?_
        refine lv_topi (fun kv ekv => ?_)
        obtain rfl : kv = kb (k_mv lk ln ce da db dr pr (i + 1) = true) := ekv.trans (by first | exact kb_t (k_mv1 hc64) | exact kb_t (k_mv2 hc70) | exact kb_t (k_mv3 hc77) | exact kb_f (k_mv5 hc64 hc70 hc77 hc84) | exact kb_t (k_mv4 hc84))
        exact J92 ls (lv_sub hl [0, 1, 2, 3, 4, 5] rfl)
      · -- 64 not taken
        rw [kb_eq0] at hc64
        refine lv_lload_n hx hb dG_moveWater_67 rfl (lv_at hl 4 rfl) ?_
        refine lv_lconst (v := 0) hx hb dG_moveWater_68 (by decide) ?_
        refine W.lcmp hx hb dG_moveWater_69 ?_
        refine lv_if_ne (tgt := 87) hx hb dG_moveWater_70 (by decide) (fun hc70 => ?_) (fun hc70 => ?_)
        · -- 70 taken
          rw [lg_cmp_eq] at hc70
          refine lv_iconst (v := nI 1) hx hb dG_moveWater_87 (by decide) ?_
          refine lv_goto (tgt := 92) hx hb dG_moveWater_88 (by decide) ?_
          refine lv_topi (fun kv ekv => ?_)
          obtain rfl : kv = kb (k_mv lk ln ce da db dr pr (i + 1) = true) := ekv.trans (by first | exact kb_t (k_mv1 hc64) | exact kb_t (k_mv2 hc70) | exact kb_t (k_mv3 hc77) | exact kb_f (k_mv5 hc64 hc70 hc77 hc84) | exact kb_t (k_mv4 hc84))
          exact J92 ls (lv_sub hl [0, 1, 2, 3, 4, 5] rfl)
        · -- 70 not taken
          rw [lg_cmp_eq] at hc70
          refine lv_lload hx hb dG_moveWater_73 (lv_at hl 1 rfl) ?_
          refine lv_lconst (v := 0) hx hb dG_moveWater_75 (by decide) ?_
          refine W.lcmp hx hb dG_moveWater_76 ?_
          refine lv_if_ne (tgt := 87) hx hb dG_moveWater_77 (by decide) (fun hc77 => ?_) (fun hc77 => ?_)
          · -- 77 taken
            rw [lg_cmp_eq] at hc77
            refine lv_iconst (v := nI 1) hx hb dG_moveWater_87 (by decide) ?_
            refine lv_goto (tgt := 92) hx hb dG_moveWater_88 (by decide) ?_
            refine lv_topi (fun kv ekv => ?_)
            obtain rfl : kv = kb (k_mv lk ln ce da db dr pr (i + 1) = true) := ekv.trans (by first | exact kb_t (k_mv1 hc64) | exact kb_t (k_mv2 hc70) | exact kb_t (k_mv3 hc77) | exact kb_f (k_mv5 hc64 hc70 hc77 hc84) | exact kb_t (k_mv4 hc84))
            exact J92 ls (lv_sub hl [0, 1, 2, 3, 4, 5] rfl)
          · -- 77 not taken
            rw [lg_cmp_eq] at hc77
            refine lv_lload hx hb dG_moveWater_80 (lv_at hl 0 rfl) ?_
            refine lv_lconst (v := 0) hx hb dG_moveWater_82 (by decide) ?_
            refine W.lcmp hx hb dG_moveWater_83 ?_
            refine lv_if_eq (tgt := 91) hx hb dG_moveWater_84 (by decide) (fun hc84 => ?_) (fun hc84 => ?_)
            · -- 84 taken
              rw [lg_cmp_eq] at hc84
              refine lv_iconst (v := nI 0) hx hb dG_moveWater_91 (by decide) ?_
              refine lv_topi (fun kv ekv => ?_)
              obtain rfl : kv = kb (k_mv lk ln ce da db dr pr (i + 1) = true) := ekv.trans (by first | exact kb_t (k_mv1 hc64) | exact kb_t (k_mv2 hc70) | exact kb_t (k_mv3 hc77) | exact kb_f (k_mv5 hc64 hc70 hc77 hc84) | exact kb_t (k_mv4 hc84))
              exact J92 ls (lv_sub hl [0, 1, 2, 3, 4, 5] rfl)
            · -- 84 not taken
              rw [lg_cmp_eq] at hc84
              refine lv_iconst (v := nI 1) hx hb dG_moveWater_87 (by decide) ?_
              refine lv_goto (tgt := 92) hx hb dG_moveWater_88 (by decide) ?_
              refine lv_topi (fun kv ekv => ?_)
              obtain rfl : kv = kb (k_mv lk ln ce da db dr pr (i + 1) = true) := ekv.trans (by first | exact kb_t (k_mv1 hc64) | exact kb_t (k_mv2 hc70) | exact kb_t (k_mv3 hc77) | exact kb_f (k_mv5 hc64 hc70 hc77 hc84) | exact kb_t (k_mv4 hc84))
              exact J92 ls (lv_sub hl [0, 1, 2, 3, 4, 5] rfl)
set_option maxHeartbeats 4000000 in
set_option maxRecDepth 100000 in
theorem kG_raisePasts (l : Launch) (dC : Nat → ClassId) (dI : Nat → Nat → Nat) (cI cJ : ClassId) (g so lo qpr qpa qlk qln qhd qsf qfp qfc : Nat) (sz : Nat) (dy : Nat) (co : Int64) (wo : Int64) (pr : Nat → Int64) (pa : Nat → Int64) (ly : Nat) (ce : Nat) (da : Int32) (db : Int32) (dr : Int32) (hce : ce ≤ 30) : Met l yG_raisePasts wG_raisePasts ({ frames := 1, cells := 0, slots := 0, locals := 21 }) (va_Pc [.ref g] (fun U => U.heap.size = sz ∧ va_P (dC, dI) vwCl [(g, .inr (0, [.ref so, .ref lo, .ref qpr, .ref qpa, .int (nI dy), .long co, .long wo])), (qpr, .inl (cJ, 30, .inr (.inl pr))), (qpa, .inl (cJ, 30, .inr (.inl pa))), (so, .inr (3, [.ref qlk, .ref qln, .ref qhd, .ref qsf, .ref qfp, .ref qfc, .int (nI ly), .int (nI ce), .int da, .int db, .int dr]))] U.heap ∧ va_K (dC, dI) vwCl [(cI, .int), (cJ, .long)] U ∧ va_D (fun _ => True) [(g, .inr (0, [.ref so, .ref lo, .ref qpr, .ref qpa, .int (nI dy), .long co, .long wo])), (qpr, .inl (cJ, 30, .inr (.inl pr))), (qpa, .inl (cJ, 30, .inr (.inl pa))), (so, .inr (3, [.ref qlk, .ref qln, .ref qhd, .ref qsf, .ref qfp, .ref qfc, .int (nI ly), .int (nI ce), .int da, .int db, .int dr]))])) (va_Qv (fun (_ : Unit) => True) (fun _ t => va_P (dC, dI) vwCl [(g, .inr (0, [.ref so, .ref lo, .ref qpr, .ref qpa, .int (nI dy), .long co, .long wo])), (qpr, .inl (cJ, 30, .inr (.inl pr))), (qpa, .inl (cJ, 30, .inr (.inl (k_rs co pr pa ce)))), (so, .inr (3, [.ref qlk, .ref qln, .ref qhd, .ref qsf, .ref qfp, .ref qfc, .int (nI ly), .int (nI ce), .int da, .int db, .int dr]))] t.heap ∧ va_K (dC, dI) vwCl [(cI, .int), (cJ, .long)] t ∧ va_D (va_A [(g, .inr (0, [.ref so, .ref lo, .ref qpr, .ref qpa, .int (nI dy), .long co, .long wo])), (qpr, .inl (cJ, 30, .inr (.inl pr))), (qpa, .inl (cJ, 30, .inr (.inl pa))), (so, .inr (3, [.ref qlk, .ref qln, .ref qhd, .ref qsf, .ref qfp, .ref qfc, .int (nI ly), .int (nI ce), .int da, .int db, .int dr]))] sz) [(g, .inr (0, [.ref so, .ref lo, .ref qpr, .ref qpa, .int (nI dy), .long co, .long wo])), (qpr, .inl (cJ, 30, .inr (.inl pr))), (qpa, .inl (cJ, 30, .inr (.inl (k_rs co pr pa ce)))), (so, .inr (3, [.ref qlk, .ref qln, .ref qhd, .ref qsf, .ref qfp, .ref qfc, .int (nI ly), .int (nI ce), .int da, .int db, .int dr]))]) (va_A [(g, .inr (0, [.ref so, .ref lo, .ref qpr, .ref qpa, .int (nI dy), .long co, .long wo])), (qpr, .inl (cJ, 30, .inr (.inl pr))), (qpa, .inl (cJ, 30, .inr (.inl pa))), (so, .inr (3, [.ref qlk, .ref qln, .ref qhd, .ref qsf, .ref qfp, .ref qfc, .int (nI ly), .int (nI ce), .int da, .int db, .int dr]))] sz)) 0 0 (va_A [(g, .inr (0, [.ref so, .ref lo, .ref qpr, .ref qpa, .int (nI dy), .long co, .long wo])), (qpr, .inl (cJ, 30, .inr (.inl pr))), (qpa, .inl (cJ, 30, .inr (.inl pa))), (so, .inr (3, [.ref qlk, .ref qln, .ref qhd, .ref qsf, .ref qfp, .ref qfc, .int (nI ly), .int (nI ce), .int da, .int db, .int dr]))] sz) := by
  refine Met.ofW (cc := bG_raisePasts) (maxL := 2) (ret := none) (by decide) rfl ?_
  intro p e s m args below meth c s₁ B hml hv
  obtain ⟨rfl, hsz, hP, hK, hD0⟩ := hv
  have hx := B.exec
  have hb := B.bytes
  have hr := B.returns
  have hts := atoms_spec (ws := wG_raisePasts) B.pre
  have hown : s.vm.findClass R_G = some m.cls := findClass_of_methodNamed B.named
  have htw : ∀ w ∈ WA, w.before _ s = true := fun w h => hts w (List.mem_cons_of_mem _ h)
  clear hts
  have hlocks := B.notSynchronized
  subst hsz
  have hD := hD0.self (sz := s.heap.size)
  generalize hAe : va_A [(g, .inr (0, [.ref so, .ref lo, .ref qpr, .ref qpa, .int (nI dy), .long co, .long wo])), (qpr, .inl (cJ, 30, .inr (.inl pr))), (qpa, .inl (cJ, 30, .inr (.inl pa))), (so, .inr (3, [.ref qlk, .ref qln, .ref qhd, .ref qsf, .ref qfp, .ref qfc, .int (nI ly), .int (nI ce), .int da, .int db, .int dr]))] s.heap.size = A at hD ⊢
  have hA : ∀ q : Nat, s.heap.size ≤ q → A q := fun q h => by rw [← hAe]; exact Or.inr h
  clear hAe hD0
  have hS : va_S A s.heap s.heap [] := va_S.rf
  have hP : va_P (dC, dI) vwCl [(g, .inr (0, [.ref so, .ref lo, .ref qpr, .ref qpa, .int (nI dy), .long co, .long wo])), (qpr, .inl (cJ, 30, .inr (.inl pr))), (qpa, .inl (cJ, 30, .inr (.inl pa))), (so, .inr (3, [.ref qlk, .ref qln, .ref qhd, .ref qsf, .ref qfp, .ref qfc, .int (nI ly), .int (nI ce), .int da, .int db, .int dr]))] s.heap := hP
  have hl := lv_entry ([.ref g]) (n := 2) (Nat.le_of_ble_eq_true rfl)
  rw [lg_entry_eq]
  generalize (lg_sl ([.ref g]) ++ List.replicate (2 - (lg_sl ([.ref g])).length) Slot.unset).toArray = ls at hl ⊢
  have hl : lv_has ls 2 [(0, .ref g)] := hl
  refine lv_iconst (v := nI 0) hx hb dG_raisePasts_0 (by decide) ?_
  refine lv_istore_n (lv' := [(1, .int (nI 0)), (0, .ref g)]) hx hb dG_raisePasts_1 rfl hl (by decide) rfl (fun ls hl => ?_)
  -- the loop at 2
  have eq1 : (pa : Nat → Int64) = k_rs co pr pa 0 := k_rs_0
  have hP := Eq.mp (congrArg (fun zz => va_P (dC, dI) vwCl [(g, .inr (0, [.ref so, .ref lo, .ref qpr, .ref qpa, .int (nI dy), .long co, .long wo])), (qpr, .inl (cJ, 30, .inr (.inl pr))), (qpa, .inl (cJ, 30, .inr (.inl zz))), (so, .inr (3, [.ref qlk, .ref qln, .ref qhd, .ref qsf, .ref qfp, .ref qfc, .int (nI ly), .int (nI ce), .int da, .int db, .int dr]))] s.heap) eq1) hP
  have hD := Eq.mp (congrArg (fun zz => va_D A [(g, .inr (0, [.ref so, .ref lo, .ref qpr, .ref qpa, .int (nI dy), .long co, .long wo])), (qpr, .inl (cJ, 30, .inr (.inl pr))), (qpa, .inl (cJ, 30, .inr (.inl zz))), (so, .inr (3, [.ref qlk, .ref qln, .ref qhd, .ref qsf, .ref qfp, .ref qfc, .int (nI ly), .int (nI ce), .int da, .int db, .int dr]))]) eq1) hD
  have hP : va_P (dC, dI) vwCl [(g, .inr (0, [.ref so, .ref lo, .ref qpr, .ref qpa, .int (nI dy), .long co, .long wo])), (qpr, .inl (cJ, 30, .inr (.inl pr))), (qpa, .inl (cJ, 30, .inr (.inl (k_rs co pr pa 0)))), (so, .inr (3, [.ref qlk, .ref qln, .ref qhd, .ref qsf, .ref qfp, .ref qfc, .int (nI ly), .int (nI ce), .int da, .int db, .int dr]))] s.heap := by first | exact hP | simpa only [] using hP
  have hD : va_D A [(g, .inr (0, [.ref so, .ref lo, .ref qpr, .ref qpa, .int (nI dy), .long co, .long wo])), (qpr, .inl (cJ, 30, .inr (.inl pr))), (qpa, .inl (cJ, 30, .inr (.inl (k_rs co pr pa 0)))), (so, .inr (3, [.ref qlk, .ref qln, .ref qhd, .ref qsf, .ref qfp, .ref qfc, .int (nI ly), .int (nI ce), .int da, .int db, .int dr]))] := by first | exact hD | simpa only [] using hD
  refine x_loop (N := ce) (I := fun i H locs ls => va_P (dC, dI) vwCl [(g, .inr (0, [.ref so, .ref lo, .ref qpr, .ref qpa, .int (nI dy), .long co, .long wo])), (qpr, .inl (cJ, 30, .inr (.inl pr))), (qpa, .inl (cJ, 30, .inr (.inl (k_rs co pr pa i)))), (so, .inr (3, [.ref qlk, .ref qln, .ref qhd, .ref qsf, .ref qfp, .ref qfc, .int (nI ly), .int (nI ce), .int da, .int db, .int dr]))] H ∧ va_D A [(g, .inr (0, [.ref so, .ref lo, .ref qpr, .ref qpa, .int (nI dy), .long co, .long wo])), (qpr, .inl (cJ, 30, .inr (.inl pr))), (qpa, .inl (cJ, 30, .inr (.inl (k_rs co pr pa i)))), (so, .inr (3, [.ref qlk, .ref qln, .ref qhd, .ref qsf, .ref qfp, .ref qfc, .int (nI ly), .int (nI ce), .int da, .int db, .int dr]))] ∧ va_S A s.heap H locs ∧ lv_has ls 2 [(0, .ref g), (1, .int (nI i))]) (i0 := 0) ?_ (Nat.zero_le _) ⟨hP, hD, hS, lv_sub hl [1, 0] rfl⟩
  intro i hi ih2 H locs ls hI
  obtain ⟨hP, hD, hS, hl⟩ := hI
  refine lv_iload_n hx hb dG_raisePasts_2 rfl (lv_at hl 1 rfl) ?_
  refine lv_aload_n hx hb dG_raisePasts_3 rfl (lv_at hl 0 rfl) ?_
  refine va_get (D := (dC, dI)) (ci := 0) (v := .ref so) (C := R_G) (T := T_G) (N := 7) hx hb htw in_G hown hK hP 0 rfl rfl 0 (by decide) (htw _ m_114) (fun _ h9 => h9) rfl dG_raisePasts_4 ?_
  refine va_get (D := (dC, dI)) (ci := 3) (v := .int (nI ce)) (C := R_S) (T := T_S) (N := 11) hx hb htw in_S hown hK hP 3 rfl rfl 7 (by decide) (htw _ m_35) (fun _ h9 => h9) rfl dG_raisePasts_7 ?_
  refine lv_icmp_ge (tgt := 39) hx hb dG_raisePasts_10 (by decide) (fun hc10 => ?_) (fun hc10 => ?_)
  · -- 10 taken
    rw [nI_leI (by omega) (by omega)] at hc10
    obtain rfl : ce = i := by omega
    have hP : va_P (dC, dI) vwCl [(g, .inr (0, [.ref so, .ref lo, .ref qpr, .ref qpa, .int (nI dy), .long co, .long wo])), (qpr, .inl (cJ, 30, .inr (.inl pr))), (qpa, .inl (cJ, 30, .inr (.inl (k_rs co pr pa ce)))), (so, .inr (3, [.ref qlk, .ref qln, .ref qhd, .ref qsf, .ref qfp, .ref qfc, .int (nI ly), .int (nI ce), .int da, .int db, .int dr]))] H := by first | exact hP | simpa only [] using hP
    have hD : va_D A [(g, .inr (0, [.ref so, .ref lo, .ref qpr, .ref qpa, .int (nI dy), .long co, .long wo])), (qpr, .inl (cJ, 30, .inr (.inl pr))), (qpa, .inl (cJ, 30, .inr (.inl (k_rs co pr pa ce)))), (so, .inr (3, [.ref qlk, .ref qln, .ref qhd, .ref qsf, .ref qfp, .ref qfc, .int (nI ly), .int (nI ce), .int da, .int db, .int dr]))] := by first | exact hD | simpa only [] using hD
    exact W.vret hx hb hr (fun t ht hW => ⟨⟨(), rfl, trivial, by rw [ht]; exact hP, va_K.moved hW.alike hK, hD⟩, hS.F ht⟩) hS.2.2 dG_raisePasts_39
  · -- 10 not taken
    rw [nI_leI (by omega) (by omega)] at hc10
    refine lv_aload_n hx hb dG_raisePasts_13 rfl (lv_at hl 0 rfl) ?_
    refine va_get (D := (dC, dI)) (ci := 0) (v := .ref qpa) (C := R_G) (T := T_G) (N := 7) hx hb htw in_G hown hK hP 0 rfl rfl 3 (by decide) (htw _ m_118) (fun _ h9 => h9) rfl dG_raisePasts_14 ?_
    refine lv_iload_n hx hb dG_raisePasts_17 rfl (lv_at hl 1 rfl) ?_
    refine lv_aload_n hx hb dG_raisePasts_18 rfl (lv_at hl 0 rfl) ?_
    refine va_get (D := (dC, dI)) (ci := 0) (v := .ref qpa) (C := R_G) (T := T_G) (N := 7) hx hb htw in_G hown hK hP 0 rfl rfl 3 (by decide) (htw _ m_118) (fun _ h9 => h9) rfl dG_raisePasts_19 ?_
    refine lv_iload_n hx hb dG_raisePasts_22 rfl (lv_at hl 1 rfl) ?_
    refine xa_lald hx hb hK hP 2 1 rfl rfl (i := i) (by omega) (by decide) dG_raisePasts_23 ?_
    refine lv_aload_n hx hb dG_raisePasts_24 rfl (lv_at hl 0 rfl) ?_
    refine lv_iload_n hx hb dG_raisePasts_25 rfl (lv_at hl 1 rfl) ?_
    have hPc := hP.sub (ws' := [(g, .inr (0, [.ref so, .ref lo, .ref qpr, .ref qpa, .int (nI dy), .long co, .long wo])), (qpr, .inl (cJ, 30, .inr (.inl pr)))]) [0, 1] rfl
    have hDc := hD.sub (ws' := [(g, .inr (0, [.ref so, .ref lo, .ref qpr, .ref qpa, .int (nI dy), .long co, .long wo])), (qpr, .inl (cJ, 30, .inr (.inl pr)))]) [0, 1] (by decide) rfl
    have hFc := va_free (wc := [(g, .inr (0, [.ref so, .ref lo, .ref qpr, .ref qpa, .int (nI dy), .long co, .long wo])), (qpr, .inl (cJ, 30, .inr (.inl pr)))]) hD hS hA [0, 1] rfl
    refine va_calll (va_runV (As := [.int (nI i)]) (rest := [.long ((k_rs co pr pa i) i), .int (nI i), .ref qpa]) ⟨hx, hb, hml, hown, htw⟩ (kG_carried l dC dI cI cJ g so lo qpr qpa H.size i dy co wo pr (by first | assumption | omega | decide)) (cwV 1 htw (wv_good m_225 m_226 m_227 m_5 m_228) rfl rfl rfl (by decide +kernel) ⟨Nat.le_of_ble_eq_true rfl, Nat.le_of_ble_eq_true rfl⟩) ⟨fun a U g mk q => by obtain ⟨q0, q1, qP, qK, qD⟩ := q; exact ⟨q0, q1, qP, va_K.moved (u := U) (U := U.calling g mk a) (Vm.Alike.refl U.vm) qK, qD⟩, va_recv hK hPc (ci := 0) (q0 := 0) rfl rfl, fun U hU hW => ⟨rfl, by rw [hU], by rw [hU]; exact hPc, va_K.moved hW.alike hK, hDc.weaken (fun _ _ _ _ => trivial)⟩⟩ rfl rfl hl.1 rfl (lv_room (Nat.le_of_ble_eq_true rfl)) dG_raisePasts_26 ⟨Nat.le_of_ble_eq_true rfl, Nat.le_of_ble_eq_true rfl⟩) hS (fun q _ h => hFc q h) hFc (fun res_ u_ t H1 locs ht hvm hw hB hz1 hk1 hS => ?_)
    obtain ⟨hP1, hK1, hD1⟩ := hB
    rw [ht] at hP1
    obtain ⟨hP, hD⟩ := va_join (wr := [(qpa, .inl (cJ, 30, .inr (.inl (k_rs co pr pa i)))), (so, .inr (3, [.ref qlk, .ref qln, .ref qhd, .ref qsf, .ref qfp, .ref qfc, .int (nI ly), .int (nI ce), .int da, .int db, .int dr]))]) (w1 := [(g, .inr (0, [.ref so, .ref lo, .ref qpr, .ref qpa, .int (nI dy), .long co, .long wo])), (qpr, .inl (cJ, 30, .inr (.inl pr)))]) hP hD [0, 1] [2, 3] rfl rfl (by decide) (by decide) hk1 hFc hP1 hD1
    generalize H1 = H at hP hS ⊢
    have hP := hP.sub (ws' := [(g, .inr (0, [.ref so, .ref lo, .ref qpr, .ref qpa, .int (nI dy), .long co, .long wo])), (qpr, .inl (cJ, 30, .inr (.inl pr))), (qpa, .inl (cJ, 30, .inr (.inl (k_rs co pr pa i)))), (so, .inr (3, [.ref qlk, .ref qln, .ref qhd, .ref qsf, .ref qfp, .ref qfc, .int (nI ly), .int (nI ce), .int da, .int db, .int dr]))]) [2, 3, 0, 1] rfl
    have hD := hD.sub (ws' := [(g, .inr (0, [.ref so, .ref lo, .ref qpr, .ref qpa, .int (nI dy), .long co, .long wo])), (qpr, .inl (cJ, 30, .inr (.inl pr))), (qpa, .inl (cJ, 30, .inr (.inl (k_rs co pr pa i)))), (so, .inr (3, [.ref qlk, .ref qln, .ref qhd, .ref qsf, .ref qfp, .ref qfc, .int (nI ly), .int (nI ce), .int da, .int db, .int dr]))]) [2, 3, 0, 1] (by decide) rfl
    clear hPc hDc hFc hP1 hD1 hK1 hk1 hz1 hvm ht
    obtain rfl : co - pr i = res_ := hw.symm
    refine va_mmax_long hx hb (by rw [hml]; exact hl.1.symm) hown (htw _ m_229) (htw _ m_230) (htw _ m_7) (htw _ m_231) (Nat.le_of_ble_eq_true rfl) (Nat.le_of_ble_eq_true rfl) (Nat.le_of_ble_eq_true rfl) (Nat.le_of_ble_eq_true rfl) dG_raisePasts_29 ?_
    refine lv_topl (fun kv ekv => ?_)
    obtain rfl : k_mx (k_rs co pr pa i i) (co - pr i) = kv := (ekv.trans (rfl)).symm
    refine xa_last hx hb hK hP hD hS 2 1 rfl rfl (i := i) (by omega) (by decide) dG_raisePasts_32 (fun H locs hP hD hS => ?_)
    have hP : va_P (dC, dI) vwCl [(g, .inr (0, [.ref so, .ref lo, .ref qpr, .ref qpa, .int (nI dy), .long co, .long wo])), (qpr, .inl (cJ, 30, .inr (.inl pr))), (qpa, .inl (cJ, 30, .inr (.inl (vp_updL (k_rs co pr pa i) i (k_mx (k_rs co pr pa i i) (co - pr i)))))), (so, .inr (3, [.ref qlk, .ref qln, .ref qhd, .ref qsf, .ref qfp, .ref qfc, .int (nI ly), .int (nI ce), .int da, .int db, .int dr]))] H := hP
    have hD : va_D A [(g, .inr (0, [.ref so, .ref lo, .ref qpr, .ref qpa, .int (nI dy), .long co, .long wo])), (qpr, .inl (cJ, 30, .inr (.inl pr))), (qpa, .inl (cJ, 30, .inr (.inl (vp_updL (k_rs co pr pa i) i (k_mx (k_rs co pr pa i i) (co - pr i)))))), (so, .inr (3, [.ref qlk, .ref qln, .ref qhd, .ref qsf, .ref qfp, .ref qfc, .int (nI ly), .int (nI ce), .int da, .int db, .int dr]))] := hD
    refine lv_iinc (v := nI (i + 1)) (lv' := [(1, .int (nI (i + 1))), (0, .ref g)]) hx hb dG_raisePasts_33 hl (k := 1) rfl (nI_1 _) (by decide) rfl (fun ls hl => ?_)
    refine lv_goto (tgt := 2) hx hb dG_raisePasts_36 (by decide) ?_
    have eq2 : (vp_updL (k_rs co pr pa i) i (k_mx (k_rs co pr pa i i) (co - pr i)) : Nat → Int64) = k_rs co pr pa (i + 1) := k_rs_s
    have hP := Eq.mp (congrArg (fun zz => va_P (dC, dI) vwCl [(g, .inr (0, [.ref so, .ref lo, .ref qpr, .ref qpa, .int (nI dy), .long co, .long wo])), (qpr, .inl (cJ, 30, .inr (.inl pr))), (qpa, .inl (cJ, 30, .inr (.inl zz))), (so, .inr (3, [.ref qlk, .ref qln, .ref qhd, .ref qsf, .ref qfp, .ref qfc, .int (nI ly), .int (nI ce), .int da, .int db, .int dr]))] H) eq2) hP
    have hD := Eq.mp (congrArg (fun zz => va_D A [(g, .inr (0, [.ref so, .ref lo, .ref qpr, .ref qpa, .int (nI dy), .long co, .long wo])), (qpr, .inl (cJ, 30, .inr (.inl pr))), (qpa, .inl (cJ, 30, .inr (.inl zz))), (so, .inr (3, [.ref qlk, .ref qln, .ref qhd, .ref qsf, .ref qfp, .ref qfc, .int (nI ly), .int (nI ce), .int da, .int db, .int dr]))]) eq2) hD
    have hP : va_P (dC, dI) vwCl [(g, .inr (0, [.ref so, .ref lo, .ref qpr, .ref qpa, .int (nI dy), .long co, .long wo])), (qpr, .inl (cJ, 30, .inr (.inl pr))), (qpa, .inl (cJ, 30, .inr (.inl (k_rs co pr pa (i + 1))))), (so, .inr (3, [.ref qlk, .ref qln, .ref qhd, .ref qsf, .ref qfp, .ref qfc, .int (nI ly), .int (nI ce), .int da, .int db, .int dr]))] H := by first | exact hP | simpa only [] using hP
    have hD : va_D A [(g, .inr (0, [.ref so, .ref lo, .ref qpr, .ref qpa, .int (nI dy), .long co, .long wo])), (qpr, .inl (cJ, 30, .inr (.inl pr))), (qpa, .inl (cJ, 30, .inr (.inl (k_rs co pr pa (i + 1))))), (so, .inr (3, [.ref qlk, .ref qln, .ref qhd, .ref qsf, .ref qfp, .ref qfc, .int (nI ly), .int (nI ce), .int da, .int db, .int dr]))] := by first | exact hD | simpa only [] using hD
    exact ih2 (by omega) _ _ _ ⟨hP, hD, hS, lv_sub hl [1, 0] rfl⟩
set_option maxHeartbeats 4000000 in
set_option maxRecDepth 100000 in
theorem kG_unitsSunk2 (l : Launch) (dC : Nat → ClassId) (dI : Nat → Nat → Nat) (cI cJ : ClassId) (g so lo qpr qpa qlk qln qhd qsf qfp qfc : Nat) (sz : Nat) (fa : Nat) (fb : Nat) (dy : Nat) (co : Int64) (wo : Int64) (pr : Nat → Int64) (pa : Nat → Int64) (ly : Nat) (ce : Nat) (da : Int32) (db : Int32) (dr : Int32) (hd : Nat → Int32) (sf : Nat → Int32) (fp : Nat → Int32) (hab : fa ≤ fb) (hb30 : fb ≤ 30) : Met l yG_unitsSunk2 wG_unitsSunk2 ({ frames := 1, cells := 0, slots := 0, locals := 25 }) (va_Pc [.ref g, .int (nI fa), .int (nI fb)] (fun U => U.heap.size = sz ∧ va_P (dC, dI) vwCl [(g, .inr (0, [.ref so, .ref lo, .ref qpr, .ref qpa, .int (nI dy), .long co, .long wo])), (qpr, .inl (cJ, 30, .inr (.inl pr))), (qpa, .inl (cJ, 30, .inr (.inl pa))), (so, .inr (3, [.ref qlk, .ref qln, .ref qhd, .ref qsf, .ref qfp, .ref qfc, .int (nI ly), .int (nI ce), .int da, .int db, .int dr])), (qhd, .inl (cI, 30, .inl hd)), (qsf, .inl (cI, 30, .inl sf)), (qfp, .inl (cI, 30, .inl fp))] U.heap ∧ va_K (dC, dI) vwCl [(cI, .int), (cJ, .long)] U ∧ va_D (fun _ => True) [(g, .inr (0, [.ref so, .ref lo, .ref qpr, .ref qpa, .int (nI dy), .long co, .long wo])), (qpr, .inl (cJ, 30, .inr (.inl pr))), (qpa, .inl (cJ, 30, .inr (.inl pa))), (so, .inr (3, [.ref qlk, .ref qln, .ref qhd, .ref qsf, .ref qfp, .ref qfc, .int (nI ly), .int (nI ce), .int da, .int db, .int dr])), (qhd, .inl (cI, 30, .inl hd)), (qsf, .inl (cI, 30, .inl sf)), (qfp, .inl (cI, 30, .inl fp))])) (va_Ql (fun res_ (_ : Unit) => res_ = k_units hd sf fp co pr pa fa fb) (fun _ t => va_P (dC, dI) vwCl [(g, .inr (0, [.ref so, .ref lo, .ref qpr, .ref qpa, .int (nI dy), .long co, .long wo])), (qpr, .inl (cJ, 30, .inr (.inl pr))), (qpa, .inl (cJ, 30, .inr (.inl pa))), (so, .inr (3, [.ref qlk, .ref qln, .ref qhd, .ref qsf, .ref qfp, .ref qfc, .int (nI ly), .int (nI ce), .int da, .int db, .int dr])), (qhd, .inl (cI, 30, .inl hd)), (qsf, .inl (cI, 30, .inl sf)), (qfp, .inl (cI, 30, .inl fp))] t.heap ∧ va_K (dC, dI) vwCl [(cI, .int), (cJ, .long)] t ∧ va_D (va_A [(g, .inr (0, [.ref so, .ref lo, .ref qpr, .ref qpa, .int (nI dy), .long co, .long wo])), (qpr, .inl (cJ, 30, .inr (.inl pr))), (qpa, .inl (cJ, 30, .inr (.inl pa))), (so, .inr (3, [.ref qlk, .ref qln, .ref qhd, .ref qsf, .ref qfp, .ref qfc, .int (nI ly), .int (nI ce), .int da, .int db, .int dr])), (qhd, .inl (cI, 30, .inl hd)), (qsf, .inl (cI, 30, .inl sf)), (qfp, .inl (cI, 30, .inl fp))] sz) [(g, .inr (0, [.ref so, .ref lo, .ref qpr, .ref qpa, .int (nI dy), .long co, .long wo])), (qpr, .inl (cJ, 30, .inr (.inl pr))), (qpa, .inl (cJ, 30, .inr (.inl pa))), (so, .inr (3, [.ref qlk, .ref qln, .ref qhd, .ref qsf, .ref qfp, .ref qfc, .int (nI ly), .int (nI ce), .int da, .int db, .int dr])), (qhd, .inl (cI, 30, .inl hd)), (qsf, .inl (cI, 30, .inl sf)), (qfp, .inl (cI, 30, .inl fp))]) (va_A [(g, .inr (0, [.ref so, .ref lo, .ref qpr, .ref qpa, .int (nI dy), .long co, .long wo])), (qpr, .inl (cJ, 30, .inr (.inl pr))), (qpa, .inl (cJ, 30, .inr (.inl pa))), (so, .inr (3, [.ref qlk, .ref qln, .ref qhd, .ref qsf, .ref qfp, .ref qfc, .int (nI ly), .int (nI ce), .int da, .int db, .int dr])), (qhd, .inl (cI, 30, .inl hd)), (qsf, .inl (cI, 30, .inl sf)), (qfp, .inl (cI, 30, .inl fp))] sz)) 0 0 (va_A [(g, .inr (0, [.ref so, .ref lo, .ref qpr, .ref qpa, .int (nI dy), .long co, .long wo])), (qpr, .inl (cJ, 30, .inr (.inl pr))), (qpa, .inl (cJ, 30, .inr (.inl pa))), (so, .inr (3, [.ref qlk, .ref qln, .ref qhd, .ref qsf, .ref qfp, .ref qfc, .int (nI ly), .int (nI ce), .int da, .int db, .int dr])), (qhd, .inl (cI, 30, .inl hd)), (qsf, .inl (cI, 30, .inl sf)), (qfp, .inl (cI, 30, .inl fp))] sz) := by
  refine Met.ofW (cc := bG_unitsSunk2) (maxL := 6) (ret := (some .long)) (by decide) rfl ?_
  intro p e s m args below meth c s₁ B hml hv
  obtain ⟨rfl, hsz, hP, hK, hD0⟩ := hv
  have hx := B.exec
  have hb := B.bytes
  have hr := B.returns
  have hts := atoms_spec (ws := wG_unitsSunk2) B.pre
  have hown : s.vm.findClass R_G = some m.cls := findClass_of_methodNamed B.named
  have htw : ∀ w ∈ WA, w.before _ s = true := fun w h => hts w (List.mem_cons_of_mem _ h)
  clear hts
  have hlocks := B.notSynchronized
  subst hsz
  have hD := hD0.self (sz := s.heap.size)
  generalize hAe : va_A [(g, .inr (0, [.ref so, .ref lo, .ref qpr, .ref qpa, .int (nI dy), .long co, .long wo])), (qpr, .inl (cJ, 30, .inr (.inl pr))), (qpa, .inl (cJ, 30, .inr (.inl pa))), (so, .inr (3, [.ref qlk, .ref qln, .ref qhd, .ref qsf, .ref qfp, .ref qfc, .int (nI ly), .int (nI ce), .int da, .int db, .int dr])), (qhd, .inl (cI, 30, .inl hd)), (qsf, .inl (cI, 30, .inl sf)), (qfp, .inl (cI, 30, .inl fp))] s.heap.size = A at hD ⊢
  have hA : ∀ q : Nat, s.heap.size ≤ q → A q := fun q h => by rw [← hAe]; exact Or.inr h
  clear hAe hD0
  have hS : va_S A s.heap s.heap [] := va_S.rf
  have hP : va_P (dC, dI) vwCl [(g, .inr (0, [.ref so, .ref lo, .ref qpr, .ref qpa, .int (nI dy), .long co, .long wo])), (qpr, .inl (cJ, 30, .inr (.inl pr))), (qpa, .inl (cJ, 30, .inr (.inl pa))), (so, .inr (3, [.ref qlk, .ref qln, .ref qhd, .ref qsf, .ref qfp, .ref qfc, .int (nI ly), .int (nI ce), .int da, .int db, .int dr])), (qhd, .inl (cI, 30, .inl hd)), (qsf, .inl (cI, 30, .inl sf)), (qfp, .inl (cI, 30, .inl fp))] s.heap := hP
  have hl := lv_entry ([.ref g, .int (nI fa), .int (nI fb)]) (n := 6) (Nat.le_of_ble_eq_true rfl)
  rw [lg_entry_eq]
  generalize (lg_sl ([.ref g, .int (nI fa), .int (nI fb)]) ++ List.replicate (6 - (lg_sl ([.ref g, .int (nI fa), .int (nI fb)])).length) Slot.unset).toArray = ls at hl ⊢
  have hl : lv_has ls 6 [(0, .ref g), (1, .int (nI fa)), (2, .int (nI fb))] := hl
  refine lv_lconst (v := 0) hx hb dG_unitsSunk2_0 (by decide) ?_
  refine lv_lstore_n (lv' := [(3, .long 0), (0, .ref g), (1, .int (nI fa)), (2, .int (nI fb))]) hx hb dG_unitsSunk2_1 rfl hl (by decide) rfl (fun ls hl => ?_)
  refine lv_iload_n hx hb dG_unitsSunk2_2 rfl (lv_at hl 2 rfl) ?_
  refine lv_istore (lv' := [(5, .int (nI fa)), (3, .long 0), (0, .ref g), (1, .int (nI fa)), (2, .int (nI fb))]) hx hb dG_unitsSunk2_3 hl (by decide) rfl (fun ls hl => ?_)
  -- the loop at 5
  have hP : va_P (dC, dI) vwCl [(g, .inr (0, [.ref so, .ref lo, .ref qpr, .ref qpa, .int (nI dy), .long co, .long wo])), (qpr, .inl (cJ, 30, .inr (.inl pr))), (qpa, .inl (cJ, 30, .inr (.inl pa))), (so, .inr (3, [.ref qlk, .ref qln, .ref qhd, .ref qsf, .ref qfp, .ref qfc, .int (nI ly), .int (nI ce), .int da, .int db, .int dr])), (qhd, .inl (cI, 30, .inl hd)), (qsf, .inl (cI, 30, .inl sf)), (qfp, .inl (cI, 30, .inl fp))] s.heap := by first | exact hP | simpa only [] using hP
  have hD : va_D A [(g, .inr (0, [.ref so, .ref lo, .ref qpr, .ref qpa, .int (nI dy), .long co, .long wo])), (qpr, .inl (cJ, 30, .inr (.inl pr))), (qpa, .inl (cJ, 30, .inr (.inl pa))), (so, .inr (3, [.ref qlk, .ref qln, .ref qhd, .ref qsf, .ref qfp, .ref qfc, .int (nI ly), .int (nI ce), .int da, .int db, .int dr])), (qhd, .inl (cI, 30, .inl hd)), (qsf, .inl (cI, 30, .inl sf)), (qfp, .inl (cI, 30, .inl fp))] := by first | exact hD | simpa only [] using hD
  have eq1 : 0 = k_units hd sf fp co pr pa fa fa := k_seg_0
  rw [eq1] at hl
  refine x_loop (N := fb) (I := fun i H locs ls => va_P (dC, dI) vwCl [(g, .inr (0, [.ref so, .ref lo, .ref qpr, .ref qpa, .int (nI dy), .long co, .long wo])), (qpr, .inl (cJ, 30, .inr (.inl pr))), (qpa, .inl (cJ, 30, .inr (.inl pa))), (so, .inr (3, [.ref qlk, .ref qln, .ref qhd, .ref qsf, .ref qfp, .ref qfc, .int (nI ly), .int (nI ce), .int da, .int db, .int dr])), (qhd, .inl (cI, 30, .inl hd)), (qsf, .inl (cI, 30, .inl sf)), (qfp, .inl (cI, 30, .inl fp))] H ∧ va_D A [(g, .inr (0, [.ref so, .ref lo, .ref qpr, .ref qpa, .int (nI dy), .long co, .long wo])), (qpr, .inl (cJ, 30, .inr (.inl pr))), (qpa, .inl (cJ, 30, .inr (.inl pa))), (so, .inr (3, [.ref qlk, .ref qln, .ref qhd, .ref qsf, .ref qfp, .ref qfc, .int (nI ly), .int (nI ce), .int da, .int db, .int dr])), (qhd, .inl (cI, 30, .inl hd)), (qsf, .inl (cI, 30, .inl sf)), (qfp, .inl (cI, 30, .inl fp))] ∧ va_S A s.heap H locs ∧ lv_has ls 6 [(0, .ref g), (2, .int (nI fb)), (3, .long (k_units hd sf fp co pr pa fa i)), (5, .int (nI i))] ∧ (fa ≤ i)) (i0 := fa) ?_ hab ⟨hP, hD, hS, lv_sub hl [2, 4, 1, 0] rfl, Nat.le_refl _⟩
  intro i hi ih5 H locs ls hI
  obtain ⟨hP, hD, hS, hl, hE5⟩ := hI
  refine lv_iload hx hb dG_unitsSunk2_5 (lv_at hl 3 rfl) ?_
  refine lv_iload_n hx hb dG_unitsSunk2_7 rfl (lv_at hl 1 rfl) ?_
  refine lv_icmp_ge (tgt := 42) hx hb dG_unitsSunk2_8 (by decide) (fun hc8 => ?_) (fun hc8 => ?_)
  · -- 8 taken
    rw [nI_leI (by omega) (by omega)] at hc8
    obtain rfl : fb = i := by omega
    refine lv_lload_n hx hb dG_unitsSunk2_42 rfl (lv_at hl 2 rfl) ?_
    have hP : va_P (dC, dI) vwCl [(g, .inr (0, [.ref so, .ref lo, .ref qpr, .ref qpa, .int (nI dy), .long co, .long wo])), (qpr, .inl (cJ, 30, .inr (.inl pr))), (qpa, .inl (cJ, 30, .inr (.inl pa))), (so, .inr (3, [.ref qlk, .ref qln, .ref qhd, .ref qsf, .ref qfp, .ref qfc, .int (nI ly), .int (nI ce), .int da, .int db, .int dr])), (qhd, .inl (cI, 30, .inl hd)), (qsf, .inl (cI, 30, .inl sf)), (qfp, .inl (cI, 30, .inl fp))] H := by first | exact hP | simpa only [] using hP
    have hD : va_D A [(g, .inr (0, [.ref so, .ref lo, .ref qpr, .ref qpa, .int (nI dy), .long co, .long wo])), (qpr, .inl (cJ, 30, .inr (.inl pr))), (qpa, .inl (cJ, 30, .inr (.inl pa))), (so, .inr (3, [.ref qlk, .ref qln, .ref qhd, .ref qsf, .ref qfp, .ref qfc, .int (nI ly), .int (nI ce), .int da, .int db, .int dr])), (qhd, .inl (cI, 30, .inl hd)), (qsf, .inl (cI, 30, .inl sf)), (qfp, .inl (cI, 30, .inl fp))] := by first | exact hD | simpa only [] using hD
    exact W.lret (v := k_units hd sf fp co pr pa fa fb) hx hb hr (fun t ht hW => ⟨⟨k_units hd sf fp co pr pa fa fb, (), rfl, rfl, by rw [ht]; exact hP, va_K.moved hW.alike hK, hD⟩, hS.F ht⟩) hS.2.2 dG_unitsSunk2_43
  · -- 8 not taken
    rw [nI_leI (by omega) (by omega)] at hc8
    refine lv_lload_n hx hb dG_unitsSunk2_11 rfl (lv_at hl 2 rfl) ?_
    refine lv_aload_n hx hb dG_unitsSunk2_12 rfl (lv_at hl 0 rfl) ?_
    refine va_get (D := (dC, dI)) (ci := 0) (v := .ref so) (C := R_G) (T := T_G) (N := 7) hx hb htw in_G hown hK hP 0 rfl rfl 0 (by decide) (htw _ m_114) (fun _ h9 => h9) rfl dG_unitsSunk2_13 ?_
    refine lv_iload hx hb dG_unitsSunk2_16 (lv_at hl 3 rfl) ?_
    refine lv_aload_n hx hb dG_unitsSunk2_18 rfl (lv_at hl 0 rfl) ?_
    refine lv_iload hx hb dG_unitsSunk2_19 (lv_at hl 3 rfl) ?_
    have hPc := hP.sub (ws' := [(g, .inr (0, [.ref so, .ref lo, .ref qpr, .ref qpa, .int (nI dy), .long co, .long wo])), (qpr, .inl (cJ, 30, .inr (.inl pr)))]) [0, 1] rfl
    have hDc := hD.sub (ws' := [(g, .inr (0, [.ref so, .ref lo, .ref qpr, .ref qpa, .int (nI dy), .long co, .long wo])), (qpr, .inl (cJ, 30, .inr (.inl pr)))]) [0, 1] (by decide) rfl
    have hFc := va_free (wc := [(g, .inr (0, [.ref so, .ref lo, .ref qpr, .ref qpa, .int (nI dy), .long co, .long wo])), (qpr, .inl (cJ, 30, .inr (.inl pr)))]) hD hS hA [0, 1] rfl
    refine va_calll (va_runV (As := [.int (nI i)]) (rest := [.int (nI i), .ref so, .long (k_units hd sf fp co pr pa fa i)]) ⟨hx, hb, hml, hown, htw⟩ (kG_carried l dC dI cI cJ g so lo qpr qpa H.size i dy co wo pr (by first | assumption | omega | decide)) (cwV 1 htw (wv_good m_225 m_226 m_227 m_5 m_228) rfl rfl rfl (by decide +kernel) ⟨Nat.le_of_ble_eq_true rfl, Nat.le_of_ble_eq_true rfl⟩) ⟨fun a U g mk q => by obtain ⟨q0, q1, qP, qK, qD⟩ := q; exact ⟨q0, q1, qP, va_K.moved (u := U) (U := U.calling g mk a) (Vm.Alike.refl U.vm) qK, qD⟩, va_recv hK hPc (ci := 0) (q0 := 0) rfl rfl, fun U hU hW => ⟨rfl, by rw [hU], by rw [hU]; exact hPc, va_K.moved hW.alike hK, hDc.weaken (fun _ _ _ _ => trivial)⟩⟩ rfl rfl hl.1 rfl (lv_room (Nat.le_of_ble_eq_true rfl)) dG_unitsSunk2_21 ⟨Nat.le_of_ble_eq_true rfl, Nat.le_of_ble_eq_true rfl⟩) hS (fun q _ h => hFc q h) hFc (fun res_ u_ t H1 locs ht hvm hw hB hz1 hk1 hS => ?_)
    obtain ⟨hP1, hK1, hD1⟩ := hB
    rw [ht] at hP1
    obtain ⟨hP, hD⟩ := va_join (wr := [(qpa, .inl (cJ, 30, .inr (.inl pa))), (so, .inr (3, [.ref qlk, .ref qln, .ref qhd, .ref qsf, .ref qfp, .ref qfc, .int (nI ly), .int (nI ce), .int da, .int db, .int dr])), (qhd, .inl (cI, 30, .inl hd)), (qsf, .inl (cI, 30, .inl sf)), (qfp, .inl (cI, 30, .inl fp))]) (w1 := [(g, .inr (0, [.ref so, .ref lo, .ref qpr, .ref qpa, .int (nI dy), .long co, .long wo])), (qpr, .inl (cJ, 30, .inr (.inl pr)))]) hP hD [0, 1] [2, 3, 4, 5, 6] rfl rfl (by decide) (by decide) hk1 hFc hP1 hD1
    generalize H1 = H at hP hS ⊢
    have hP := hP.sub (ws' := [(g, .inr (0, [.ref so, .ref lo, .ref qpr, .ref qpa, .int (nI dy), .long co, .long wo])), (qpr, .inl (cJ, 30, .inr (.inl pr))), (qpa, .inl (cJ, 30, .inr (.inl pa))), (so, .inr (3, [.ref qlk, .ref qln, .ref qhd, .ref qsf, .ref qfp, .ref qfc, .int (nI ly), .int (nI ce), .int da, .int db, .int dr])), (qhd, .inl (cI, 30, .inl hd)), (qsf, .inl (cI, 30, .inl sf)), (qfp, .inl (cI, 30, .inl fp))]) [5, 6, 0, 1, 2, 3, 4] rfl
    have hD := hD.sub (ws' := [(g, .inr (0, [.ref so, .ref lo, .ref qpr, .ref qpa, .int (nI dy), .long co, .long wo])), (qpr, .inl (cJ, 30, .inr (.inl pr))), (qpa, .inl (cJ, 30, .inr (.inl pa))), (so, .inr (3, [.ref qlk, .ref qln, .ref qhd, .ref qsf, .ref qfp, .ref qfc, .int (nI ly), .int (nI ce), .int da, .int db, .int dr])), (qhd, .inl (cI, 30, .inl hd)), (qsf, .inl (cI, 30, .inl sf)), (qfp, .inl (cI, 30, .inl fp))]) [5, 6, 0, 1, 2, 3, 4] (by decide) rfl
    clear hPc hDc hFc hP1 hD1 hK1 hk1 hz1 hvm ht
    obtain rfl : co - pr i = res_ := hw.symm
    refine lv_aload_n hx hb dG_unitsSunk2_24 rfl (lv_at hl 0 rfl) ?_
    refine va_get (D := (dC, dI)) (ci := 0) (v := .ref qpa) (C := R_G) (T := T_G) (N := 7) hx hb htw in_G hown hK hP 0 rfl rfl 3 (by decide) (htw _ m_118) (fun _ h9 => h9) rfl dG_unitsSunk2_25 ?_
    refine lv_iload hx hb dG_unitsSunk2_28 (lv_at hl 3 rfl) ?_
    refine xa_lald hx hb hK hP 2 1 rfl rfl (i := i) (by omega) (by decide) dG_unitsSunk2_30 ?_
    have hPc := hP.sub (ws' := [(so, .inr (3, [.ref qlk, .ref qln, .ref qhd, .ref qsf, .ref qfp, .ref qfc, .int (nI ly), .int (nI ce), .int da, .int db, .int dr])), (qhd, .inl (cI, 30, .inl hd)), (qsf, .inl (cI, 30, .inl sf)), (qfp, .inl (cI, 30, .inl fp))]) [3, 4, 5, 6] rfl
    have hDc := hD.sub (ws' := [(so, .inr (3, [.ref qlk, .ref qln, .ref qhd, .ref qsf, .ref qfp, .ref qfc, .int (nI ly), .int (nI ce), .int da, .int db, .int dr])), (qhd, .inl (cI, 30, .inl hd)), (qsf, .inl (cI, 30, .inl sf)), (qfp, .inl (cI, 30, .inl fp))]) [3, 4, 5, 6] (by decide) rfl
    have hFc := va_free (wc := [(so, .inr (3, [.ref qlk, .ref qln, .ref qhd, .ref qsf, .ref qfp, .ref qfc, .int (nI ly), .int (nI ce), .int da, .int db, .int dr])), (qhd, .inl (cI, 30, .inl hd)), (qsf, .inl (cI, 30, .inl sf)), (qfp, .inl (cI, 30, .inl fp))]) hD hS hA [3, 4, 5, 6] rfl
    refine va_calll (va_runV (As := [.int (nI i), .long (co - pr i), .long (pa i)]) (rest := [.long (k_units hd sf fp co pr pa fa i)]) ⟨hx, hb, hml, hown, htw⟩ (kS_unitsSunk l dC dI cI cJ so qlk qln qhd qsf qfp qfc H.size i (co - pr i) (pa i) ly ce da db dr hd sf fp (by first | assumption | omega | decide)) (cwV 3 htw (wv_good m_240 m_241 m_242 m_2 m_243) rfl rfl rfl (by decide +kernel) ⟨Nat.le_of_ble_eq_true rfl, Nat.le_of_ble_eq_true rfl⟩) ⟨fun a U g mk q => by obtain ⟨q0, q1, qP, qK, qD⟩ := q; exact ⟨q0, q1, qP, va_K.moved (u := U) (U := U.calling g mk a) (Vm.Alike.refl U.vm) qK, qD⟩, va_recv hK hPc (ci := 3) (q0 := 0) rfl rfl, fun U hU hW => ⟨rfl, by rw [hU], by rw [hU]; exact hPc, va_K.moved hW.alike hK, hDc.weaken (fun _ _ _ _ => trivial)⟩⟩ rfl rfl hl.1 rfl (lv_room (Nat.le_of_ble_eq_true rfl)) dG_unitsSunk2_31 ⟨Nat.le_of_ble_eq_true rfl, Nat.le_of_ble_eq_true rfl⟩) hS (fun q _ h => hFc q h) hFc (fun res_ u_ t H1 locs ht hvm hw hB hz1 hk1 hS => ?_)
    obtain ⟨hP1, hK1, hD1⟩ := hB
    rw [ht] at hP1
    obtain ⟨hP, hD⟩ := va_join (wr := [(g, .inr (0, [.ref so, .ref lo, .ref qpr, .ref qpa, .int (nI dy), .long co, .long wo])), (qpr, .inl (cJ, 30, .inr (.inl pr))), (qpa, .inl (cJ, 30, .inr (.inl pa)))]) (w1 := [(so, .inr (3, [.ref qlk, .ref qln, .ref qhd, .ref qsf, .ref qfp, .ref qfc, .int (nI ly), .int (nI ce), .int da, .int db, .int dr])), (qhd, .inl (cI, 30, .inl hd)), (qsf, .inl (cI, 30, .inl sf)), (qfp, .inl (cI, 30, .inl fp))]) hP hD [3, 4, 5, 6] [0, 1, 2] rfl rfl (by decide) (by decide) hk1 hFc hP1 hD1
    generalize H1 = H at hP hS ⊢
    have hP : va_P (dC, dI) vwCl [(g, .inr (0, [.ref so, .ref lo, .ref qpr, .ref qpa, .int (nI dy), .long co, .long wo])), (qpr, .inl (cJ, 30, .inr (.inl pr))), (qpa, .inl (cJ, 30, .inr (.inl pa))), (so, .inr (3, [.ref qlk, .ref qln, .ref qhd, .ref qsf, .ref qfp, .ref qfc, .int (nI ly), .int (nI ce), .int da, .int db, .int dr])), (qhd, .inl (cI, 30, .inl hd)), (qsf, .inl (cI, 30, .inl sf)), (qfp, .inl (cI, 30, .inl fp))] H := hP
    have hD : va_D A [(g, .inr (0, [.ref so, .ref lo, .ref qpr, .ref qpa, .int (nI dy), .long co, .long wo])), (qpr, .inl (cJ, 30, .inr (.inl pr))), (qpa, .inl (cJ, 30, .inr (.inl pa))), (so, .inr (3, [.ref qlk, .ref qln, .ref qhd, .ref qsf, .ref qfp, .ref qfc, .int (nI ly), .int (nI ce), .int da, .int db, .int dr])), (qhd, .inl (cI, 30, .inl hd)), (qsf, .inl (cI, 30, .inl sf)), (qfp, .inl (cI, 30, .inl fp))] := hD
    clear hPc hDc hFc hP1 hD1 hK1 hk1 hz1 hvm ht
    obtain rfl : k_u1 hd sf fp i (co - pr i) (pa i) = res_ := hw.symm
    refine lv_ladd hx hb dG_unitsSunk2_34 ?_
    refine lv_lstore_n (lv' := [(3, .long ((k_units hd sf fp co pr pa fa i) + (k_u1 hd sf fp i (co - pr i) (pa i)))), (0, .ref g), (2, .int (nI fb)), (5, .int (nI i))]) hx hb dG_unitsSunk2_35 rfl hl (by decide) rfl (fun ls hl => ?_)
    refine lv_iinc (v := nI (i + 1)) (lv' := [(5, .int (nI (i + 1))), (3, .long ((k_units hd sf fp co pr pa fa i) + (k_u1 hd sf fp i (co - pr i) (pa i)))), (0, .ref g), (2, .int (nI fb))]) hx hb dG_unitsSunk2_36 hl (k := 3) rfl (nI_1 _) (by decide) rfl (fun ls hl => ?_)
    refine lv_goto (tgt := 5) hx hb dG_unitsSunk2_39 (by decide) ?_
    have hP : va_P (dC, dI) vwCl [(g, .inr (0, [.ref so, .ref lo, .ref qpr, .ref qpa, .int (nI dy), .long co, .long wo])), (qpr, .inl (cJ, 30, .inr (.inl pr))), (qpa, .inl (cJ, 30, .inr (.inl pa))), (so, .inr (3, [.ref qlk, .ref qln, .ref qhd, .ref qsf, .ref qfp, .ref qfc, .int (nI ly), .int (nI ce), .int da, .int db, .int dr])), (qhd, .inl (cI, 30, .inl hd)), (qsf, .inl (cI, 30, .inl sf)), (qfp, .inl (cI, 30, .inl fp))] H := by first | exact hP | simpa only [] using hP
    have hD : va_D A [(g, .inr (0, [.ref so, .ref lo, .ref qpr, .ref qpa, .int (nI dy), .long co, .long wo])), (qpr, .inl (cJ, 30, .inr (.inl pr))), (qpa, .inl (cJ, 30, .inr (.inl pa))), (so, .inr (3, [.ref qlk, .ref qln, .ref qhd, .ref qsf, .ref qfp, .ref qfc, .int (nI ly), .int (nI ce), .int da, .int db, .int dr])), (qhd, .inl (cI, 30, .inl hd)), (qsf, .inl (cI, 30, .inl sf)), (qfp, .inl (cI, 30, .inl fp))] := by first | exact hD | simpa only [] using hD
    have eq2 : ((k_units hd sf fp co pr pa fa i) + (k_u1 hd sf fp i (co - pr i) (pa i))) = k_units hd sf fp co pr pa fa (i + 1) := k_seg_s (by omega)
    rw [eq2] at hl
    exact ih5 (by omega) _ _ _ ⟨hP, hD, hS, lv_sub hl [2, 3, 1, 0] rfl, Nat.le_succ_of_le hE5⟩
set_option maxHeartbeats 4000000 in
set_option maxRecDepth 100000 in
theorem kG_unitsSunk (l : Launch) (dC : Nat → ClassId) (dI : Nat → Nat → Nat) (cI cJ : ClassId) (g so lo qpr qpa qlk qln qhd qsf qfp qfc : Nat) (sz : Nat) (dy : Nat) (co : Int64) (wo : Int64) (pr : Nat → Int64) (pa : Nat → Int64) (ly : Nat) (ce : Nat) (da : Int32) (db : Int32) (dr : Int32) (hd : Nat → Int32) (sf : Nat → Int32) (fp : Nat → Int32) (hce : ce ≤ 30) : Met l yG_unitsSunk wG_unitsSunk ({ frames := 2, cells := 0, slots := 0, locals := 50 }) (va_Pc [.ref g] (fun U => U.heap.size = sz ∧ va_P (dC, dI) vwCl [(g, .inr (0, [.ref so, .ref lo, .ref qpr, .ref qpa, .int (nI dy), .long co, .long wo])), (qpr, .inl (cJ, 30, .inr (.inl pr))), (qpa, .inl (cJ, 30, .inr (.inl pa))), (so, .inr (3, [.ref qlk, .ref qln, .ref qhd, .ref qsf, .ref qfp, .ref qfc, .int (nI ly), .int (nI ce), .int da, .int db, .int dr])), (qhd, .inl (cI, 30, .inl hd)), (qsf, .inl (cI, 30, .inl sf)), (qfp, .inl (cI, 30, .inl fp))] U.heap ∧ va_K (dC, dI) vwCl [(cI, .int), (cJ, .long)] U ∧ va_D (fun _ => True) [(g, .inr (0, [.ref so, .ref lo, .ref qpr, .ref qpa, .int (nI dy), .long co, .long wo])), (qpr, .inl (cJ, 30, .inr (.inl pr))), (qpa, .inl (cJ, 30, .inr (.inl pa))), (so, .inr (3, [.ref qlk, .ref qln, .ref qhd, .ref qsf, .ref qfp, .ref qfc, .int (nI ly), .int (nI ce), .int da, .int db, .int dr])), (qhd, .inl (cI, 30, .inl hd)), (qsf, .inl (cI, 30, .inl sf)), (qfp, .inl (cI, 30, .inl fp))])) (va_Ql (fun res_ (_ : Unit) => res_ = k_units hd sf fp co pr pa 0 ce) (fun _ t => va_P (dC, dI) vwCl [(g, .inr (0, [.ref so, .ref lo, .ref qpr, .ref qpa, .int (nI dy), .long co, .long wo])), (qpr, .inl (cJ, 30, .inr (.inl pr))), (qpa, .inl (cJ, 30, .inr (.inl pa))), (so, .inr (3, [.ref qlk, .ref qln, .ref qhd, .ref qsf, .ref qfp, .ref qfc, .int (nI ly), .int (nI ce), .int da, .int db, .int dr])), (qhd, .inl (cI, 30, .inl hd)), (qsf, .inl (cI, 30, .inl sf)), (qfp, .inl (cI, 30, .inl fp))] t.heap ∧ va_K (dC, dI) vwCl [(cI, .int), (cJ, .long)] t ∧ va_D (va_A [(g, .inr (0, [.ref so, .ref lo, .ref qpr, .ref qpa, .int (nI dy), .long co, .long wo])), (qpr, .inl (cJ, 30, .inr (.inl pr))), (qpa, .inl (cJ, 30, .inr (.inl pa))), (so, .inr (3, [.ref qlk, .ref qln, .ref qhd, .ref qsf, .ref qfp, .ref qfc, .int (nI ly), .int (nI ce), .int da, .int db, .int dr])), (qhd, .inl (cI, 30, .inl hd)), (qsf, .inl (cI, 30, .inl sf)), (qfp, .inl (cI, 30, .inl fp))] sz) [(g, .inr (0, [.ref so, .ref lo, .ref qpr, .ref qpa, .int (nI dy), .long co, .long wo])), (qpr, .inl (cJ, 30, .inr (.inl pr))), (qpa, .inl (cJ, 30, .inr (.inl pa))), (so, .inr (3, [.ref qlk, .ref qln, .ref qhd, .ref qsf, .ref qfp, .ref qfc, .int (nI ly), .int (nI ce), .int da, .int db, .int dr])), (qhd, .inl (cI, 30, .inl hd)), (qsf, .inl (cI, 30, .inl sf)), (qfp, .inl (cI, 30, .inl fp))]) (va_A [(g, .inr (0, [.ref so, .ref lo, .ref qpr, .ref qpa, .int (nI dy), .long co, .long wo])), (qpr, .inl (cJ, 30, .inr (.inl pr))), (qpa, .inl (cJ, 30, .inr (.inl pa))), (so, .inr (3, [.ref qlk, .ref qln, .ref qhd, .ref qsf, .ref qfp, .ref qfc, .int (nI ly), .int (nI ce), .int da, .int db, .int dr])), (qhd, .inl (cI, 30, .inl hd)), (qsf, .inl (cI, 30, .inl sf)), (qfp, .inl (cI, 30, .inl fp))] sz)) 0 0 (va_A [(g, .inr (0, [.ref so, .ref lo, .ref qpr, .ref qpa, .int (nI dy), .long co, .long wo])), (qpr, .inl (cJ, 30, .inr (.inl pr))), (qpa, .inl (cJ, 30, .inr (.inl pa))), (so, .inr (3, [.ref qlk, .ref qln, .ref qhd, .ref qsf, .ref qfp, .ref qfc, .int (nI ly), .int (nI ce), .int da, .int db, .int dr])), (qhd, .inl (cI, 30, .inl hd)), (qsf, .inl (cI, 30, .inl sf)), (qfp, .inl (cI, 30, .inl fp))] sz) := by
  refine Met.ofW (cc := bG_unitsSunk) (maxL := 1) (ret := (some .long)) (by decide) rfl ?_
  intro p e s m args below meth c s₁ B hml hv
  obtain ⟨rfl, hsz, hP, hK, hD0⟩ := hv
  have hx := B.exec
  have hb := B.bytes
  have hr := B.returns
  have hts := atoms_spec (ws := wG_unitsSunk) B.pre
  have hown : s.vm.findClass R_G = some m.cls := findClass_of_methodNamed B.named
  have htw : ∀ w ∈ WA, w.before _ s = true := fun w h => hts w (List.mem_cons_of_mem _ h)
  clear hts
  have hlocks := B.notSynchronized
  subst hsz
  have hD := hD0.self (sz := s.heap.size)
  generalize hAe : va_A [(g, .inr (0, [.ref so, .ref lo, .ref qpr, .ref qpa, .int (nI dy), .long co, .long wo])), (qpr, .inl (cJ, 30, .inr (.inl pr))), (qpa, .inl (cJ, 30, .inr (.inl pa))), (so, .inr (3, [.ref qlk, .ref qln, .ref qhd, .ref qsf, .ref qfp, .ref qfc, .int (nI ly), .int (nI ce), .int da, .int db, .int dr])), (qhd, .inl (cI, 30, .inl hd)), (qsf, .inl (cI, 30, .inl sf)), (qfp, .inl (cI, 30, .inl fp))] s.heap.size = A at hD ⊢
  have hA : ∀ q : Nat, s.heap.size ≤ q → A q := fun q h => by rw [← hAe]; exact Or.inr h
  clear hAe hD0
  have hS : va_S A s.heap s.heap [] := va_S.rf
  have hP : va_P (dC, dI) vwCl [(g, .inr (0, [.ref so, .ref lo, .ref qpr, .ref qpa, .int (nI dy), .long co, .long wo])), (qpr, .inl (cJ, 30, .inr (.inl pr))), (qpa, .inl (cJ, 30, .inr (.inl pa))), (so, .inr (3, [.ref qlk, .ref qln, .ref qhd, .ref qsf, .ref qfp, .ref qfc, .int (nI ly), .int (nI ce), .int da, .int db, .int dr])), (qhd, .inl (cI, 30, .inl hd)), (qsf, .inl (cI, 30, .inl sf)), (qfp, .inl (cI, 30, .inl fp))] s.heap := hP
  have hl := lv_entry ([.ref g]) (n := 1) (Nat.le_of_ble_eq_true rfl)
  rw [lg_entry_eq]
  generalize (lg_sl ([.ref g]) ++ List.replicate (1 - (lg_sl ([.ref g])).length) Slot.unset).toArray = ls at hl ⊢
  have hl : lv_has ls 1 [(0, .ref g)] := hl
  refine lv_aload_n hx hb dG_unitsSunk_0 rfl (lv_at hl 0 rfl) ?_
  refine lv_iconst (v := nI 0) hx hb dG_unitsSunk_1 (by decide) ?_
  refine lv_aload_n hx hb dG_unitsSunk_2 rfl (lv_at hl 0 rfl) ?_
  refine va_get (D := (dC, dI)) (ci := 0) (v := .ref so) (C := R_G) (T := T_G) (N := 7) hx hb htw in_G hown hK hP 0 rfl rfl 0 (by decide) (htw _ m_114) (fun _ h9 => h9) rfl dG_unitsSunk_3 ?_
  refine va_get (D := (dC, dI)) (ci := 3) (v := .int (nI ce)) (C := R_S) (T := T_S) (N := 11) hx hb htw in_S hown hK hP 3 rfl rfl 7 (by decide) (htw _ m_35) (fun _ h9 => h9) rfl dG_unitsSunk_6 ?_
  have hPc := hP.sub (ws' := [(g, .inr (0, [.ref so, .ref lo, .ref qpr, .ref qpa, .int (nI dy), .long co, .long wo])), (qpr, .inl (cJ, 30, .inr (.inl pr))), (qpa, .inl (cJ, 30, .inr (.inl pa))), (so, .inr (3, [.ref qlk, .ref qln, .ref qhd, .ref qsf, .ref qfp, .ref qfc, .int (nI ly), .int (nI ce), .int da, .int db, .int dr])), (qhd, .inl (cI, 30, .inl hd)), (qsf, .inl (cI, 30, .inl sf)), (qfp, .inl (cI, 30, .inl fp))]) [0, 1, 2, 3, 4, 5, 6] rfl
  have hDc := hD.sub (ws' := [(g, .inr (0, [.ref so, .ref lo, .ref qpr, .ref qpa, .int (nI dy), .long co, .long wo])), (qpr, .inl (cJ, 30, .inr (.inl pr))), (qpa, .inl (cJ, 30, .inr (.inl pa))), (so, .inr (3, [.ref qlk, .ref qln, .ref qhd, .ref qsf, .ref qfp, .ref qfc, .int (nI ly), .int (nI ce), .int da, .int db, .int dr])), (qhd, .inl (cI, 30, .inl hd)), (qsf, .inl (cI, 30, .inl sf)), (qfp, .inl (cI, 30, .inl fp))]) [0, 1, 2, 3, 4, 5, 6] (by decide) rfl
  have hFc := va_free (wc := [(g, .inr (0, [.ref so, .ref lo, .ref qpr, .ref qpa, .int (nI dy), .long co, .long wo])), (qpr, .inl (cJ, 30, .inr (.inl pr))), (qpa, .inl (cJ, 30, .inr (.inl pa))), (so, .inr (3, [.ref qlk, .ref qln, .ref qhd, .ref qsf, .ref qfp, .ref qfc, .int (nI ly), .int (nI ce), .int da, .int db, .int dr])), (qhd, .inl (cI, 30, .inl hd)), (qsf, .inl (cI, 30, .inl sf)), (qfp, .inl (cI, 30, .inl fp))]) hD hS hA [0, 1, 2, 3, 4, 5, 6] rfl
  refine va_calll (va_runV (As := [.int (nI 0), .int (nI ce)]) (rest := []) ⟨hx, hb, hml, hown, htw⟩ (kG_unitsSunk2 l dC dI cI cJ g so lo qpr qpa qlk qln qhd qsf qfp qfc s.heap.size 0 ce dy co wo pr pa ly ce da db dr hd sf fp (by first | assumption | omega | decide) (by first | assumption | omega | decide)) (cwV 2 htw (wv_good m_236 m_237 m_238 m_5 m_239) rfl rfl rfl (by decide +kernel) ⟨Nat.le_of_ble_eq_true rfl, Nat.le_of_ble_eq_true rfl⟩) ⟨fun a U g mk q => by obtain ⟨q0, q1, qP, qK, qD⟩ := q; exact ⟨q0, q1, qP, va_K.moved (u := U) (U := U.calling g mk a) (Vm.Alike.refl U.vm) qK, qD⟩, va_recv hK hPc (ci := 0) (q0 := 0) rfl rfl, fun U hU hW => ⟨rfl, by rw [hU], by rw [hU]; exact hPc, va_K.moved hW.alike hK, hDc.weaken (fun _ _ _ _ => trivial)⟩⟩ rfl rfl hl.1 rfl (lv_room (Nat.le_of_ble_eq_true rfl)) dG_unitsSunk_9 ⟨Nat.le_of_ble_eq_true rfl, Nat.le_of_ble_eq_true rfl⟩) hS (fun q _ h => hFc q h) hFc (fun res_ u_ t H1 locs ht hvm hw hB hz1 hk1 hS => ?_)
  obtain ⟨hP1, hK1, hD1⟩ := hB
  rw [ht] at hP1
  obtain ⟨hP, hD⟩ := va_join (wr := []) (w1 := [(g, .inr (0, [.ref so, .ref lo, .ref qpr, .ref qpa, .int (nI dy), .long co, .long wo])), (qpr, .inl (cJ, 30, .inr (.inl pr))), (qpa, .inl (cJ, 30, .inr (.inl pa))), (so, .inr (3, [.ref qlk, .ref qln, .ref qhd, .ref qsf, .ref qfp, .ref qfc, .int (nI ly), .int (nI ce), .int da, .int db, .int dr])), (qhd, .inl (cI, 30, .inl hd)), (qsf, .inl (cI, 30, .inl sf)), (qfp, .inl (cI, 30, .inl fp))]) hP hD [0, 1, 2, 3, 4, 5, 6] [] rfl rfl (by decide) (by decide) hk1 hFc hP1 hD1
  generalize H1 = H at hP hS ⊢
  have hP : va_P (dC, dI) vwCl [(g, .inr (0, [.ref so, .ref lo, .ref qpr, .ref qpa, .int (nI dy), .long co, .long wo])), (qpr, .inl (cJ, 30, .inr (.inl pr))), (qpa, .inl (cJ, 30, .inr (.inl pa))), (so, .inr (3, [.ref qlk, .ref qln, .ref qhd, .ref qsf, .ref qfp, .ref qfc, .int (nI ly), .int (nI ce), .int da, .int db, .int dr])), (qhd, .inl (cI, 30, .inl hd)), (qsf, .inl (cI, 30, .inl sf)), (qfp, .inl (cI, 30, .inl fp))] H := hP
  have hD : va_D A [(g, .inr (0, [.ref so, .ref lo, .ref qpr, .ref qpa, .int (nI dy), .long co, .long wo])), (qpr, .inl (cJ, 30, .inr (.inl pr))), (qpa, .inl (cJ, 30, .inr (.inl pa))), (so, .inr (3, [.ref qlk, .ref qln, .ref qhd, .ref qsf, .ref qfp, .ref qfc, .int (nI ly), .int (nI ce), .int da, .int db, .int dr])), (qhd, .inl (cI, 30, .inl hd)), (qsf, .inl (cI, 30, .inl sf)), (qfp, .inl (cI, 30, .inl fp))] := hD
  clear hPc hDc hFc hP1 hD1 hK1 hk1 hz1 hvm ht
  obtain rfl : k_units hd sf fp co pr pa 0 ce = res_ := hw.symm
  have hP : va_P (dC, dI) vwCl [(g, .inr (0, [.ref so, .ref lo, .ref qpr, .ref qpa, .int (nI dy), .long co, .long wo])), (qpr, .inl (cJ, 30, .inr (.inl pr))), (qpa, .inl (cJ, 30, .inr (.inl pa))), (so, .inr (3, [.ref qlk, .ref qln, .ref qhd, .ref qsf, .ref qfp, .ref qfc, .int (nI ly), .int (nI ce), .int da, .int db, .int dr])), (qhd, .inl (cI, 30, .inl hd)), (qsf, .inl (cI, 30, .inl sf)), (qfp, .inl (cI, 30, .inl fp))] H := by first | exact hP | simpa only [] using hP
  have hD : va_D A [(g, .inr (0, [.ref so, .ref lo, .ref qpr, .ref qpa, .int (nI dy), .long co, .long wo])), (qpr, .inl (cJ, 30, .inr (.inl pr))), (qpa, .inl (cJ, 30, .inr (.inl pa))), (so, .inr (3, [.ref qlk, .ref qln, .ref qhd, .ref qsf, .ref qfp, .ref qfc, .int (nI ly), .int (nI ce), .int da, .int db, .int dr])), (qhd, .inl (cI, 30, .inl hd)), (qsf, .inl (cI, 30, .inl sf)), (qfp, .inl (cI, 30, .inl fp))] := by first | exact hD | simpa only [] using hD
  exact W.lret (v := k_units hd sf fp co pr pa 0 ce) hx hb hr (fun t ht hW => ⟨⟨k_units hd sf fp co pr pa 0 ce, (), rfl, rfl, by rw [ht]; exact hP, va_K.moved hW.alike hK, hD⟩, hS.F ht⟩) hS.2.2 dG_unitsSunk_12
set_option maxHeartbeats 4000000 in
set_option maxRecDepth 100000 in
theorem kG_unitsAtEnd (l : Launch) (dC : Nat → ClassId) (dI : Nat → Nat → Nat) (cI cJ : ClassId) (g so lo qpr qpa qlk qln qhd qsf qfp qfc qld qlz : Nat) (sz : Nat) (dy : Nat) (co : Int64) (wo : Int64) (pa : Nat → Int64) (ly : Nat) (ce : Nat) (da : Int32) (db : Int32) (dr : Int32) (hd : Nat → Int32) (sf : Nat → Int32) (fp : Nat → Int32) (mn : Nat) (sm : Int64) (hce : ce ≤ 30) : Met l yG_unitsAtEnd wG_unitsAtEnd ({ frames := 1, cells := 0, slots := 0, locals := 25 }) (va_Pc [.ref g] (fun U => U.heap.size = sz ∧ va_P (dC, dI) vwCl [(g, .inr (0, [.ref so, .ref lo, .ref qpr, .ref qpa, .int (nI dy), .long co, .long wo])), (qpa, .inl (cJ, 30, .inr (.inl pa))), (so, .inr (3, [.ref qlk, .ref qln, .ref qhd, .ref qsf, .ref qfp, .ref qfc, .int (nI ly), .int (nI ce), .int da, .int db, .int dr])), (qhd, .inl (cI, 30, .inl hd)), (qsf, .inl (cI, 30, .inl sf)), (qfp, .inl (cI, 30, .inl fp)), (lo, .inr (1, [.ref qld, .ref qlz, .int (nI mn), .long sm]))] U.heap ∧ va_K (dC, dI) vwCl [(cI, .int), (cJ, .long)] U ∧ va_D (fun _ => True) [(g, .inr (0, [.ref so, .ref lo, .ref qpr, .ref qpa, .int (nI dy), .long co, .long wo])), (qpa, .inl (cJ, 30, .inr (.inl pa))), (so, .inr (3, [.ref qlk, .ref qln, .ref qhd, .ref qsf, .ref qfp, .ref qfc, .int (nI ly), .int (nI ce), .int da, .int db, .int dr])), (qhd, .inl (cI, 30, .inl hd)), (qsf, .inl (cI, 30, .inl sf)), (qfp, .inl (cI, 30, .inl fp)), (lo, .inr (1, [.ref qld, .ref qlz, .int (nI mn), .long sm]))])) (va_Ql (fun res_ (_ : Unit) => res_ = k_end hd sf fp sm pa ce) (fun _ t => va_P (dC, dI) vwCl [(g, .inr (0, [.ref so, .ref lo, .ref qpr, .ref qpa, .int (nI dy), .long co, .long wo])), (qpa, .inl (cJ, 30, .inr (.inl pa))), (so, .inr (3, [.ref qlk, .ref qln, .ref qhd, .ref qsf, .ref qfp, .ref qfc, .int (nI ly), .int (nI ce), .int da, .int db, .int dr])), (qhd, .inl (cI, 30, .inl hd)), (qsf, .inl (cI, 30, .inl sf)), (qfp, .inl (cI, 30, .inl fp)), (lo, .inr (1, [.ref qld, .ref qlz, .int (nI mn), .long sm]))] t.heap ∧ va_K (dC, dI) vwCl [(cI, .int), (cJ, .long)] t ∧ va_D (va_A [(g, .inr (0, [.ref so, .ref lo, .ref qpr, .ref qpa, .int (nI dy), .long co, .long wo])), (qpa, .inl (cJ, 30, .inr (.inl pa))), (so, .inr (3, [.ref qlk, .ref qln, .ref qhd, .ref qsf, .ref qfp, .ref qfc, .int (nI ly), .int (nI ce), .int da, .int db, .int dr])), (qhd, .inl (cI, 30, .inl hd)), (qsf, .inl (cI, 30, .inl sf)), (qfp, .inl (cI, 30, .inl fp)), (lo, .inr (1, [.ref qld, .ref qlz, .int (nI mn), .long sm]))] sz) [(g, .inr (0, [.ref so, .ref lo, .ref qpr, .ref qpa, .int (nI dy), .long co, .long wo])), (qpa, .inl (cJ, 30, .inr (.inl pa))), (so, .inr (3, [.ref qlk, .ref qln, .ref qhd, .ref qsf, .ref qfp, .ref qfc, .int (nI ly), .int (nI ce), .int da, .int db, .int dr])), (qhd, .inl (cI, 30, .inl hd)), (qsf, .inl (cI, 30, .inl sf)), (qfp, .inl (cI, 30, .inl fp)), (lo, .inr (1, [.ref qld, .ref qlz, .int (nI mn), .long sm]))]) (va_A [(g, .inr (0, [.ref so, .ref lo, .ref qpr, .ref qpa, .int (nI dy), .long co, .long wo])), (qpa, .inl (cJ, 30, .inr (.inl pa))), (so, .inr (3, [.ref qlk, .ref qln, .ref qhd, .ref qsf, .ref qfp, .ref qfc, .int (nI ly), .int (nI ce), .int da, .int db, .int dr])), (qhd, .inl (cI, 30, .inl hd)), (qsf, .inl (cI, 30, .inl sf)), (qfp, .inl (cI, 30, .inl fp)), (lo, .inr (1, [.ref qld, .ref qlz, .int (nI mn), .long sm]))] sz)) 0 0 (va_A [(g, .inr (0, [.ref so, .ref lo, .ref qpr, .ref qpa, .int (nI dy), .long co, .long wo])), (qpa, .inl (cJ, 30, .inr (.inl pa))), (so, .inr (3, [.ref qlk, .ref qln, .ref qhd, .ref qsf, .ref qfp, .ref qfc, .int (nI ly), .int (nI ce), .int da, .int db, .int dr])), (qhd, .inl (cI, 30, .inl hd)), (qsf, .inl (cI, 30, .inl sf)), (qfp, .inl (cI, 30, .inl fp)), (lo, .inr (1, [.ref qld, .ref qlz, .int (nI mn), .long sm]))] sz) := by
  refine Met.ofW (cc := bG_unitsAtEnd) (maxL := 4) (ret := (some .long)) (by decide) rfl ?_
  intro p e s m args below meth c s₁ B hml hv
  obtain ⟨rfl, hsz, hP, hK, hD0⟩ := hv
  have hx := B.exec
  have hb := B.bytes
  have hr := B.returns
  have hts := atoms_spec (ws := wG_unitsAtEnd) B.pre
  have hown : s.vm.findClass R_G = some m.cls := findClass_of_methodNamed B.named
  have htw : ∀ w ∈ WA, w.before _ s = true := fun w h => hts w (List.mem_cons_of_mem _ h)
  clear hts
  have hlocks := B.notSynchronized
  subst hsz
  have hD := hD0.self (sz := s.heap.size)
  generalize hAe : va_A [(g, .inr (0, [.ref so, .ref lo, .ref qpr, .ref qpa, .int (nI dy), .long co, .long wo])), (qpa, .inl (cJ, 30, .inr (.inl pa))), (so, .inr (3, [.ref qlk, .ref qln, .ref qhd, .ref qsf, .ref qfp, .ref qfc, .int (nI ly), .int (nI ce), .int da, .int db, .int dr])), (qhd, .inl (cI, 30, .inl hd)), (qsf, .inl (cI, 30, .inl sf)), (qfp, .inl (cI, 30, .inl fp)), (lo, .inr (1, [.ref qld, .ref qlz, .int (nI mn), .long sm]))] s.heap.size = A at hD ⊢
  have hA : ∀ q : Nat, s.heap.size ≤ q → A q := fun q h => by rw [← hAe]; exact Or.inr h
  clear hAe hD0
  have hS : va_S A s.heap s.heap [] := va_S.rf
  have hP : va_P (dC, dI) vwCl [(g, .inr (0, [.ref so, .ref lo, .ref qpr, .ref qpa, .int (nI dy), .long co, .long wo])), (qpa, .inl (cJ, 30, .inr (.inl pa))), (so, .inr (3, [.ref qlk, .ref qln, .ref qhd, .ref qsf, .ref qfp, .ref qfc, .int (nI ly), .int (nI ce), .int da, .int db, .int dr])), (qhd, .inl (cI, 30, .inl hd)), (qsf, .inl (cI, 30, .inl sf)), (qfp, .inl (cI, 30, .inl fp)), (lo, .inr (1, [.ref qld, .ref qlz, .int (nI mn), .long sm]))] s.heap := hP
  have hl := lv_entry ([.ref g]) (n := 4) (Nat.le_of_ble_eq_true rfl)
  rw [lg_entry_eq]
  generalize (lg_sl ([.ref g]) ++ List.replicate (4 - (lg_sl ([.ref g])).length) Slot.unset).toArray = ls at hl ⊢
  have hl : lv_has ls 4 [(0, .ref g)] := hl
  refine lv_lconst (v := 0) hx hb dG_unitsAtEnd_0 (by decide) ?_
  refine lv_lstore_n (lv' := [(1, .long 0), (0, .ref g)]) hx hb dG_unitsAtEnd_1 rfl hl (by decide) rfl (fun ls hl => ?_)
  refine lv_iconst (v := nI 0) hx hb dG_unitsAtEnd_2 (by decide) ?_
  refine lv_istore_n (lv' := [(3, .int (nI 0)), (1, .long 0), (0, .ref g)]) hx hb dG_unitsAtEnd_3 rfl hl (by decide) rfl (fun ls hl => ?_)
  -- the loop at 4
  have hP : va_P (dC, dI) vwCl [(g, .inr (0, [.ref so, .ref lo, .ref qpr, .ref qpa, .int (nI dy), .long co, .long wo])), (qpa, .inl (cJ, 30, .inr (.inl pa))), (so, .inr (3, [.ref qlk, .ref qln, .ref qhd, .ref qsf, .ref qfp, .ref qfc, .int (nI ly), .int (nI ce), .int da, .int db, .int dr])), (qhd, .inl (cI, 30, .inl hd)), (qsf, .inl (cI, 30, .inl sf)), (qfp, .inl (cI, 30, .inl fp)), (lo, .inr (1, [.ref qld, .ref qlz, .int (nI mn), .long sm]))] s.heap := by first | exact hP | simpa only [] using hP
  have hD : va_D A [(g, .inr (0, [.ref so, .ref lo, .ref qpr, .ref qpa, .int (nI dy), .long co, .long wo])), (qpa, .inl (cJ, 30, .inr (.inl pa))), (so, .inr (3, [.ref qlk, .ref qln, .ref qhd, .ref qsf, .ref qfp, .ref qfc, .int (nI ly), .int (nI ce), .int da, .int db, .int dr])), (qhd, .inl (cI, 30, .inl hd)), (qsf, .inl (cI, 30, .inl sf)), (qfp, .inl (cI, 30, .inl fp)), (lo, .inr (1, [.ref qld, .ref qlz, .int (nI mn), .long sm]))] := by first | exact hD | simpa only [] using hD
  refine x_loop (N := ce) (I := fun i H locs ls => va_P (dC, dI) vwCl [(g, .inr (0, [.ref so, .ref lo, .ref qpr, .ref qpa, .int (nI dy), .long co, .long wo])), (qpa, .inl (cJ, 30, .inr (.inl pa))), (so, .inr (3, [.ref qlk, .ref qln, .ref qhd, .ref qsf, .ref qfp, .ref qfc, .int (nI ly), .int (nI ce), .int da, .int db, .int dr])), (qhd, .inl (cI, 30, .inl hd)), (qsf, .inl (cI, 30, .inl sf)), (qfp, .inl (cI, 30, .inl fp)), (lo, .inr (1, [.ref qld, .ref qlz, .int (nI mn), .long sm]))] H ∧ va_D A [(g, .inr (0, [.ref so, .ref lo, .ref qpr, .ref qpa, .int (nI dy), .long co, .long wo])), (qpa, .inl (cJ, 30, .inr (.inl pa))), (so, .inr (3, [.ref qlk, .ref qln, .ref qhd, .ref qsf, .ref qfp, .ref qfc, .int (nI ly), .int (nI ce), .int da, .int db, .int dr])), (qhd, .inl (cI, 30, .inl hd)), (qsf, .inl (cI, 30, .inl sf)), (qfp, .inl (cI, 30, .inl fp)), (lo, .inr (1, [.ref qld, .ref qlz, .int (nI mn), .long sm]))] ∧ va_S A s.heap H locs ∧ lv_has ls 4 [(0, .ref g), (1, .long (k_end hd sf fp sm pa i)), (3, .int (nI i))]) (i0 := 0) ?_ (Nat.zero_le _) ⟨hP, hD, hS, lv_sub hl [2, 1, 0] rfl⟩
  intro i hi ih4 H locs ls hI
  obtain ⟨hP, hD, hS, hl⟩ := hI
  refine lv_iload_n hx hb dG_unitsAtEnd_4 rfl (lv_at hl 2 rfl) ?_
  refine lv_aload_n hx hb dG_unitsAtEnd_5 rfl (lv_at hl 0 rfl) ?_
  refine va_get (D := (dC, dI)) (ci := 0) (v := .ref so) (C := R_G) (T := T_G) (N := 7) hx hb htw in_G hown hK hP 0 rfl rfl 0 (by decide) (htw _ m_114) (fun _ h9 => h9) rfl dG_unitsAtEnd_6 ?_
  refine va_get (D := (dC, dI)) (ci := 3) (v := .int (nI ce)) (C := R_S) (T := T_S) (N := 11) hx hb htw in_S hown hK hP 2 rfl rfl 7 (by decide) (htw _ m_35) (fun _ h9 => h9) rfl dG_unitsAtEnd_9 ?_
  refine lv_icmp_ge (tgt := 55) hx hb dG_unitsAtEnd_12 (by decide) (fun hc12 => ?_) (fun hc12 => ?_)
  · -- 12 taken
    rw [nI_leI (by omega) (by omega)] at hc12
    obtain rfl : ce = i := by omega
    refine lv_lload_n hx hb dG_unitsAtEnd_55 rfl (lv_at hl 1 rfl) ?_
    have hP : va_P (dC, dI) vwCl [(g, .inr (0, [.ref so, .ref lo, .ref qpr, .ref qpa, .int (nI dy), .long co, .long wo])), (qpa, .inl (cJ, 30, .inr (.inl pa))), (so, .inr (3, [.ref qlk, .ref qln, .ref qhd, .ref qsf, .ref qfp, .ref qfc, .int (nI ly), .int (nI ce), .int da, .int db, .int dr])), (qhd, .inl (cI, 30, .inl hd)), (qsf, .inl (cI, 30, .inl sf)), (qfp, .inl (cI, 30, .inl fp)), (lo, .inr (1, [.ref qld, .ref qlz, .int (nI mn), .long sm]))] H := by first | exact hP | simpa only [] using hP
    have hD : va_D A [(g, .inr (0, [.ref so, .ref lo, .ref qpr, .ref qpa, .int (nI dy), .long co, .long wo])), (qpa, .inl (cJ, 30, .inr (.inl pa))), (so, .inr (3, [.ref qlk, .ref qln, .ref qhd, .ref qsf, .ref qfp, .ref qfc, .int (nI ly), .int (nI ce), .int da, .int db, .int dr])), (qhd, .inl (cI, 30, .inl hd)), (qsf, .inl (cI, 30, .inl sf)), (qfp, .inl (cI, 30, .inl fp)), (lo, .inr (1, [.ref qld, .ref qlz, .int (nI mn), .long sm]))] := by first | exact hD | simpa only [] using hD
    exact W.lret (v := k_end hd sf fp sm pa ce) hx hb hr (fun t ht hW => ⟨⟨k_end hd sf fp sm pa ce, (), rfl, rfl, by rw [ht]; exact hP, va_K.moved hW.alike hK, hD⟩, hS.F ht⟩) hS.2.2 dG_unitsAtEnd_56
  · -- 12 not taken
    rw [nI_leI (by omega) (by omega)] at hc12
    refine lv_lload_n hx hb dG_unitsAtEnd_15 rfl (lv_at hl 1 rfl) ?_
    refine lv_aload_n hx hb dG_unitsAtEnd_16 rfl (lv_at hl 0 rfl) ?_
    refine va_get (D := (dC, dI)) (ci := 0) (v := .ref so) (C := R_G) (T := T_G) (N := 7) hx hb htw in_G hown hK hP 0 rfl rfl 0 (by decide) (htw _ m_114) (fun _ h9 => h9) rfl dG_unitsAtEnd_17 ?_
    refine lv_iload_n hx hb dG_unitsAtEnd_20 rfl (lv_at hl 2 rfl) ?_
    refine lv_aload_n hx hb dG_unitsAtEnd_21 rfl (lv_at hl 0 rfl) ?_
    refine va_get (D := (dC, dI)) (ci := 0) (v := .ref lo) (C := R_G) (T := T_G) (N := 7) hx hb htw in_G hown hK hP 0 rfl rfl 1 (by decide) (htw _ m_115) (fun _ h9 => h9) rfl dG_unitsAtEnd_22 ?_
    refine va_get (D := (dC, dI)) (ci := 1) (v := .long sm) (C := R_O) (T := T_O) (N := 4) hx hb htw in_O hown hK hP 6 rfl rfl 3 (by decide) (htw _ m_78) (fun _ h9 => h9) rfl dG_unitsAtEnd_25 ?_
    refine lv_aload_n hx hb dG_unitsAtEnd_28 rfl (lv_at hl 0 rfl) ?_
    refine va_get (D := (dC, dI)) (ci := 0) (v := .ref qpa) (C := R_G) (T := T_G) (N := 7) hx hb htw in_G hown hK hP 0 rfl rfl 3 (by decide) (htw _ m_118) (fun _ h9 => h9) rfl dG_unitsAtEnd_29 ?_
    refine lv_iload_n hx hb dG_unitsAtEnd_32 rfl (lv_at hl 2 rfl) ?_
    refine xa_lald hx hb hK hP 1 1 rfl rfl (i := i) (by omega) (by decide) dG_unitsAtEnd_33 ?_
    refine lv_aload_n hx hb dG_unitsAtEnd_34 rfl (lv_at hl 0 rfl) ?_
    refine va_get (D := (dC, dI)) (ci := 0) (v := .ref lo) (C := R_G) (T := T_G) (N := 7) hx hb htw in_G hown hK hP 0 rfl rfl 1 (by decide) (htw _ m_115) (fun _ h9 => h9) rfl dG_unitsAtEnd_35 ?_
    refine va_get (D := (dC, dI)) (ci := 1) (v := .long sm) (C := R_O) (T := T_O) (N := 4) hx hb htw in_O hown hK hP 6 rfl rfl 3 (by decide) (htw _ m_78) (fun _ h9 => h9) rfl dG_unitsAtEnd_38 ?_
    refine va_mmax_long hx hb (by rw [hml]; exact hl.1.symm) hown (htw _ m_229) (htw _ m_230) (htw _ m_7) (htw _ m_231) (Nat.le_of_ble_eq_true rfl) (Nat.le_of_ble_eq_true rfl) (Nat.le_of_ble_eq_true rfl) (Nat.le_of_ble_eq_true rfl) dG_unitsAtEnd_41 ?_
    refine lv_topl (fun kv ekv => ?_)
    obtain rfl : k_mx (pa i) sm = kv := (ekv.trans (rfl)).symm
    have hPc := hP.sub (ws' := [(so, .inr (3, [.ref qlk, .ref qln, .ref qhd, .ref qsf, .ref qfp, .ref qfc, .int (nI ly), .int (nI ce), .int da, .int db, .int dr])), (qhd, .inl (cI, 30, .inl hd)), (qsf, .inl (cI, 30, .inl sf)), (qfp, .inl (cI, 30, .inl fp))]) [2, 3, 4, 5] rfl
    have hDc := hD.sub (ws' := [(so, .inr (3, [.ref qlk, .ref qln, .ref qhd, .ref qsf, .ref qfp, .ref qfc, .int (nI ly), .int (nI ce), .int da, .int db, .int dr])), (qhd, .inl (cI, 30, .inl hd)), (qsf, .inl (cI, 30, .inl sf)), (qfp, .inl (cI, 30, .inl fp))]) [2, 3, 4, 5] (by decide) rfl
    have hFc := va_free (wc := [(so, .inr (3, [.ref qlk, .ref qln, .ref qhd, .ref qsf, .ref qfp, .ref qfc, .int (nI ly), .int (nI ce), .int da, .int db, .int dr])), (qhd, .inl (cI, 30, .inl hd)), (qsf, .inl (cI, 30, .inl sf)), (qfp, .inl (cI, 30, .inl fp))]) hD hS hA [2, 3, 4, 5] rfl
    refine va_calll (va_runV (As := [.int (nI i), .long sm, .long (k_mx (pa i) sm)]) (rest := [.long (k_end hd sf fp sm pa i)]) ⟨hx, hb, hml, hown, htw⟩ (kS_unitsSunk l dC dI cI cJ so qlk qln qhd qsf qfp qfc H.size i sm (k_mx (pa i) sm) ly ce da db dr hd sf fp (by first | assumption | omega | decide)) (cwV 3 htw (wv_good m_240 m_241 m_242 m_2 m_243) rfl rfl rfl (by decide +kernel) ⟨Nat.le_of_ble_eq_true rfl, Nat.le_of_ble_eq_true rfl⟩) ⟨fun a U g mk q => by obtain ⟨q0, q1, qP, qK, qD⟩ := q; exact ⟨q0, q1, qP, va_K.moved (u := U) (U := U.calling g mk a) (Vm.Alike.refl U.vm) qK, qD⟩, va_recv hK hPc (ci := 3) (q0 := 0) rfl rfl, fun U hU hW => ⟨rfl, by rw [hU], by rw [hU]; exact hPc, va_K.moved hW.alike hK, hDc.weaken (fun _ _ _ _ => trivial)⟩⟩ rfl rfl hl.1 rfl (lv_room (Nat.le_of_ble_eq_true rfl)) dG_unitsAtEnd_44 ⟨Nat.le_of_ble_eq_true rfl, Nat.le_of_ble_eq_true rfl⟩) hS (fun q _ h => hFc q h) hFc (fun res_ u_ t H1 locs ht hvm hw hB hz1 hk1 hS => ?_)
    obtain ⟨hP1, hK1, hD1⟩ := hB
    rw [ht] at hP1
    obtain ⟨hP, hD⟩ := va_join (wr := [(g, .inr (0, [.ref so, .ref lo, .ref qpr, .ref qpa, .int (nI dy), .long co, .long wo])), (qpa, .inl (cJ, 30, .inr (.inl pa))), (lo, .inr (1, [.ref qld, .ref qlz, .int (nI mn), .long sm]))]) (w1 := [(so, .inr (3, [.ref qlk, .ref qln, .ref qhd, .ref qsf, .ref qfp, .ref qfc, .int (nI ly), .int (nI ce), .int da, .int db, .int dr])), (qhd, .inl (cI, 30, .inl hd)), (qsf, .inl (cI, 30, .inl sf)), (qfp, .inl (cI, 30, .inl fp))]) hP hD [2, 3, 4, 5] [0, 1, 6] rfl rfl (by decide) (by decide) hk1 hFc hP1 hD1
    generalize H1 = H at hP hS ⊢
    have hP := hP.sub (ws' := [(g, .inr (0, [.ref so, .ref lo, .ref qpr, .ref qpa, .int (nI dy), .long co, .long wo])), (qpa, .inl (cJ, 30, .inr (.inl pa))), (so, .inr (3, [.ref qlk, .ref qln, .ref qhd, .ref qsf, .ref qfp, .ref qfc, .int (nI ly), .int (nI ce), .int da, .int db, .int dr])), (qhd, .inl (cI, 30, .inl hd)), (qsf, .inl (cI, 30, .inl sf)), (qfp, .inl (cI, 30, .inl fp)), (lo, .inr (1, [.ref qld, .ref qlz, .int (nI mn), .long sm]))]) [0, 1, 3, 4, 5, 6, 2] rfl
    have hD := hD.sub (ws' := [(g, .inr (0, [.ref so, .ref lo, .ref qpr, .ref qpa, .int (nI dy), .long co, .long wo])), (qpa, .inl (cJ, 30, .inr (.inl pa))), (so, .inr (3, [.ref qlk, .ref qln, .ref qhd, .ref qsf, .ref qfp, .ref qfc, .int (nI ly), .int (nI ce), .int da, .int db, .int dr])), (qhd, .inl (cI, 30, .inl hd)), (qsf, .inl (cI, 30, .inl sf)), (qfp, .inl (cI, 30, .inl fp)), (lo, .inr (1, [.ref qld, .ref qlz, .int (nI mn), .long sm]))]) [0, 1, 3, 4, 5, 6, 2] (by decide) rfl
    clear hPc hDc hFc hP1 hD1 hK1 hk1 hz1 hvm ht
    obtain rfl : k_u1 hd sf fp i sm (k_mx (pa i) sm) = res_ := hw.symm
    refine lv_ladd hx hb dG_unitsAtEnd_47 ?_
    refine lv_lstore_n (lv' := [(1, .long ((k_end hd sf fp sm pa i) + (k_u1 hd sf fp i sm (k_mx (pa i) sm)))), (0, .ref g), (3, .int (nI i))]) hx hb dG_unitsAtEnd_48 rfl hl (by decide) rfl (fun ls hl => ?_)
    refine lv_iinc (v := nI (i + 1)) (lv' := [(3, .int (nI (i + 1))), (1, .long ((k_end hd sf fp sm pa i) + (k_u1 hd sf fp i sm (k_mx (pa i) sm)))), (0, .ref g)]) hx hb dG_unitsAtEnd_49 hl (k := 2) rfl (nI_1 _) (by decide) rfl (fun ls hl => ?_)
    refine lv_goto (tgt := 4) hx hb dG_unitsAtEnd_52 (by decide) ?_
    have hP : va_P (dC, dI) vwCl [(g, .inr (0, [.ref so, .ref lo, .ref qpr, .ref qpa, .int (nI dy), .long co, .long wo])), (qpa, .inl (cJ, 30, .inr (.inl pa))), (so, .inr (3, [.ref qlk, .ref qln, .ref qhd, .ref qsf, .ref qfp, .ref qfc, .int (nI ly), .int (nI ce), .int da, .int db, .int dr])), (qhd, .inl (cI, 30, .inl hd)), (qsf, .inl (cI, 30, .inl sf)), (qfp, .inl (cI, 30, .inl fp)), (lo, .inr (1, [.ref qld, .ref qlz, .int (nI mn), .long sm]))] H := by first | exact hP | simpa only [] using hP
    have hD : va_D A [(g, .inr (0, [.ref so, .ref lo, .ref qpr, .ref qpa, .int (nI dy), .long co, .long wo])), (qpa, .inl (cJ, 30, .inr (.inl pa))), (so, .inr (3, [.ref qlk, .ref qln, .ref qhd, .ref qsf, .ref qfp, .ref qfc, .int (nI ly), .int (nI ce), .int da, .int db, .int dr])), (qhd, .inl (cI, 30, .inl hd)), (qsf, .inl (cI, 30, .inl sf)), (qfp, .inl (cI, 30, .inl fp)), (lo, .inr (1, [.ref qld, .ref qlz, .int (nI mn), .long sm]))] := by first | exact hD | simpa only [] using hD
    exact ih4 (by omega) _ _ _ ⟨hP, hD, hS, lv_sub hl [2, 1, 0] rfl⟩
set_option maxHeartbeats 4000000 in
set_option maxRecDepth 100000 in
theorem kG_allPressures (l : Launch) (dC : Nat → ClassId) (dI : Nat → Nat → Nat) (cI cJ : ClassId) (g so lo qpr qpa qlk qln qhd qsf qfp qfc : Nat) (sz : Nat) (dy : Nat) (co : Int64) (wo : Int64) (pr : Nat → Int64) (ly : Nat) (ce : Nat) (da : Int32) (db : Int32) (dr : Int32) (hce : ce ≤ 30) : Met l yG_allPressures wG_allPressures ({ frames := 0, cells := 0, slots := 0, locals := 0 }) (va_Pc [.ref g] (fun U => U.heap.size = sz ∧ va_P (dC, dI) vwCl [(g, .inr (0, [.ref so, .ref lo, .ref qpr, .ref qpa, .int (nI dy), .long co, .long wo])), (qpr, .inl (cJ, 30, .inr (.inl pr))), (so, .inr (3, [.ref qlk, .ref qln, .ref qhd, .ref qsf, .ref qfp, .ref qfc, .int (nI ly), .int (nI ce), .int da, .int db, .int dr]))] U.heap ∧ va_K (dC, dI) vwCl [(cI, .int), (cJ, .long)] U ∧ va_D (fun _ => True) [(g, .inr (0, [.ref so, .ref lo, .ref qpr, .ref qpa, .int (nI dy), .long co, .long wo])), (qpr, .inl (cJ, 30, .inr (.inl pr))), (so, .inr (3, [.ref qlk, .ref qln, .ref qhd, .ref qsf, .ref qfp, .ref qfc, .int (nI ly), .int (nI ce), .int da, .int db, .int dr]))])) (va_Ql (fun res_ (_ : Unit) => res_ = k_sum pr ce) (fun _ t => va_P (dC, dI) vwCl [(g, .inr (0, [.ref so, .ref lo, .ref qpr, .ref qpa, .int (nI dy), .long co, .long wo])), (qpr, .inl (cJ, 30, .inr (.inl pr))), (so, .inr (3, [.ref qlk, .ref qln, .ref qhd, .ref qsf, .ref qfp, .ref qfc, .int (nI ly), .int (nI ce), .int da, .int db, .int dr]))] t.heap ∧ va_K (dC, dI) vwCl [(cI, .int), (cJ, .long)] t ∧ va_D (va_A [(g, .inr (0, [.ref so, .ref lo, .ref qpr, .ref qpa, .int (nI dy), .long co, .long wo])), (qpr, .inl (cJ, 30, .inr (.inl pr))), (so, .inr (3, [.ref qlk, .ref qln, .ref qhd, .ref qsf, .ref qfp, .ref qfc, .int (nI ly), .int (nI ce), .int da, .int db, .int dr]))] sz) [(g, .inr (0, [.ref so, .ref lo, .ref qpr, .ref qpa, .int (nI dy), .long co, .long wo])), (qpr, .inl (cJ, 30, .inr (.inl pr))), (so, .inr (3, [.ref qlk, .ref qln, .ref qhd, .ref qsf, .ref qfp, .ref qfc, .int (nI ly), .int (nI ce), .int da, .int db, .int dr]))]) (va_A [(g, .inr (0, [.ref so, .ref lo, .ref qpr, .ref qpa, .int (nI dy), .long co, .long wo])), (qpr, .inl (cJ, 30, .inr (.inl pr))), (so, .inr (3, [.ref qlk, .ref qln, .ref qhd, .ref qsf, .ref qfp, .ref qfc, .int (nI ly), .int (nI ce), .int da, .int db, .int dr]))] sz)) 0 0 (va_A [(g, .inr (0, [.ref so, .ref lo, .ref qpr, .ref qpa, .int (nI dy), .long co, .long wo])), (qpr, .inl (cJ, 30, .inr (.inl pr))), (so, .inr (3, [.ref qlk, .ref qln, .ref qhd, .ref qsf, .ref qfp, .ref qfc, .int (nI ly), .int (nI ce), .int da, .int db, .int dr]))] sz) := by
  refine Met.ofW (cc := bG_allPressures) (maxL := 4) (ret := (some .long)) (by decide) rfl ?_
  intro p e s m args below meth c s₁ B hml hv
  obtain ⟨rfl, hsz, hP, hK, hD0⟩ := hv
  have hx := B.exec
  have hb := B.bytes
  have hr := B.returns
  have hts := atoms_spec (ws := wG_allPressures) B.pre
  have hown : s.vm.findClass R_G = some m.cls := findClass_of_methodNamed B.named
  have htw : ∀ w ∈ WA, w.before _ s = true := fun w h => hts w (List.mem_cons_of_mem _ h)
  clear hts
  have hlocks := B.notSynchronized
  subst hsz
  have hD := hD0.self (sz := s.heap.size)
  generalize hAe : va_A [(g, .inr (0, [.ref so, .ref lo, .ref qpr, .ref qpa, .int (nI dy), .long co, .long wo])), (qpr, .inl (cJ, 30, .inr (.inl pr))), (so, .inr (3, [.ref qlk, .ref qln, .ref qhd, .ref qsf, .ref qfp, .ref qfc, .int (nI ly), .int (nI ce), .int da, .int db, .int dr]))] s.heap.size = A at hD ⊢
  have hA : ∀ q : Nat, s.heap.size ≤ q → A q := fun q h => by rw [← hAe]; exact Or.inr h
  clear hAe hD0
  have hS : va_S A s.heap s.heap [] := va_S.rf
  have hP : va_P (dC, dI) vwCl [(g, .inr (0, [.ref so, .ref lo, .ref qpr, .ref qpa, .int (nI dy), .long co, .long wo])), (qpr, .inl (cJ, 30, .inr (.inl pr))), (so, .inr (3, [.ref qlk, .ref qln, .ref qhd, .ref qsf, .ref qfp, .ref qfc, .int (nI ly), .int (nI ce), .int da, .int db, .int dr]))] s.heap := hP
  have hl := lv_entry ([.ref g]) (n := 4) (Nat.le_of_ble_eq_true rfl)
  rw [lg_entry_eq]
  generalize (lg_sl ([.ref g]) ++ List.replicate (4 - (lg_sl ([.ref g])).length) Slot.unset).toArray = ls at hl ⊢
  have hl : lv_has ls 4 [(0, .ref g)] := hl
  refine lv_lconst (v := 0) hx hb dG_allPressures_0 (by decide) ?_
  refine lv_lstore_n (lv' := [(1, .long 0), (0, .ref g)]) hx hb dG_allPressures_1 rfl hl (by decide) rfl (fun ls hl => ?_)
  refine lv_iconst (v := nI 0) hx hb dG_allPressures_2 (by decide) ?_
  refine lv_istore_n (lv' := [(3, .int (nI 0)), (1, .long 0), (0, .ref g)]) hx hb dG_allPressures_3 rfl hl (by decide) rfl (fun ls hl => ?_)
  -- the loop at 4
  have hP : va_P (dC, dI) vwCl [(g, .inr (0, [.ref so, .ref lo, .ref qpr, .ref qpa, .int (nI dy), .long co, .long wo])), (qpr, .inl (cJ, 30, .inr (.inl pr))), (so, .inr (3, [.ref qlk, .ref qln, .ref qhd, .ref qsf, .ref qfp, .ref qfc, .int (nI ly), .int (nI ce), .int da, .int db, .int dr]))] s.heap := by first | exact hP | simpa only [] using hP
  have hD : va_D A [(g, .inr (0, [.ref so, .ref lo, .ref qpr, .ref qpa, .int (nI dy), .long co, .long wo])), (qpr, .inl (cJ, 30, .inr (.inl pr))), (so, .inr (3, [.ref qlk, .ref qln, .ref qhd, .ref qsf, .ref qfp, .ref qfc, .int (nI ly), .int (nI ce), .int da, .int db, .int dr]))] := by first | exact hD | simpa only [] using hD
  refine x_loop (N := ce) (I := fun i H locs ls => va_P (dC, dI) vwCl [(g, .inr (0, [.ref so, .ref lo, .ref qpr, .ref qpa, .int (nI dy), .long co, .long wo])), (qpr, .inl (cJ, 30, .inr (.inl pr))), (so, .inr (3, [.ref qlk, .ref qln, .ref qhd, .ref qsf, .ref qfp, .ref qfc, .int (nI ly), .int (nI ce), .int da, .int db, .int dr]))] H ∧ va_D A [(g, .inr (0, [.ref so, .ref lo, .ref qpr, .ref qpa, .int (nI dy), .long co, .long wo])), (qpr, .inl (cJ, 30, .inr (.inl pr))), (so, .inr (3, [.ref qlk, .ref qln, .ref qhd, .ref qsf, .ref qfp, .ref qfc, .int (nI ly), .int (nI ce), .int da, .int db, .int dr]))] ∧ va_S A s.heap H locs ∧ lv_has ls 4 [(0, .ref g), (1, .long (k_sum pr i)), (3, .int (nI i))]) (i0 := 0) ?_ (Nat.zero_le _) ⟨hP, hD, hS, lv_sub hl [2, 1, 0] rfl⟩
  intro i hi ih4 H locs ls hI
  obtain ⟨hP, hD, hS, hl⟩ := hI
  refine lv_iload_n hx hb dG_allPressures_4 rfl (lv_at hl 2 rfl) ?_
  refine lv_aload_n hx hb dG_allPressures_5 rfl (lv_at hl 0 rfl) ?_
  refine va_get (D := (dC, dI)) (ci := 0) (v := .ref so) (C := R_G) (T := T_G) (N := 7) hx hb htw in_G hown hK hP 0 rfl rfl 0 (by decide) (htw _ m_114) (fun _ h9 => h9) rfl dG_allPressures_6 ?_
  refine va_get (D := (dC, dI)) (ci := 3) (v := .int (nI ce)) (C := R_S) (T := T_S) (N := 11) hx hb htw in_S hown hK hP 2 rfl rfl 7 (by decide) (htw _ m_35) (fun _ h9 => h9) rfl dG_allPressures_9 ?_
  refine lv_icmp_ge (tgt := 30) hx hb dG_allPressures_12 (by decide) (fun hc12 => ?_) (fun hc12 => ?_)
  · -- 12 taken
    rw [nI_leI (by omega) (by omega)] at hc12
    obtain rfl : ce = i := by omega
    refine lv_lload_n hx hb dG_allPressures_30 rfl (lv_at hl 1 rfl) ?_
    have hP : va_P (dC, dI) vwCl [(g, .inr (0, [.ref so, .ref lo, .ref qpr, .ref qpa, .int (nI dy), .long co, .long wo])), (qpr, .inl (cJ, 30, .inr (.inl pr))), (so, .inr (3, [.ref qlk, .ref qln, .ref qhd, .ref qsf, .ref qfp, .ref qfc, .int (nI ly), .int (nI ce), .int da, .int db, .int dr]))] H := by first | exact hP | simpa only [] using hP
    have hD : va_D A [(g, .inr (0, [.ref so, .ref lo, .ref qpr, .ref qpa, .int (nI dy), .long co, .long wo])), (qpr, .inl (cJ, 30, .inr (.inl pr))), (so, .inr (3, [.ref qlk, .ref qln, .ref qhd, .ref qsf, .ref qfp, .ref qfc, .int (nI ly), .int (nI ce), .int da, .int db, .int dr]))] := by first | exact hD | simpa only [] using hD
    exact W.lret (v := k_sum pr ce) hx hb hr (fun t ht hW => ⟨⟨k_sum pr ce, (), rfl, rfl, by rw [ht]; exact hP, va_K.moved hW.alike hK, hD⟩, hS.F ht⟩) hS.2.2 dG_allPressures_31
  · -- 12 not taken
    rw [nI_leI (by omega) (by omega)] at hc12
    refine lv_lload_n hx hb dG_allPressures_15 rfl (lv_at hl 1 rfl) ?_
    refine lv_aload_n hx hb dG_allPressures_16 rfl (lv_at hl 0 rfl) ?_
    refine va_get (D := (dC, dI)) (ci := 0) (v := .ref qpr) (C := R_G) (T := T_G) (N := 7) hx hb htw in_G hown hK hP 0 rfl rfl 2 (by decide) (htw _ m_116) (fun _ h9 => h9) rfl dG_allPressures_17 ?_
    refine lv_iload_n hx hb dG_allPressures_20 rfl (lv_at hl 2 rfl) ?_
    refine xa_lald hx hb hK hP 1 1 rfl rfl (i := i) (by omega) (by decide) dG_allPressures_21 ?_
    refine lv_ladd hx hb dG_allPressures_22 ?_
    refine lv_lstore_n (lv' := [(1, .long ((k_sum pr i) + (pr i))), (0, .ref g), (3, .int (nI i))]) hx hb dG_allPressures_23 rfl hl (by decide) rfl (fun ls hl => ?_)
    refine lv_iinc (v := nI (i + 1)) (lv' := [(3, .int (nI (i + 1))), (1, .long ((k_sum pr i) + (pr i))), (0, .ref g)]) hx hb dG_allPressures_24 hl (k := 2) rfl (nI_1 _) (by decide) rfl (fun ls hl => ?_)
    refine lv_goto (tgt := 4) hx hb dG_allPressures_27 (by decide) ?_
    have hP : va_P (dC, dI) vwCl [(g, .inr (0, [.ref so, .ref lo, .ref qpr, .ref qpa, .int (nI dy), .long co, .long wo])), (qpr, .inl (cJ, 30, .inr (.inl pr))), (so, .inr (3, [.ref qlk, .ref qln, .ref qhd, .ref qsf, .ref qfp, .ref qfc, .int (nI ly), .int (nI ce), .int da, .int db, .int dr]))] H := by first | exact hP | simpa only [] using hP
    have hD : va_D A [(g, .inr (0, [.ref so, .ref lo, .ref qpr, .ref qpa, .int (nI dy), .long co, .long wo])), (qpr, .inl (cJ, 30, .inr (.inl pr))), (so, .inr (3, [.ref qlk, .ref qln, .ref qhd, .ref qsf, .ref qfp, .ref qfc, .int (nI ly), .int (nI ce), .int da, .int db, .int dr]))] := by first | exact hD | simpa only [] using hD
    exact ih4 (by omega) _ _ _ ⟨hP, hD, hS, lv_sub hl [2, 1, 0] rfl⟩
set_option maxHeartbeats 4000000 in
set_option maxRecDepth 100000 in
theorem kG_begin (l : Launch) (dC : Nat → ClassId) (dI : Nat → Nat → Nat) (cI cJ : ClassId) (g so lo qpr qpa : Nat) (sz : Nat) (fa : Nat) (n : Nat) (x : Int32) (dy : Nat) (co : Int64) (wo : Int64) (pa : Nat → Int64) (hfn : fa + n ≤ 30) : Met l yG_begin wG_begin ({ frames := 0, cells := 0, slots := 0, locals := 0 }) (va_Pc [.ref g, .int (nI fa), .int (nI n), .int x] (fun U => U.heap.size = sz ∧ va_P (dC, dI) vwCl [(g, .inr (0, [.ref so, .ref lo, .ref qpr, .ref qpa, .int (nI dy), .long co, .long wo])), (qpa, .inl (cJ, 30, .inr (.inl pa)))] U.heap ∧ va_K (dC, dI) vwCl [(cI, .int), (cJ, .long)] U ∧ va_D (fun _ => True) [(g, .inr (0, [.ref so, .ref lo, .ref qpr, .ref qpa, .int (nI dy), .long co, .long wo])), (qpa, .inl (cJ, 30, .inr (.inl pa)))])) (va_Qv (fun (_ : Unit) => True) (fun _ t => va_P (dC, dI) vwCl [(g, .inr (0, [.ref so, .ref lo, .ref qpr, .ref qpa, .int (nI dy), .long co, .long wo])), (qpa, .inl (cJ, 30, .inr (.inl (k_beg pa fa (fa + n) x.toInt64))))] t.heap ∧ va_K (dC, dI) vwCl [(cI, .int), (cJ, .long)] t ∧ va_D (va_A [(g, .inr (0, [.ref so, .ref lo, .ref qpr, .ref qpa, .int (nI dy), .long co, .long wo])), (qpa, .inl (cJ, 30, .inr (.inl pa)))] sz) [(g, .inr (0, [.ref so, .ref lo, .ref qpr, .ref qpa, .int (nI dy), .long co, .long wo])), (qpa, .inl (cJ, 30, .inr (.inl (k_beg pa fa (fa + n) x.toInt64))))]) (va_A [(g, .inr (0, [.ref so, .ref lo, .ref qpr, .ref qpa, .int (nI dy), .long co, .long wo])), (qpa, .inl (cJ, 30, .inr (.inl pa)))] sz)) 0 0 (va_A [(g, .inr (0, [.ref so, .ref lo, .ref qpr, .ref qpa, .int (nI dy), .long co, .long wo])), (qpa, .inl (cJ, 30, .inr (.inl pa)))] sz) := by
  refine Met.ofW (cc := bG_begin) (maxL := 5) (ret := none) (by decide) rfl ?_
  intro p e s m args below meth c s₁ B hml hv
  obtain ⟨rfl, hsz, hP, hK, hD0⟩ := hv
  have hx := B.exec
  have hb := B.bytes
  have hr := B.returns
  have hts := atoms_spec (ws := wG_begin) B.pre
  have hown : s.vm.findClass R_G = some m.cls := findClass_of_methodNamed B.named
  have htw : ∀ w ∈ WA, w.before _ s = true := fun w h => hts w (List.mem_cons_of_mem _ h)
  clear hts
  have hlocks := B.notSynchronized
  subst hsz
  have hD := hD0.self (sz := s.heap.size)
  generalize hAe : va_A [(g, .inr (0, [.ref so, .ref lo, .ref qpr, .ref qpa, .int (nI dy), .long co, .long wo])), (qpa, .inl (cJ, 30, .inr (.inl pa)))] s.heap.size = A at hD ⊢
  have hA : ∀ q : Nat, s.heap.size ≤ q → A q := fun q h => by rw [← hAe]; exact Or.inr h
  clear hAe hD0
  have hS : va_S A s.heap s.heap [] := va_S.rf
  have hP : va_P (dC, dI) vwCl [(g, .inr (0, [.ref so, .ref lo, .ref qpr, .ref qpa, .int (nI dy), .long co, .long wo])), (qpa, .inl (cJ, 30, .inr (.inl pa)))] s.heap := hP
  have hl := lv_entry ([.ref g, .int (nI fa), .int (nI n), .int x]) (n := 5) (Nat.le_of_ble_eq_true rfl)
  rw [lg_entry_eq]
  generalize (lg_sl ([.ref g, .int (nI fa), .int (nI n), .int x]) ++ List.replicate (5 - (lg_sl ([.ref g, .int (nI fa), .int (nI n), .int x])).length) Slot.unset).toArray = ls at hl ⊢
  have hl : lv_has ls 5 [(0, .ref g), (1, .int (nI fa)), (2, .int (nI n)), (3, .int x)] := hl
  refine lv_iload_n hx hb dG_begin_0 rfl (lv_at hl 1 rfl) ?_
  refine lv_istore (lv' := [(4, .int (nI fa)), (0, .ref g), (1, .int (nI fa)), (2, .int (nI n)), (3, .int x)]) hx hb dG_begin_1 hl (by decide) rfl (fun ls hl => ?_)
  -- the loop at 3
  have eq1 : (pa : Nat → Int64) = k_beg pa fa fa x.toInt64 := k_beg_0
  have hP := Eq.mp (congrArg (fun zz => va_P (dC, dI) vwCl [(g, .inr (0, [.ref so, .ref lo, .ref qpr, .ref qpa, .int (nI dy), .long co, .long wo])), (qpa, .inl (cJ, 30, .inr (.inl zz)))] s.heap) eq1) hP
  have hD := Eq.mp (congrArg (fun zz => va_D A [(g, .inr (0, [.ref so, .ref lo, .ref qpr, .ref qpa, .int (nI dy), .long co, .long wo])), (qpa, .inl (cJ, 30, .inr (.inl zz)))]) eq1) hD
  have hP : va_P (dC, dI) vwCl [(g, .inr (0, [.ref so, .ref lo, .ref qpr, .ref qpa, .int (nI dy), .long co, .long wo])), (qpa, .inl (cJ, 30, .inr (.inl (k_beg pa fa fa x.toInt64))))] s.heap := by first | exact hP | simpa only [] using hP
  have hD : va_D A [(g, .inr (0, [.ref so, .ref lo, .ref qpr, .ref qpa, .int (nI dy), .long co, .long wo])), (qpa, .inl (cJ, 30, .inr (.inl (k_beg pa fa fa x.toInt64))))] := by first | exact hD | simpa only [] using hD
  refine x_loop (N := fa + n) (I := fun i H locs ls => va_P (dC, dI) vwCl [(g, .inr (0, [.ref so, .ref lo, .ref qpr, .ref qpa, .int (nI dy), .long co, .long wo])), (qpa, .inl (cJ, 30, .inr (.inl (k_beg pa fa i x.toInt64))))] H ∧ va_D A [(g, .inr (0, [.ref so, .ref lo, .ref qpr, .ref qpa, .int (nI dy), .long co, .long wo])), (qpa, .inl (cJ, 30, .inr (.inl (k_beg pa fa i x.toInt64))))] ∧ va_S A s.heap H locs ∧ lv_has ls 5 [(0, .ref g), (1, .int (nI fa)), (2, .int (nI n)), (3, .int x), (4, .int (nI i))] ∧ (fa ≤ i)) (i0 := fa) ?_ (by omega) ⟨hP, hD, hS, lv_sub hl [1, 2, 3, 4, 0] rfl, Nat.le_refl _⟩
  intro i hi ih3 H locs ls hI
  obtain ⟨hP, hD, hS, hl, hE3⟩ := hI
  refine lv_iload hx hb dG_begin_3 (lv_at hl 4 rfl) ?_
  refine lv_iload_n hx hb dG_begin_5 rfl (lv_at hl 1 rfl) ?_
  refine lv_iload_n hx hb dG_begin_6 rfl (lv_at hl 2 rfl) ?_
  refine lv_iadd hx hb dG_begin_7 ?_
  refine lv_topi (fun kv ekv => ?_)
  obtain rfl : kv = nI (fa + n) := by rw [ekv]; exact nI_add _ _
  refine lv_icmp_ge (tgt := 33) hx hb dG_begin_8 (by decide) (fun hc8 => ?_) (fun hc8 => ?_)
  · -- 8 taken
    rw [nI_leI (by omega) (by omega)] at hc8
    obtain rfl : i = fa + n := by omega
    have hP : va_P (dC, dI) vwCl [(g, .inr (0, [.ref so, .ref lo, .ref qpr, .ref qpa, .int (nI dy), .long co, .long wo])), (qpa, .inl (cJ, 30, .inr (.inl (k_beg pa fa (fa + n) x.toInt64))))] H := by first | exact hP | simpa only [] using hP
    have hD : va_D A [(g, .inr (0, [.ref so, .ref lo, .ref qpr, .ref qpa, .int (nI dy), .long co, .long wo])), (qpa, .inl (cJ, 30, .inr (.inl (k_beg pa fa (fa + n) x.toInt64))))] := by first | exact hD | simpa only [] using hD
    exact W.vret hx hb hr (fun t ht hW => ⟨⟨(), rfl, trivial, by rw [ht]; exact hP, va_K.moved hW.alike hK, hD⟩, hS.F ht⟩) hS.2.2 dG_begin_33
  · -- 8 not taken
    rw [nI_leI (by omega) (by omega)] at hc8
    refine lv_iload hx hb dG_begin_11 (lv_at hl 4 rfl) ?_
    refine lv_bipush (v := nI 30) hx hb dG_begin_13 (by decide) ?_
    refine lv_icmp_ge (tgt := 33) hx hb dG_begin_15 (by decide) (fun hc15 => ?_) (fun hc15 => ?_)
    · -- 15 taken
      rw [nI_leI (by omega) (by omega)] at hc15
      exact absurd hc15 (by omega)
    · -- 15 not taken
      rw [nI_leI (by omega) (by omega)] at hc15
      refine lv_aload_n hx hb dG_begin_18 rfl (lv_at hl 0 rfl) ?_
      refine va_get (D := (dC, dI)) (ci := 0) (v := .ref qpa) (C := R_G) (T := T_G) (N := 7) hx hb htw in_G hown hK hP 0 rfl rfl 3 (by decide) (htw _ m_118) (fun _ h9 => h9) rfl dG_begin_19 ?_
      refine lv_iload hx hb dG_begin_22 (lv_at hl 4 rfl) ?_
      refine lv_iload_n hx hb dG_begin_24 rfl (lv_at hl 3 rfl) ?_
      refine lv_i2l (v := x.toInt64) hx hb dG_begin_25 rfl ?_
      refine xa_last hx hb hK hP hD hS 1 1 rfl rfl (i := i) (by omega) (by decide) dG_begin_26 (fun H locs hP hD hS => ?_)
      have hP : va_P (dC, dI) vwCl [(g, .inr (0, [.ref so, .ref lo, .ref qpr, .ref qpa, .int (nI dy), .long co, .long wo])), (qpa, .inl (cJ, 30, .inr (.inl (vp_updL (k_beg pa fa i x.toInt64) i x.toInt64))))] H := hP
      have hD : va_D A [(g, .inr (0, [.ref so, .ref lo, .ref qpr, .ref qpa, .int (nI dy), .long co, .long wo])), (qpa, .inl (cJ, 30, .inr (.inl (vp_updL (k_beg pa fa i x.toInt64) i x.toInt64))))] := hD
      refine lv_iinc (v := nI (i + 1)) (lv' := [(4, .int (nI (i + 1))), (0, .ref g), (1, .int (nI fa)), (2, .int (nI n)), (3, .int x)]) hx hb dG_begin_27 hl (k := 4) rfl (nI_1 _) (by decide) rfl (fun ls hl => ?_)
      refine lv_goto (tgt := 3) hx hb dG_begin_30 (by decide) ?_
      have eq2 : (vp_updL (k_beg pa fa i x.toInt64) i x.toInt64 : Nat → Int64) = k_beg pa fa (i + 1) x.toInt64 := k_beg_s (by omega)
      have hP := Eq.mp (congrArg (fun zz => va_P (dC, dI) vwCl [(g, .inr (0, [.ref so, .ref lo, .ref qpr, .ref qpa, .int (nI dy), .long co, .long wo])), (qpa, .inl (cJ, 30, .inr (.inl zz)))] H) eq2) hP
      have hD := Eq.mp (congrArg (fun zz => va_D A [(g, .inr (0, [.ref so, .ref lo, .ref qpr, .ref qpa, .int (nI dy), .long co, .long wo])), (qpa, .inl (cJ, 30, .inr (.inl zz)))]) eq2) hD
      have hP : va_P (dC, dI) vwCl [(g, .inr (0, [.ref so, .ref lo, .ref qpr, .ref qpa, .int (nI dy), .long co, .long wo])), (qpa, .inl (cJ, 30, .inr (.inl (k_beg pa fa (i + 1) x.toInt64))))] H := by first | exact hP | simpa only [] using hP
      have hD : va_D A [(g, .inr (0, [.ref so, .ref lo, .ref qpr, .ref qpa, .int (nI dy), .long co, .long wo])), (qpa, .inl (cJ, 30, .inr (.inl (k_beg pa fa (i + 1) x.toInt64))))] := by first | exact hD | simpa only [] using hD
      exact ih3 (by omega) _ _ _ ⟨hP, hD, hS, lv_sub hl [1, 2, 3, 4, 0] rfl, Nat.le_succ_of_le hE3⟩
set_option maxHeartbeats 4000000 in
set_option maxRecDepth 100000 in
theorem kG_become (l : Launch) (dC : Nat → ClassId) (dI : Nat → Nat → Nat) (cI cJ : ClassId) (g og so lo qpr qpa qor qoa : Nat) (sz : Nat) (x : Int32) (co : Int64) (wo : Int64) (pr : Nat → Int64) (pa : Nat → Int64) (ody : Nat) (oco : Int64) (owo : Int64) (opr : Nat → Int64) (opa : Nat → Int64) : Met l yG_become wG_become ({ frames := 0, cells := 0, slots := 0, locals := 0 }) (va_Pc [.ref g, .ref og] (fun U => U.heap.size = sz ∧ va_P (dC, dI) vwCl [(g, .inr (0, [.ref so, .ref lo, .ref qpr, .ref qpa, .int x, .long co, .long wo])), (qpr, .inl (cJ, 30, .inr (.inl pr))), (qpa, .inl (cJ, 30, .inr (.inl pa))), (og, .inr (0, [.ref so, .ref lo, .ref qor, .ref qoa, .int (nI ody), .long oco, .long owo])), (qor, .inl (cJ, 30, .inr (.inl opr))), (qoa, .inl (cJ, 30, .inr (.inl opa)))] U.heap ∧ va_K (dC, dI) vwCl [(cI, .int), (cJ, .long)] U ∧ va_D (fun _ => True) [(g, .inr (0, [.ref so, .ref lo, .ref qpr, .ref qpa, .int x, .long co, .long wo])), (qpr, .inl (cJ, 30, .inr (.inl pr))), (qpa, .inl (cJ, 30, .inr (.inl pa))), (og, .inr (0, [.ref so, .ref lo, .ref qor, .ref qoa, .int (nI ody), .long oco, .long owo])), (qor, .inl (cJ, 30, .inr (.inl opr))), (qoa, .inl (cJ, 30, .inr (.inl opa)))])) (va_Qv (fun (_ : Unit) => True) (fun _ t => va_P (dC, dI) vwCl [(g, .inr (0, [.ref so, .ref lo, .ref qpr, .ref qpa, .int (nI ody), .long oco, .long owo])), (qpr, .inl (cJ, 30, .inr (.inl opr))), (qpa, .inl (cJ, 30, .inr (.inl opa))), (og, .inr (0, [.ref so, .ref lo, .ref qor, .ref qoa, .int (nI ody), .long oco, .long owo])), (qor, .inl (cJ, 30, .inr (.inl opr))), (qoa, .inl (cJ, 30, .inr (.inl opa)))] t.heap ∧ va_K (dC, dI) vwCl [(cI, .int), (cJ, .long)] t ∧ va_D (va_A [(g, .inr (0, [.ref so, .ref lo, .ref qpr, .ref qpa, .int x, .long co, .long wo])), (qpr, .inl (cJ, 30, .inr (.inl pr))), (qpa, .inl (cJ, 30, .inr (.inl pa))), (og, .inr (0, [.ref so, .ref lo, .ref qor, .ref qoa, .int (nI ody), .long oco, .long owo])), (qor, .inl (cJ, 30, .inr (.inl opr))), (qoa, .inl (cJ, 30, .inr (.inl opa)))] sz) [(g, .inr (0, [.ref so, .ref lo, .ref qpr, .ref qpa, .int (nI ody), .long oco, .long owo])), (qpr, .inl (cJ, 30, .inr (.inl opr))), (qpa, .inl (cJ, 30, .inr (.inl opa))), (og, .inr (0, [.ref so, .ref lo, .ref qor, .ref qoa, .int (nI ody), .long oco, .long owo])), (qor, .inl (cJ, 30, .inr (.inl opr))), (qoa, .inl (cJ, 30, .inr (.inl opa)))]) (va_A [(g, .inr (0, [.ref so, .ref lo, .ref qpr, .ref qpa, .int x, .long co, .long wo])), (qpr, .inl (cJ, 30, .inr (.inl pr))), (qpa, .inl (cJ, 30, .inr (.inl pa))), (og, .inr (0, [.ref so, .ref lo, .ref qor, .ref qoa, .int (nI ody), .long oco, .long owo])), (qor, .inl (cJ, 30, .inr (.inl opr))), (qoa, .inl (cJ, 30, .inr (.inl opa)))] sz)) 0 0 (va_A [(g, .inr (0, [.ref so, .ref lo, .ref qpr, .ref qpa, .int x, .long co, .long wo])), (qpr, .inl (cJ, 30, .inr (.inl pr))), (qpa, .inl (cJ, 30, .inr (.inl pa))), (og, .inr (0, [.ref so, .ref lo, .ref qor, .ref qoa, .int (nI ody), .long oco, .long owo])), (qor, .inl (cJ, 30, .inr (.inl opr))), (qoa, .inl (cJ, 30, .inr (.inl opa)))] sz) := by
  refine Met.ofW (cc := bG_become) (maxL := 3) (ret := none) (by decide) rfl ?_
  intro p e s m args below meth c s₁ B hml hv
  obtain ⟨rfl, hsz, hP, hK, hD0⟩ := hv
  have hx := B.exec
  have hb := B.bytes
  have hr := B.returns
  have hts := atoms_spec (ws := wG_become) B.pre
  have hown : s.vm.findClass R_G = some m.cls := findClass_of_methodNamed B.named
  have htw : ∀ w ∈ WA, w.before _ s = true := fun w h => hts w (List.mem_cons_of_mem _ h)
  clear hts
  have hlocks := B.notSynchronized
  subst hsz
  have hD := hD0.self (sz := s.heap.size)
  generalize hAe : va_A [(g, .inr (0, [.ref so, .ref lo, .ref qpr, .ref qpa, .int x, .long co, .long wo])), (qpr, .inl (cJ, 30, .inr (.inl pr))), (qpa, .inl (cJ, 30, .inr (.inl pa))), (og, .inr (0, [.ref so, .ref lo, .ref qor, .ref qoa, .int (nI ody), .long oco, .long owo])), (qor, .inl (cJ, 30, .inr (.inl opr))), (qoa, .inl (cJ, 30, .inr (.inl opa)))] s.heap.size = A at hD ⊢
  have hA : ∀ q : Nat, s.heap.size ≤ q → A q := fun q h => by rw [← hAe]; exact Or.inr h
  clear hAe hD0
  have hS : va_S A s.heap s.heap [] := va_S.rf
  have hP : va_P (dC, dI) vwCl [(g, .inr (0, [.ref so, .ref lo, .ref qpr, .ref qpa, .int x, .long co, .long wo])), (qpr, .inl (cJ, 30, .inr (.inl pr))), (qpa, .inl (cJ, 30, .inr (.inl pa))), (og, .inr (0, [.ref so, .ref lo, .ref qor, .ref qoa, .int (nI ody), .long oco, .long owo])), (qor, .inl (cJ, 30, .inr (.inl opr))), (qoa, .inl (cJ, 30, .inr (.inl opa)))] s.heap := hP
  have hl := lv_entry ([.ref g, .ref og]) (n := 3) (Nat.le_of_ble_eq_true rfl)
  rw [lg_entry_eq]
  generalize (lg_sl ([.ref g, .ref og]) ++ List.replicate (3 - (lg_sl ([.ref g, .ref og])).length) Slot.unset).toArray = ls at hl ⊢
  have hl : lv_has ls 3 [(0, .ref g), (1, .ref og)] := hl
  refine lv_iconst (v := nI 0) hx hb dG_become_0 (by decide) ?_
  refine lv_istore_n (lv' := [(2, .int (nI 0)), (0, .ref g), (1, .ref og)]) hx hb dG_become_1 rfl hl (by decide) rfl (fun ls hl => ?_)
  -- the loop at 2
  have eq1 : (pr : Nat → Int64) = k_cp opr pr 0 := k_cp_0
  have hP := Eq.mp (congrArg (fun zz => va_P (dC, dI) vwCl [(g, .inr (0, [.ref so, .ref lo, .ref qpr, .ref qpa, .int x, .long co, .long wo])), (qpr, .inl (cJ, 30, .inr (.inl zz))), (qpa, .inl (cJ, 30, .inr (.inl pa))), (og, .inr (0, [.ref so, .ref lo, .ref qor, .ref qoa, .int (nI ody), .long oco, .long owo])), (qor, .inl (cJ, 30, .inr (.inl opr))), (qoa, .inl (cJ, 30, .inr (.inl opa)))] s.heap) eq1) hP
  have hD := Eq.mp (congrArg (fun zz => va_D A [(g, .inr (0, [.ref so, .ref lo, .ref qpr, .ref qpa, .int x, .long co, .long wo])), (qpr, .inl (cJ, 30, .inr (.inl zz))), (qpa, .inl (cJ, 30, .inr (.inl pa))), (og, .inr (0, [.ref so, .ref lo, .ref qor, .ref qoa, .int (nI ody), .long oco, .long owo])), (qor, .inl (cJ, 30, .inr (.inl opr))), (qoa, .inl (cJ, 30, .inr (.inl opa)))]) eq1) hD
  have eq2 : (pa : Nat → Int64) = k_cp opa pa 0 := k_cp_0
  have hP := Eq.mp (congrArg (fun zz => va_P (dC, dI) vwCl [(g, .inr (0, [.ref so, .ref lo, .ref qpr, .ref qpa, .int x, .long co, .long wo])), (qpr, .inl (cJ, 30, .inr (.inl (k_cp opr pr 0)))), (qpa, .inl (cJ, 30, .inr (.inl zz))), (og, .inr (0, [.ref so, .ref lo, .ref qor, .ref qoa, .int (nI ody), .long oco, .long owo])), (qor, .inl (cJ, 30, .inr (.inl opr))), (qoa, .inl (cJ, 30, .inr (.inl opa)))] s.heap) eq2) hP
  have hD := Eq.mp (congrArg (fun zz => va_D A [(g, .inr (0, [.ref so, .ref lo, .ref qpr, .ref qpa, .int x, .long co, .long wo])), (qpr, .inl (cJ, 30, .inr (.inl (k_cp opr pr 0)))), (qpa, .inl (cJ, 30, .inr (.inl zz))), (og, .inr (0, [.ref so, .ref lo, .ref qor, .ref qoa, .int (nI ody), .long oco, .long owo])), (qor, .inl (cJ, 30, .inr (.inl opr))), (qoa, .inl (cJ, 30, .inr (.inl opa)))]) eq2) hD
  have hP : va_P (dC, dI) vwCl [(g, .inr (0, [.ref so, .ref lo, .ref qpr, .ref qpa, .int x, .long co, .long wo])), (qpr, .inl (cJ, 30, .inr (.inl (k_cp opr pr 0)))), (qpa, .inl (cJ, 30, .inr (.inl (k_cp opa pa 0)))), (og, .inr (0, [.ref so, .ref lo, .ref qor, .ref qoa, .int (nI ody), .long oco, .long owo])), (qor, .inl (cJ, 30, .inr (.inl opr))), (qoa, .inl (cJ, 30, .inr (.inl opa)))] s.heap := by first | exact hP | simpa only [] using hP
  have hD : va_D A [(g, .inr (0, [.ref so, .ref lo, .ref qpr, .ref qpa, .int x, .long co, .long wo])), (qpr, .inl (cJ, 30, .inr (.inl (k_cp opr pr 0)))), (qpa, .inl (cJ, 30, .inr (.inl (k_cp opa pa 0)))), (og, .inr (0, [.ref so, .ref lo, .ref qor, .ref qoa, .int (nI ody), .long oco, .long owo])), (qor, .inl (cJ, 30, .inr (.inl opr))), (qoa, .inl (cJ, 30, .inr (.inl opa)))] := by first | exact hD | simpa only [] using hD
  refine x_loop (N := 30) (I := fun i H locs ls => va_P (dC, dI) vwCl [(g, .inr (0, [.ref so, .ref lo, .ref qpr, .ref qpa, .int x, .long co, .long wo])), (qpr, .inl (cJ, 30, .inr (.inl (k_cp opr pr i)))), (qpa, .inl (cJ, 30, .inr (.inl (k_cp opa pa i)))), (og, .inr (0, [.ref so, .ref lo, .ref qor, .ref qoa, .int (nI ody), .long oco, .long owo])), (qor, .inl (cJ, 30, .inr (.inl opr))), (qoa, .inl (cJ, 30, .inr (.inl opa)))] H ∧ va_D A [(g, .inr (0, [.ref so, .ref lo, .ref qpr, .ref qpa, .int x, .long co, .long wo])), (qpr, .inl (cJ, 30, .inr (.inl (k_cp opr pr i)))), (qpa, .inl (cJ, 30, .inr (.inl (k_cp opa pa i)))), (og, .inr (0, [.ref so, .ref lo, .ref qor, .ref qoa, .int (nI ody), .long oco, .long owo])), (qor, .inl (cJ, 30, .inr (.inl opr))), (qoa, .inl (cJ, 30, .inr (.inl opa)))] ∧ va_S A s.heap H locs ∧ lv_has ls 3 [(0, .ref g), (1, .ref og), (2, .int (nI i))]) (i0 := 0) ?_ (Nat.zero_le _) ⟨hP, hD, hS, lv_sub hl [1, 2, 0] rfl⟩
  intro i hi ih2 H locs ls hI
  obtain ⟨hP, hD, hS, hl⟩ := hI
  refine lv_iload_n hx hb dG_become_2 rfl (lv_at hl 2 rfl) ?_
  refine lv_bipush (v := nI 30) hx hb dG_become_3 (by decide) ?_
  refine lv_icmp_ge (tgt := 38) hx hb dG_become_5 (by decide) (fun hc5 => ?_) (fun hc5 => ?_)
  · -- 5 taken
    rw [nI_leI (by omega) (by omega)] at hc5
    obtain rfl : i = 30 := by omega
    obtain ⟨hP, hD⟩ := x_setL (q0 := 1) (g := opr) hP hD rfl (fun j hj => if_pos hj)
    have hP : va_P (dC, dI) vwCl [(g, .inr (0, [.ref so, .ref lo, .ref qpr, .ref qpa, .int x, .long co, .long wo])), (qpr, .inl (cJ, 30, .inr (.inl opr))), (qpa, .inl (cJ, 30, .inr (.inl (k_cp opa pa 30)))), (og, .inr (0, [.ref so, .ref lo, .ref qor, .ref qoa, .int (nI ody), .long oco, .long owo])), (qor, .inl (cJ, 30, .inr (.inl opr))), (qoa, .inl (cJ, 30, .inr (.inl opa)))] H := hP
    have hD : va_D A [(g, .inr (0, [.ref so, .ref lo, .ref qpr, .ref qpa, .int x, .long co, .long wo])), (qpr, .inl (cJ, 30, .inr (.inl opr))), (qpa, .inl (cJ, 30, .inr (.inl (k_cp opa pa 30)))), (og, .inr (0, [.ref so, .ref lo, .ref qor, .ref qoa, .int (nI ody), .long oco, .long owo])), (qor, .inl (cJ, 30, .inr (.inl opr))), (qoa, .inl (cJ, 30, .inr (.inl opa)))] := hD
    obtain ⟨hP, hD⟩ := x_setL (q0 := 2) (g := opa) hP hD rfl (fun j hj => if_pos hj)
    have hP : va_P (dC, dI) vwCl [(g, .inr (0, [.ref so, .ref lo, .ref qpr, .ref qpa, .int x, .long co, .long wo])), (qpr, .inl (cJ, 30, .inr (.inl opr))), (qpa, .inl (cJ, 30, .inr (.inl opa))), (og, .inr (0, [.ref so, .ref lo, .ref qor, .ref qoa, .int (nI ody), .long oco, .long owo])), (qor, .inl (cJ, 30, .inr (.inl opr))), (qoa, .inl (cJ, 30, .inr (.inl opa)))] H := hP
    have hD : va_D A [(g, .inr (0, [.ref so, .ref lo, .ref qpr, .ref qpa, .int x, .long co, .long wo])), (qpr, .inl (cJ, 30, .inr (.inl opr))), (qpa, .inl (cJ, 30, .inr (.inl opa))), (og, .inr (0, [.ref so, .ref lo, .ref qor, .ref qoa, .int (nI ody), .long oco, .long owo])), (qor, .inl (cJ, 30, .inr (.inl opr))), (qoa, .inl (cJ, 30, .inr (.inl opa)))] := hD
    refine lv_aload_n hx hb dG_become_38 rfl (lv_at hl 0 rfl) ?_
    refine lv_aload_n hx hb dG_become_39 rfl (lv_at hl 1 rfl) ?_
    refine va_get (D := (dC, dI)) (ci := 0) (v := .int (nI ody)) (C := R_G) (T := T_G) (N := 7) hx hb htw in_G hown hK hP 3 rfl rfl 4 (by decide) (htw _ m_121) (fun _ h9 => h9) rfl dG_become_40 ?_
    refine va_put (D := (dC, dI)) (ci := 0) (v := .int (nI ody)) (ty := .int) (C := R_G) (T := T_G) (N := 7) hx hb htw in_G ty_G tok_G nnm_G hown hK hP hD hS 0 rfl rfl 4 (by decide) (htw _ m_121) (fun _ h9 => h9) rfl (by decide +kernel) rfl rfl (Nat.le_of_ble_eq_true rfl) dG_become_43 (fun H locs hP hD hS => ?_)
    have hP : va_P (dC, dI) vwCl [(g, .inr (0, [.ref so, .ref lo, .ref qpr, .ref qpa, .int (nI ody), .long co, .long wo])), (qpr, .inl (cJ, 30, .inr (.inl opr))), (qpa, .inl (cJ, 30, .inr (.inl opa))), (og, .inr (0, [.ref so, .ref lo, .ref qor, .ref qoa, .int (nI ody), .long oco, .long owo])), (qor, .inl (cJ, 30, .inr (.inl opr))), (qoa, .inl (cJ, 30, .inr (.inl opa)))] H := hP
    have hD : va_D A [(g, .inr (0, [.ref so, .ref lo, .ref qpr, .ref qpa, .int (nI ody), .long co, .long wo])), (qpr, .inl (cJ, 30, .inr (.inl opr))), (qpa, .inl (cJ, 30, .inr (.inl opa))), (og, .inr (0, [.ref so, .ref lo, .ref qor, .ref qoa, .int (nI ody), .long oco, .long owo])), (qor, .inl (cJ, 30, .inr (.inl opr))), (qoa, .inl (cJ, 30, .inr (.inl opa)))] := hD
    refine lv_aload_n hx hb dG_become_46 rfl (lv_at hl 0 rfl) ?_
    refine lv_aload_n hx hb dG_become_47 rfl (lv_at hl 1 rfl) ?_
    refine va_get (D := (dC, dI)) (ci := 0) (v := .long oco) (C := R_G) (T := T_G) (N := 7) hx hb htw in_G hown hK hP 3 rfl rfl 5 (by decide) (htw _ m_122) (fun _ h9 => h9) rfl dG_become_48 ?_
    refine va_put (D := (dC, dI)) (ci := 0) (v := .long oco) (ty := .long) (C := R_G) (T := T_G) (N := 7) hx hb htw in_G ty_G tok_G nnm_G hown hK hP hD hS 0 rfl rfl 5 (by decide) (htw _ m_122) (fun _ h9 => h9) rfl (by decide +kernel) rfl rfl (Nat.le_of_ble_eq_true rfl) dG_become_51 (fun H locs hP hD hS => ?_)
    have hP : va_P (dC, dI) vwCl [(g, .inr (0, [.ref so, .ref lo, .ref qpr, .ref qpa, .int (nI ody), .long oco, .long wo])), (qpr, .inl (cJ, 30, .inr (.inl opr))), (qpa, .inl (cJ, 30, .inr (.inl opa))), (og, .inr (0, [.ref so, .ref lo, .ref qor, .ref qoa, .int (nI ody), .long oco, .long owo])), (qor, .inl (cJ, 30, .inr (.inl opr))), (qoa, .inl (cJ, 30, .inr (.inl opa)))] H := hP
    have hD : va_D A [(g, .inr (0, [.ref so, .ref lo, .ref qpr, .ref qpa, .int (nI ody), .long oco, .long wo])), (qpr, .inl (cJ, 30, .inr (.inl opr))), (qpa, .inl (cJ, 30, .inr (.inl opa))), (og, .inr (0, [.ref so, .ref lo, .ref qor, .ref qoa, .int (nI ody), .long oco, .long owo])), (qor, .inl (cJ, 30, .inr (.inl opr))), (qoa, .inl (cJ, 30, .inr (.inl opa)))] := hD
    refine lv_aload_n hx hb dG_become_54 rfl (lv_at hl 0 rfl) ?_
    refine lv_aload_n hx hb dG_become_55 rfl (lv_at hl 1 rfl) ?_
    refine va_get (D := (dC, dI)) (ci := 0) (v := .long owo) (C := R_G) (T := T_G) (N := 7) hx hb htw in_G hown hK hP 3 rfl rfl 6 (by decide) (htw _ m_124) (fun _ h9 => h9) rfl dG_become_56 ?_
    refine va_put (D := (dC, dI)) (ci := 0) (v := .long owo) (ty := .long) (C := R_G) (T := T_G) (N := 7) hx hb htw in_G ty_G tok_G nnm_G hown hK hP hD hS 0 rfl rfl 6 (by decide) (htw _ m_124) (fun _ h9 => h9) rfl (by decide +kernel) rfl rfl (Nat.le_of_ble_eq_true rfl) dG_become_59 (fun H locs hP hD hS => ?_)
    have hP : va_P (dC, dI) vwCl [(g, .inr (0, [.ref so, .ref lo, .ref qpr, .ref qpa, .int (nI ody), .long oco, .long owo])), (qpr, .inl (cJ, 30, .inr (.inl opr))), (qpa, .inl (cJ, 30, .inr (.inl opa))), (og, .inr (0, [.ref so, .ref lo, .ref qor, .ref qoa, .int (nI ody), .long oco, .long owo])), (qor, .inl (cJ, 30, .inr (.inl opr))), (qoa, .inl (cJ, 30, .inr (.inl opa)))] H := hP
    have hD : va_D A [(g, .inr (0, [.ref so, .ref lo, .ref qpr, .ref qpa, .int (nI ody), .long oco, .long owo])), (qpr, .inl (cJ, 30, .inr (.inl opr))), (qpa, .inl (cJ, 30, .inr (.inl opa))), (og, .inr (0, [.ref so, .ref lo, .ref qor, .ref qoa, .int (nI ody), .long oco, .long owo])), (qor, .inl (cJ, 30, .inr (.inl opr))), (qoa, .inl (cJ, 30, .inr (.inl opa)))] := hD
    have hP : va_P (dC, dI) vwCl [(g, .inr (0, [.ref so, .ref lo, .ref qpr, .ref qpa, .int (nI ody), .long oco, .long owo])), (qpr, .inl (cJ, 30, .inr (.inl opr))), (qpa, .inl (cJ, 30, .inr (.inl opa))), (og, .inr (0, [.ref so, .ref lo, .ref qor, .ref qoa, .int (nI ody), .long oco, .long owo])), (qor, .inl (cJ, 30, .inr (.inl opr))), (qoa, .inl (cJ, 30, .inr (.inl opa)))] H := by first | exact hP | simpa only [] using hP
    have hD : va_D A [(g, .inr (0, [.ref so, .ref lo, .ref qpr, .ref qpa, .int (nI ody), .long oco, .long owo])), (qpr, .inl (cJ, 30, .inr (.inl opr))), (qpa, .inl (cJ, 30, .inr (.inl opa))), (og, .inr (0, [.ref so, .ref lo, .ref qor, .ref qoa, .int (nI ody), .long oco, .long owo])), (qor, .inl (cJ, 30, .inr (.inl opr))), (qoa, .inl (cJ, 30, .inr (.inl opa)))] := by first | exact hD | simpa only [] using hD
    exact W.vret hx hb hr (fun t ht hW => ⟨⟨(), rfl, trivial, by rw [ht]; exact hP, va_K.moved hW.alike hK, hD⟩, hS.F ht⟩) hS.2.2 dG_become_62
  · -- 5 not taken
    rw [nI_leI (by omega) (by omega)] at hc5
    refine lv_aload_n hx hb dG_become_8 rfl (lv_at hl 0 rfl) ?_
    refine va_get (D := (dC, dI)) (ci := 0) (v := .ref qpr) (C := R_G) (T := T_G) (N := 7) hx hb htw in_G hown hK hP 0 rfl rfl 2 (by decide) (htw _ m_116) (fun _ h9 => h9) rfl dG_become_9 ?_
    refine lv_iload_n hx hb dG_become_12 rfl (lv_at hl 2 rfl) ?_
    refine lv_aload_n hx hb dG_become_13 rfl (lv_at hl 1 rfl) ?_
    refine va_get (D := (dC, dI)) (ci := 0) (v := .ref qor) (C := R_G) (T := T_G) (N := 7) hx hb htw in_G hown hK hP 3 rfl rfl 2 (by decide) (htw _ m_116) (fun _ h9 => h9) rfl dG_become_14 ?_
    refine lv_iload_n hx hb dG_become_17 rfl (lv_at hl 2 rfl) ?_
    refine xa_lald hx hb hK hP 4 1 rfl rfl (i := i) (by omega) (by decide) dG_become_18 ?_
    refine xa_last hx hb hK hP hD hS 1 1 rfl rfl (i := i) (by omega) (by decide) dG_become_19 (fun H locs hP hD hS => ?_)
    have hP : va_P (dC, dI) vwCl [(g, .inr (0, [.ref so, .ref lo, .ref qpr, .ref qpa, .int x, .long co, .long wo])), (qpr, .inl (cJ, 30, .inr (.inl (vp_updL (k_cp opr pr i) i (opr i))))), (qpa, .inl (cJ, 30, .inr (.inl (k_cp opa pa i)))), (og, .inr (0, [.ref so, .ref lo, .ref qor, .ref qoa, .int (nI ody), .long oco, .long owo])), (qor, .inl (cJ, 30, .inr (.inl opr))), (qoa, .inl (cJ, 30, .inr (.inl opa)))] H := hP
    have hD : va_D A [(g, .inr (0, [.ref so, .ref lo, .ref qpr, .ref qpa, .int x, .long co, .long wo])), (qpr, .inl (cJ, 30, .inr (.inl (vp_updL (k_cp opr pr i) i (opr i))))), (qpa, .inl (cJ, 30, .inr (.inl (k_cp opa pa i)))), (og, .inr (0, [.ref so, .ref lo, .ref qor, .ref qoa, .int (nI ody), .long oco, .long owo])), (qor, .inl (cJ, 30, .inr (.inl opr))), (qoa, .inl (cJ, 30, .inr (.inl opa)))] := hD
    refine lv_aload_n hx hb dG_become_20 rfl (lv_at hl 0 rfl) ?_
    refine va_get (D := (dC, dI)) (ci := 0) (v := .ref qpa) (C := R_G) (T := T_G) (N := 7) hx hb htw in_G hown hK hP 0 rfl rfl 3 (by decide) (htw _ m_118) (fun _ h9 => h9) rfl dG_become_21 ?_
    refine lv_iload_n hx hb dG_become_24 rfl (lv_at hl 2 rfl) ?_
    refine lv_aload_n hx hb dG_become_25 rfl (lv_at hl 1 rfl) ?_
    refine va_get (D := (dC, dI)) (ci := 0) (v := .ref qoa) (C := R_G) (T := T_G) (N := 7) hx hb htw in_G hown hK hP 3 rfl rfl 3 (by decide) (htw _ m_118) (fun _ h9 => h9) rfl dG_become_26 ?_
    refine lv_iload_n hx hb dG_become_29 rfl (lv_at hl 2 rfl) ?_
    refine xa_lald hx hb hK hP 5 1 rfl rfl (i := i) (by omega) (by decide) dG_become_30 ?_
    refine xa_last hx hb hK hP hD hS 2 1 rfl rfl (i := i) (by omega) (by decide) dG_become_31 (fun H locs hP hD hS => ?_)
    have hP : va_P (dC, dI) vwCl [(g, .inr (0, [.ref so, .ref lo, .ref qpr, .ref qpa, .int x, .long co, .long wo])), (qpr, .inl (cJ, 30, .inr (.inl (vp_updL (k_cp opr pr i) i (opr i))))), (qpa, .inl (cJ, 30, .inr (.inl (vp_updL (k_cp opa pa i) i (opa i))))), (og, .inr (0, [.ref so, .ref lo, .ref qor, .ref qoa, .int (nI ody), .long oco, .long owo])), (qor, .inl (cJ, 30, .inr (.inl opr))), (qoa, .inl (cJ, 30, .inr (.inl opa)))] H := hP
    have hD : va_D A [(g, .inr (0, [.ref so, .ref lo, .ref qpr, .ref qpa, .int x, .long co, .long wo])), (qpr, .inl (cJ, 30, .inr (.inl (vp_updL (k_cp opr pr i) i (opr i))))), (qpa, .inl (cJ, 30, .inr (.inl (vp_updL (k_cp opa pa i) i (opa i))))), (og, .inr (0, [.ref so, .ref lo, .ref qor, .ref qoa, .int (nI ody), .long oco, .long owo])), (qor, .inl (cJ, 30, .inr (.inl opr))), (qoa, .inl (cJ, 30, .inr (.inl opa)))] := hD
    refine lv_iinc (v := nI (i + 1)) (lv' := [(2, .int (nI (i + 1))), (0, .ref g), (1, .ref og)]) hx hb dG_become_32 hl (k := 2) rfl (nI_1 _) (by decide) rfl (fun ls hl => ?_)
    refine lv_goto (tgt := 2) hx hb dG_become_35 (by decide) ?_
    have eq3 : (vp_updL (k_cp opr pr i) i (opr i) : Nat → Int64) = k_cp opr pr (i + 1) := k_cp_s
    have hP := Eq.mp (congrArg (fun zz => va_P (dC, dI) vwCl [(g, .inr (0, [.ref so, .ref lo, .ref qpr, .ref qpa, .int x, .long co, .long wo])), (qpr, .inl (cJ, 30, .inr (.inl zz))), (qpa, .inl (cJ, 30, .inr (.inl (vp_updL (k_cp opa pa i) i (opa i))))), (og, .inr (0, [.ref so, .ref lo, .ref qor, .ref qoa, .int (nI ody), .long oco, .long owo])), (qor, .inl (cJ, 30, .inr (.inl opr))), (qoa, .inl (cJ, 30, .inr (.inl opa)))] H) eq3) hP
    have hD := Eq.mp (congrArg (fun zz => va_D A [(g, .inr (0, [.ref so, .ref lo, .ref qpr, .ref qpa, .int x, .long co, .long wo])), (qpr, .inl (cJ, 30, .inr (.inl zz))), (qpa, .inl (cJ, 30, .inr (.inl (vp_updL (k_cp opa pa i) i (opa i))))), (og, .inr (0, [.ref so, .ref lo, .ref qor, .ref qoa, .int (nI ody), .long oco, .long owo])), (qor, .inl (cJ, 30, .inr (.inl opr))), (qoa, .inl (cJ, 30, .inr (.inl opa)))]) eq3) hD
    have eq4 : (vp_updL (k_cp opa pa i) i (opa i) : Nat → Int64) = k_cp opa pa (i + 1) := k_cp_s
    have hP := Eq.mp (congrArg (fun zz => va_P (dC, dI) vwCl [(g, .inr (0, [.ref so, .ref lo, .ref qpr, .ref qpa, .int x, .long co, .long wo])), (qpr, .inl (cJ, 30, .inr (.inl (k_cp opr pr (i + 1))))), (qpa, .inl (cJ, 30, .inr (.inl zz))), (og, .inr (0, [.ref so, .ref lo, .ref qor, .ref qoa, .int (nI ody), .long oco, .long owo])), (qor, .inl (cJ, 30, .inr (.inl opr))), (qoa, .inl (cJ, 30, .inr (.inl opa)))] H) eq4) hP
    have hD := Eq.mp (congrArg (fun zz => va_D A [(g, .inr (0, [.ref so, .ref lo, .ref qpr, .ref qpa, .int x, .long co, .long wo])), (qpr, .inl (cJ, 30, .inr (.inl (k_cp opr pr (i + 1))))), (qpa, .inl (cJ, 30, .inr (.inl zz))), (og, .inr (0, [.ref so, .ref lo, .ref qor, .ref qoa, .int (nI ody), .long oco, .long owo])), (qor, .inl (cJ, 30, .inr (.inl opr))), (qoa, .inl (cJ, 30, .inr (.inl opa)))]) eq4) hD
    have hP : va_P (dC, dI) vwCl [(g, .inr (0, [.ref so, .ref lo, .ref qpr, .ref qpa, .int x, .long co, .long wo])), (qpr, .inl (cJ, 30, .inr (.inl (k_cp opr pr (i + 1))))), (qpa, .inl (cJ, 30, .inr (.inl (k_cp opa pa (i + 1))))), (og, .inr (0, [.ref so, .ref lo, .ref qor, .ref qoa, .int (nI ody), .long oco, .long owo])), (qor, .inl (cJ, 30, .inr (.inl opr))), (qoa, .inl (cJ, 30, .inr (.inl opa)))] H := by first | exact hP | simpa only [] using hP
    have hD : va_D A [(g, .inr (0, [.ref so, .ref lo, .ref qpr, .ref qpa, .int x, .long co, .long wo])), (qpr, .inl (cJ, 30, .inr (.inl (k_cp opr pr (i + 1))))), (qpa, .inl (cJ, 30, .inr (.inl (k_cp opa pa (i + 1))))), (og, .inr (0, [.ref so, .ref lo, .ref qor, .ref qoa, .int (nI ody), .long oco, .long owo])), (qor, .inl (cJ, 30, .inr (.inl opr))), (qoa, .inl (cJ, 30, .inr (.inl opa)))] := by first | exact hD | simpa only [] using hD
    exact ih2 (by omega) _ _ _ ⟨hP, hD, hS, lv_sub hl [1, 2, 0] rfl⟩
