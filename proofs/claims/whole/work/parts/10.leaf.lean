set_option maxHeartbeats 4000000 in
set_option maxRecDepth 100000 in
/-- within: 1 where it lies between -/
theorem kX_within (l : Launch) (dC : Nat → ClassId) (dI : Nat → Nat → Nat) (cI cJ : ClassId) (sz : Nat) (x : Int32) (y : Int32) (z : Int32) : Met l yX_within wX_within ({ frames := 0, cells := 0, slots := 0, locals := 0 }) (va_Pc [.int x, .int y, .int z] (fun U => U.heap.size = sz ∧ va_P (dC, dI) vwCl [] U.heap ∧ va_K (dC, dI) vwCl [(cI, .int), (cJ, .long)] U ∧ va_D (fun _ => True) [])) (va_Qi (fun rv (_ : Unit) => rv = kb (y ≤ x ∧ x ≤ z)) (fun _ t => va_P (dC, dI) vwCl [] t.heap ∧ va_K (dC, dI) vwCl [(cI, .int), (cJ, .long)] t ∧ va_D (va_A [] sz) []) (va_A [] sz)) 0 0 (va_A [] sz) := by
  refine Met.ofW (cc := bX_within) (maxL := 3) (ret := (some .boolean)) (by decide) rfl ?_
  intro p e s m args below meth c s₁ B hml hv
  obtain ⟨rfl, hsz, hP, hK, hD0⟩ := hv
  have hx := B.exec
  have hb := B.bytes
  have hr := B.returns
  have hts := atoms_spec (ws := wX_within) B.pre
  have hown : s.vm.findClass R_X = some m.cls := findClass_of_methodNamed B.named
  have htw : ∀ w ∈ WA, w.before _ s = true := fun w h => hts w (List.mem_cons_of_mem _ h)
  clear hts
  have hlocks := B.notSynchronized
  subst hsz
  have hD := hD0.self (sz := s.heap.size)
  generalize hAe : va_A [] s.heap.size = A at hD ⊢
  have hA : ∀ q : Nat, s.heap.size ≤ q → A q := fun q h => by rw [← hAe]; exact Or.inr h
  clear hAe hD0
  have hS : va_S A s.heap s.heap [] := va_S.rf
  have hP : va_P (dC, dI) vwCl [] s.heap := hP
  have hl := lv_entry ([.int x, .int y, .int z]) (n := 3) (Nat.le_of_ble_eq_true rfl)
  rw [lg_entry_eq]
  generalize (lg_sl ([.int x, .int y, .int z]) ++ List.replicate (3 - (lg_sl ([.int x, .int y, .int z])).length) Slot.unset).toArray = ls at hl ⊢
  have hl : lv_has ls 3 [(0, .int x), (1, .int y), (2, .int z)] := hl
  refine lv_iload_n hx hb dX_within_0 rfl (lv_at hl 0 rfl) ?_
  refine lv_iload_n hx hb dX_within_1 rfl (lv_at hl 1 rfl) ?_
  refine lv_icmp_lt (tgt := 14) hx hb dX_within_2 (by decide) (fun hc2 => ?_) (fun hc2 => ?_)
  · -- 2 taken
    have hret := kb_f (P := y ≤ x ∧ x ≤ z) (fun h => by have a0_ := hc2; have a1_ := h.1; simp only [Int32.lt_iff_toInt_lt, Int32.le_iff_toInt_le] at a0_ a1_; omega)
    refine lv_iconst (v := nI 0) hx hb dX_within_14 (by decide) ?_
    have hP : va_P (dC, dI) vwCl [] s.heap := by first | exact hP | simpa only [] using hP
    have hD : va_D A [] := by first | exact hD | simpa only [] using hD
    exact W.zret (v := nI 0) hx hb hr (by decide) (fun t ht hW => ⟨⟨nI 0, (), rfl, hret, by rw [ht]; exact hP, va_K.moved hW.alike hK, hD⟩, hS.F ht⟩) hS.2.2 dX_within_15
  · -- 2 not taken
    refine lv_iload_n hx hb dX_within_5 rfl (lv_at hl 0 rfl) ?_
    refine lv_iload_n hx hb dX_within_6 rfl (lv_at hl 2 rfl) ?_
    refine lv_icmp_gt (tgt := 14) hx hb dX_within_7 (by decide) (fun hc7 => ?_) (fun hc7 => ?_)
    · -- 7 taken
      have hret := kb_f (P := y ≤ x ∧ x ≤ z) (fun h => by have a0_ := hc7; have a1_ := h.2; simp only [Int32.lt_iff_toInt_lt, Int32.le_iff_toInt_le] at a0_ a1_; omega)
      refine lv_iconst (v := nI 0) hx hb dX_within_14 (by decide) ?_
      have hP : va_P (dC, dI) vwCl [] s.heap := by first | exact hP | simpa only [] using hP
      have hD : va_D A [] := by first | exact hD | simpa only [] using hD
      exact W.zret (v := nI 0) hx hb hr (by decide) (fun t ht hW => ⟨⟨nI 0, (), rfl, hret, by rw [ht]; exact hP, va_K.moved hW.alike hK, hD⟩, hS.F ht⟩) hS.2.2 dX_within_15
    · -- 7 not taken
      have hret := kb_t (P := y ≤ x ∧ x ≤ z) ⟨by rw [Int32.le_iff_toInt_le]; have a0_ := hc2; simp only [Int32.lt_iff_toInt_lt, Int32.le_iff_toInt_le] at a0_; omega, by rw [Int32.le_iff_toInt_le]; have a0_ := hc7; simp only [Int32.lt_iff_toInt_lt, Int32.le_iff_toInt_le] at a0_; omega⟩
      refine lv_iconst (v := nI 1) hx hb dX_within_10 (by decide) ?_
      refine lv_goto (tgt := 15) hx hb dX_within_11 (by decide) ?_
      have hP : va_P (dC, dI) vwCl [] s.heap := by first | exact hP | simpa only [] using hP
      have hD : va_D A [] := by first | exact hD | simpa only [] using hD
      exact W.zret (v := nI 1) hx hb hr (by decide) (fun t ht hW => ⟨⟨nI 1, (), rfl, hret, by rw [ht]; exact hP, va_K.moved hW.alike hK, hD⟩, hS.F ht⟩) hS.2.2 dX_within_15
set_option maxHeartbeats 4000000 in
set_option maxRecDepth 100000 in
theorem kG_carried (l : Launch) (dC : Nat → ClassId) (dI : Nat → Nat → Nat) (cI cJ : ClassId) (g so lo qpr qpa : Nat) (sz : Nat) (i : Nat) (dy : Nat) (co : Int64) (wo : Int64) (pr : Nat → Int64) (hi : i < 30) : Met l yG_carried wG_carried ({ frames := 0, cells := 0, slots := 0, locals := 0 }) (va_Pc [.ref g, .int (nI i)] (fun U => U.heap.size = sz ∧ va_P (dC, dI) vwCl [(g, .inr (0, [.ref so, .ref lo, .ref qpr, .ref qpa, .int (nI dy), .long co, .long wo])), (qpr, .inl (cJ, 30, .inr (.inl pr)))] U.heap ∧ va_K (dC, dI) vwCl [(cI, .int), (cJ, .long)] U ∧ va_D (fun _ => True) [(g, .inr (0, [.ref so, .ref lo, .ref qpr, .ref qpa, .int (nI dy), .long co, .long wo])), (qpr, .inl (cJ, 30, .inr (.inl pr)))])) (va_Ql (fun rv (_ : Unit) => rv = co - pr i) (fun _ t => va_P (dC, dI) vwCl [(g, .inr (0, [.ref so, .ref lo, .ref qpr, .ref qpa, .int (nI dy), .long co, .long wo])), (qpr, .inl (cJ, 30, .inr (.inl pr)))] t.heap ∧ va_K (dC, dI) vwCl [(cI, .int), (cJ, .long)] t ∧ va_D (va_A [(g, .inr (0, [.ref so, .ref lo, .ref qpr, .ref qpa, .int (nI dy), .long co, .long wo])), (qpr, .inl (cJ, 30, .inr (.inl pr)))] sz) [(g, .inr (0, [.ref so, .ref lo, .ref qpr, .ref qpa, .int (nI dy), .long co, .long wo])), (qpr, .inl (cJ, 30, .inr (.inl pr)))]) (va_A [(g, .inr (0, [.ref so, .ref lo, .ref qpr, .ref qpa, .int (nI dy), .long co, .long wo])), (qpr, .inl (cJ, 30, .inr (.inl pr)))] sz)) 0 0 (va_A [(g, .inr (0, [.ref so, .ref lo, .ref qpr, .ref qpa, .int (nI dy), .long co, .long wo])), (qpr, .inl (cJ, 30, .inr (.inl pr)))] sz) := by
  refine Met.ofW (cc := bG_carried) (maxL := 2) (ret := (some .long)) (by decide) rfl ?_
  intro p e s m args below meth c s₁ B hml hv
  obtain ⟨rfl, hsz, hP, hK, hD0⟩ := hv
  have hx := B.exec
  have hb := B.bytes
  have hr := B.returns
  have hts := atoms_spec (ws := wG_carried) B.pre
  have hown : s.vm.findClass R_G = some m.cls := findClass_of_methodNamed B.named
  have htw : ∀ w ∈ WA, w.before _ s = true := fun w h => hts w (List.mem_cons_of_mem _ h)
  clear hts
  have hlocks := B.notSynchronized
  subst hsz
  have hD := hD0.self (sz := s.heap.size)
  generalize hAe : va_A [(g, .inr (0, [.ref so, .ref lo, .ref qpr, .ref qpa, .int (nI dy), .long co, .long wo])), (qpr, .inl (cJ, 30, .inr (.inl pr)))] s.heap.size = A at hD ⊢
  have hA : ∀ q : Nat, s.heap.size ≤ q → A q := fun q h => by rw [← hAe]; exact Or.inr h
  clear hAe hD0
  have hS : va_S A s.heap s.heap [] := va_S.rf
  have hP : va_P (dC, dI) vwCl [(g, .inr (0, [.ref so, .ref lo, .ref qpr, .ref qpa, .int (nI dy), .long co, .long wo])), (qpr, .inl (cJ, 30, .inr (.inl pr)))] s.heap := hP
  have hl := lv_entry ([.ref g, .int (nI i)]) (n := 2) (Nat.le_of_ble_eq_true rfl)
  rw [lg_entry_eq]
  generalize (lg_sl ([.ref g, .int (nI i)]) ++ List.replicate (2 - (lg_sl ([.ref g, .int (nI i)])).length) Slot.unset).toArray = ls at hl ⊢
  have hl : lv_has ls 2 [(0, .ref g), (1, .int (nI i))] := hl
  refine lv_aload_n hx hb dG_carried_0 rfl (lv_at hl 0 rfl) ?_
  refine va_get (D := (dC, dI)) (ci := 0) (v := .long co) (C := R_G) (T := T_G) (N := 7) hx hb htw in_G hown hK hP 0 rfl rfl 5 (by decide) (htw _ m_122) (fun _ h9 => h9) rfl dG_carried_1 ?_
  refine lv_aload_n hx hb dG_carried_4 rfl (lv_at hl 0 rfl) ?_
  refine va_get (D := (dC, dI)) (ci := 0) (v := .ref qpr) (C := R_G) (T := T_G) (N := 7) hx hb htw in_G hown hK hP 0 rfl rfl 2 (by decide) (htw _ m_116) (fun _ h9 => h9) rfl dG_carried_5 ?_
  refine lv_iload_n hx hb dG_carried_8 rfl (lv_at hl 1 rfl) ?_
  refine xa_lald hx hb hK hP 1 1 rfl rfl (i := i) (by omega) (by decide) dG_carried_9 ?_
  refine lv_lsub hx hb dG_carried_10 ?_
  have hP : va_P (dC, dI) vwCl [(g, .inr (0, [.ref so, .ref lo, .ref qpr, .ref qpa, .int (nI dy), .long co, .long wo])), (qpr, .inl (cJ, 30, .inr (.inl pr)))] s.heap := by first | exact hP | simpa only [] using hP
  have hD : va_D A [(g, .inr (0, [.ref so, .ref lo, .ref qpr, .ref qpa, .int (nI dy), .long co, .long wo])), (qpr, .inl (cJ, 30, .inr (.inl pr)))] := by first | exact hD | simpa only [] using hD
  exact W.lret (v := co - (pr i)) hx hb hr (fun t ht hW => ⟨⟨co - (pr i), (), rfl, rfl, by rw [ht]; exact hP, va_K.moved hW.alike hK, hD⟩, hS.F ht⟩) hS.2.2 dG_carried_11
set_option maxHeartbeats 4000000 in
set_option maxRecDepth 100000 in
theorem kS_unitsSunk (l : Launch) (dC : Nat → ClassId) (dI : Nat → Nat → Nat) (cI cJ : ClassId) (so qlk qln qhd qsf qfp qfc : Nat) (sz : Nat) (i : Nat) (ca : Int64) (pz : Int64) (ly : Nat) (ce : Nat) (da : Int32) (db : Int32) (dr : Int32) (hd : Nat → Int32) (sf : Nat → Int32) (fp : Nat → Int32) (hi : i < 30) : Met l yS_unitsSunk wS_unitsSunk ({ frames := 0, cells := 0, slots := 0, locals := 0 }) (va_Pc [.ref so, .int (nI i), .long ca, .long pz] (fun U => U.heap.size = sz ∧ va_P (dC, dI) vwCl [(so, .inr (3, [.ref qlk, .ref qln, .ref qhd, .ref qsf, .ref qfp, .ref qfc, .int (nI ly), .int (nI ce), .int da, .int db, .int dr])), (qhd, .inl (cI, 30, .inl hd)), (qsf, .inl (cI, 30, .inl sf)), (qfp, .inl (cI, 30, .inl fp))] U.heap ∧ va_K (dC, dI) vwCl [(cI, .int), (cJ, .long)] U ∧ va_D (fun _ => True) [(so, .inr (3, [.ref qlk, .ref qln, .ref qhd, .ref qsf, .ref qfp, .ref qfc, .int (nI ly), .int (nI ce), .int da, .int db, .int dr])), (qhd, .inl (cI, 30, .inl hd)), (qsf, .inl (cI, 30, .inl sf)), (qfp, .inl (cI, 30, .inl fp))])) (va_Ql (fun rv (_ : Unit) => rv = k_u1 hd sf fp i ca pz) (fun _ t => va_P (dC, dI) vwCl [(so, .inr (3, [.ref qlk, .ref qln, .ref qhd, .ref qsf, .ref qfp, .ref qfc, .int (nI ly), .int (nI ce), .int da, .int db, .int dr])), (qhd, .inl (cI, 30, .inl hd)), (qsf, .inl (cI, 30, .inl sf)), (qfp, .inl (cI, 30, .inl fp))] t.heap ∧ va_K (dC, dI) vwCl [(cI, .int), (cJ, .long)] t ∧ va_D (va_A [(so, .inr (3, [.ref qlk, .ref qln, .ref qhd, .ref qsf, .ref qfp, .ref qfc, .int (nI ly), .int (nI ce), .int da, .int db, .int dr])), (qhd, .inl (cI, 30, .inl hd)), (qsf, .inl (cI, 30, .inl sf)), (qfp, .inl (cI, 30, .inl fp))] sz) [(so, .inr (3, [.ref qlk, .ref qln, .ref qhd, .ref qsf, .ref qfp, .ref qfc, .int (nI ly), .int (nI ce), .int da, .int db, .int dr])), (qhd, .inl (cI, 30, .inl hd)), (qsf, .inl (cI, 30, .inl sf)), (qfp, .inl (cI, 30, .inl fp))]) (va_A [(so, .inr (3, [.ref qlk, .ref qln, .ref qhd, .ref qsf, .ref qfp, .ref qfc, .int (nI ly), .int (nI ce), .int da, .int db, .int dr])), (qhd, .inl (cI, 30, .inl hd)), (qsf, .inl (cI, 30, .inl sf)), (qfp, .inl (cI, 30, .inl fp))] sz)) 0 0 (va_A [(so, .inr (3, [.ref qlk, .ref qln, .ref qhd, .ref qsf, .ref qfp, .ref qfc, .int (nI ly), .int (nI ce), .int da, .int db, .int dr])), (qhd, .inl (cI, 30, .inl hd)), (qsf, .inl (cI, 30, .inl sf)), (qfp, .inl (cI, 30, .inl fp))] sz) := by
  refine Met.ofW (cc := bS_unitsSunk) (maxL := 6) (ret := (some .long)) (by decide) rfl ?_
  intro p e s m args below meth c s₁ B hml hv
  obtain ⟨rfl, hsz, hP, hK, hD0⟩ := hv
  have hx := B.exec
  have hb := B.bytes
  have hr := B.returns
  have hts := atoms_spec (ws := wS_unitsSunk) B.pre
  have hown : s.vm.findClass R_S = some m.cls := findClass_of_methodNamed B.named
  have htw : ∀ w ∈ WA, w.before _ s = true := fun w h => hts w (List.mem_cons_of_mem _ h)
  clear hts
  have hlocks := B.notSynchronized
  subst hsz
  have hD := hD0.self (sz := s.heap.size)
  generalize hAe : va_A [(so, .inr (3, [.ref qlk, .ref qln, .ref qhd, .ref qsf, .ref qfp, .ref qfc, .int (nI ly), .int (nI ce), .int da, .int db, .int dr])), (qhd, .inl (cI, 30, .inl hd)), (qsf, .inl (cI, 30, .inl sf)), (qfp, .inl (cI, 30, .inl fp))] s.heap.size = A at hD ⊢
  have hA : ∀ q : Nat, s.heap.size ≤ q → A q := fun q h => by rw [← hAe]; exact Or.inr h
  clear hAe hD0
  have hS : va_S A s.heap s.heap [] := va_S.rf
  have hP : va_P (dC, dI) vwCl [(so, .inr (3, [.ref qlk, .ref qln, .ref qhd, .ref qsf, .ref qfp, .ref qfc, .int (nI ly), .int (nI ce), .int da, .int db, .int dr])), (qhd, .inl (cI, 30, .inl hd)), (qsf, .inl (cI, 30, .inl sf)), (qfp, .inl (cI, 30, .inl fp))] s.heap := hP
  have hl := lv_entry ([.ref so, .int (nI i), .long ca, .long pz]) (n := 6) (Nat.le_of_ble_eq_true rfl)
  rw [lg_entry_eq]
  generalize (lg_sl ([.ref so, .int (nI i), .long ca, .long pz]) ++ List.replicate (6 - (lg_sl ([.ref so, .int (nI i), .long ca, .long pz])).length) Slot.unset).toArray = ls at hl ⊢
  have hl : lv_has ls 6 [(0, .ref so), (1, .int (nI i)), (2, .long ca), (4, .long pz)] := hl
  refine lv_aload_n hx hb dS_unitsSunk_0 rfl (lv_at hl 0 rfl) ?_
  refine va_get (D := (dC, dI)) (ci := 3) (v := .ref qhd) (C := R_S) (T := T_S) (N := 11) hx hb htw in_S hown hK hP 0 rfl rfl 2 (by decide) (htw _ m_26) (fun _ h9 => h9) rfl dS_unitsSunk_1 ?_
  refine lv_iload_n hx hb dS_unitsSunk_4 rfl (lv_at hl 1 rfl) ?_
  refine xa_iald hx hb hK hP 1 0 rfl rfl (i := i) (by omega) (by decide) dS_unitsSunk_5 ?_
  refine lv_i2l (v := (hd i).toInt64) hx hb dS_unitsSunk_6 rfl ?_
  refine lv_lload_n hx hb dS_unitsSunk_7 rfl (lv_at hl 2 rfl) ?_
  refine lv_lmul hx hb dS_unitsSunk_8 ?_
  refine lv_aload_n hx hb dS_unitsSunk_9 rfl (lv_at hl 0 rfl) ?_
  refine va_get (D := (dC, dI)) (ci := 3) (v := .ref qsf) (C := R_S) (T := T_S) (N := 11) hx hb htw in_S hown hK hP 0 rfl rfl 3 (by decide) (htw _ m_27) (fun _ h9 => h9) rfl dS_unitsSunk_10 ?_
  refine lv_iload_n hx hb dS_unitsSunk_13 rfl (lv_at hl 1 rfl) ?_
  refine xa_iald hx hb hK hP 2 0 rfl rfl (i := i) (by omega) (by decide) dS_unitsSunk_14 ?_
  refine lv_aload_n hx hb dS_unitsSunk_15 rfl (lv_at hl 0 rfl) ?_
  refine va_get (D := (dC, dI)) (ci := 3) (v := .ref qhd) (C := R_S) (T := T_S) (N := 11) hx hb htw in_S hown hK hP 0 rfl rfl 2 (by decide) (htw _ m_26) (fun _ h9 => h9) rfl dS_unitsSunk_16 ?_
  refine lv_iload_n hx hb dS_unitsSunk_19 rfl (lv_at hl 1 rfl) ?_
  refine xa_iald hx hb hK hP 1 0 rfl rfl (i := i) (by omega) (by decide) dS_unitsSunk_20 ?_
  refine lv_isub hx hb dS_unitsSunk_21 ?_
  refine lv_i2l (v := ((sf i) - (hd i)).toInt64) hx hb dS_unitsSunk_22 rfl ?_
  refine lv_lload hx hb dS_unitsSunk_23 (lv_at hl 3 rfl) ?_
  refine lv_aload_n hx hb dS_unitsSunk_25 rfl (lv_at hl 0 rfl) ?_
  refine va_get (D := (dC, dI)) (ci := 3) (v := .ref qfp) (C := R_S) (T := T_S) (N := 11) hx hb htw in_S hown hK hP 0 rfl rfl 4 (by decide) (htw _ m_28) (fun _ h9 => h9) rfl dS_unitsSunk_26 ?_
  refine lv_iload_n hx hb dS_unitsSunk_29 rfl (lv_at hl 1 rfl) ?_
  refine xa_iald hx hb hK hP 3 0 rfl rfl (i := i) (by omega) (by decide) dS_unitsSunk_30 ?_
  refine lv_i2l (v := (fp i).toInt64) hx hb dS_unitsSunk_31 rfl ?_
  refine lv_lsub hx hb dS_unitsSunk_32 ?_
  refine lv_lmul hx hb dS_unitsSunk_33 ?_
  refine lv_ladd hx hb dS_unitsSunk_34 ?_
  have hP : va_P (dC, dI) vwCl [(so, .inr (3, [.ref qlk, .ref qln, .ref qhd, .ref qsf, .ref qfp, .ref qfc, .int (nI ly), .int (nI ce), .int da, .int db, .int dr])), (qhd, .inl (cI, 30, .inl hd)), (qsf, .inl (cI, 30, .inl sf)), (qfp, .inl (cI, 30, .inl fp))] s.heap := by first | exact hP | simpa only [] using hP
  have hD : va_D A [(so, .inr (3, [.ref qlk, .ref qln, .ref qhd, .ref qsf, .ref qfp, .ref qfc, .int (nI ly), .int (nI ce), .int da, .int db, .int dr])), (qhd, .inl (cI, 30, .inl hd)), (qsf, .inl (cI, 30, .inl sf)), (qfp, .inl (cI, 30, .inl fp))] := by first | exact hD | simpa only [] using hD
  exact W.lret (v := (((hd i).toInt64) * ca) + ((((sf i) - (hd i)).toInt64) * (pz - ((fp i).toInt64)))) hx hb hr (fun t ht hW => ⟨⟨(((hd i).toInt64) * ca) + ((((sf i) - (hd i)).toInt64) * (pz - ((fp i).toInt64))), (), rfl, rfl, by rw [ht]; exact hP, va_K.moved hW.alike hK, hD⟩, hS.F ht⟩) hS.2.2 dS_unitsSunk_35
set_option maxHeartbeats 4000000 in
set_option maxRecDepth 100000 in
theorem kO_comingOn (l : Launch) (dC : Nat → ClassId) (dI : Nat → Nat → Nat) (cI cJ : ClassId) (lo qld qlz : Nat) (sz : Nat) (x : Int32) (mn : Nat) (sm : Int64) (ld : Nat → Int32) (lz : Nat → Int32) (hmn : mn ≤ 12) : Met l yO_comingOn wO_comingOn ({ frames := 0, cells := 0, slots := 0, locals := 0 }) (va_Pc [.ref lo, .int x] (fun U => U.heap.size = sz ∧ va_P (dC, dI) vwCl [(lo, .inr (1, [.ref qld, .ref qlz, .int (nI mn), .long sm])), (qld, .inl (cI, 12, .inl ld)), (qlz, .inl (cI, 12, .inl lz))] U.heap ∧ va_K (dC, dI) vwCl [(cI, .int), (cJ, .long)] U ∧ va_D (fun _ => True) [(lo, .inr (1, [.ref qld, .ref qlz, .int (nI mn), .long sm])), (qld, .inl (cI, 12, .inl ld)), (qlz, .inl (cI, 12, .inl lz))])) (va_Ql (fun rv (_ : Unit) => rv = k_come ld lz x mn) (fun _ t => va_P (dC, dI) vwCl [(lo, .inr (1, [.ref qld, .ref qlz, .int (nI mn), .long sm])), (qld, .inl (cI, 12, .inl ld)), (qlz, .inl (cI, 12, .inl lz))] t.heap ∧ va_K (dC, dI) vwCl [(cI, .int), (cJ, .long)] t ∧ va_D (va_A [(lo, .inr (1, [.ref qld, .ref qlz, .int (nI mn), .long sm])), (qld, .inl (cI, 12, .inl ld)), (qlz, .inl (cI, 12, .inl lz))] sz) [(lo, .inr (1, [.ref qld, .ref qlz, .int (nI mn), .long sm])), (qld, .inl (cI, 12, .inl ld)), (qlz, .inl (cI, 12, .inl lz))]) (va_A [(lo, .inr (1, [.ref qld, .ref qlz, .int (nI mn), .long sm])), (qld, .inl (cI, 12, .inl ld)), (qlz, .inl (cI, 12, .inl lz))] sz)) 0 0 (va_A [(lo, .inr (1, [.ref qld, .ref qlz, .int (nI mn), .long sm])), (qld, .inl (cI, 12, .inl ld)), (qlz, .inl (cI, 12, .inl lz))] sz) := by
  refine Met.ofW (cc := bO_comingOn) (maxL := 5) (ret := (some .long)) (by decide) rfl ?_
  intro p e s m args below meth c s₁ B hml hv
  obtain ⟨rfl, hsz, hP, hK, hD0⟩ := hv
  have hx := B.exec
  have hb := B.bytes
  have hr := B.returns
  have hts := atoms_spec (ws := wO_comingOn) B.pre
  have hown : s.vm.findClass R_O = some m.cls := findClass_of_methodNamed B.named
  have htw : ∀ w ∈ WA, w.before _ s = true := fun w h => hts w (List.mem_cons_of_mem _ h)
  clear hts
  have hlocks := B.notSynchronized
  subst hsz
  have hD := hD0.self (sz := s.heap.size)
  generalize hAe : va_A [(lo, .inr (1, [.ref qld, .ref qlz, .int (nI mn), .long sm])), (qld, .inl (cI, 12, .inl ld)), (qlz, .inl (cI, 12, .inl lz))] s.heap.size = A at hD ⊢
  have hA : ∀ q : Nat, s.heap.size ≤ q → A q := fun q h => by rw [← hAe]; exact Or.inr h
  clear hAe hD0
  have hS : va_S A s.heap s.heap [] := va_S.rf
  have hP : va_P (dC, dI) vwCl [(lo, .inr (1, [.ref qld, .ref qlz, .int (nI mn), .long sm])), (qld, .inl (cI, 12, .inl ld)), (qlz, .inl (cI, 12, .inl lz))] s.heap := hP
  have hl := lv_entry ([.ref lo, .int x]) (n := 5) (Nat.le_of_ble_eq_true rfl)
  rw [lg_entry_eq]
  generalize (lg_sl ([.ref lo, .int x]) ++ List.replicate (5 - (lg_sl ([.ref lo, .int x])).length) Slot.unset).toArray = ls at hl ⊢
  have hl : lv_has ls 5 [(0, .ref lo), (1, .int x)] := hl
  refine lv_lconst (v := 0) hx hb dO_comingOn_0 (by decide) ?_
  refine lv_lstore_n (lv' := [(2, .long 0), (0, .ref lo), (1, .int x)]) hx hb dO_comingOn_1 rfl hl (by decide) rfl (fun ls hl => ?_)
  refine lv_iconst (v := nI 0) hx hb dO_comingOn_2 (by decide) ?_
  refine lv_istore (lv' := [(4, .int (nI 0)), (2, .long 0), (0, .ref lo), (1, .int x)]) hx hb dO_comingOn_3 hl (by decide) rfl (fun ls hl => ?_)
  -- the loop at 5
  have hP : va_P (dC, dI) vwCl [(lo, .inr (1, [.ref qld, .ref qlz, .int (nI mn), .long sm])), (qld, .inl (cI, 12, .inl ld)), (qlz, .inl (cI, 12, .inl lz))] s.heap := by first | exact hP | simpa only [] using hP
  have hD : va_D A [(lo, .inr (1, [.ref qld, .ref qlz, .int (nI mn), .long sm])), (qld, .inl (cI, 12, .inl ld)), (qlz, .inl (cI, 12, .inl lz))] := by first | exact hD | simpa only [] using hD
  refine x_loop (N := mn) (I := fun i H locs ls => va_P (dC, dI) vwCl [(lo, .inr (1, [.ref qld, .ref qlz, .int (nI mn), .long sm])), (qld, .inl (cI, 12, .inl ld)), (qlz, .inl (cI, 12, .inl lz))] H ∧ va_D A [(lo, .inr (1, [.ref qld, .ref qlz, .int (nI mn), .long sm])), (qld, .inl (cI, 12, .inl ld)), (qlz, .inl (cI, 12, .inl lz))] ∧ va_S A s.heap H locs ∧ lv_has ls 5 [(0, .ref lo), (1, .int x), (2, .long (k_come ld lz x i)), (4, .int (nI i))]) (i0 := 0) ?_ (Nat.zero_le _) ⟨hP, hD, hS, lv_sub hl [2, 3, 1, 0] rfl⟩
  intro i hi ih5 H locs ls hI
  obtain ⟨hP, hD, hS, hl⟩ := hI
  refine lv_iload hx hb dO_comingOn_5 (lv_at hl 3 rfl) ?_
  refine lv_aload_n hx hb dO_comingOn_7 rfl (lv_at hl 0 rfl) ?_
  refine va_get (D := (dC, dI)) (ci := 1) (v := .int (nI mn)) (C := R_O) (T := T_O) (N := 4) hx hb htw in_O hown hK hP 0 rfl rfl 2 (by decide) (htw _ m_75) (fun _ h9 => h9) rfl dO_comingOn_8 ?_
  refine lv_icmp_ge (tgt := 42) hx hb dO_comingOn_11 (by decide) (fun hc11 => ?_) (fun hc11 => ?_)
  · -- 11 taken
    rw [nI_leI (by omega) (by omega)] at hc11
    obtain rfl : mn = i := by omega
    refine lv_lload_n hx hb dO_comingOn_42 rfl (lv_at hl 2 rfl) ?_
    have hP : va_P (dC, dI) vwCl [(lo, .inr (1, [.ref qld, .ref qlz, .int (nI mn), .long sm])), (qld, .inl (cI, 12, .inl ld)), (qlz, .inl (cI, 12, .inl lz))] H := by first | exact hP | simpa only [] using hP
    have hD : va_D A [(lo, .inr (1, [.ref qld, .ref qlz, .int (nI mn), .long sm])), (qld, .inl (cI, 12, .inl ld)), (qlz, .inl (cI, 12, .inl lz))] := by first | exact hD | simpa only [] using hD
    exact W.lret (v := k_come ld lz x mn) hx hb hr (fun t ht hW => ⟨⟨k_come ld lz x mn, (), rfl, rfl, by rw [ht]; exact hP, va_K.moved hW.alike hK, hD⟩, hS.F ht⟩) hS.2.2 dO_comingOn_43
  · -- 11 not taken
    rw [nI_leI (by omega) (by omega)] at hc11
    refine lv_aload_n hx hb dO_comingOn_14 rfl (lv_at hl 0 rfl) ?_
    refine va_get (D := (dC, dI)) (ci := 1) (v := .ref qld) (C := R_O) (T := T_O) (N := 4) hx hb htw in_O hown hK hP 0 rfl rfl 0 (by decide) (htw _ m_73) (fun _ h9 => h9) rfl dO_comingOn_15 ?_
    refine lv_iload hx hb dO_comingOn_18 (lv_at hl 3 rfl) ?_
    refine xa_iald hx hb hK hP 1 0 rfl rfl (i := i) (by omega) (by decide) dO_comingOn_20 ?_
    refine lv_iload_n hx hb dO_comingOn_21 rfl (lv_at hl 1 rfl) ?_
    refine lv_icmp_ne (tgt := 36) hx hb dO_comingOn_22 (by decide) (fun hc22 => ?_) (fun hc22 => ?_)
    · -- 22 taken
      have eq1 : (k_come ld lz x i : Int64) = k_come ld lz x (i + 1) := k_come_f hc22
      rw [eq1] at hl
      refine lv_iinc (v := nI (i + 1)) (lv' := [(4, .int (nI (i + 1))), (0, .ref lo), (1, .int x), (2, .long (k_come ld lz x (i + 1)))]) hx hb dO_comingOn_36 hl (k := 3) rfl (nI_1 _) (by decide) rfl (fun ls hl => ?_)
      refine lv_goto (tgt := 5) hx hb dO_comingOn_39 (by decide) ?_
      have hP : va_P (dC, dI) vwCl [(lo, .inr (1, [.ref qld, .ref qlz, .int (nI mn), .long sm])), (qld, .inl (cI, 12, .inl ld)), (qlz, .inl (cI, 12, .inl lz))] H := by first | exact hP | simpa only [] using hP
      have hD : va_D A [(lo, .inr (1, [.ref qld, .ref qlz, .int (nI mn), .long sm])), (qld, .inl (cI, 12, .inl ld)), (qlz, .inl (cI, 12, .inl lz))] := by first | exact hD | simpa only [] using hD
      exact ih5 (by omega) _ _ _ ⟨hP, hD, hS, lv_sub hl [1, 2, 3, 0] rfl⟩
    · -- 22 not taken
      refine lv_lload_n hx hb dO_comingOn_25 rfl (lv_at hl 2 rfl) ?_
      refine lv_aload_n hx hb dO_comingOn_26 rfl (lv_at hl 0 rfl) ?_
      refine va_get (D := (dC, dI)) (ci := 1) (v := .ref qlz) (C := R_O) (T := T_O) (N := 4) hx hb htw in_O hown hK hP 0 rfl rfl 1 (by decide) (htw _ m_74) (fun _ h9 => h9) rfl dO_comingOn_27 ?_
      refine lv_iload hx hb dO_comingOn_30 (lv_at hl 3 rfl) ?_
      refine xa_iald hx hb hK hP 2 0 rfl rfl (i := i) (by omega) (by decide) dO_comingOn_32 ?_
      refine lv_i2l (v := (lz i).toInt64) hx hb dO_comingOn_33 rfl ?_
      refine lv_ladd hx hb dO_comingOn_34 ?_
      refine lv_lstore_n (lv' := [(2, .long ((k_come ld lz x i) + ((lz i).toInt64))), (0, .ref lo), (1, .int x), (4, .int (nI i))]) hx hb dO_comingOn_35 rfl hl (by decide) rfl (fun ls hl => ?_)
      have eq2 : ((k_come ld lz x i) + ((lz i).toInt64) : Int64) = k_come ld lz x (i + 1) := k_come_t hc22
      rw [eq2] at hl
      refine lv_iinc (v := nI (i + 1)) (lv' := [(4, .int (nI (i + 1))), (2, .long (k_come ld lz x (i + 1))), (0, .ref lo), (1, .int x)]) hx hb dO_comingOn_36 hl (k := 3) rfl (nI_1 _) (by decide) rfl (fun ls hl => ?_)
      refine lv_goto (tgt := 5) hx hb dO_comingOn_39 (by decide) ?_
      have hP : va_P (dC, dI) vwCl [(lo, .inr (1, [.ref qld, .ref qlz, .int (nI mn), .long sm])), (qld, .inl (cI, 12, .inl ld)), (qlz, .inl (cI, 12, .inl lz))] H := by first | exact hP | simpa only [] using hP
      have hD : va_D A [(lo, .inr (1, [.ref qld, .ref qlz, .int (nI mn), .long sm])), (qld, .inl (cI, 12, .inl ld)), (qlz, .inl (cI, 12, .inl lz))] := by first | exact hD | simpa only [] using hD
      exact ih5 (by omega) _ _ _ ⟨hP, hD, hS, lv_sub hl [2, 3, 1, 0] rfl⟩
set_option maxHeartbeats 4000000 in
set_option maxRecDepth 100000 in
theorem kG_lay (l : Launch) (dC : Nat → ClassId) (dI : Nat → Nat → Nat) (cI cJ : ClassId) (g so lo qpr qpa qlk qln qhd qsf qfp qfc : Nat) (sz : Nat) (u : Int64) (dy : Nat) (co : Int64) (wo : Int64) (pr : Nat → Int64) (ly : Nat) (ce : Nat) (da : Int32) (db : Int32) (dr : Int32) (hce : ce ≤ 30) : Met l yG_lay wG_lay ({ frames := 0, cells := 0, slots := 0, locals := 0 }) (va_Pc [.ref g, .long u] (fun U => U.heap.size = sz ∧ va_P (dC, dI) vwCl [(g, .inr (0, [.ref so, .ref lo, .ref qpr, .ref qpa, .int (nI dy), .long co, .long wo])), (qpr, .inl (cJ, 30, .inr (.inl pr))), (so, .inr (3, [.ref qlk, .ref qln, .ref qhd, .ref qsf, .ref qfp, .ref qfc, .int (nI ly), .int (nI ce), .int da, .int db, .int dr]))] U.heap ∧ va_K (dC, dI) vwCl [(cI, .int), (cJ, .long)] U ∧ va_D (fun _ => True) [(g, .inr (0, [.ref so, .ref lo, .ref qpr, .ref qpa, .int (nI dy), .long co, .long wo])), (qpr, .inl (cJ, 30, .inr (.inl pr))), (so, .inr (3, [.ref qlk, .ref qln, .ref qhd, .ref qsf, .ref qfp, .ref qfc, .int (nI ly), .int (nI ce), .int da, .int db, .int dr]))])) (va_Qv (fun (_ : Unit) => True) (fun _ t => va_P (dC, dI) vwCl [(g, .inr (0, [.ref so, .ref lo, .ref qpr, .ref qpa, .int (nI dy), .long (co + u), .long wo])), (qpr, .inl (cJ, 30, .inr (.inl (k_lay pr ce u)))), (so, .inr (3, [.ref qlk, .ref qln, .ref qhd, .ref qsf, .ref qfp, .ref qfc, .int (nI ly), .int (nI ce), .int da, .int db, .int dr]))] t.heap ∧ va_K (dC, dI) vwCl [(cI, .int), (cJ, .long)] t ∧ va_D (va_A [(g, .inr (0, [.ref so, .ref lo, .ref qpr, .ref qpa, .int (nI dy), .long co, .long wo])), (qpr, .inl (cJ, 30, .inr (.inl pr))), (so, .inr (3, [.ref qlk, .ref qln, .ref qhd, .ref qsf, .ref qfp, .ref qfc, .int (nI ly), .int (nI ce), .int da, .int db, .int dr]))] sz) [(g, .inr (0, [.ref so, .ref lo, .ref qpr, .ref qpa, .int (nI dy), .long (co + u), .long wo])), (qpr, .inl (cJ, 30, .inr (.inl (k_lay pr ce u)))), (so, .inr (3, [.ref qlk, .ref qln, .ref qhd, .ref qsf, .ref qfp, .ref qfc, .int (nI ly), .int (nI ce), .int da, .int db, .int dr]))]) (va_A [(g, .inr (0, [.ref so, .ref lo, .ref qpr, .ref qpa, .int (nI dy), .long co, .long wo])), (qpr, .inl (cJ, 30, .inr (.inl pr))), (so, .inr (3, [.ref qlk, .ref qln, .ref qhd, .ref qsf, .ref qfp, .ref qfc, .int (nI ly), .int (nI ce), .int da, .int db, .int dr]))] sz)) 0 0 (va_A [(g, .inr (0, [.ref so, .ref lo, .ref qpr, .ref qpa, .int (nI dy), .long co, .long wo])), (qpr, .inl (cJ, 30, .inr (.inl pr))), (so, .inr (3, [.ref qlk, .ref qln, .ref qhd, .ref qsf, .ref qfp, .ref qfc, .int (nI ly), .int (nI ce), .int da, .int db, .int dr]))] sz) := by
  refine Met.ofW (cc := bG_lay) (maxL := 4) (ret := none) (by decide) rfl ?_
  intro p e s m args below meth c s₁ B hml hv
  obtain ⟨rfl, hsz, hP, hK, hD0⟩ := hv
  have hx := B.exec
  have hb := B.bytes
  have hr := B.returns
  have hts := atoms_spec (ws := wG_lay) B.pre
  have hown : s.vm.findClass R_G = some m.cls := findClass_of_methodNamed B.named
  have htw : ∀ w ∈ WA, w.before _ s = true := fun w h => hts w (List.mem_cons_of_mem _ h)
  clear hts
  have hlocks := B.notSynchronized
  subst hsz
  have hD := hD0.self (sz := s.heap.size)
  generalize hAe : va_A [(g, .inr (0, [.ref so, .ref lo, .ref qpr, .ref qpa, .int (nI dy), .long co, .long wo])), (qpr, .inl (cJ, 30, .inr (.inl pr))), (so, .inr (3, [.ref qlk, .ref qln, .ref qhd, .ref qsf, .ref qfp, .ref qfc, .int (nI ly), .int (nI ce), .int da, .int db, .int dr]))] s.heap.size = A at hD ⊢
  have hA : ∀ q : Nat, s.heap.size ≤ q → A q := fun q h => by rw [← hAe]; exact Or.inr h
  clear hAe hD0
  have hS : va_S A s.heap s.heap [] := va_S.rf
  have hP : va_P (dC, dI) vwCl [(g, .inr (0, [.ref so, .ref lo, .ref qpr, .ref qpa, .int (nI dy), .long co, .long wo])), (qpr, .inl (cJ, 30, .inr (.inl pr))), (so, .inr (3, [.ref qlk, .ref qln, .ref qhd, .ref qsf, .ref qfp, .ref qfc, .int (nI ly), .int (nI ce), .int da, .int db, .int dr]))] s.heap := hP
  have hl := lv_entry ([.ref g, .long u]) (n := 4) (Nat.le_of_ble_eq_true rfl)
  rw [lg_entry_eq]
  generalize (lg_sl ([.ref g, .long u]) ++ List.replicate (4 - (lg_sl ([.ref g, .long u])).length) Slot.unset).toArray = ls at hl ⊢
  have hl : lv_has ls 4 [(0, .ref g), (1, .long u)] := hl
  refine lv_iconst (v := nI 0) hx hb dG_lay_0 (by decide) ?_
  refine lv_istore_n (lv' := [(3, .int (nI 0)), (0, .ref g), (1, .long u)]) hx hb dG_lay_1 rfl hl (by decide) rfl (fun ls hl => ?_)
  -- the loop at 2
  have eq1 : (pr : Nat → Int64) = k_lay pr 0 u := k_lay_0
  rw [eq1] at hP hD
  have hP : va_P (dC, dI) vwCl [(g, .inr (0, [.ref so, .ref lo, .ref qpr, .ref qpa, .int (nI dy), .long co, .long wo])), (qpr, .inl (cJ, 30, .inr (.inl (k_lay pr 0 u)))), (so, .inr (3, [.ref qlk, .ref qln, .ref qhd, .ref qsf, .ref qfp, .ref qfc, .int (nI ly), .int (nI ce), .int da, .int db, .int dr]))] s.heap := by first | exact hP | simpa only [] using hP
  have hD : va_D A [(g, .inr (0, [.ref so, .ref lo, .ref qpr, .ref qpa, .int (nI dy), .long co, .long wo])), (qpr, .inl (cJ, 30, .inr (.inl (k_lay pr 0 u)))), (so, .inr (3, [.ref qlk, .ref qln, .ref qhd, .ref qsf, .ref qfp, .ref qfc, .int (nI ly), .int (nI ce), .int da, .int db, .int dr]))] := by first | exact hD | simpa only [] using hD
  refine x_loop (N := ce) (I := fun i H locs ls => va_P (dC, dI) vwCl [(g, .inr (0, [.ref so, .ref lo, .ref qpr, .ref qpa, .int (nI dy), .long co, .long wo])), (qpr, .inl (cJ, 30, .inr (.inl (k_lay pr i u)))), (so, .inr (3, [.ref qlk, .ref qln, .ref qhd, .ref qsf, .ref qfp, .ref qfc, .int (nI ly), .int (nI ce), .int da, .int db, .int dr]))] H ∧ va_D A [(g, .inr (0, [.ref so, .ref lo, .ref qpr, .ref qpa, .int (nI dy), .long co, .long wo])), (qpr, .inl (cJ, 30, .inr (.inl (k_lay pr i u)))), (so, .inr (3, [.ref qlk, .ref qln, .ref qhd, .ref qsf, .ref qfp, .ref qfc, .int (nI ly), .int (nI ce), .int da, .int db, .int dr]))] ∧ va_S A s.heap H locs ∧ lv_has ls 4 [(0, .ref g), (1, .long u), (3, .int (nI i))]) (i0 := 0) ?_ (Nat.zero_le _) ⟨hP, hD, hS, lv_sub hl [1, 2, 0] rfl⟩
  intro i hi ih2 H locs ls hI
  obtain ⟨hP, hD, hS, hl⟩ := hI
  refine lv_iload_n hx hb dG_lay_2 rfl (lv_at hl 2 rfl) ?_
  refine lv_aload_n hx hb dG_lay_3 rfl (lv_at hl 0 rfl) ?_
  refine va_get (D := (dC, dI)) (ci := 0) (v := .ref so) (C := R_G) (T := T_G) (N := 7) hx hb htw in_G hown hK hP 0 rfl rfl 0 (by decide) (htw _ m_114) (fun _ h9 => h9) rfl dG_lay_4 ?_
  refine va_get (D := (dC, dI)) (ci := 3) (v := .int (nI ce)) (C := R_S) (T := T_S) (N := 11) hx hb htw in_S hown hK hP 2 rfl rfl 7 (by decide) (htw _ m_35) (fun _ h9 => h9) rfl dG_lay_7 ?_
  refine lv_icmp_ge (tgt := 29) hx hb dG_lay_10 (by decide) (fun hc10 => ?_) (fun hc10 => ?_)
  · -- 10 taken
    rw [nI_leI (by omega) (by omega)] at hc10
    obtain rfl : ce = i := by omega
    refine lv_aload_n hx hb dG_lay_29 rfl (lv_at hl 0 rfl) ?_
    refine lv_dup hx hb dG_lay_30 rfl ?_
    refine va_get (D := (dC, dI)) (ci := 0) (v := .long co) (C := R_G) (T := T_G) (N := 7) hx hb htw in_G hown hK hP 0 rfl rfl 5 (by decide) (htw _ m_122) (fun _ h9 => h9) rfl dG_lay_31 ?_
    refine lv_lload_n hx hb dG_lay_34 rfl (lv_at hl 1 rfl) ?_
    refine lv_ladd hx hb dG_lay_35 ?_
    refine va_put (D := (dC, dI)) (ci := 0) (v := .long (co + u)) (ty := .long) (C := R_G) (T := T_G) (N := 7) hx hb htw in_G ty_G tok_G nnm_G hown hK hP hD hS 0 rfl rfl 5 (by decide) (htw _ m_122) (fun _ h9 => h9) rfl (by decide +kernel) rfl rfl (Nat.le_of_ble_eq_true rfl) dG_lay_36 (fun H locs hP hD hS => ?_)
    have hP : va_P (dC, dI) vwCl [(g, .inr (0, [.ref so, .ref lo, .ref qpr, .ref qpa, .int (nI dy), .long (co + u), .long wo])), (qpr, .inl (cJ, 30, .inr (.inl (k_lay pr ce u)))), (so, .inr (3, [.ref qlk, .ref qln, .ref qhd, .ref qsf, .ref qfp, .ref qfc, .int (nI ly), .int (nI ce), .int da, .int db, .int dr]))] H := hP
    have hD : va_D A [(g, .inr (0, [.ref so, .ref lo, .ref qpr, .ref qpa, .int (nI dy), .long (co + u), .long wo])), (qpr, .inl (cJ, 30, .inr (.inl (k_lay pr ce u)))), (so, .inr (3, [.ref qlk, .ref qln, .ref qhd, .ref qsf, .ref qfp, .ref qfc, .int (nI ly), .int (nI ce), .int da, .int db, .int dr]))] := hD
    have hP : va_P (dC, dI) vwCl [(g, .inr (0, [.ref so, .ref lo, .ref qpr, .ref qpa, .int (nI dy), .long (co + u), .long wo])), (qpr, .inl (cJ, 30, .inr (.inl (k_lay pr ce u)))), (so, .inr (3, [.ref qlk, .ref qln, .ref qhd, .ref qsf, .ref qfp, .ref qfc, .int (nI ly), .int (nI ce), .int da, .int db, .int dr]))] H := by first | exact hP | simpa only [] using hP
    have hD : va_D A [(g, .inr (0, [.ref so, .ref lo, .ref qpr, .ref qpa, .int (nI dy), .long (co + u), .long wo])), (qpr, .inl (cJ, 30, .inr (.inl (k_lay pr ce u)))), (so, .inr (3, [.ref qlk, .ref qln, .ref qhd, .ref qsf, .ref qfp, .ref qfc, .int (nI ly), .int (nI ce), .int da, .int db, .int dr]))] := by first | exact hD | simpa only [] using hD
    exact W.vret hx hb hr (fun t ht hW => ⟨⟨(), rfl, trivial, by rw [ht]; exact hP, va_K.moved hW.alike hK, hD⟩, hS.F ht⟩) hS.2.2 dG_lay_39
  · -- 10 not taken
    rw [nI_leI (by omega) (by omega)] at hc10
    refine lv_aload_n hx hb dG_lay_13 rfl (lv_at hl 0 rfl) ?_
    refine va_get (D := (dC, dI)) (ci := 0) (v := .ref qpr) (C := R_G) (T := T_G) (N := 7) hx hb htw in_G hown hK hP 0 rfl rfl 2 (by decide) (htw _ m_116) (fun _ h9 => h9) rfl dG_lay_14 ?_
    refine lv_iload_n hx hb dG_lay_17 rfl (lv_at hl 2 rfl) ?_
    refine lv_dup2_11 hx hb dG_lay_18 rfl rfl ?_
    refine xa_lald hx hb hK hP 1 1 rfl rfl (i := i) (by omega) (by decide) dG_lay_19 ?_
    refine lv_lload_n hx hb dG_lay_20 rfl (lv_at hl 1 rfl) ?_
    refine lv_ladd hx hb dG_lay_21 ?_
    refine xa_last hx hb hK hP hD hS 1 1 rfl rfl (i := i) (by omega) (by decide) dG_lay_22 (fun H locs hP hD hS => ?_)
    have hP : va_P (dC, dI) vwCl [(g, .inr (0, [.ref so, .ref lo, .ref qpr, .ref qpa, .int (nI dy), .long co, .long wo])), (qpr, .inl (cJ, 30, .inr (.inl (vp_updL (k_lay pr i u) i (((k_lay pr i u) i) + u))))), (so, .inr (3, [.ref qlk, .ref qln, .ref qhd, .ref qsf, .ref qfp, .ref qfc, .int (nI ly), .int (nI ce), .int da, .int db, .int dr]))] H := hP
    have hD : va_D A [(g, .inr (0, [.ref so, .ref lo, .ref qpr, .ref qpa, .int (nI dy), .long co, .long wo])), (qpr, .inl (cJ, 30, .inr (.inl (vp_updL (k_lay pr i u) i (((k_lay pr i u) i) + u))))), (so, .inr (3, [.ref qlk, .ref qln, .ref qhd, .ref qsf, .ref qfp, .ref qfc, .int (nI ly), .int (nI ce), .int da, .int db, .int dr]))] := hD
    refine lv_iinc (v := nI (i + 1)) (lv' := [(3, .int (nI (i + 1))), (0, .ref g), (1, .long u)]) hx hb dG_lay_23 hl (k := 2) rfl (nI_1 _) (by decide) rfl (fun ls hl => ?_)
    refine lv_goto (tgt := 2) hx hb dG_lay_26 (by decide) ?_
    have eq2 : (vp_updL (k_lay pr i u) i (((k_lay pr i u) i) + u) : Nat → Int64) = k_lay pr (i + 1) u := k_lay_s
    rw [eq2] at hP hD
    have hP : va_P (dC, dI) vwCl [(g, .inr (0, [.ref so, .ref lo, .ref qpr, .ref qpa, .int (nI dy), .long co, .long wo])), (qpr, .inl (cJ, 30, .inr (.inl (k_lay pr (i + 1) u)))), (so, .inr (3, [.ref qlk, .ref qln, .ref qhd, .ref qsf, .ref qfp, .ref qfc, .int (nI ly), .int (nI ce), .int da, .int db, .int dr]))] H := by first | exact hP | simpa only [] using hP
    have hD : va_D A [(g, .inr (0, [.ref so, .ref lo, .ref qpr, .ref qpa, .int (nI dy), .long co, .long wo])), (qpr, .inl (cJ, 30, .inr (.inl (k_lay pr (i + 1) u)))), (so, .inr (3, [.ref qlk, .ref qln, .ref qhd, .ref qsf, .ref qfp, .ref qfc, .int (nI ly), .int (nI ce), .int da, .int db, .int dr]))] := by first | exact hD | simpa only [] using hD
    exact ih2 (by omega) _ _ _ ⟨hP, hD, hS, lv_sub hl [1, 2, 0] rfl⟩
set_option maxHeartbeats 4000000 in
set_option maxRecDepth 100000 in
theorem kG_leavingAbove (l : Launch) (dC : Nat → ClassId) (dI : Nat → Nat → Nat) (cI cJ : ClassId) (g so lo qpr qpa qlk qln qhd qsf qfp qfc : Nat) (sz : Nat) (dy : Nat) (co : Int64) (wo : Int64) (pr : Nat → Int64) (ly : Nat) (ce : Nat) (da : Int32) (db : Int32) (dr : Int32) (lk : Nat → Int32) : Met l yG_leavingAbove wG_leavingAbove ({ frames := 0, cells := 0, slots := 0, locals := 0 }) (va_Pc [.ref g] (fun U => U.heap.size = sz ∧ va_P (dC, dI) vwCl [(g, .inr (0, [.ref so, .ref lo, .ref qpr, .ref qpa, .int (nI dy), .long co, .long wo])), (qpr, .inl (cJ, 30, .inr (.inl pr))), (so, .inr (3, [.ref qlk, .ref qln, .ref qhd, .ref qsf, .ref qfp, .ref qfc, .int (nI ly), .int (nI ce), .int da, .int db, .int dr])), (qlk, .inl (cI, 30, .inl lk))] U.heap ∧ va_K (dC, dI) vwCl [(cI, .int), (cJ, .long)] U ∧ va_D (fun _ => True) [(g, .inr (0, [.ref so, .ref lo, .ref qpr, .ref qpa, .int (nI dy), .long co, .long wo])), (qpr, .inl (cJ, 30, .inr (.inl pr))), (so, .inr (3, [.ref qlk, .ref qln, .ref qhd, .ref qsf, .ref qfp, .ref qfc, .int (nI ly), .int (nI ce), .int da, .int db, .int dr])), (qlk, .inl (cI, 30, .inl lk))])) (va_Ql (fun rv (_ : Unit) => rv = k_up lk da pr) (fun _ t => va_P (dC, dI) vwCl [(g, .inr (0, [.ref so, .ref lo, .ref qpr, .ref qpa, .int (nI dy), .long co, .long wo])), (qpr, .inl (cJ, 30, .inr (.inl pr))), (so, .inr (3, [.ref qlk, .ref qln, .ref qhd, .ref qsf, .ref qfp, .ref qfc, .int (nI ly), .int (nI ce), .int da, .int db, .int dr])), (qlk, .inl (cI, 30, .inl lk))] t.heap ∧ va_K (dC, dI) vwCl [(cI, .int), (cJ, .long)] t ∧ va_D (va_A [(g, .inr (0, [.ref so, .ref lo, .ref qpr, .ref qpa, .int (nI dy), .long co, .long wo])), (qpr, .inl (cJ, 30, .inr (.inl pr))), (so, .inr (3, [.ref qlk, .ref qln, .ref qhd, .ref qsf, .ref qfp, .ref qfc, .int (nI ly), .int (nI ce), .int da, .int db, .int dr])), (qlk, .inl (cI, 30, .inl lk))] sz) [(g, .inr (0, [.ref so, .ref lo, .ref qpr, .ref qpa, .int (nI dy), .long co, .long wo])), (qpr, .inl (cJ, 30, .inr (.inl pr))), (so, .inr (3, [.ref qlk, .ref qln, .ref qhd, .ref qsf, .ref qfp, .ref qfc, .int (nI ly), .int (nI ce), .int da, .int db, .int dr])), (qlk, .inl (cI, 30, .inl lk))]) (va_A [(g, .inr (0, [.ref so, .ref lo, .ref qpr, .ref qpa, .int (nI dy), .long co, .long wo])), (qpr, .inl (cJ, 30, .inr (.inl pr))), (so, .inr (3, [.ref qlk, .ref qln, .ref qhd, .ref qsf, .ref qfp, .ref qfc, .int (nI ly), .int (nI ce), .int da, .int db, .int dr])), (qlk, .inl (cI, 30, .inl lk))] sz)) 0 0 (va_A [(g, .inr (0, [.ref so, .ref lo, .ref qpr, .ref qpa, .int (nI dy), .long co, .long wo])), (qpr, .inl (cJ, 30, .inr (.inl pr))), (so, .inr (3, [.ref qlk, .ref qln, .ref qhd, .ref qsf, .ref qfp, .ref qfc, .int (nI ly), .int (nI ce), .int da, .int db, .int dr])), (qlk, .inl (cI, 30, .inl lk))] sz) := by
  refine Met.ofW (cc := bG_leavingAbove) (maxL := 1) (ret := (some .long)) (by decide) rfl ?_
  intro p e s m args below meth c s₁ B hml hv
  obtain ⟨rfl, hsz, hP, hK, hD0⟩ := hv
  have hx := B.exec
  have hb := B.bytes
  have hr := B.returns
  have hts := atoms_spec (ws := wG_leavingAbove) B.pre
  have hown : s.vm.findClass R_G = some m.cls := findClass_of_methodNamed B.named
  have htw : ∀ w ∈ WA, w.before _ s = true := fun w h => hts w (List.mem_cons_of_mem _ h)
  clear hts
  have hlocks := B.notSynchronized
  subst hsz
  have hD := hD0.self (sz := s.heap.size)
  generalize hAe : va_A [(g, .inr (0, [.ref so, .ref lo, .ref qpr, .ref qpa, .int (nI dy), .long co, .long wo])), (qpr, .inl (cJ, 30, .inr (.inl pr))), (so, .inr (3, [.ref qlk, .ref qln, .ref qhd, .ref qsf, .ref qfp, .ref qfc, .int (nI ly), .int (nI ce), .int da, .int db, .int dr])), (qlk, .inl (cI, 30, .inl lk))] s.heap.size = A at hD ⊢
  have hA : ∀ q : Nat, s.heap.size ≤ q → A q := fun q h => by rw [← hAe]; exact Or.inr h
  clear hAe hD0
  have hS : va_S A s.heap s.heap [] := va_S.rf
  have hP : va_P (dC, dI) vwCl [(g, .inr (0, [.ref so, .ref lo, .ref qpr, .ref qpa, .int (nI dy), .long co, .long wo])), (qpr, .inl (cJ, 30, .inr (.inl pr))), (so, .inr (3, [.ref qlk, .ref qln, .ref qhd, .ref qsf, .ref qfp, .ref qfc, .int (nI ly), .int (nI ce), .int da, .int db, .int dr])), (qlk, .inl (cI, 30, .inl lk))] s.heap := hP
  have hl := lv_entry ([.ref g]) (n := 1) (Nat.le_of_ble_eq_true rfl)
  rw [lg_entry_eq]
  generalize (lg_sl ([.ref g]) ++ List.replicate (1 - (lg_sl ([.ref g])).length) Slot.unset).toArray = ls at hl ⊢
  have hl : lv_has ls 1 [(0, .ref g)] := hl
  refine lv_aload_n hx hb dG_leavingAbove_0 rfl (lv_at hl 0 rfl) ?_
  refine va_get (D := (dC, dI)) (ci := 0) (v := .ref so) (C := R_G) (T := T_G) (N := 7) hx hb htw in_G hown hK hP 0 rfl rfl 0 (by decide) (htw _ m_114) (fun _ h9 => h9) rfl dG_leavingAbove_1 ?_
  refine va_get (D := (dC, dI)) (ci := 3) (v := .int da) (C := R_S) (T := T_S) (N := 11) hx hb htw in_S hown hK hP 2 rfl rfl 8 (by decide) (htw _ m_38) (fun _ h9 => h9) rfl dG_leavingAbove_4 ?_
  refine lv_if_eq (tgt := 34) hx hb dG_leavingAbove_7 (by decide) (fun hc7 => ?_) (fun hc7 => ?_)
  · -- 7 taken
    have hret : (0 : Int64) = k_up lk da pr := (if_pos hc7).symm
    refine lv_lconst (v := 0) hx hb dG_leavingAbove_34 (by decide) ?_
    have hP : va_P (dC, dI) vwCl [(g, .inr (0, [.ref so, .ref lo, .ref qpr, .ref qpa, .int (nI dy), .long co, .long wo])), (qpr, .inl (cJ, 30, .inr (.inl pr))), (so, .inr (3, [.ref qlk, .ref qln, .ref qhd, .ref qsf, .ref qfp, .ref qfc, .int (nI ly), .int (nI ce), .int da, .int db, .int dr])), (qlk, .inl (cI, 30, .inl lk))] s.heap := by first | exact hP | simpa only [] using hP
    have hD : va_D A [(g, .inr (0, [.ref so, .ref lo, .ref qpr, .ref qpa, .int (nI dy), .long co, .long wo])), (qpr, .inl (cJ, 30, .inr (.inl pr))), (so, .inr (3, [.ref qlk, .ref qln, .ref qhd, .ref qsf, .ref qfp, .ref qfc, .int (nI ly), .int (nI ce), .int da, .int db, .int dr])), (qlk, .inl (cI, 30, .inl lk))] := by first | exact hD | simpa only [] using hD
    exact W.lret (v := 0) hx hb hr (fun t ht hW => ⟨⟨0, (), rfl, hret, by rw [ht]; exact hP, va_K.moved hW.alike hK, hD⟩, hS.F ht⟩) hS.2.2 dG_leavingAbove_35
  · -- 7 not taken
    have hret : pr 0 * (lk 0).toInt64 / 1000 = k_up lk da pr := (if_neg hc7).symm
    refine lv_aload_n hx hb dG_leavingAbove_10 rfl (lv_at hl 0 rfl) ?_
    refine va_get (D := (dC, dI)) (ci := 0) (v := .ref qpr) (C := R_G) (T := T_G) (N := 7) hx hb htw in_G hown hK hP 0 rfl rfl 2 (by decide) (htw _ m_116) (fun _ h9 => h9) rfl dG_leavingAbove_11 ?_
    refine lv_iconst (v := nI 0) hx hb dG_leavingAbove_14 (by decide) ?_
    refine xa_lald hx hb hK hP 1 1 rfl rfl (i := 0) (by omega) (by decide) dG_leavingAbove_15 ?_
    refine lv_aload_n hx hb dG_leavingAbove_16 rfl (lv_at hl 0 rfl) ?_
    refine va_get (D := (dC, dI)) (ci := 0) (v := .ref so) (C := R_G) (T := T_G) (N := 7) hx hb htw in_G hown hK hP 0 rfl rfl 0 (by decide) (htw _ m_114) (fun _ h9 => h9) rfl dG_leavingAbove_17 ?_
    refine va_get (D := (dC, dI)) (ci := 3) (v := .ref qlk) (C := R_S) (T := T_S) (N := 11) hx hb htw in_S hown hK hP 2 rfl rfl 0 (by decide) (htw _ m_23) (fun _ h9 => h9) rfl dG_leavingAbove_20 ?_
    refine lv_iconst (v := nI 0) hx hb dG_leavingAbove_23 (by decide) ?_
    refine xa_iald hx hb hK hP 3 0 rfl rfl (i := 0) (by omega) (by decide) dG_leavingAbove_24 ?_
    refine lv_i2l (v := (lk 0).toInt64) hx hb dG_leavingAbove_25 rfl ?_
    refine lv_lmul hx hb dG_leavingAbove_26 ?_
    refine lv_ldc2 (v := 1000) hx hb hown (htw _ m_216) dG_leavingAbove_27 ?_
    refine lv_ldiv hx hb dG_leavingAbove_30 (by decide) ?_
    refine lv_goto (tgt := 35) hx hb dG_leavingAbove_31 (by decide) ?_
    have hP : va_P (dC, dI) vwCl [(g, .inr (0, [.ref so, .ref lo, .ref qpr, .ref qpa, .int (nI dy), .long co, .long wo])), (qpr, .inl (cJ, 30, .inr (.inl pr))), (so, .inr (3, [.ref qlk, .ref qln, .ref qhd, .ref qsf, .ref qfp, .ref qfc, .int (nI ly), .int (nI ce), .int da, .int db, .int dr])), (qlk, .inl (cI, 30, .inl lk))] s.heap := by first | exact hP | simpa only [] using hP
    have hD : va_D A [(g, .inr (0, [.ref so, .ref lo, .ref qpr, .ref qpa, .int (nI dy), .long co, .long wo])), (qpr, .inl (cJ, 30, .inr (.inl pr))), (so, .inr (3, [.ref qlk, .ref qln, .ref qhd, .ref qsf, .ref qfp, .ref qfc, .int (nI ly), .int (nI ce), .int da, .int db, .int dr])), (qlk, .inl (cI, 30, .inl lk))] := by first | exact hD | simpa only [] using hD
    exact W.lret (v := ((pr 0) * ((lk 0).toInt64)) / 1000) hx hb hr (fun t ht hW => ⟨⟨((pr 0) * ((lk 0).toInt64)) / 1000, (), rfl, hret, by rw [ht]; exact hP, va_K.moved hW.alike hK, hD⟩, hS.F ht⟩) hS.2.2 dG_leavingAbove_35
set_option maxHeartbeats 4000000 in
set_option maxRecDepth 100000 in
theorem kG_goingBelow (l : Launch) (dC : Nat → ClassId) (dI : Nat → Nat → Nat) (cI cJ : ClassId) (g so lo qpr qpa qlk qln qhd qsf qfp qfc : Nat) (sz : Nat) (i : Nat) (dy : Nat) (co : Int64) (wo : Int64) (pr : Nat → Int64) (ly : Nat) (ce : Nat) (da : Int32) (db : Int32) (dr : Int32) (lk : Nat → Int32) (ln : Nat → Int32) (hi : i < ce) (hce : ce ≤ 30) : Met l yG_goingBelow wG_goingBelow ({ frames := 0, cells := 0, slots := 0, locals := 0 }) (va_Pc [.ref g, .int (nI i)] (fun U => U.heap.size = sz ∧ va_P (dC, dI) vwCl [(g, .inr (0, [.ref so, .ref lo, .ref qpr, .ref qpa, .int (nI dy), .long co, .long wo])), (qpr, .inl (cJ, 30, .inr (.inl pr))), (so, .inr (3, [.ref qlk, .ref qln, .ref qhd, .ref qsf, .ref qfp, .ref qfc, .int (nI ly), .int (nI ce), .int da, .int db, .int dr])), (qlk, .inl (cI, 30, .inl lk)), (qln, .inl (cI, 30, .inl ln))] U.heap ∧ va_K (dC, dI) vwCl [(cI, .int), (cJ, .long)] U ∧ va_D (fun _ => True) [(g, .inr (0, [.ref so, .ref lo, .ref qpr, .ref qpa, .int (nI dy), .long co, .long wo])), (qpr, .inl (cJ, 30, .inr (.inl pr))), (so, .inr (3, [.ref qlk, .ref qln, .ref qhd, .ref qsf, .ref qfp, .ref qfc, .int (nI ly), .int (nI ce), .int da, .int db, .int dr])), (qlk, .inl (cI, 30, .inl lk)), (qln, .inl (cI, 30, .inl ln))])) (va_Ql (fun rv (_ : Unit) => rv = k_go lk ln ce db pr i) (fun _ t => va_P (dC, dI) vwCl [(g, .inr (0, [.ref so, .ref lo, .ref qpr, .ref qpa, .int (nI dy), .long co, .long wo])), (qpr, .inl (cJ, 30, .inr (.inl pr))), (so, .inr (3, [.ref qlk, .ref qln, .ref qhd, .ref qsf, .ref qfp, .ref qfc, .int (nI ly), .int (nI ce), .int da, .int db, .int dr])), (qlk, .inl (cI, 30, .inl lk)), (qln, .inl (cI, 30, .inl ln))] t.heap ∧ va_K (dC, dI) vwCl [(cI, .int), (cJ, .long)] t ∧ va_D (va_A [(g, .inr (0, [.ref so, .ref lo, .ref qpr, .ref qpa, .int (nI dy), .long co, .long wo])), (qpr, .inl (cJ, 30, .inr (.inl pr))), (so, .inr (3, [.ref qlk, .ref qln, .ref qhd, .ref qsf, .ref qfp, .ref qfc, .int (nI ly), .int (nI ce), .int da, .int db, .int dr])), (qlk, .inl (cI, 30, .inl lk)), (qln, .inl (cI, 30, .inl ln))] sz) [(g, .inr (0, [.ref so, .ref lo, .ref qpr, .ref qpa, .int (nI dy), .long co, .long wo])), (qpr, .inl (cJ, 30, .inr (.inl pr))), (so, .inr (3, [.ref qlk, .ref qln, .ref qhd, .ref qsf, .ref qfp, .ref qfc, .int (nI ly), .int (nI ce), .int da, .int db, .int dr])), (qlk, .inl (cI, 30, .inl lk)), (qln, .inl (cI, 30, .inl ln))]) (va_A [(g, .inr (0, [.ref so, .ref lo, .ref qpr, .ref qpa, .int (nI dy), .long co, .long wo])), (qpr, .inl (cJ, 30, .inr (.inl pr))), (so, .inr (3, [.ref qlk, .ref qln, .ref qhd, .ref qsf, .ref qfp, .ref qfc, .int (nI ly), .int (nI ce), .int da, .int db, .int dr])), (qlk, .inl (cI, 30, .inl lk)), (qln, .inl (cI, 30, .inl ln))] sz)) 0 0 (va_A [(g, .inr (0, [.ref so, .ref lo, .ref qpr, .ref qpa, .int (nI dy), .long co, .long wo])), (qpr, .inl (cJ, 30, .inr (.inl pr))), (so, .inr (3, [.ref qlk, .ref qln, .ref qhd, .ref qsf, .ref qfp, .ref qfc, .int (nI ly), .int (nI ce), .int da, .int db, .int dr])), (qlk, .inl (cI, 30, .inl lk)), (qln, .inl (cI, 30, .inl ln))] sz) := by
  refine Met.ofW (cc := bG_goingBelow) (maxL := 2) (ret := (some .long)) (by decide) rfl ?_
  intro p e s m args below meth c s₁ B hml hv
  obtain ⟨rfl, hsz, hP, hK, hD0⟩ := hv
  have hx := B.exec
  have hb := B.bytes
  have hr := B.returns
  have hts := atoms_spec (ws := wG_goingBelow) B.pre
  have hown : s.vm.findClass R_G = some m.cls := findClass_of_methodNamed B.named
  have htw : ∀ w ∈ WA, w.before _ s = true := fun w h => hts w (List.mem_cons_of_mem _ h)
  clear hts
  have hlocks := B.notSynchronized
  subst hsz
  have hD := hD0.self (sz := s.heap.size)
  generalize hAe : va_A [(g, .inr (0, [.ref so, .ref lo, .ref qpr, .ref qpa, .int (nI dy), .long co, .long wo])), (qpr, .inl (cJ, 30, .inr (.inl pr))), (so, .inr (3, [.ref qlk, .ref qln, .ref qhd, .ref qsf, .ref qfp, .ref qfc, .int (nI ly), .int (nI ce), .int da, .int db, .int dr])), (qlk, .inl (cI, 30, .inl lk)), (qln, .inl (cI, 30, .inl ln))] s.heap.size = A at hD ⊢
  have hA : ∀ q : Nat, s.heap.size ≤ q → A q := fun q h => by rw [← hAe]; exact Or.inr h
  clear hAe hD0
  have hS : va_S A s.heap s.heap [] := va_S.rf
  have hP : va_P (dC, dI) vwCl [(g, .inr (0, [.ref so, .ref lo, .ref qpr, .ref qpa, .int (nI dy), .long co, .long wo])), (qpr, .inl (cJ, 30, .inr (.inl pr))), (so, .inr (3, [.ref qlk, .ref qln, .ref qhd, .ref qsf, .ref qfp, .ref qfc, .int (nI ly), .int (nI ce), .int da, .int db, .int dr])), (qlk, .inl (cI, 30, .inl lk)), (qln, .inl (cI, 30, .inl ln))] s.heap := hP
  have hl := lv_entry ([.ref g, .int (nI i)]) (n := 2) (Nat.le_of_ble_eq_true rfl)
  rw [lg_entry_eq]
  generalize (lg_sl ([.ref g, .int (nI i)]) ++ List.replicate (2 - (lg_sl ([.ref g, .int (nI i)])).length) Slot.unset).toArray = ls at hl ⊢
  have hl : lv_has ls 2 [(0, .ref g), (1, .int (nI i))] := hl
  refine lv_iload_n hx hb dG_goingBelow_0 rfl (lv_at hl 1 rfl) ?_
  refine lv_iconst (v := nI 1) hx hb dG_goingBelow_1 (by decide) ?_
  refine lv_iadd hx hb dG_goingBelow_2 ?_
  refine lv_topi (fun kv ekv => ?_)
  obtain rfl : kv = nI (i + 1) := by rw [ekv]; exact nI_add _ _
  refine lv_aload_n hx hb dG_goingBelow_3 rfl (lv_at hl 0 rfl) ?_
  refine va_get (D := (dC, dI)) (ci := 0) (v := .ref so) (C := R_G) (T := T_G) (N := 7) hx hb htw in_G hown hK hP 0 rfl rfl 0 (by decide) (htw _ m_114) (fun _ h9 => h9) rfl dG_goingBelow_4 ?_
  refine va_get (D := (dC, dI)) (ci := 3) (v := .int (nI ce)) (C := R_S) (T := T_S) (N := 11) hx hb htw in_S hown hK hP 2 rfl rfl 7 (by decide) (htw _ m_35) (fun _ h9 => h9) rfl dG_goingBelow_7 ?_
  refine lv_icmp_ge (tgt := 44) hx hb dG_goingBelow_10 (by decide) (fun hc10 => ?_) (fun hc10 => ?_)
  · -- 10 taken
    rw [nI_leI (by omega) (by omega)] at hc10
    refine lv_aload_n hx hb dG_goingBelow_44 rfl (lv_at hl 0 rfl) ?_
    refine va_get (D := (dC, dI)) (ci := 0) (v := .ref so) (C := R_G) (T := T_G) (N := 7) hx hb htw in_G hown hK hP 0 rfl rfl 0 (by decide) (htw _ m_114) (fun _ h9 => h9) rfl dG_goingBelow_45 ?_
    refine va_get (D := (dC, dI)) (ci := 3) (v := .int db) (C := R_S) (T := T_S) (N := 11) hx hb htw in_S hown hK hP 2 rfl rfl 9 (by decide) (htw _ m_40) (fun _ h9 => h9) rfl dG_goingBelow_48 ?_
    refine lv_if_eq (tgt := 78) hx hb dG_goingBelow_51 (by decide) (fun hc51 => ?_) (fun hc51 => ?_)
    · -- 51 taken
      have hret : (0 : Int64) = k_go lk ln ce db pr i := by unfold k_go; rw [if_neg (by omega), if_pos hc51]
      refine lv_lconst (v := 0) hx hb dG_goingBelow_78 (by decide) ?_
      have hP : va_P (dC, dI) vwCl [(g, .inr (0, [.ref so, .ref lo, .ref qpr, .ref qpa, .int (nI dy), .long co, .long wo])), (qpr, .inl (cJ, 30, .inr (.inl pr))), (so, .inr (3, [.ref qlk, .ref qln, .ref qhd, .ref qsf, .ref qfp, .ref qfc, .int (nI ly), .int (nI ce), .int da, .int db, .int dr])), (qlk, .inl (cI, 30, .inl lk)), (qln, .inl (cI, 30, .inl ln))] s.heap := by first | exact hP | simpa only [] using hP
      have hD : va_D A [(g, .inr (0, [.ref so, .ref lo, .ref qpr, .ref qpa, .int (nI dy), .long co, .long wo])), (qpr, .inl (cJ, 30, .inr (.inl pr))), (so, .inr (3, [.ref qlk, .ref qln, .ref qhd, .ref qsf, .ref qfp, .ref qfc, .int (nI ly), .int (nI ce), .int da, .int db, .int dr])), (qlk, .inl (cI, 30, .inl lk)), (qln, .inl (cI, 30, .inl ln))] := by first | exact hD | simpa only [] using hD
      exact W.lret (v := 0) hx hb hr (fun t ht hW => ⟨⟨0, (), rfl, hret, by rw [ht]; exact hP, va_K.moved hW.alike hK, hD⟩, hS.F ht⟩) hS.2.2 dG_goingBelow_79
    · -- 51 not taken
      have hret : pr i * (lk i).toInt64 / 1000 = k_go lk ln ce db pr i := by unfold k_go; rw [if_neg (by omega), if_neg hc51]
      refine lv_aload_n hx hb dG_goingBelow_54 rfl (lv_at hl 0 rfl) ?_
      refine va_get (D := (dC, dI)) (ci := 0) (v := .ref qpr) (C := R_G) (T := T_G) (N := 7) hx hb htw in_G hown hK hP 0 rfl rfl 2 (by decide) (htw _ m_116) (fun _ h9 => h9) rfl dG_goingBelow_55 ?_
      refine lv_iload_n hx hb dG_goingBelow_58 rfl (lv_at hl 1 rfl) ?_
      refine xa_lald hx hb hK hP 1 1 rfl rfl (i := i) (by omega) (by decide) dG_goingBelow_59 ?_
      refine lv_aload_n hx hb dG_goingBelow_60 rfl (lv_at hl 0 rfl) ?_
      refine va_get (D := (dC, dI)) (ci := 0) (v := .ref so) (C := R_G) (T := T_G) (N := 7) hx hb htw in_G hown hK hP 0 rfl rfl 0 (by decide) (htw _ m_114) (fun _ h9 => h9) rfl dG_goingBelow_61 ?_
      refine va_get (D := (dC, dI)) (ci := 3) (v := .ref qlk) (C := R_S) (T := T_S) (N := 11) hx hb htw in_S hown hK hP 2 rfl rfl 0 (by decide) (htw _ m_23) (fun _ h9 => h9) rfl dG_goingBelow_64 ?_
      refine lv_iload_n hx hb dG_goingBelow_67 rfl (lv_at hl 1 rfl) ?_
      refine xa_iald hx hb hK hP 3 0 rfl rfl (i := i) (by omega) (by decide) dG_goingBelow_68 ?_
      refine lv_i2l (v := (lk i).toInt64) hx hb dG_goingBelow_69 rfl ?_
      refine lv_lmul hx hb dG_goingBelow_70 ?_
      refine lv_ldc2 (v := 1000) hx hb hown (htw _ m_216) dG_goingBelow_71 ?_
      refine lv_ldiv hx hb dG_goingBelow_74 (by decide) ?_
      refine lv_goto (tgt := 79) hx hb dG_goingBelow_75 (by decide) ?_
      have hP : va_P (dC, dI) vwCl [(g, .inr (0, [.ref so, .ref lo, .ref qpr, .ref qpa, .int (nI dy), .long co, .long wo])), (qpr, .inl (cJ, 30, .inr (.inl pr))), (so, .inr (3, [.ref qlk, .ref qln, .ref qhd, .ref qsf, .ref qfp, .ref qfc, .int (nI ly), .int (nI ce), .int da, .int db, .int dr])), (qlk, .inl (cI, 30, .inl lk)), (qln, .inl (cI, 30, .inl ln))] s.heap := by first | exact hP | simpa only [] using hP
      have hD : va_D A [(g, .inr (0, [.ref so, .ref lo, .ref qpr, .ref qpa, .int (nI dy), .long co, .long wo])), (qpr, .inl (cJ, 30, .inr (.inl pr))), (so, .inr (3, [.ref qlk, .ref qln, .ref qhd, .ref qsf, .ref qfp, .ref qfc, .int (nI ly), .int (nI ce), .int da, .int db, .int dr])), (qlk, .inl (cI, 30, .inl lk)), (qln, .inl (cI, 30, .inl ln))] := by first | exact hD | simpa only [] using hD
      exact W.lret (v := ((pr i) * ((lk i).toInt64)) / 1000) hx hb hr (fun t ht hW => ⟨⟨((pr i) * ((lk i).toInt64)) / 1000, (), rfl, hret, by rw [ht]; exact hP, va_K.moved hW.alike hK, hD⟩, hS.F ht⟩) hS.2.2 dG_goingBelow_79
  · -- 10 not taken
    rw [nI_leI (by omega) (by omega)] at hc10
    have hret : (pr i - pr (i + 1)) * (ln i).toInt64 / 1000 = k_go lk ln ce db pr i := (if_pos (by omega)).symm
    refine lv_aload_n hx hb dG_goingBelow_13 rfl (lv_at hl 0 rfl) ?_
    refine va_get (D := (dC, dI)) (ci := 0) (v := .ref qpr) (C := R_G) (T := T_G) (N := 7) hx hb htw in_G hown hK hP 0 rfl rfl 2 (by decide) (htw _ m_116) (fun _ h9 => h9) rfl dG_goingBelow_14 ?_
    refine lv_iload_n hx hb dG_goingBelow_17 rfl (lv_at hl 1 rfl) ?_
    refine xa_lald hx hb hK hP 1 1 rfl rfl (i := i) (by omega) (by decide) dG_goingBelow_18 ?_
    refine lv_aload_n hx hb dG_goingBelow_19 rfl (lv_at hl 0 rfl) ?_
    refine va_get (D := (dC, dI)) (ci := 0) (v := .ref qpr) (C := R_G) (T := T_G) (N := 7) hx hb htw in_G hown hK hP 0 rfl rfl 2 (by decide) (htw _ m_116) (fun _ h9 => h9) rfl dG_goingBelow_20 ?_
    refine lv_iload_n hx hb dG_goingBelow_23 rfl (lv_at hl 1 rfl) ?_
    refine lv_iconst (v := nI 1) hx hb dG_goingBelow_24 (by decide) ?_
    refine lv_iadd hx hb dG_goingBelow_25 ?_
    refine lv_topi (fun kv ekv => ?_)
    obtain rfl : kv = nI (i + 1) := by rw [ekv]; exact nI_add _ _
    refine xa_lald hx hb hK hP 1 1 rfl rfl (i := (i + 1)) (by omega) (by decide) dG_goingBelow_26 ?_
    refine lv_lsub hx hb dG_goingBelow_27 ?_
    refine lv_aload_n hx hb dG_goingBelow_28 rfl (lv_at hl 0 rfl) ?_
    refine va_get (D := (dC, dI)) (ci := 0) (v := .ref so) (C := R_G) (T := T_G) (N := 7) hx hb htw in_G hown hK hP 0 rfl rfl 0 (by decide) (htw _ m_114) (fun _ h9 => h9) rfl dG_goingBelow_29 ?_
    refine va_get (D := (dC, dI)) (ci := 3) (v := .ref qln) (C := R_S) (T := T_S) (N := 11) hx hb htw in_S hown hK hP 2 rfl rfl 1 (by decide) (htw _ m_25) (fun _ h9 => h9) rfl dG_goingBelow_32 ?_
    refine lv_iload_n hx hb dG_goingBelow_35 rfl (lv_at hl 1 rfl) ?_
    refine xa_iald hx hb hK hP 4 0 rfl rfl (i := i) (by omega) (by decide) dG_goingBelow_36 ?_
    refine lv_i2l (v := (ln i).toInt64) hx hb dG_goingBelow_37 rfl ?_
    refine lv_lmul hx hb dG_goingBelow_38 ?_
    refine lv_ldc2 (v := 1000) hx hb hown (htw _ m_216) dG_goingBelow_39 ?_
    refine lv_ldiv hx hb dG_goingBelow_42 (by decide) ?_
    have hP : va_P (dC, dI) vwCl [(g, .inr (0, [.ref so, .ref lo, .ref qpr, .ref qpa, .int (nI dy), .long co, .long wo])), (qpr, .inl (cJ, 30, .inr (.inl pr))), (so, .inr (3, [.ref qlk, .ref qln, .ref qhd, .ref qsf, .ref qfp, .ref qfc, .int (nI ly), .int (nI ce), .int da, .int db, .int dr])), (qlk, .inl (cI, 30, .inl lk)), (qln, .inl (cI, 30, .inl ln))] s.heap := by first | exact hP | simpa only [] using hP
    have hD : va_D A [(g, .inr (0, [.ref so, .ref lo, .ref qpr, .ref qpa, .int (nI dy), .long co, .long wo])), (qpr, .inl (cJ, 30, .inr (.inl pr))), (so, .inr (3, [.ref qlk, .ref qln, .ref qhd, .ref qsf, .ref qfp, .ref qfc, .int (nI ly), .int (nI ce), .int da, .int db, .int dr])), (qlk, .inl (cI, 30, .inl lk)), (qln, .inl (cI, 30, .inl ln))] := by first | exact hD | simpa only [] using hD
    exact W.lret (v := (((pr i) - (pr (i + 1))) * ((ln i).toInt64)) / 1000) hx hb hr (fun t ht hW => ⟨⟨(((pr i) - (pr (i + 1))) * ((ln i).toInt64)) / 1000, (), rfl, hret, by rw [ht]; exact hP, va_K.moved hW.alike hK, hD⟩, hS.F ht⟩) hS.2.2 dG_goingBelow_43
