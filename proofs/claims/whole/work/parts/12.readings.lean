set_option maxHeartbeats 4000000 in
set_option maxRecDepth 100000 in
theorem kO_add (l : Launch) (dC : Nat → ClassId) (dI : Nat → Nat → Nat) (cI cJ : ClassId) (lo qld qlz : Nat) (sz : Nat) (x : Int32) (y : Int32) (mn : Nat) (sm : Int64) (ld : Nat → Int32) (lz : Nat → Int32) (hmn : mn < 12) : Met l yO_add wO_add ({ frames := 0, cells := 0, slots := 0, locals := 0 }) (va_Pc [.ref lo, .int x, .int y] (fun U => U.heap.size = sz ∧ va_P (dC, dI) vwCl [(lo, .inr (1, [.ref qld, .ref qlz, .int (nI mn), .long sm])), (qld, .inl (cI, 12, .inl ld)), (qlz, .inl (cI, 12, .inl lz))] U.heap ∧ va_K (dC, dI) vwCl [(cI, .int), (cJ, .long)] U ∧ va_D (fun _ => True) [(lo, .inr (1, [.ref qld, .ref qlz, .int (nI mn), .long sm])), (qld, .inl (cI, 12, .inl ld)), (qlz, .inl (cI, 12, .inl lz))])) (va_Qi (fun res_ (_ : Unit) => res_ = nI (mn + 1)) (fun _ t => va_P (dC, dI) vwCl [(lo, .inr (1, [.ref qld, .ref qlz, .int (nI (mn + 1)), .long (sm + y.toInt64)])), (qld, .inl (cI, 12, .inl (upd ld mn x))), (qlz, .inl (cI, 12, .inl (upd lz mn y)))] t.heap ∧ va_K (dC, dI) vwCl [(cI, .int), (cJ, .long)] t ∧ va_D (va_A [(lo, .inr (1, [.ref qld, .ref qlz, .int (nI mn), .long sm])), (qld, .inl (cI, 12, .inl ld)), (qlz, .inl (cI, 12, .inl lz))] sz) [(lo, .inr (1, [.ref qld, .ref qlz, .int (nI (mn + 1)), .long (sm + y.toInt64)])), (qld, .inl (cI, 12, .inl (upd ld mn x))), (qlz, .inl (cI, 12, .inl (upd lz mn y)))]) (va_A [(lo, .inr (1, [.ref qld, .ref qlz, .int (nI mn), .long sm])), (qld, .inl (cI, 12, .inl ld)), (qlz, .inl (cI, 12, .inl lz))] sz)) 0 0 (va_A [(lo, .inr (1, [.ref qld, .ref qlz, .int (nI mn), .long sm])), (qld, .inl (cI, 12, .inl ld)), (qlz, .inl (cI, 12, .inl lz))] sz) := by
  refine Met.ofW (cc := bO_add) (maxL := 3) (ret := (some .int)) (by decide) rfl ?_
  intro p e s m args below meth c s₁ B hml hv
  obtain ⟨rfl, hsz, hP, hK, hD0⟩ := hv
  have hx := B.exec
  have hb := B.bytes
  have hr := B.returns
  have hts := atoms_spec (ws := wO_add) B.pre
  have hown : s.vm.findClass R_O = some m.cls := findClass_of_methodNamed B.named
  have htw : ∀ w ∈ WA, w.before _ s = true := fun w h => hts w (List.mem_cons_of_mem _ h)
  clear hts
  have hlocks := B.notSynchronized
  subst hsz
  have hD := hD0.self (sz := s.heap.size)
  generalize hAe : va_A [(lo, .inr (1, [.ref qld, .ref qlz, .int (nI mn), .long sm])), (qld, .inl (cI, 12, .inl ld)), (qlz, .inl (cI, 12, .inl lz))] s.heap.size = A at hD ⊢
  have hA : ∀ q : Nat, s.heap.size ≤ q → A q := fun q h => by rw [← hAe]; exact Or.inr h
  clear hAe hD0
  have hS : va_S A s.heap s.heap [] := va_S.rf
  have hP : va_P (dC, dI) vwCl [(lo, .inr (1, [.ref qld, .ref qlz, .int (nI mn), .long sm])), (qld, .inl (cI, 12, .inl ld)), (qlz, .inl (cI, 12, .inl lz))] s.heap := hP
  have hl := lv_entry ([.ref lo, .int x, .int y]) (n := 3) (Nat.le_of_ble_eq_true rfl)
  rw [lg_entry_eq]
  generalize (lg_sl ([.ref lo, .int x, .int y]) ++ List.replicate (3 - (lg_sl ([.ref lo, .int x, .int y])).length) Slot.unset).toArray = ls at hl ⊢
  have hl : lv_has ls 3 [(0, .ref lo), (1, .int x), (2, .int y)] := hl
  refine lv_aload_n hx hb dO_add_0 rfl (lv_at hl 0 rfl) ?_
  refine va_get (D := (dC, dI)) (ci := 1) (v := .ref qld) (C := R_O) (T := T_O) (N := 4) hx hb htw in_O hown hK hP 0 rfl rfl 0 (by decide) (htw _ m_73) (fun _ h9 => h9) rfl dO_add_1 ?_
  refine lv_aload_n hx hb dO_add_4 rfl (lv_at hl 0 rfl) ?_
  refine va_get (D := (dC, dI)) (ci := 1) (v := .int (nI mn)) (C := R_O) (T := T_O) (N := 4) hx hb htw in_O hown hK hP 0 rfl rfl 2 (by decide) (htw _ m_75) (fun _ h9 => h9) rfl dO_add_5 ?_
  refine lv_iload_n hx hb dO_add_8 rfl (lv_at hl 1 rfl) ?_
  refine xa_iast hx hb hK hP hD hS 1 0 rfl rfl (i := mn) (by omega) (by decide) dO_add_9 (fun H locs hP hD hS => ?_)
  have hP : va_P (dC, dI) vwCl [(lo, .inr (1, [.ref qld, .ref qlz, .int (nI mn), .long sm])), (qld, .inl (cI, 12, .inl (upd ld mn x))), (qlz, .inl (cI, 12, .inl lz))] H := hP
  have hD : va_D A [(lo, .inr (1, [.ref qld, .ref qlz, .int (nI mn), .long sm])), (qld, .inl (cI, 12, .inl (upd ld mn x))), (qlz, .inl (cI, 12, .inl lz))] := hD
  refine lv_aload_n hx hb dO_add_10 rfl (lv_at hl 0 rfl) ?_
  refine va_get (D := (dC, dI)) (ci := 1) (v := .ref qlz) (C := R_O) (T := T_O) (N := 4) hx hb htw in_O hown hK hP 0 rfl rfl 1 (by decide) (htw _ m_74) (fun _ h9 => h9) rfl dO_add_11 ?_
  refine lv_aload_n hx hb dO_add_14 rfl (lv_at hl 0 rfl) ?_
  refine va_get (D := (dC, dI)) (ci := 1) (v := .int (nI mn)) (C := R_O) (T := T_O) (N := 4) hx hb htw in_O hown hK hP 0 rfl rfl 2 (by decide) (htw _ m_75) (fun _ h9 => h9) rfl dO_add_15 ?_
  refine lv_iload_n hx hb dO_add_18 rfl (lv_at hl 2 rfl) ?_
  refine xa_iast hx hb hK hP hD hS 2 0 rfl rfl (i := mn) (by omega) (by decide) dO_add_19 (fun H locs hP hD hS => ?_)
  have hP : va_P (dC, dI) vwCl [(lo, .inr (1, [.ref qld, .ref qlz, .int (nI mn), .long sm])), (qld, .inl (cI, 12, .inl (upd ld mn x))), (qlz, .inl (cI, 12, .inl (upd lz mn y)))] H := hP
  have hD : va_D A [(lo, .inr (1, [.ref qld, .ref qlz, .int (nI mn), .long sm])), (qld, .inl (cI, 12, .inl (upd ld mn x))), (qlz, .inl (cI, 12, .inl (upd lz mn y)))] := hD
  refine lv_aload_n hx hb dO_add_20 rfl (lv_at hl 0 rfl) ?_
  refine lv_dup hx hb dO_add_21 rfl ?_
  refine va_get (D := (dC, dI)) (ci := 1) (v := .long sm) (C := R_O) (T := T_O) (N := 4) hx hb htw in_O hown hK hP 0 rfl rfl 3 (by decide) (htw _ m_77) (fun _ h9 => h9) rfl dO_add_22 ?_
  refine lv_iload_n hx hb dO_add_25 rfl (lv_at hl 2 rfl) ?_
  refine lv_i2l (v := y.toInt64) hx hb dO_add_26 rfl ?_
  refine lv_ladd hx hb dO_add_27 ?_
  refine va_put (D := (dC, dI)) (ci := 1) (v := .long (sm + y.toInt64)) (ty := .long) (C := R_O) (T := T_O) (N := 4) hx hb htw in_O ty_O tok_O nnm_O hown hK hP hD hS 0 rfl rfl 3 (by decide) (htw _ m_77) (fun _ h9 => h9) rfl (by decide +kernel) rfl rfl (Nat.le_of_ble_eq_true rfl) dO_add_28 (fun H locs hP hD hS => ?_)
  have hP : va_P (dC, dI) vwCl [(lo, .inr (1, [.ref qld, .ref qlz, .int (nI mn), .long (sm + y.toInt64)])), (qld, .inl (cI, 12, .inl (upd ld mn x))), (qlz, .inl (cI, 12, .inl (upd lz mn y)))] H := hP
  have hD : va_D A [(lo, .inr (1, [.ref qld, .ref qlz, .int (nI mn), .long (sm + y.toInt64)])), (qld, .inl (cI, 12, .inl (upd ld mn x))), (qlz, .inl (cI, 12, .inl (upd lz mn y)))] := hD
  refine lv_aload_n hx hb dO_add_31 rfl (lv_at hl 0 rfl) ?_
  refine lv_dup hx hb dO_add_32 rfl ?_
  refine va_get (D := (dC, dI)) (ci := 1) (v := .int (nI mn)) (C := R_O) (T := T_O) (N := 4) hx hb htw in_O hown hK hP 0 rfl rfl 2 (by decide) (htw _ m_75) (fun _ h9 => h9) rfl dO_add_33 ?_
  refine lv_iconst (v := nI 1) hx hb dO_add_36 (by decide) ?_
  refine lv_iadd hx hb dO_add_37 ?_
  refine lv_topi (fun kv ekv => ?_)
  obtain rfl : kv = nI (mn + 1) := by rw [ekv]; exact nI_add _ _
  refine va_put (D := (dC, dI)) (ci := 1) (v := .int (nI (mn + 1))) (ty := .int) (C := R_O) (T := T_O) (N := 4) hx hb htw in_O ty_O tok_O nnm_O hown hK hP hD hS 0 rfl rfl 2 (by decide) (htw _ m_75) (fun _ h9 => h9) rfl (by decide +kernel) rfl rfl (Nat.le_of_ble_eq_true rfl) dO_add_38 (fun H locs hP hD hS => ?_)
  have hP : va_P (dC, dI) vwCl [(lo, .inr (1, [.ref qld, .ref qlz, .int (nI (mn + 1)), .long (sm + y.toInt64)])), (qld, .inl (cI, 12, .inl (upd ld mn x))), (qlz, .inl (cI, 12, .inl (upd lz mn y)))] H := hP
  have hD : va_D A [(lo, .inr (1, [.ref qld, .ref qlz, .int (nI (mn + 1)), .long (sm + y.toInt64)])), (qld, .inl (cI, 12, .inl (upd ld mn x))), (qlz, .inl (cI, 12, .inl (upd lz mn y)))] := hD
  refine lv_aload_n hx hb dO_add_41 rfl (lv_at hl 0 rfl) ?_
  refine va_get (D := (dC, dI)) (ci := 1) (v := .int (nI (mn + 1))) (C := R_O) (T := T_O) (N := 4) hx hb htw in_O hown hK hP 0 rfl rfl 2 (by decide) (htw _ m_75) (fun _ h9 => h9) rfl dO_add_42 ?_
  have hP : va_P (dC, dI) vwCl [(lo, .inr (1, [.ref qld, .ref qlz, .int (nI (mn + 1)), .long (sm + y.toInt64)])), (qld, .inl (cI, 12, .inl (upd ld mn x))), (qlz, .inl (cI, 12, .inl (upd lz mn y)))] H := by first | exact hP | simpa only [] using hP
  have hD : va_D A [(lo, .inr (1, [.ref qld, .ref qlz, .int (nI (mn + 1)), .long (sm + y.toInt64)])), (qld, .inl (cI, 12, .inl (upd ld mn x))), (qlz, .inl (cI, 12, .inl (upd lz mn y)))] := by first | exact hD | simpa only [] using hD
  exact W.iret (v := nI (mn + 1)) hx hb hr (fun t ht hW => ⟨⟨nI (mn + 1), (), rfl, rfl, by rw [ht]; exact hP, va_K.moved hW.alike hK, hD⟩, hS.F ht⟩) hS.2.2 dO_add_45
set_option maxHeartbeats 4000000 in
set_option maxRecDepth 100000 in
theorem kD_firstFreeDay (l : Launch) (dC : Nat → ClassId) (dI : Nat → Nat → Nat) (cI cJ : ClassId) (rg qrd qrv : Nat) (sz : Nat) (rn : Nat) (rd : Nat → Int32) (hrn : rn ≤ 20) : Met l yD_firstFreeDay wD_firstFreeDay ({ frames := 0, cells := 0, slots := 0, locals := 0 }) (va_Pc [.ref rg] (fun U => U.heap.size = sz ∧ va_P (dC, dI) vwCl [(rg, .inr (2, [.ref qrd, .ref qrv, .int (nI rn)])), (qrd, .inl (cI, 20, .inl rd))] U.heap ∧ va_K (dC, dI) vwCl [(cI, .int), (cJ, .long)] U ∧ va_D (fun _ => True) [(rg, .inr (2, [.ref qrd, .ref qrv, .int (nI rn)])), (qrd, .inl (cI, 20, .inl rd))])) (va_Qi (fun res_ (_ : Unit) => res_ = k_ff rd rn) (fun _ t => va_P (dC, dI) vwCl [(rg, .inr (2, [.ref qrd, .ref qrv, .int (nI rn)])), (qrd, .inl (cI, 20, .inl rd))] t.heap ∧ va_K (dC, dI) vwCl [(cI, .int), (cJ, .long)] t ∧ va_D (va_A [(rg, .inr (2, [.ref qrd, .ref qrv, .int (nI rn)])), (qrd, .inl (cI, 20, .inl rd))] sz) [(rg, .inr (2, [.ref qrd, .ref qrv, .int (nI rn)])), (qrd, .inl (cI, 20, .inl rd))]) (va_A [(rg, .inr (2, [.ref qrd, .ref qrv, .int (nI rn)])), (qrd, .inl (cI, 20, .inl rd))] sz)) 0 0 (va_A [(rg, .inr (2, [.ref qrd, .ref qrv, .int (nI rn)])), (qrd, .inl (cI, 20, .inl rd))] sz) := by
  refine Met.ofW (cc := bD_firstFreeDay) (maxL := 1) (ret := (some .int)) (by decide) rfl ?_
  intro p e s m args below meth c s₁ B hml hv
  obtain ⟨rfl, hsz, hP, hK, hD0⟩ := hv
  have hx := B.exec
  have hb := B.bytes
  have hr := B.returns
  have hts := atoms_spec (ws := wD_firstFreeDay) B.pre
  have hown : s.vm.findClass R_D = some m.cls := findClass_of_methodNamed B.named
  have htw : ∀ w ∈ WA, w.before _ s = true := fun w h => hts w (List.mem_cons_of_mem _ h)
  clear hts
  have hlocks := B.notSynchronized
  subst hsz
  have hD := hD0.self (sz := s.heap.size)
  generalize hAe : va_A [(rg, .inr (2, [.ref qrd, .ref qrv, .int (nI rn)])), (qrd, .inl (cI, 20, .inl rd))] s.heap.size = A at hD ⊢
  have hA : ∀ q : Nat, s.heap.size ≤ q → A q := fun q h => by rw [← hAe]; exact Or.inr h
  clear hAe hD0
  have hS : va_S A s.heap s.heap [] := va_S.rf
  have hP : va_P (dC, dI) vwCl [(rg, .inr (2, [.ref qrd, .ref qrv, .int (nI rn)])), (qrd, .inl (cI, 20, .inl rd))] s.heap := hP
  have hl := lv_entry ([.ref rg]) (n := 1) (Nat.le_of_ble_eq_true rfl)
  rw [lg_entry_eq]
  generalize (lg_sl ([.ref rg]) ++ List.replicate (1 - (lg_sl ([.ref rg])).length) Slot.unset).toArray = ls at hl ⊢
  have hl : lv_has ls 1 [(0, .ref rg)] := hl
  refine lv_aload_n hx hb dD_firstFreeDay_0 rfl (lv_at hl 0 rfl) ?_
  refine va_get (D := (dC, dI)) (ci := 2) (v := .int (nI rn)) (C := R_D) (T := T_D) (N := 3) hx hb htw in_D hown hK hP 0 rfl rfl 2 (by decide) (htw _ m_98) (fun _ h9 => h9) rfl dD_firstFreeDay_1 ?_
  refine lv_if_ne (tgt := 11) hx hb dD_firstFreeDay_4 (by decide) (fun hc4 => ?_) (fun hc4 => ?_)
  · -- 4 taken
    rw [show (0 : Int32) = nI 0 from rfl, nI_eq (by omega) (by omega)] at hc4
    have hret : rd (rn - 1) + nI 1 = k_ff rd rn := (if_neg hc4).symm
    refine lv_aload_n hx hb dD_firstFreeDay_11 rfl (lv_at hl 0 rfl) ?_
    refine va_get (D := (dC, dI)) (ci := 2) (v := .ref qrd) (C := R_D) (T := T_D) (N := 3) hx hb htw in_D hown hK hP 0 rfl rfl 0 (by decide) (htw _ m_94) (fun _ h9 => h9) rfl dD_firstFreeDay_12 ?_
    refine lv_aload_n hx hb dD_firstFreeDay_15 rfl (lv_at hl 0 rfl) ?_
    refine va_get (D := (dC, dI)) (ci := 2) (v := .int (nI rn)) (C := R_D) (T := T_D) (N := 3) hx hb htw in_D hown hK hP 0 rfl rfl 2 (by decide) (htw _ m_98) (fun _ h9 => h9) rfl dD_firstFreeDay_16 ?_
    refine lv_iconst (v := nI 1) hx hb dD_firstFreeDay_19 (by decide) ?_
    refine lv_isub hx hb dD_firstFreeDay_20 ?_
    refine lv_topi (fun kv ekv => ?_)
    obtain rfl : kv = nI (rn - 1) := by rw [ekv]; exact pk_sub (by omega)
    refine xa_iald hx hb hK hP 1 0 rfl rfl (i := (rn - 1)) (by omega) (by decide) dD_firstFreeDay_21 ?_
    refine lv_iconst (v := nI 1) hx hb dD_firstFreeDay_22 (by decide) ?_
    refine lv_iadd hx hb dD_firstFreeDay_23 ?_
    have hP : va_P (dC, dI) vwCl [(rg, .inr (2, [.ref qrd, .ref qrv, .int (nI rn)])), (qrd, .inl (cI, 20, .inl rd))] s.heap := by first | exact hP | simpa only [] using hP
    have hD : va_D A [(rg, .inr (2, [.ref qrd, .ref qrv, .int (nI rn)])), (qrd, .inl (cI, 20, .inl rd))] := by first | exact hD | simpa only [] using hD
    exact W.iret (v := (rd (rn - 1)) + (nI 1)) hx hb hr (fun t ht hW => ⟨⟨(rd (rn - 1)) + (nI 1), (), rfl, hret, by rw [ht]; exact hP, va_K.moved hW.alike hK, hD⟩, hS.F ht⟩) hS.2.2 dD_firstFreeDay_24
  · -- 4 not taken
    rw [show (0 : Int32) = nI 0 from rfl, nI_eq (by omega) (by omega)] at hc4
    have hret : nI 0 = k_ff rd rn := (if_pos hc4).symm
    refine lv_iconst (v := nI 0) hx hb dD_firstFreeDay_7 (by decide) ?_
    refine lv_goto (tgt := 24) hx hb dD_firstFreeDay_8 (by decide) ?_
    have hP : va_P (dC, dI) vwCl [(rg, .inr (2, [.ref qrd, .ref qrv, .int (nI rn)])), (qrd, .inl (cI, 20, .inl rd))] s.heap := by first | exact hP | simpa only [] using hP
    have hD : va_D A [(rg, .inr (2, [.ref qrd, .ref qrv, .int (nI rn)])), (qrd, .inl (cI, 20, .inl rd))] := by first | exact hD | simpa only [] using hD
    exact W.iret (v := nI 0) hx hb hr (fun t ht hW => ⟨⟨nI 0, (), rfl, hret, by rw [ht]; exact hP, va_K.moved hW.alike hK, hD⟩, hS.F ht⟩) hS.2.2 dD_firstFreeDay_24
set_option maxHeartbeats 4000000 in
set_option maxRecDepth 100000 in
theorem kD_add (l : Launch) (dC : Nat → ClassId) (dI : Nat → Nat → Nat) (cI cJ : ClassId) (rg qrd qrv : Nat) (sz : Nat) (x : Int32) (v : Int64) (rn : Nat) (rd : Nat → Int32) (rv : Nat → Int64) (hrn : rn < 20) : Met l yD_add wD_add ({ frames := 0, cells := 0, slots := 0, locals := 0 }) (va_Pc [.ref rg, .int x, .long v] (fun U => U.heap.size = sz ∧ va_P (dC, dI) vwCl [(rg, .inr (2, [.ref qrd, .ref qrv, .int (nI rn)])), (qrd, .inl (cI, 20, .inl rd)), (qrv, .inl (cJ, 20, .inr (.inl rv)))] U.heap ∧ va_K (dC, dI) vwCl [(cI, .int), (cJ, .long)] U ∧ va_D (fun _ => True) [(rg, .inr (2, [.ref qrd, .ref qrv, .int (nI rn)])), (qrd, .inl (cI, 20, .inl rd)), (qrv, .inl (cJ, 20, .inr (.inl rv)))])) (va_Qi (fun res_ (_ : Unit) => res_ = nI (rn + 1)) (fun _ t => va_P (dC, dI) vwCl [(rg, .inr (2, [.ref qrd, .ref qrv, .int (nI (rn + 1))])), (qrd, .inl (cI, 20, .inl (upd rd rn x))), (qrv, .inl (cJ, 20, .inr (.inl (vp_updL rv rn v))))] t.heap ∧ va_K (dC, dI) vwCl [(cI, .int), (cJ, .long)] t ∧ va_D (va_A [(rg, .inr (2, [.ref qrd, .ref qrv, .int (nI rn)])), (qrd, .inl (cI, 20, .inl rd)), (qrv, .inl (cJ, 20, .inr (.inl rv)))] sz) [(rg, .inr (2, [.ref qrd, .ref qrv, .int (nI (rn + 1))])), (qrd, .inl (cI, 20, .inl (upd rd rn x))), (qrv, .inl (cJ, 20, .inr (.inl (vp_updL rv rn v))))]) (va_A [(rg, .inr (2, [.ref qrd, .ref qrv, .int (nI rn)])), (qrd, .inl (cI, 20, .inl rd)), (qrv, .inl (cJ, 20, .inr (.inl rv)))] sz)) 0 0 (va_A [(rg, .inr (2, [.ref qrd, .ref qrv, .int (nI rn)])), (qrd, .inl (cI, 20, .inl rd)), (qrv, .inl (cJ, 20, .inr (.inl rv)))] sz) := by
  refine Met.ofW (cc := bD_add) (maxL := 4) (ret := (some .int)) (by decide) rfl ?_
  intro p e s m args below meth c s₁ B hml hv
  obtain ⟨rfl, hsz, hP, hK, hD0⟩ := hv
  have hx := B.exec
  have hb := B.bytes
  have hr := B.returns
  have hts := atoms_spec (ws := wD_add) B.pre
  have hown : s.vm.findClass R_D = some m.cls := findClass_of_methodNamed B.named
  have htw : ∀ w ∈ WA, w.before _ s = true := fun w h => hts w (List.mem_cons_of_mem _ h)
  clear hts
  have hlocks := B.notSynchronized
  subst hsz
  have hD := hD0.self (sz := s.heap.size)
  generalize hAe : va_A [(rg, .inr (2, [.ref qrd, .ref qrv, .int (nI rn)])), (qrd, .inl (cI, 20, .inl rd)), (qrv, .inl (cJ, 20, .inr (.inl rv)))] s.heap.size = A at hD ⊢
  have hA : ∀ q : Nat, s.heap.size ≤ q → A q := fun q h => by rw [← hAe]; exact Or.inr h
  clear hAe hD0
  have hS : va_S A s.heap s.heap [] := va_S.rf
  have hP : va_P (dC, dI) vwCl [(rg, .inr (2, [.ref qrd, .ref qrv, .int (nI rn)])), (qrd, .inl (cI, 20, .inl rd)), (qrv, .inl (cJ, 20, .inr (.inl rv)))] s.heap := hP
  have hl := lv_entry ([.ref rg, .int x, .long v]) (n := 4) (Nat.le_of_ble_eq_true rfl)
  rw [lg_entry_eq]
  generalize (lg_sl ([.ref rg, .int x, .long v]) ++ List.replicate (4 - (lg_sl ([.ref rg, .int x, .long v])).length) Slot.unset).toArray = ls at hl ⊢
  have hl : lv_has ls 4 [(0, .ref rg), (1, .int x), (2, .long v)] := hl
  refine lv_aload_n hx hb dD_add_0 rfl (lv_at hl 0 rfl) ?_
  refine va_get (D := (dC, dI)) (ci := 2) (v := .ref qrd) (C := R_D) (T := T_D) (N := 3) hx hb htw in_D hown hK hP 0 rfl rfl 0 (by decide) (htw _ m_94) (fun _ h9 => h9) rfl dD_add_1 ?_
  refine lv_aload_n hx hb dD_add_4 rfl (lv_at hl 0 rfl) ?_
  refine va_get (D := (dC, dI)) (ci := 2) (v := .int (nI rn)) (C := R_D) (T := T_D) (N := 3) hx hb htw in_D hown hK hP 0 rfl rfl 2 (by decide) (htw _ m_98) (fun _ h9 => h9) rfl dD_add_5 ?_
  refine lv_iload_n hx hb dD_add_8 rfl (lv_at hl 1 rfl) ?_
  refine xa_iast hx hb hK hP hD hS 1 0 rfl rfl (i := rn) (by omega) (by decide) dD_add_9 (fun H locs hP hD hS => ?_)
  have hP : va_P (dC, dI) vwCl [(rg, .inr (2, [.ref qrd, .ref qrv, .int (nI rn)])), (qrd, .inl (cI, 20, .inl (upd rd rn x))), (qrv, .inl (cJ, 20, .inr (.inl rv)))] H := hP
  have hD : va_D A [(rg, .inr (2, [.ref qrd, .ref qrv, .int (nI rn)])), (qrd, .inl (cI, 20, .inl (upd rd rn x))), (qrv, .inl (cJ, 20, .inr (.inl rv)))] := hD
  refine lv_aload_n hx hb dD_add_10 rfl (lv_at hl 0 rfl) ?_
  refine va_get (D := (dC, dI)) (ci := 2) (v := .ref qrv) (C := R_D) (T := T_D) (N := 3) hx hb htw in_D hown hK hP 0 rfl rfl 1 (by decide) (htw _ m_96) (fun _ h9 => h9) rfl dD_add_11 ?_
  refine lv_aload_n hx hb dD_add_14 rfl (lv_at hl 0 rfl) ?_
  refine va_get (D := (dC, dI)) (ci := 2) (v := .int (nI rn)) (C := R_D) (T := T_D) (N := 3) hx hb htw in_D hown hK hP 0 rfl rfl 2 (by decide) (htw _ m_98) (fun _ h9 => h9) rfl dD_add_15 ?_
  refine lv_lload_n hx hb dD_add_18 rfl (lv_at hl 2 rfl) ?_
  refine xa_last hx hb hK hP hD hS 2 1 rfl rfl (i := rn) (by omega) (by decide) dD_add_19 (fun H locs hP hD hS => ?_)
  have hP : va_P (dC, dI) vwCl [(rg, .inr (2, [.ref qrd, .ref qrv, .int (nI rn)])), (qrd, .inl (cI, 20, .inl (upd rd rn x))), (qrv, .inl (cJ, 20, .inr (.inl (vp_updL rv rn v))))] H := hP
  have hD : va_D A [(rg, .inr (2, [.ref qrd, .ref qrv, .int (nI rn)])), (qrd, .inl (cI, 20, .inl (upd rd rn x))), (qrv, .inl (cJ, 20, .inr (.inl (vp_updL rv rn v))))] := hD
  refine lv_aload_n hx hb dD_add_20 rfl (lv_at hl 0 rfl) ?_
  refine lv_dup hx hb dD_add_21 rfl ?_
  refine va_get (D := (dC, dI)) (ci := 2) (v := .int (nI rn)) (C := R_D) (T := T_D) (N := 3) hx hb htw in_D hown hK hP 0 rfl rfl 2 (by decide) (htw _ m_98) (fun _ h9 => h9) rfl dD_add_22 ?_
  refine lv_iconst (v := nI 1) hx hb dD_add_25 (by decide) ?_
  refine lv_iadd hx hb dD_add_26 ?_
  refine lv_topi (fun kv ekv => ?_)
  obtain rfl : kv = nI (rn + 1) := by rw [ekv]; exact nI_add _ _
  refine va_put (D := (dC, dI)) (ci := 2) (v := .int (nI (rn + 1))) (ty := .int) (C := R_D) (T := T_D) (N := 3) hx hb htw in_D ty_D tok_D nnm_D hown hK hP hD hS 0 rfl rfl 2 (by decide) (htw _ m_98) (fun _ h9 => h9) rfl (by decide +kernel) rfl rfl (Nat.le_of_ble_eq_true rfl) dD_add_27 (fun H locs hP hD hS => ?_)
  have hP : va_P (dC, dI) vwCl [(rg, .inr (2, [.ref qrd, .ref qrv, .int (nI (rn + 1))])), (qrd, .inl (cI, 20, .inl (upd rd rn x))), (qrv, .inl (cJ, 20, .inr (.inl (vp_updL rv rn v))))] H := hP
  have hD : va_D A [(rg, .inr (2, [.ref qrd, .ref qrv, .int (nI (rn + 1))])), (qrd, .inl (cI, 20, .inl (upd rd rn x))), (qrv, .inl (cJ, 20, .inr (.inl (vp_updL rv rn v))))] := hD
  refine lv_aload_n hx hb dD_add_30 rfl (lv_at hl 0 rfl) ?_
  refine va_get (D := (dC, dI)) (ci := 2) (v := .int (nI (rn + 1))) (C := R_D) (T := T_D) (N := 3) hx hb htw in_D hown hK hP 0 rfl rfl 2 (by decide) (htw _ m_98) (fun _ h9 => h9) rfl dD_add_31 ?_
  have hP : va_P (dC, dI) vwCl [(rg, .inr (2, [.ref qrd, .ref qrv, .int (nI (rn + 1))])), (qrd, .inl (cI, 20, .inl (upd rd rn x))), (qrv, .inl (cJ, 20, .inr (.inl (vp_updL rv rn v))))] H := by first | exact hP | simpa only [] using hP
  have hD : va_D A [(rg, .inr (2, [.ref qrd, .ref qrv, .int (nI (rn + 1))])), (qrd, .inl (cI, 20, .inl (upd rd rn x))), (qrv, .inl (cJ, 20, .inr (.inl (vp_updL rv rn v))))] := by first | exact hD | simpa only [] using hD
  exact W.iret (v := nI (rn + 1)) hx hb hr (fun t ht hW => ⟨⟨nI (rn + 1), (), rfl, rfl, by rw [ht]; exact hP, va_K.moved hW.alike hK, hD⟩, hS.F ht⟩) hS.2.2 dD_add_34
set_option maxHeartbeats 4000000 in
set_option maxRecDepth 100000 in
theorem kD_tooGreat (l : Launch) (dC : Nat → ClassId) (dI : Nat → Nat → Nat) (cI cJ : ClassId) (sz : Nat) (v : Int64) : Met l yD_tooGreat wD_tooGreat ({ frames := 0, cells := 0, slots := 0, locals := 0 }) (va_Pc [.long v] (fun U => U.heap.size = sz ∧ va_P (dC, dI) vwCl [] U.heap ∧ va_K (dC, dI) vwCl [(cI, .int), (cJ, .long)] U ∧ va_D (fun _ => True) [])) (va_Qi (fun res_ (_ : Unit) => res_ = kb (100000000 < v)) (fun _ t => va_P (dC, dI) vwCl [] t.heap ∧ va_K (dC, dI) vwCl [(cI, .int), (cJ, .long)] t ∧ va_D (va_A [] sz) []) (va_A [] sz)) 0 0 (va_A [] sz) := by
  refine Met.ofW (cc := bD_tooGreat) (maxL := 2) (ret := (some .boolean)) (by decide) rfl ?_
  intro p e s m args below meth c s₁ B hml hv
  obtain ⟨rfl, hsz, hP, hK, hD0⟩ := hv
  have hx := B.exec
  have hb := B.bytes
  have hr := B.returns
  have hts := atoms_spec (ws := wD_tooGreat) B.pre
  have hown : s.vm.findClass R_D = some m.cls := findClass_of_methodNamed B.named
  have htw : ∀ w ∈ WA, w.before _ s = true := fun w h => hts w (List.mem_cons_of_mem _ h)
  clear hts
  have hlocks := B.notSynchronized
  subst hsz
  have hD := hD0.self (sz := s.heap.size)
  generalize hAe : va_A [] s.heap.size = A at hD ⊢
  have hA : ∀ q : Nat, s.heap.size ≤ q → A q := fun q h => by rw [← hAe]; exact Or.inr h
  clear hAe hD0
  have hS : va_S A s.heap s.heap [] := va_S.rf
  have hP : va_P (dC, dI) vwCl [] s.heap := hP
  have hl := lv_entry ([.long v]) (n := 2) (Nat.le_of_ble_eq_true rfl)
  rw [lg_entry_eq]
  generalize (lg_sl ([.long v]) ++ List.replicate (2 - (lg_sl ([.long v])).length) Slot.unset).toArray = ls at hl ⊢
  have hl : lv_has ls 2 [(0, .long v)] := hl
  refine lv_lload_n hx hb dD_tooGreat_0 rfl (lv_at hl 0 rfl) ?_
  refine lv_ldc2 (v := 100000000) hx hb hown (htw _ m_326) dD_tooGreat_1 ?_
  refine W.lcmp hx hb dD_tooGreat_4 ?_
  refine lv_if_le (tgt := 12) hx hb dD_tooGreat_5 (by decide) (fun hc5 => ?_) (fun hc5 => ?_)
  · -- 5 taken
    rw [lg_cmp_le] at hc5
    have hret := kb_f (P := 100000000 < v) (fun h => by have a0_ := hc5; have a1_ := h; simp only [Int64.lt_iff_toInt_lt, Int64.le_iff_toInt_le] at a0_ a1_; omega)
    refine lv_iconst (v := nI 0) hx hb dD_tooGreat_12 (by decide) ?_
    have hP : va_P (dC, dI) vwCl [] s.heap := by first | exact hP | simpa only [] using hP
    have hD : va_D A [] := by first | exact hD | simpa only [] using hD
    exact W.zret (v := nI 0) hx hb hr (by decide) (fun t ht hW => ⟨⟨nI 0, (), rfl, hret, by rw [ht]; exact hP, va_K.moved hW.alike hK, hD⟩, hS.F ht⟩) hS.2.2 dD_tooGreat_13
  · -- 5 not taken
    rw [lg_cmp_le] at hc5
    have hret := kb_t (P := 100000000 < v) (by rw [Int64.lt_iff_toInt_lt]; have a0_ := hc5; simp only [Int64.lt_iff_toInt_lt, Int64.le_iff_toInt_le] at a0_; omega)
    refine lv_iconst (v := nI 1) hx hb dD_tooGreat_8 (by decide) ?_
    refine lv_goto (tgt := 13) hx hb dD_tooGreat_9 (by decide) ?_
    have hP : va_P (dC, dI) vwCl [] s.heap := by first | exact hP | simpa only [] using hP
    have hD : va_D A [] := by first | exact hD | simpa only [] using hD
    exact W.zret (v := nI 1) hx hb hr (by decide) (fun t ht hW => ⟨⟨nI 1, (), rfl, hret, by rw [ht]; exact hP, va_K.moved hW.alike hK, hD⟩, hS.F ht⟩) hS.2.2 dD_tooGreat_13
set_option maxHeartbeats 4000000 in
set_option maxRecDepth 100000 in
theorem kD_quotient (l : Launch) (dC : Nat → ClassId) (dI : Nat → Nat → Nat) (cI cJ : ClassId) (sz : Nat) (u : Int64) (v : Int64) : Met l yD_quotient wD_quotient ({ frames := 0, cells := 0, slots := 0, locals := 0 }) (va_Pc [.long u, .long v] (fun U => U.heap.size = sz ∧ va_P (dC, dI) vwCl [] U.heap ∧ va_K (dC, dI) vwCl [(cI, .int), (cJ, .long)] U ∧ va_D (fun _ => True) [])) (va_Ql (fun res_ (_ : Unit) => res_ = k_quo u v) (fun _ t => va_P (dC, dI) vwCl [] t.heap ∧ va_K (dC, dI) vwCl [(cI, .int), (cJ, .long)] t ∧ va_D (va_A [] sz) []) (va_A [] sz)) 0 0 (va_A [] sz) := by
  refine Met.ofW (cc := bD_quotient) (maxL := 4) (ret := (some .long)) (by decide) rfl ?_
  intro p e s m args below meth c s₁ B hml hv
  obtain ⟨rfl, hsz, hP, hK, hD0⟩ := hv
  have hx := B.exec
  have hb := B.bytes
  have hr := B.returns
  have hts := atoms_spec (ws := wD_quotient) B.pre
  have hown : s.vm.findClass R_D = some m.cls := findClass_of_methodNamed B.named
  have htw : ∀ w ∈ WA, w.before _ s = true := fun w h => hts w (List.mem_cons_of_mem _ h)
  clear hts
  have hlocks := B.notSynchronized
  subst hsz
  have hD := hD0.self (sz := s.heap.size)
  generalize hAe : va_A [] s.heap.size = A at hD ⊢
  have hA : ∀ q : Nat, s.heap.size ≤ q → A q := fun q h => by rw [← hAe]; exact Or.inr h
  clear hAe hD0
  have hS : va_S A s.heap s.heap [] := va_S.rf
  have hP : va_P (dC, dI) vwCl [] s.heap := hP
  have hl := lv_entry ([.long u, .long v]) (n := 4) (Nat.le_of_ble_eq_true rfl)
  rw [lg_entry_eq]
  generalize (lg_sl ([.long u, .long v]) ++ List.replicate (4 - (lg_sl ([.long u, .long v])).length) Slot.unset).toArray = ls at hl ⊢
  have hl : lv_has ls 4 [(0, .long u), (2, .long v)] := hl
  refine lv_lload_n hx hb dD_quotient_0 rfl (lv_at hl 1 rfl) ?_
  refine lv_lconst (v := 0) hx hb dD_quotient_1 (by decide) ?_
  refine W.lcmp hx hb dD_quotient_2 ?_
  refine lv_if_ne (tgt := 12) hx hb dD_quotient_3 (by decide) (fun hc3 => ?_) (fun hc3 => ?_)
  · -- 3 taken
    rw [lg_cmp_eq] at hc3
    have hret : u / v = k_quo u v := (if_neg hc3).symm
    refine lv_lload_n hx hb dD_quotient_12 rfl (lv_at hl 0 rfl) ?_
    refine lv_lload_n hx hb dD_quotient_13 rfl (lv_at hl 1 rfl) ?_
    refine lv_ldiv hx hb dD_quotient_14 hc3 ?_
    have hP : va_P (dC, dI) vwCl [] s.heap := by first | exact hP | simpa only [] using hP
    have hD : va_D A [] := by first | exact hD | simpa only [] using hD
    exact W.lret (v := u / v) hx hb hr (fun t ht hW => ⟨⟨u / v, (), rfl, hret, by rw [ht]; exact hP, va_K.moved hW.alike hK, hD⟩, hS.F ht⟩) hS.2.2 dD_quotient_15
  · -- 3 not taken
    rw [lg_cmp_eq] at hc3
    have hret : (-1 : Int64) = k_quo u v := (if_pos hc3).symm
    refine lv_ldc2 (v := (-1)) hx hb hown (htw _ m_322) dD_quotient_6 ?_
    refine lv_goto (tgt := 15) hx hb dD_quotient_9 (by decide) ?_
    have hP : va_P (dC, dI) vwCl [] s.heap := by first | exact hP | simpa only [] using hP
    have hD : va_D A [] := by first | exact hD | simpa only [] using hD
    exact W.lret (v := (-1)) hx hb hr (fun t ht hW => ⟨⟨(-1), (), rfl, hret, by rw [ht]; exact hP, va_K.moved hW.alike hK, hD⟩, hS.F ht⟩) hS.2.2 dD_quotient_15
set_option maxHeartbeats 4000000 in
set_option maxRecDepth 100000 in
theorem kD_foretellByLastThree (l : Launch) (dC : Nat → ClassId) (dI : Nat → Nat → Nat) (cI cJ : ClassId) (rg qrd qrv : Nat) (sz : Nat) (rn : Nat) (rv : Nat → Int64) (hrn : rn ≤ 20) : Met l yD_foretellByLastThree wD_foretellByLastThree ({ frames := 1, cells := 0, slots := 0, locals := 23 }) (va_Pc [.ref rg] (fun U => U.heap.size = sz ∧ va_P (dC, dI) vwCl [(rg, .inr (2, [.ref qrd, .ref qrv, .int (nI rn)])), (qrv, .inl (cJ, 20, .inr (.inl rv)))] U.heap ∧ va_K (dC, dI) vwCl [(cI, .int), (cJ, .long)] U ∧ va_D (fun _ => True) [(rg, .inr (2, [.ref qrd, .ref qrv, .int (nI rn)])), (qrv, .inl (cJ, 20, .inr (.inl rv)))])) (va_Ql (fun res_ (_ : Unit) => res_ = k_f0 rv rn) (fun _ t => va_P (dC, dI) vwCl [(rg, .inr (2, [.ref qrd, .ref qrv, .int (nI rn)])), (qrv, .inl (cJ, 20, .inr (.inl rv)))] t.heap ∧ va_K (dC, dI) vwCl [(cI, .int), (cJ, .long)] t ∧ va_D (va_A [(rg, .inr (2, [.ref qrd, .ref qrv, .int (nI rn)])), (qrv, .inl (cJ, 20, .inr (.inl rv)))] sz) [(rg, .inr (2, [.ref qrd, .ref qrv, .int (nI rn)])), (qrv, .inl (cJ, 20, .inr (.inl rv)))]) (va_A [(rg, .inr (2, [.ref qrd, .ref qrv, .int (nI rn)])), (qrv, .inl (cJ, 20, .inr (.inl rv)))] sz)) 0 0 (va_A [(rg, .inr (2, [.ref qrd, .ref qrv, .int (nI rn)])), (qrv, .inl (cJ, 20, .inr (.inl rv)))] sz) := by
  refine Met.ofW (cc := bD_foretellByLastThree) (maxL := 7) (ret := (some .long)) (by decide) rfl ?_
  intro p e s m args below meth c s₁ B hml hv
  obtain ⟨rfl, hsz, hP, hK, hD0⟩ := hv
  have hx := B.exec
  have hb := B.bytes
  have hr := B.returns
  have hts := atoms_spec (ws := wD_foretellByLastThree) B.pre
  have hown : s.vm.findClass R_D = some m.cls := findClass_of_methodNamed B.named
  have htw : ∀ w ∈ WA, w.before _ s = true := fun w h => hts w (List.mem_cons_of_mem _ h)
  clear hts
  have hlocks := B.notSynchronized
  subst hsz
  have hD := hD0.self (sz := s.heap.size)
  generalize hAe : va_A [(rg, .inr (2, [.ref qrd, .ref qrv, .int (nI rn)])), (qrv, .inl (cJ, 20, .inr (.inl rv)))] s.heap.size = A at hD ⊢
  have hA : ∀ q : Nat, s.heap.size ≤ q → A q := fun q h => by rw [← hAe]; exact Or.inr h
  clear hAe hD0
  have hS : va_S A s.heap s.heap [] := va_S.rf
  have hP : va_P (dC, dI) vwCl [(rg, .inr (2, [.ref qrd, .ref qrv, .int (nI rn)])), (qrv, .inl (cJ, 20, .inr (.inl rv)))] s.heap := hP
  have hl := lv_entry ([.ref rg]) (n := 7) (Nat.le_of_ble_eq_true rfl)
  rw [lg_entry_eq]
  generalize (lg_sl ([.ref rg]) ++ List.replicate (7 - (lg_sl ([.ref rg])).length) Slot.unset).toArray = ls at hl ⊢
  have hl : lv_has ls 7 [(0, .ref rg)] := hl
  refine lv_aload_n hx hb dD_foretellByLastThree_0 rfl (lv_at hl 0 rfl) ?_
  refine va_get (D := (dC, dI)) (ci := 2) (v := .int (nI rn)) (C := R_D) (T := T_D) (N := 3) hx hb htw in_D hown hK hP 0 rfl rfl 2 (by decide) (htw _ m_98) (fun _ h9 => h9) rfl dD_foretellByLastThree_1 ?_
  refine lv_iconst (v := nI 3) hx hb dD_foretellByLastThree_4 (by decide) ?_
  refine lv_icmp_ge (tgt := 12) hx hb dD_foretellByLastThree_5 (by decide) (fun hc5 => ?_) (fun hc5 => ?_)
  · -- 5 taken
    rw [nI_leI (by omega) (by omega)] at hc5
    refine lv_aload_n hx hb dD_foretellByLastThree_12 rfl (lv_at hl 0 rfl) ?_
    refine va_get (D := (dC, dI)) (ci := 2) (v := .ref qrv) (C := R_D) (T := T_D) (N := 3) hx hb htw in_D hown hK hP 0 rfl rfl 1 (by decide) (htw _ m_96) (fun _ h9 => h9) rfl dD_foretellByLastThree_13 ?_
    refine lv_aload_n hx hb dD_foretellByLastThree_16 rfl (lv_at hl 0 rfl) ?_
    refine va_get (D := (dC, dI)) (ci := 2) (v := .int (nI rn)) (C := R_D) (T := T_D) (N := 3) hx hb htw in_D hown hK hP 0 rfl rfl 2 (by decide) (htw _ m_98) (fun _ h9 => h9) rfl dD_foretellByLastThree_17 ?_
    refine lv_iconst (v := nI 3) hx hb dD_foretellByLastThree_20 (by decide) ?_
    refine lv_isub hx hb dD_foretellByLastThree_21 ?_
    refine lv_topi (fun kv ekv => ?_)
    obtain rfl : kv = nI (rn - 3) := by rw [ekv]; exact pk_sub (by omega)
    refine xa_lald hx hb hK hP 1 1 rfl rfl (i := (rn - 3)) (by omega) (by decide) dD_foretellByLastThree_22 ?_
    refine lv_lstore_n (lv' := [(1, .long (rv (rn - 3))), (0, .ref rg)]) hx hb dD_foretellByLastThree_23 rfl hl (by decide) rfl (fun ls hl => ?_)
    refine lv_aload_n hx hb dD_foretellByLastThree_24 rfl (lv_at hl 1 rfl) ?_
    refine va_get (D := (dC, dI)) (ci := 2) (v := .ref qrv) (C := R_D) (T := T_D) (N := 3) hx hb htw in_D hown hK hP 0 rfl rfl 1 (by decide) (htw _ m_96) (fun _ h9 => h9) rfl dD_foretellByLastThree_25 ?_
    refine lv_aload_n hx hb dD_foretellByLastThree_28 rfl (lv_at hl 1 rfl) ?_
    refine va_get (D := (dC, dI)) (ci := 2) (v := .int (nI rn)) (C := R_D) (T := T_D) (N := 3) hx hb htw in_D hown hK hP 0 rfl rfl 2 (by decide) (htw _ m_98) (fun _ h9 => h9) rfl dD_foretellByLastThree_29 ?_
    refine lv_iconst (v := nI 2) hx hb dD_foretellByLastThree_32 (by decide) ?_
    refine lv_isub hx hb dD_foretellByLastThree_33 ?_
    refine lv_topi (fun kv ekv => ?_)
    obtain rfl : kv = nI (rn - 2) := by rw [ekv]; exact pk_sub (by omega)
    refine xa_lald hx hb hK hP 1 1 rfl rfl (i := (rn - 2)) (by omega) (by decide) dD_foretellByLastThree_34 ?_
    refine lv_lstore_n (lv' := [(3, .long (rv (rn - 2))), (1, .long (rv (rn - 3))), (0, .ref rg)]) hx hb dD_foretellByLastThree_35 rfl hl (by decide) rfl (fun ls hl => ?_)
    refine lv_aload_n hx hb dD_foretellByLastThree_36 rfl (lv_at hl 2 rfl) ?_
    refine va_get (D := (dC, dI)) (ci := 2) (v := .ref qrv) (C := R_D) (T := T_D) (N := 3) hx hb htw in_D hown hK hP 0 rfl rfl 1 (by decide) (htw _ m_96) (fun _ h9 => h9) rfl dD_foretellByLastThree_37 ?_
    refine lv_aload_n hx hb dD_foretellByLastThree_40 rfl (lv_at hl 2 rfl) ?_
    refine va_get (D := (dC, dI)) (ci := 2) (v := .int (nI rn)) (C := R_D) (T := T_D) (N := 3) hx hb htw in_D hown hK hP 0 rfl rfl 2 (by decide) (htw _ m_98) (fun _ h9 => h9) rfl dD_foretellByLastThree_41 ?_
    refine lv_iconst (v := nI 1) hx hb dD_foretellByLastThree_44 (by decide) ?_
    refine lv_isub hx hb dD_foretellByLastThree_45 ?_
    refine lv_topi (fun kv ekv => ?_)
    obtain rfl : kv = nI (rn - 1) := by rw [ekv]; exact pk_sub (by omega)
    refine xa_lald hx hb hK hP 1 1 rfl rfl (i := (rn - 1)) (by omega) (by decide) dD_foretellByLastThree_46 ?_
    refine lv_lstore (lv' := [(5, .long (rv (rn - 1))), (3, .long (rv (rn - 2))), (1, .long (rv (rn - 3))), (0, .ref rg)]) hx hb dD_foretellByLastThree_47 hl (by decide) rfl (fun ls hl => ?_)
    refine lv_lload_n hx hb dD_foretellByLastThree_49 rfl (lv_at hl 2 rfl) ?_
    have hPc := hP.sub (ws' := []) [] rfl
    have hDc := hD.sub (ws' := []) [] (by decide) rfl
    have hFc := va_free (wc := []) hD hS hA [] rfl
    refine va_calli (va_runS (As := [.long (rv (rn - 3))]) (rest := []) ⟨hx, hb, hml, hown, htw⟩ (kD_tooGreat l dC dI cI cJ s.heap.size (rv (rn - 3))) (va_cwS 1 htw (ws_good m_323 m_324 m_4 m_325) rfl rfl rfl (by decide +kernel) ⟨Nat.le_of_ble_eq_true rfl, Nat.le_of_ble_eq_true rfl⟩) ⟨fun a U g mk q => by obtain ⟨q0, q1, qP, qK, qD⟩ := q; exact ⟨q0, q1, qP, va_K.moved (u := U) (U := U.calling g mk a) (Vm.Alike.refl U.vm) qK, qD⟩, fun U hU hW => ⟨rfl, by rw [hU], by rw [hU]; exact hPc, va_K.moved hW.alike hK, hDc.weaken (fun _ _ _ _ => trivial)⟩⟩ rfl rfl hl.1 rfl (lv_room (Nat.le_of_ble_eq_true rfl)) dD_foretellByLastThree_50 ⟨Nat.le_of_ble_eq_true rfl, Nat.le_of_ble_eq_true rfl⟩) hS (fun q _ h => hFc q h) hFc (fun res_ u_ t H1 locs ht hvm hw hB hz1 hk1 hS => ?_)
    obtain ⟨hP1, hK1, hD1⟩ := hB
    rw [ht] at hP1
    obtain ⟨hP, hD⟩ := va_join (wr := [(rg, .inr (2, [.ref qrd, .ref qrv, .int (nI rn)])), (qrv, .inl (cJ, 20, .inr (.inl rv)))]) (w1 := []) hP hD [] [0, 1] rfl rfl (by decide) (by decide) hk1 hFc hP1 hD1
    generalize H1 = H at hP hS ⊢
    have hP : va_P (dC, dI) vwCl [(rg, .inr (2, [.ref qrd, .ref qrv, .int (nI rn)])), (qrv, .inl (cJ, 20, .inr (.inl rv)))] H := hP
    have hD : va_D A [(rg, .inr (2, [.ref qrd, .ref qrv, .int (nI rn)])), (qrv, .inl (cJ, 20, .inr (.inl rv)))] := hD
    clear hPc hDc hFc hP1 hD1 hK1 hk1 hz1 hvm ht
    obtain rfl : kb (100000000 < (rv (rn - 3))) = res_ := hw.symm
    refine lv_if_ne (tgt := 71) hx hb dD_foretellByLastThree_53 (by decide) (fun hc53 => ?_) (fun hc53 => ?_)
    · -- 53 taken
      rw [kb_eq0] at hc53
      refine lv_ldc2 (v := (-1)) hx hb hown (htw _ m_322) dD_foretellByLastThree_71 ?_
      have hP : va_P (dC, dI) vwCl [(rg, .inr (2, [.ref qrd, .ref qrv, .int (nI rn)])), (qrv, .inl (cJ, 20, .inr (.inl rv)))] H := by first | exact hP | simpa only [] using hP
      have hD : va_D A [(rg, .inr (2, [.ref qrd, .ref qrv, .int (nI rn)])), (qrv, .inl (cJ, 20, .inr (.inl rv)))] := by first | exact hD | simpa only [] using hD
      exact W.lret (v := (-1)) hx hb hr (fun t ht hW => ⟨⟨(-1), (), rfl, by unfold k_f0; rw [if_neg (by omega), if_pos (by first | exact Or.inl (Classical.not_not.mp hc53) | exact Or.inr (Or.inl (Classical.not_not.mp hc60)) | exact Or.inr (Or.inr (Classical.not_not.mp hc68)))], by rw [ht]; exact hP, va_K.moved hW.alike hK, hD⟩, hS.F ht⟩) hS.2.2 dD_foretellByLastThree_74
    · -- 53 not taken
      rw [kb_eq0] at hc53
      refine lv_lload_n hx hb dD_foretellByLastThree_56 rfl (lv_at hl 1 rfl) ?_
      have hPc := hP.sub (ws' := []) [] rfl
      have hDc := hD.sub (ws' := []) [] (by decide) rfl
      have hFc := va_free (wc := []) hD hS hA [] rfl
      refine va_calli (va_runS (As := [.long (rv (rn - 2))]) (rest := []) ⟨hx, hb, hml, hown, htw⟩ (kD_tooGreat l dC dI cI cJ H.size (rv (rn - 2))) (va_cwS 1 htw (ws_good m_323 m_324 m_4 m_325) rfl rfl rfl (by decide +kernel) ⟨Nat.le_of_ble_eq_true rfl, Nat.le_of_ble_eq_true rfl⟩) ⟨fun a U g mk q => by obtain ⟨q0, q1, qP, qK, qD⟩ := q; exact ⟨q0, q1, qP, va_K.moved (u := U) (U := U.calling g mk a) (Vm.Alike.refl U.vm) qK, qD⟩, fun U hU hW => ⟨rfl, by rw [hU], by rw [hU]; exact hPc, va_K.moved hW.alike hK, hDc.weaken (fun _ _ _ _ => trivial)⟩⟩ rfl rfl hl.1 rfl (lv_room (Nat.le_of_ble_eq_true rfl)) dD_foretellByLastThree_57 ⟨Nat.le_of_ble_eq_true rfl, Nat.le_of_ble_eq_true rfl⟩) hS (fun q _ h => hFc q h) hFc (fun res_ u_ t H1 locs ht hvm hw hB hz1 hk1 hS => ?_)
      obtain ⟨hP1, hK1, hD1⟩ := hB
      rw [ht] at hP1
      obtain ⟨hP, hD⟩ := va_join (wr := [(rg, .inr (2, [.ref qrd, .ref qrv, .int (nI rn)])), (qrv, .inl (cJ, 20, .inr (.inl rv)))]) (w1 := []) hP hD [] [0, 1] rfl rfl (by decide) (by decide) hk1 hFc hP1 hD1
      generalize H1 = H at hP hS ⊢
      have hP : va_P (dC, dI) vwCl [(rg, .inr (2, [.ref qrd, .ref qrv, .int (nI rn)])), (qrv, .inl (cJ, 20, .inr (.inl rv)))] H := hP
      have hD : va_D A [(rg, .inr (2, [.ref qrd, .ref qrv, .int (nI rn)])), (qrv, .inl (cJ, 20, .inr (.inl rv)))] := hD
      clear hPc hDc hFc hP1 hD1 hK1 hk1 hz1 hvm ht
      obtain rfl : kb (100000000 < (rv (rn - 2))) = res_ := hw.symm
      refine lv_if_ne (tgt := 71) hx hb dD_foretellByLastThree_60 (by decide) (fun hc60 => ?_) (fun hc60 => ?_)
      · -- 60 taken
        rw [kb_eq0] at hc60
        refine lv_ldc2 (v := (-1)) hx hb hown (htw _ m_322) dD_foretellByLastThree_71 ?_
        have hP : va_P (dC, dI) vwCl [(rg, .inr (2, [.ref qrd, .ref qrv, .int (nI rn)])), (qrv, .inl (cJ, 20, .inr (.inl rv)))] H := by first | exact hP | simpa only [] using hP
        have hD : va_D A [(rg, .inr (2, [.ref qrd, .ref qrv, .int (nI rn)])), (qrv, .inl (cJ, 20, .inr (.inl rv)))] := by first | exact hD | simpa only [] using hD
        exact W.lret (v := (-1)) hx hb hr (fun t ht hW => ⟨⟨(-1), (), rfl, by unfold k_f0; rw [if_neg (by omega), if_pos (by first | exact Or.inl (Classical.not_not.mp hc53) | exact Or.inr (Or.inl (Classical.not_not.mp hc60)) | exact Or.inr (Or.inr (Classical.not_not.mp hc68)))], by rw [ht]; exact hP, va_K.moved hW.alike hK, hD⟩, hS.F ht⟩) hS.2.2 dD_foretellByLastThree_74
      · -- 60 not taken
        rw [kb_eq0] at hc60
        refine lv_lload hx hb dD_foretellByLastThree_63 (lv_at hl 0 rfl) ?_
        have hPc := hP.sub (ws' := []) [] rfl
        have hDc := hD.sub (ws' := []) [] (by decide) rfl
        have hFc := va_free (wc := []) hD hS hA [] rfl
        refine va_calli (va_runS (As := [.long (rv (rn - 1))]) (rest := []) ⟨hx, hb, hml, hown, htw⟩ (kD_tooGreat l dC dI cI cJ H.size (rv (rn - 1))) (va_cwS 1 htw (ws_good m_323 m_324 m_4 m_325) rfl rfl rfl (by decide +kernel) ⟨Nat.le_of_ble_eq_true rfl, Nat.le_of_ble_eq_true rfl⟩) ⟨fun a U g mk q => by obtain ⟨q0, q1, qP, qK, qD⟩ := q; exact ⟨q0, q1, qP, va_K.moved (u := U) (U := U.calling g mk a) (Vm.Alike.refl U.vm) qK, qD⟩, fun U hU hW => ⟨rfl, by rw [hU], by rw [hU]; exact hPc, va_K.moved hW.alike hK, hDc.weaken (fun _ _ _ _ => trivial)⟩⟩ rfl rfl hl.1 rfl (lv_room (Nat.le_of_ble_eq_true rfl)) dD_foretellByLastThree_65 ⟨Nat.le_of_ble_eq_true rfl, Nat.le_of_ble_eq_true rfl⟩) hS (fun q _ h => hFc q h) hFc (fun res_ u_ t H1 locs ht hvm hw hB hz1 hk1 hS => ?_)
        obtain ⟨hP1, hK1, hD1⟩ := hB
        rw [ht] at hP1
        obtain ⟨hP, hD⟩ := va_join (wr := [(rg, .inr (2, [.ref qrd, .ref qrv, .int (nI rn)])), (qrv, .inl (cJ, 20, .inr (.inl rv)))]) (w1 := []) hP hD [] [0, 1] rfl rfl (by decide) (by decide) hk1 hFc hP1 hD1
        generalize H1 = H at hP hS ⊢
        have hP : va_P (dC, dI) vwCl [(rg, .inr (2, [.ref qrd, .ref qrv, .int (nI rn)])), (qrv, .inl (cJ, 20, .inr (.inl rv)))] H := hP
        have hD : va_D A [(rg, .inr (2, [.ref qrd, .ref qrv, .int (nI rn)])), (qrv, .inl (cJ, 20, .inr (.inl rv)))] := hD
        clear hPc hDc hFc hP1 hD1 hK1 hk1 hz1 hvm ht
        obtain rfl : kb (100000000 < (rv (rn - 1))) = res_ := hw.symm
        refine lv_if_eq (tgt := 75) hx hb dD_foretellByLastThree_68 (by decide) (fun hc68 => ?_) (fun hc68 => ?_)
        · -- 68 taken
          rw [kb_eq0] at hc68
          refine lv_lload_n hx hb dD_foretellByLastThree_75 rfl (lv_at hl 1 rfl) ?_
          refine lv_lload_n hx hb dD_foretellByLastThree_76 rfl (lv_at hl 1 rfl) ?_
          refine lv_lmul hx hb dD_foretellByLastThree_77 ?_
          refine lv_lload_n hx hb dD_foretellByLastThree_78 rfl (lv_at hl 2 rfl) ?_
          refine lv_lload hx hb dD_foretellByLastThree_79 (lv_at hl 0 rfl) ?_
          refine lv_lmul hx hb dD_foretellByLastThree_81 ?_
          refine lv_lsub hx hb dD_foretellByLastThree_82 ?_
          refine lv_ldc2 (v := 2) hx hb hown (htw _ m_327) dD_foretellByLastThree_83 ?_
          refine lv_lload_n hx hb dD_foretellByLastThree_86 rfl (lv_at hl 1 rfl) ?_
          refine lv_lmul hx hb dD_foretellByLastThree_87 ?_
          refine lv_lload_n hx hb dD_foretellByLastThree_88 rfl (lv_at hl 2 rfl) ?_
          refine lv_lsub hx hb dD_foretellByLastThree_89 ?_
          refine lv_lload hx hb dD_foretellByLastThree_90 (lv_at hl 0 rfl) ?_
          refine lv_lsub hx hb dD_foretellByLastThree_92 ?_
          have hPc := hP.sub (ws' := []) [] rfl
          have hDc := hD.sub (ws' := []) [] (by decide) rfl
          have hFc := va_free (wc := []) hD hS hA [] rfl
          refine va_calll (va_runS (As := [.long (((rv (rn - 2)) * (rv (rn - 2))) - ((rv (rn - 3)) * (rv (rn - 1)))), .long (((2 * (rv (rn - 2))) - (rv (rn - 3))) - (rv (rn - 1)))]) (rest := []) ⟨hx, hb, hml, hown, htw⟩ (kD_quotient l dC dI cI cJ H.size (((rv (rn - 2)) * (rv (rn - 2))) - ((rv (rn - 3)) * (rv (rn - 1)))) (((2 * (rv (rn - 2))) - (rv (rn - 3))) - (rv (rn - 1)))) (va_cwS 2 htw (ws_good m_328 m_329 m_4 m_330) rfl rfl rfl (by decide +kernel) ⟨Nat.le_of_ble_eq_true rfl, Nat.le_of_ble_eq_true rfl⟩) ⟨fun a U g mk q => by obtain ⟨q0, q1, qP, qK, qD⟩ := q; exact ⟨q0, q1, qP, va_K.moved (u := U) (U := U.calling g mk a) (Vm.Alike.refl U.vm) qK, qD⟩, fun U hU hW => ⟨rfl, by rw [hU], by rw [hU]; exact hPc, va_K.moved hW.alike hK, hDc.weaken (fun _ _ _ _ => trivial)⟩⟩ rfl rfl hl.1 rfl (lv_room (Nat.le_of_ble_eq_true rfl)) dD_foretellByLastThree_93 ⟨Nat.le_of_ble_eq_true rfl, Nat.le_of_ble_eq_true rfl⟩) hS (fun q _ h => hFc q h) hFc (fun res_ u_ t H1 locs ht hvm hw hB hz1 hk1 hS => ?_)
          obtain ⟨hP1, hK1, hD1⟩ := hB
          rw [ht] at hP1
          obtain ⟨hP, hD⟩ := va_join (wr := [(rg, .inr (2, [.ref qrd, .ref qrv, .int (nI rn)])), (qrv, .inl (cJ, 20, .inr (.inl rv)))]) (w1 := []) hP hD [] [0, 1] rfl rfl (by decide) (by decide) hk1 hFc hP1 hD1
          generalize H1 = H at hP hS ⊢
          have hP : va_P (dC, dI) vwCl [(rg, .inr (2, [.ref qrd, .ref qrv, .int (nI rn)])), (qrv, .inl (cJ, 20, .inr (.inl rv)))] H := hP
          have hD : va_D A [(rg, .inr (2, [.ref qrd, .ref qrv, .int (nI rn)])), (qrv, .inl (cJ, 20, .inr (.inl rv)))] := hD
          clear hPc hDc hFc hP1 hD1 hK1 hk1 hz1 hvm ht
          obtain rfl : k_quo (((rv (rn - 2)) * (rv (rn - 2))) - ((rv (rn - 3)) * (rv (rn - 1)))) (((2 * (rv (rn - 2))) - (rv (rn - 3))) - (rv (rn - 1))) = res_ := hw.symm
          have hP : va_P (dC, dI) vwCl [(rg, .inr (2, [.ref qrd, .ref qrv, .int (nI rn)])), (qrv, .inl (cJ, 20, .inr (.inl rv)))] H := by first | exact hP | simpa only [] using hP
          have hD : va_D A [(rg, .inr (2, [.ref qrd, .ref qrv, .int (nI rn)])), (qrv, .inl (cJ, 20, .inr (.inl rv)))] := by first | exact hD | simpa only [] using hD
          exact W.lret (v := k_quo (((rv (rn - 2)) * (rv (rn - 2))) - ((rv (rn - 3)) * (rv (rn - 1)))) (((2 * (rv (rn - 2))) - (rv (rn - 3))) - (rv (rn - 1)))) hx hb hr (fun t ht hW => ⟨⟨k_quo (((rv (rn - 2)) * (rv (rn - 2))) - ((rv (rn - 3)) * (rv (rn - 1)))) (((2 * (rv (rn - 2))) - (rv (rn - 3))) - (rv (rn - 1))), (), rfl, by unfold k_f0; rw [if_neg (by omega), if_neg (fun h => h.elim hc53 (fun h => h.elim hc60 hc68))], by rw [ht]; exact hP, va_K.moved hW.alike hK, hD⟩, hS.F ht⟩) hS.2.2 dD_foretellByLastThree_96
        · -- 68 not taken
          rw [kb_eq0] at hc68
          refine lv_ldc2 (v := (-1)) hx hb hown (htw _ m_322) dD_foretellByLastThree_71 ?_
          have hP : va_P (dC, dI) vwCl [(rg, .inr (2, [.ref qrd, .ref qrv, .int (nI rn)])), (qrv, .inl (cJ, 20, .inr (.inl rv)))] H := by first | exact hP | simpa only [] using hP
          have hD : va_D A [(rg, .inr (2, [.ref qrd, .ref qrv, .int (nI rn)])), (qrv, .inl (cJ, 20, .inr (.inl rv)))] := by first | exact hD | simpa only [] using hD
          exact W.lret (v := (-1)) hx hb hr (fun t ht hW => ⟨⟨(-1), (), rfl, by unfold k_f0; rw [if_neg (by omega), if_pos (by first | exact Or.inl (Classical.not_not.mp hc53) | exact Or.inr (Or.inl (Classical.not_not.mp hc60)) | exact Or.inr (Or.inr (Classical.not_not.mp hc68)))], by rw [ht]; exact hP, va_K.moved hW.alike hK, hD⟩, hS.F ht⟩) hS.2.2 dD_foretellByLastThree_74
  · -- 5 not taken
    rw [nI_leI (by omega) (by omega)] at hc5
    refine lv_ldc2 (v := (-1)) hx hb hown (htw _ m_322) dD_foretellByLastThree_8 ?_
    have hP : va_P (dC, dI) vwCl [(rg, .inr (2, [.ref qrd, .ref qrv, .int (nI rn)])), (qrv, .inl (cJ, 20, .inr (.inl rv)))] s.heap := by first | exact hP | simpa only [] using hP
    have hD : va_D A [(rg, .inr (2, [.ref qrd, .ref qrv, .int (nI rn)])), (qrv, .inl (cJ, 20, .inr (.inl rv)))] := by first | exact hD | simpa only [] using hD
    exact W.lret (v := (-1)) hx hb hr (fun t ht hW => ⟨⟨(-1), (), rfl, by unfold k_f0; rw [if_pos (by omega)], by rw [ht]; exact hP, va_K.moved hW.alike hK, hD⟩, hS.F ht⟩) hS.2.2 dD_foretellByLastThree_11
set_option maxHeartbeats 4000000 in
set_option maxRecDepth 100000 in
theorem kD_foretellByLastTwo (l : Launch) (dC : Nat → ClassId) (dI : Nat → Nat → Nat) (cI cJ : ClassId) (rg qrd qrv : Nat) (sz : Nat) (rn : Nat) (rd : Nat → Int32) (rv : Nat → Int64) (hrn : rn ≤ 20) : Met l yD_foretellByLastTwo wD_foretellByLastTwo ({ frames := 1, cells := 0, slots := 0, locals := 23 }) (va_Pc [.ref rg] (fun U => U.heap.size = sz ∧ va_P (dC, dI) vwCl [(rg, .inr (2, [.ref qrd, .ref qrv, .int (nI rn)])), (qrd, .inl (cI, 20, .inl rd)), (qrv, .inl (cJ, 20, .inr (.inl rv)))] U.heap ∧ va_K (dC, dI) vwCl [(cI, .int), (cJ, .long)] U ∧ va_D (fun _ => True) [(rg, .inr (2, [.ref qrd, .ref qrv, .int (nI rn)])), (qrd, .inl (cI, 20, .inl rd)), (qrv, .inl (cJ, 20, .inr (.inl rv)))])) (va_Ql (fun res_ (_ : Unit) => res_ = k_f1 rd rv rn) (fun _ t => va_P (dC, dI) vwCl [(rg, .inr (2, [.ref qrd, .ref qrv, .int (nI rn)])), (qrd, .inl (cI, 20, .inl rd)), (qrv, .inl (cJ, 20, .inr (.inl rv)))] t.heap ∧ va_K (dC, dI) vwCl [(cI, .int), (cJ, .long)] t ∧ va_D (va_A [(rg, .inr (2, [.ref qrd, .ref qrv, .int (nI rn)])), (qrd, .inl (cI, 20, .inl rd)), (qrv, .inl (cJ, 20, .inr (.inl rv)))] sz) [(rg, .inr (2, [.ref qrd, .ref qrv, .int (nI rn)])), (qrd, .inl (cI, 20, .inl rd)), (qrv, .inl (cJ, 20, .inr (.inl rv)))]) (va_A [(rg, .inr (2, [.ref qrd, .ref qrv, .int (nI rn)])), (qrd, .inl (cI, 20, .inl rd)), (qrv, .inl (cJ, 20, .inr (.inl rv)))] sz)) 0 0 (va_A [(rg, .inr (2, [.ref qrd, .ref qrv, .int (nI rn)])), (qrd, .inl (cI, 20, .inl rd)), (qrv, .inl (cJ, 20, .inr (.inl rv)))] sz) := by
  refine Met.ofW (cc := bD_foretellByLastTwo) (maxL := 9) (ret := (some .long)) (by decide) rfl ?_
  intro p e s m args below meth c s₁ B hml hv
  obtain ⟨rfl, hsz, hP, hK, hD0⟩ := hv
  have hx := B.exec
  have hb := B.bytes
  have hr := B.returns
  have hts := atoms_spec (ws := wD_foretellByLastTwo) B.pre
  have hown : s.vm.findClass R_D = some m.cls := findClass_of_methodNamed B.named
  have htw : ∀ w ∈ WA, w.before _ s = true := fun w h => hts w (List.mem_cons_of_mem _ h)
  clear hts
  have hlocks := B.notSynchronized
  subst hsz
  have hD := hD0.self (sz := s.heap.size)
  generalize hAe : va_A [(rg, .inr (2, [.ref qrd, .ref qrv, .int (nI rn)])), (qrd, .inl (cI, 20, .inl rd)), (qrv, .inl (cJ, 20, .inr (.inl rv)))] s.heap.size = A at hD ⊢
  have hA : ∀ q : Nat, s.heap.size ≤ q → A q := fun q h => by rw [← hAe]; exact Or.inr h
  clear hAe hD0
  have hS : va_S A s.heap s.heap [] := va_S.rf
  have hP : va_P (dC, dI) vwCl [(rg, .inr (2, [.ref qrd, .ref qrv, .int (nI rn)])), (qrd, .inl (cI, 20, .inl rd)), (qrv, .inl (cJ, 20, .inr (.inl rv)))] s.heap := hP
  have hl := lv_entry ([.ref rg]) (n := 9) (Nat.le_of_ble_eq_true rfl)
  rw [lg_entry_eq]
  generalize (lg_sl ([.ref rg]) ++ List.replicate (9 - (lg_sl ([.ref rg])).length) Slot.unset).toArray = ls at hl ⊢
  have hl : lv_has ls 9 [(0, .ref rg)] := hl
  refine lv_aload_n hx hb dD_foretellByLastTwo_0 rfl (lv_at hl 0 rfl) ?_
  refine va_get (D := (dC, dI)) (ci := 2) (v := .int (nI rn)) (C := R_D) (T := T_D) (N := 3) hx hb htw in_D hown hK hP 0 rfl rfl 2 (by decide) (htw _ m_98) (fun _ h9 => h9) rfl dD_foretellByLastTwo_1 ?_
  refine lv_iconst (v := nI 2) hx hb dD_foretellByLastTwo_4 (by decide) ?_
  refine lv_icmp_ge (tgt := 12) hx hb dD_foretellByLastTwo_5 (by decide) (fun hc5 => ?_) (fun hc5 => ?_)
  · -- 5 taken
    rw [nI_leI (by omega) (by omega)] at hc5
    refine lv_aload_n hx hb dD_foretellByLastTwo_12 rfl (lv_at hl 0 rfl) ?_
    refine va_get (D := (dC, dI)) (ci := 2) (v := .ref qrv) (C := R_D) (T := T_D) (N := 3) hx hb htw in_D hown hK hP 0 rfl rfl 1 (by decide) (htw _ m_96) (fun _ h9 => h9) rfl dD_foretellByLastTwo_13 ?_
    refine lv_aload_n hx hb dD_foretellByLastTwo_16 rfl (lv_at hl 0 rfl) ?_
    refine va_get (D := (dC, dI)) (ci := 2) (v := .int (nI rn)) (C := R_D) (T := T_D) (N := 3) hx hb htw in_D hown hK hP 0 rfl rfl 2 (by decide) (htw _ m_98) (fun _ h9 => h9) rfl dD_foretellByLastTwo_17 ?_
    refine lv_iconst (v := nI 2) hx hb dD_foretellByLastTwo_20 (by decide) ?_
    refine lv_isub hx hb dD_foretellByLastTwo_21 ?_
    refine lv_topi (fun kv ekv => ?_)
    obtain rfl : kv = nI (rn - 2) := by rw [ekv]; exact pk_sub (by omega)
    refine xa_lald hx hb hK hP 2 1 rfl rfl (i := (rn - 2)) (by omega) (by decide) dD_foretellByLastTwo_22 ?_
    refine lv_lstore_n (lv' := [(1, .long (rv (rn - 2))), (0, .ref rg)]) hx hb dD_foretellByLastTwo_23 rfl hl (by decide) rfl (fun ls hl => ?_)
    refine lv_aload_n hx hb dD_foretellByLastTwo_24 rfl (lv_at hl 1 rfl) ?_
    refine va_get (D := (dC, dI)) (ci := 2) (v := .ref qrv) (C := R_D) (T := T_D) (N := 3) hx hb htw in_D hown hK hP 0 rfl rfl 1 (by decide) (htw _ m_96) (fun _ h9 => h9) rfl dD_foretellByLastTwo_25 ?_
    refine lv_aload_n hx hb dD_foretellByLastTwo_28 rfl (lv_at hl 1 rfl) ?_
    refine va_get (D := (dC, dI)) (ci := 2) (v := .int (nI rn)) (C := R_D) (T := T_D) (N := 3) hx hb htw in_D hown hK hP 0 rfl rfl 2 (by decide) (htw _ m_98) (fun _ h9 => h9) rfl dD_foretellByLastTwo_29 ?_
    refine lv_iconst (v := nI 1) hx hb dD_foretellByLastTwo_32 (by decide) ?_
    refine lv_isub hx hb dD_foretellByLastTwo_33 ?_
    refine lv_topi (fun kv ekv => ?_)
    obtain rfl : kv = nI (rn - 1) := by rw [ekv]; exact pk_sub (by omega)
    refine xa_lald hx hb hK hP 2 1 rfl rfl (i := (rn - 1)) (by omega) (by decide) dD_foretellByLastTwo_34 ?_
    refine lv_lstore_n (lv' := [(3, .long (rv (rn - 1))), (1, .long (rv (rn - 2))), (0, .ref rg)]) hx hb dD_foretellByLastTwo_35 rfl hl (by decide) rfl (fun ls hl => ?_)
    refine lv_aload_n hx hb dD_foretellByLastTwo_36 rfl (lv_at hl 2 rfl) ?_
    refine va_get (D := (dC, dI)) (ci := 2) (v := .ref qrd) (C := R_D) (T := T_D) (N := 3) hx hb htw in_D hown hK hP 0 rfl rfl 0 (by decide) (htw _ m_94) (fun _ h9 => h9) rfl dD_foretellByLastTwo_37 ?_
    refine lv_aload_n hx hb dD_foretellByLastTwo_40 rfl (lv_at hl 2 rfl) ?_
    refine va_get (D := (dC, dI)) (ci := 2) (v := .int (nI rn)) (C := R_D) (T := T_D) (N := 3) hx hb htw in_D hown hK hP 0 rfl rfl 2 (by decide) (htw _ m_98) (fun _ h9 => h9) rfl dD_foretellByLastTwo_41 ?_
    refine lv_iconst (v := nI 2) hx hb dD_foretellByLastTwo_44 (by decide) ?_
    refine lv_isub hx hb dD_foretellByLastTwo_45 ?_
    refine lv_topi (fun kv ekv => ?_)
    obtain rfl : kv = nI (rn - 2) := by rw [ekv]; exact pk_sub (by omega)
    refine xa_iald hx hb hK hP 1 0 rfl rfl (i := (rn - 2)) (by omega) (by decide) dD_foretellByLastTwo_46 ?_
    refine lv_i2l (v := (rd (rn - 2)).toInt64) hx hb dD_foretellByLastTwo_47 rfl ?_
    refine lv_lstore (lv' := [(5, .long ((rd (rn - 2)).toInt64)), (3, .long (rv (rn - 1))), (1, .long (rv (rn - 2))), (0, .ref rg)]) hx hb dD_foretellByLastTwo_48 hl (by decide) rfl (fun ls hl => ?_)
    refine lv_aload_n hx hb dD_foretellByLastTwo_50 rfl (lv_at hl 3 rfl) ?_
    refine va_get (D := (dC, dI)) (ci := 2) (v := .ref qrd) (C := R_D) (T := T_D) (N := 3) hx hb htw in_D hown hK hP 0 rfl rfl 0 (by decide) (htw _ m_94) (fun _ h9 => h9) rfl dD_foretellByLastTwo_51 ?_
    refine lv_aload_n hx hb dD_foretellByLastTwo_54 rfl (lv_at hl 3 rfl) ?_
    refine va_get (D := (dC, dI)) (ci := 2) (v := .int (nI rn)) (C := R_D) (T := T_D) (N := 3) hx hb htw in_D hown hK hP 0 rfl rfl 2 (by decide) (htw _ m_98) (fun _ h9 => h9) rfl dD_foretellByLastTwo_55 ?_
    refine lv_iconst (v := nI 1) hx hb dD_foretellByLastTwo_58 (by decide) ?_
    refine lv_isub hx hb dD_foretellByLastTwo_59 ?_
    refine lv_topi (fun kv ekv => ?_)
    obtain rfl : kv = nI (rn - 1) := by rw [ekv]; exact pk_sub (by omega)
    refine xa_iald hx hb hK hP 1 0 rfl rfl (i := (rn - 1)) (by omega) (by decide) dD_foretellByLastTwo_60 ?_
    refine lv_i2l (v := (rd (rn - 1)).toInt64) hx hb dD_foretellByLastTwo_61 rfl ?_
    refine lv_lstore (lv' := [(7, .long ((rd (rn - 1)).toInt64)), (5, .long ((rd (rn - 2)).toInt64)), (3, .long (rv (rn - 1))), (1, .long (rv (rn - 2))), (0, .ref rg)]) hx hb dD_foretellByLastTwo_62 hl (by decide) rfl (fun ls hl => ?_)
    refine lv_lload_n hx hb dD_foretellByLastTwo_64 rfl (lv_at hl 3 rfl) ?_
    have hPc := hP.sub (ws' := []) [] rfl
    have hDc := hD.sub (ws' := []) [] (by decide) rfl
    have hFc := va_free (wc := []) hD hS hA [] rfl
    refine va_calli (va_runS (As := [.long (rv (rn - 2))]) (rest := []) ⟨hx, hb, hml, hown, htw⟩ (kD_tooGreat l dC dI cI cJ s.heap.size (rv (rn - 2))) (va_cwS 1 htw (ws_good m_323 m_324 m_4 m_325) rfl rfl rfl (by decide +kernel) ⟨Nat.le_of_ble_eq_true rfl, Nat.le_of_ble_eq_true rfl⟩) ⟨fun a U g mk q => by obtain ⟨q0, q1, qP, qK, qD⟩ := q; exact ⟨q0, q1, qP, va_K.moved (u := U) (U := U.calling g mk a) (Vm.Alike.refl U.vm) qK, qD⟩, fun U hU hW => ⟨rfl, by rw [hU], by rw [hU]; exact hPc, va_K.moved hW.alike hK, hDc.weaken (fun _ _ _ _ => trivial)⟩⟩ rfl rfl hl.1 rfl (lv_room (Nat.le_of_ble_eq_true rfl)) dD_foretellByLastTwo_65 ⟨Nat.le_of_ble_eq_true rfl, Nat.le_of_ble_eq_true rfl⟩) hS (fun q _ h => hFc q h) hFc (fun res_ u_ t H1 locs ht hvm hw hB hz1 hk1 hS => ?_)
    obtain ⟨hP1, hK1, hD1⟩ := hB
    rw [ht] at hP1
    obtain ⟨hP, hD⟩ := va_join (wr := [(rg, .inr (2, [.ref qrd, .ref qrv, .int (nI rn)])), (qrd, .inl (cI, 20, .inl rd)), (qrv, .inl (cJ, 20, .inr (.inl rv)))]) (w1 := []) hP hD [] [0, 1, 2] rfl rfl (by decide) (by decide) hk1 hFc hP1 hD1
    generalize H1 = H at hP hS ⊢
    have hP : va_P (dC, dI) vwCl [(rg, .inr (2, [.ref qrd, .ref qrv, .int (nI rn)])), (qrd, .inl (cI, 20, .inl rd)), (qrv, .inl (cJ, 20, .inr (.inl rv)))] H := hP
    have hD : va_D A [(rg, .inr (2, [.ref qrd, .ref qrv, .int (nI rn)])), (qrd, .inl (cI, 20, .inl rd)), (qrv, .inl (cJ, 20, .inr (.inl rv)))] := hD
    clear hPc hDc hFc hP1 hD1 hK1 hk1 hz1 hvm ht
    obtain rfl : kb (100000000 < (rv (rn - 2))) = res_ := hw.symm
    refine lv_if_ne (tgt := 78) hx hb dD_foretellByLastTwo_68 (by decide) (fun hc68 => ?_) (fun hc68 => ?_)
    · -- 68 taken
      rw [kb_eq0] at hc68
      refine lv_ldc2 (v := (-1)) hx hb hown (htw _ m_322) dD_foretellByLastTwo_78 ?_
      have hP : va_P (dC, dI) vwCl [(rg, .inr (2, [.ref qrd, .ref qrv, .int (nI rn)])), (qrd, .inl (cI, 20, .inl rd)), (qrv, .inl (cJ, 20, .inr (.inl rv)))] H := by first | exact hP | simpa only [] using hP
      have hD : va_D A [(rg, .inr (2, [.ref qrd, .ref qrv, .int (nI rn)])), (qrd, .inl (cI, 20, .inl rd)), (qrv, .inl (cJ, 20, .inr (.inl rv)))] := by first | exact hD | simpa only [] using hD
      exact W.lret (v := (-1)) hx hb hr (fun t ht hW => ⟨⟨(-1), (), rfl, by unfold k_f1; rw [if_neg (by omega), if_pos (by first | exact Or.inl (Classical.not_not.mp hc68) | exact Or.inr (Classical.not_not.mp hc75))], by rw [ht]; exact hP, va_K.moved hW.alike hK, hD⟩, hS.F ht⟩) hS.2.2 dD_foretellByLastTwo_81
    · -- 68 not taken
      rw [kb_eq0] at hc68
      refine lv_lload_n hx hb dD_foretellByLastTwo_71 rfl (lv_at hl 2 rfl) ?_
      have hPc := hP.sub (ws' := []) [] rfl
      have hDc := hD.sub (ws' := []) [] (by decide) rfl
      have hFc := va_free (wc := []) hD hS hA [] rfl
      refine va_calli (va_runS (As := [.long (rv (rn - 1))]) (rest := []) ⟨hx, hb, hml, hown, htw⟩ (kD_tooGreat l dC dI cI cJ H.size (rv (rn - 1))) (va_cwS 1 htw (ws_good m_323 m_324 m_4 m_325) rfl rfl rfl (by decide +kernel) ⟨Nat.le_of_ble_eq_true rfl, Nat.le_of_ble_eq_true rfl⟩) ⟨fun a U g mk q => by obtain ⟨q0, q1, qP, qK, qD⟩ := q; exact ⟨q0, q1, qP, va_K.moved (u := U) (U := U.calling g mk a) (Vm.Alike.refl U.vm) qK, qD⟩, fun U hU hW => ⟨rfl, by rw [hU], by rw [hU]; exact hPc, va_K.moved hW.alike hK, hDc.weaken (fun _ _ _ _ => trivial)⟩⟩ rfl rfl hl.1 rfl (lv_room (Nat.le_of_ble_eq_true rfl)) dD_foretellByLastTwo_72 ⟨Nat.le_of_ble_eq_true rfl, Nat.le_of_ble_eq_true rfl⟩) hS (fun q _ h => hFc q h) hFc (fun res_ u_ t H1 locs ht hvm hw hB hz1 hk1 hS => ?_)
      obtain ⟨hP1, hK1, hD1⟩ := hB
      rw [ht] at hP1
      obtain ⟨hP, hD⟩ := va_join (wr := [(rg, .inr (2, [.ref qrd, .ref qrv, .int (nI rn)])), (qrd, .inl (cI, 20, .inl rd)), (qrv, .inl (cJ, 20, .inr (.inl rv)))]) (w1 := []) hP hD [] [0, 1, 2] rfl rfl (by decide) (by decide) hk1 hFc hP1 hD1
      generalize H1 = H at hP hS ⊢
      have hP : va_P (dC, dI) vwCl [(rg, .inr (2, [.ref qrd, .ref qrv, .int (nI rn)])), (qrd, .inl (cI, 20, .inl rd)), (qrv, .inl (cJ, 20, .inr (.inl rv)))] H := hP
      have hD : va_D A [(rg, .inr (2, [.ref qrd, .ref qrv, .int (nI rn)])), (qrd, .inl (cI, 20, .inl rd)), (qrv, .inl (cJ, 20, .inr (.inl rv)))] := hD
      clear hPc hDc hFc hP1 hD1 hK1 hk1 hz1 hvm ht
      obtain rfl : kb (100000000 < (rv (rn - 1))) = res_ := hw.symm
      refine lv_if_eq (tgt := 82) hx hb dD_foretellByLastTwo_75 (by decide) (fun hc75 => ?_) (fun hc75 => ?_)
      · -- 75 taken
        rw [kb_eq0] at hc75
        refine lv_lload hx hb dD_foretellByLastTwo_82 (lv_at hl 0 rfl) ?_
        refine lv_lload hx hb dD_foretellByLastTwo_84 (lv_at hl 1 rfl) ?_
        refine lv_lsub hx hb dD_foretellByLastTwo_86 ?_
        refine lv_lload_n hx hb dD_foretellByLastTwo_87 rfl (lv_at hl 3 rfl) ?_
        refine lv_lmul hx hb dD_foretellByLastTwo_88 ?_
        refine lv_lload_n hx hb dD_foretellByLastTwo_89 rfl (lv_at hl 2 rfl) ?_
        refine lv_lmul hx hb dD_foretellByLastTwo_90 ?_
        refine lv_lload hx hb dD_foretellByLastTwo_91 (lv_at hl 0 rfl) ?_
        refine lv_lload_n hx hb dD_foretellByLastTwo_93 rfl (lv_at hl 3 rfl) ?_
        refine lv_lmul hx hb dD_foretellByLastTwo_94 ?_
        refine lv_lload hx hb dD_foretellByLastTwo_95 (lv_at hl 1 rfl) ?_
        refine lv_lload_n hx hb dD_foretellByLastTwo_97 rfl (lv_at hl 2 rfl) ?_
        refine lv_lmul hx hb dD_foretellByLastTwo_98 ?_
        refine lv_lsub hx hb dD_foretellByLastTwo_99 ?_
        have hPc := hP.sub (ws' := []) [] rfl
        have hDc := hD.sub (ws' := []) [] (by decide) rfl
        have hFc := va_free (wc := []) hD hS hA [] rfl
        refine va_calll (va_runS (As := [.long (((((rd (rn - 1)).toInt64) - ((rd (rn - 2)).toInt64)) * (rv (rn - 2))) * (rv (rn - 1))), .long ((((rd (rn - 1)).toInt64) * (rv (rn - 2))) - (((rd (rn - 2)).toInt64) * (rv (rn - 1))))]) (rest := []) ⟨hx, hb, hml, hown, htw⟩ (kD_quotient l dC dI cI cJ H.size (((((rd (rn - 1)).toInt64) - ((rd (rn - 2)).toInt64)) * (rv (rn - 2))) * (rv (rn - 1))) ((((rd (rn - 1)).toInt64) * (rv (rn - 2))) - (((rd (rn - 2)).toInt64) * (rv (rn - 1))))) (va_cwS 2 htw (ws_good m_328 m_329 m_4 m_330) rfl rfl rfl (by decide +kernel) ⟨Nat.le_of_ble_eq_true rfl, Nat.le_of_ble_eq_true rfl⟩) ⟨fun a U g mk q => by obtain ⟨q0, q1, qP, qK, qD⟩ := q; exact ⟨q0, q1, qP, va_K.moved (u := U) (U := U.calling g mk a) (Vm.Alike.refl U.vm) qK, qD⟩, fun U hU hW => ⟨rfl, by rw [hU], by rw [hU]; exact hPc, va_K.moved hW.alike hK, hDc.weaken (fun _ _ _ _ => trivial)⟩⟩ rfl rfl hl.1 rfl (lv_room (Nat.le_of_ble_eq_true rfl)) dD_foretellByLastTwo_100 ⟨Nat.le_of_ble_eq_true rfl, Nat.le_of_ble_eq_true rfl⟩) hS (fun q _ h => hFc q h) hFc (fun res_ u_ t H1 locs ht hvm hw hB hz1 hk1 hS => ?_)
        obtain ⟨hP1, hK1, hD1⟩ := hB
        rw [ht] at hP1
        obtain ⟨hP, hD⟩ := va_join (wr := [(rg, .inr (2, [.ref qrd, .ref qrv, .int (nI rn)])), (qrd, .inl (cI, 20, .inl rd)), (qrv, .inl (cJ, 20, .inr (.inl rv)))]) (w1 := []) hP hD [] [0, 1, 2] rfl rfl (by decide) (by decide) hk1 hFc hP1 hD1
        generalize H1 = H at hP hS ⊢
        have hP : va_P (dC, dI) vwCl [(rg, .inr (2, [.ref qrd, .ref qrv, .int (nI rn)])), (qrd, .inl (cI, 20, .inl rd)), (qrv, .inl (cJ, 20, .inr (.inl rv)))] H := hP
        have hD : va_D A [(rg, .inr (2, [.ref qrd, .ref qrv, .int (nI rn)])), (qrd, .inl (cI, 20, .inl rd)), (qrv, .inl (cJ, 20, .inr (.inl rv)))] := hD
        clear hPc hDc hFc hP1 hD1 hK1 hk1 hz1 hvm ht
        obtain rfl : k_quo (((((rd (rn - 1)).toInt64) - ((rd (rn - 2)).toInt64)) * (rv (rn - 2))) * (rv (rn - 1))) ((((rd (rn - 1)).toInt64) * (rv (rn - 2))) - (((rd (rn - 2)).toInt64) * (rv (rn - 1)))) = res_ := hw.symm
        have hP : va_P (dC, dI) vwCl [(rg, .inr (2, [.ref qrd, .ref qrv, .int (nI rn)])), (qrd, .inl (cI, 20, .inl rd)), (qrv, .inl (cJ, 20, .inr (.inl rv)))] H := by first | exact hP | simpa only [] using hP
        have hD : va_D A [(rg, .inr (2, [.ref qrd, .ref qrv, .int (nI rn)])), (qrd, .inl (cI, 20, .inl rd)), (qrv, .inl (cJ, 20, .inr (.inl rv)))] := by first | exact hD | simpa only [] using hD
        exact W.lret (v := k_quo (((((rd (rn - 1)).toInt64) - ((rd (rn - 2)).toInt64)) * (rv (rn - 2))) * (rv (rn - 1))) ((((rd (rn - 1)).toInt64) * (rv (rn - 2))) - (((rd (rn - 2)).toInt64) * (rv (rn - 1))))) hx hb hr (fun t ht hW => ⟨⟨k_quo (((((rd (rn - 1)).toInt64) - ((rd (rn - 2)).toInt64)) * (rv (rn - 2))) * (rv (rn - 1))) ((((rd (rn - 1)).toInt64) * (rv (rn - 2))) - (((rd (rn - 2)).toInt64) * (rv (rn - 1)))), (), rfl, by unfold k_f1; rw [if_neg (by omega), if_neg (fun h => h.elim hc68 hc75)], by rw [ht]; exact hP, va_K.moved hW.alike hK, hD⟩, hS.F ht⟩) hS.2.2 dD_foretellByLastTwo_103
      · -- 75 not taken
        rw [kb_eq0] at hc75
        refine lv_ldc2 (v := (-1)) hx hb hown (htw _ m_322) dD_foretellByLastTwo_78 ?_
        have hP : va_P (dC, dI) vwCl [(rg, .inr (2, [.ref qrd, .ref qrv, .int (nI rn)])), (qrd, .inl (cI, 20, .inl rd)), (qrv, .inl (cJ, 20, .inr (.inl rv)))] H := by first | exact hP | simpa only [] using hP
        have hD : va_D A [(rg, .inr (2, [.ref qrd, .ref qrv, .int (nI rn)])), (qrd, .inl (cI, 20, .inl rd)), (qrv, .inl (cJ, 20, .inr (.inl rv)))] := by first | exact hD | simpa only [] using hD
        exact W.lret (v := (-1)) hx hb hr (fun t ht hW => ⟨⟨(-1), (), rfl, by unfold k_f1; rw [if_neg (by omega), if_pos (by first | exact Or.inl (Classical.not_not.mp hc68) | exact Or.inr (Classical.not_not.mp hc75))], by rw [ht]; exact hP, va_K.moved hW.alike hK, hD⟩, hS.F ht⟩) hS.2.2 dD_foretellByLastTwo_81
  · -- 5 not taken
    rw [nI_leI (by omega) (by omega)] at hc5
    refine lv_ldc2 (v := (-1)) hx hb hown (htw _ m_322) dD_foretellByLastTwo_8 ?_
    have hP : va_P (dC, dI) vwCl [(rg, .inr (2, [.ref qrd, .ref qrv, .int (nI rn)])), (qrd, .inl (cI, 20, .inl rd)), (qrv, .inl (cJ, 20, .inr (.inl rv)))] s.heap := by first | exact hP | simpa only [] using hP
    have hD : va_D A [(rg, .inr (2, [.ref qrd, .ref qrv, .int (nI rn)])), (qrd, .inl (cI, 20, .inl rd)), (qrv, .inl (cJ, 20, .inr (.inl rv)))] := by first | exact hD | simpa only [] using hD
    exact W.lret (v := (-1)) hx hb hr (fun t ht hW => ⟨⟨(-1), (), rfl, by unfold k_f1; rw [if_pos (by omega)], by rw [ht]; exact hP, va_K.moved hW.alike hK, hD⟩, hS.F ht⟩) hS.2.2 dD_foretellByLastTwo_11
set_option maxHeartbeats 4000000 in
set_option maxRecDepth 100000 in
theorem kD_foretellByFirstAndLast (l : Launch) (dC : Nat → ClassId) (dI : Nat → Nat → Nat) (cI cJ : ClassId) (rg qrd qrv : Nat) (sz : Nat) (rn : Nat) (rd : Nat → Int32) (rv : Nat → Int64) (hrn : rn ≤ 20) : Met l yD_foretellByFirstAndLast wD_foretellByFirstAndLast ({ frames := 1, cells := 0, slots := 0, locals := 21 }) (va_Pc [.ref rg] (fun U => U.heap.size = sz ∧ va_P (dC, dI) vwCl [(rg, .inr (2, [.ref qrd, .ref qrv, .int (nI rn)])), (qrd, .inl (cI, 20, .inl rd)), (qrv, .inl (cJ, 20, .inr (.inl rv)))] U.heap ∧ va_K (dC, dI) vwCl [(cI, .int), (cJ, .long)] U ∧ va_D (fun _ => True) [(rg, .inr (2, [.ref qrd, .ref qrv, .int (nI rn)])), (qrd, .inl (cI, 20, .inl rd)), (qrv, .inl (cJ, 20, .inr (.inl rv)))])) (va_Ql (fun res_ (_ : Unit) => res_ = k_f2 rd rv rn) (fun _ t => va_P (dC, dI) vwCl [(rg, .inr (2, [.ref qrd, .ref qrv, .int (nI rn)])), (qrd, .inl (cI, 20, .inl rd)), (qrv, .inl (cJ, 20, .inr (.inl rv)))] t.heap ∧ va_K (dC, dI) vwCl [(cI, .int), (cJ, .long)] t ∧ va_D (va_A [(rg, .inr (2, [.ref qrd, .ref qrv, .int (nI rn)])), (qrd, .inl (cI, 20, .inl rd)), (qrv, .inl (cJ, 20, .inr (.inl rv)))] sz) [(rg, .inr (2, [.ref qrd, .ref qrv, .int (nI rn)])), (qrd, .inl (cI, 20, .inl rd)), (qrv, .inl (cJ, 20, .inr (.inl rv)))]) (va_A [(rg, .inr (2, [.ref qrd, .ref qrv, .int (nI rn)])), (qrd, .inl (cI, 20, .inl rd)), (qrv, .inl (cJ, 20, .inr (.inl rv)))] sz)) 0 0 (va_A [(rg, .inr (2, [.ref qrd, .ref qrv, .int (nI rn)])), (qrd, .inl (cI, 20, .inl rd)), (qrv, .inl (cJ, 20, .inr (.inl rv)))] sz) := by
  refine Met.ofW (cc := bD_foretellByFirstAndLast) (maxL := 7) (ret := (some .long)) (by decide) rfl ?_
  intro p e s m args below meth c s₁ B hml hv
  obtain ⟨rfl, hsz, hP, hK, hD0⟩ := hv
  have hx := B.exec
  have hb := B.bytes
  have hr := B.returns
  have hts := atoms_spec (ws := wD_foretellByFirstAndLast) B.pre
  have hown : s.vm.findClass R_D = some m.cls := findClass_of_methodNamed B.named
  have htw : ∀ w ∈ WA, w.before _ s = true := fun w h => hts w (List.mem_cons_of_mem _ h)
  clear hts
  have hlocks := B.notSynchronized
  subst hsz
  have hD := hD0.self (sz := s.heap.size)
  generalize hAe : va_A [(rg, .inr (2, [.ref qrd, .ref qrv, .int (nI rn)])), (qrd, .inl (cI, 20, .inl rd)), (qrv, .inl (cJ, 20, .inr (.inl rv)))] s.heap.size = A at hD ⊢
  have hA : ∀ q : Nat, s.heap.size ≤ q → A q := fun q h => by rw [← hAe]; exact Or.inr h
  clear hAe hD0
  have hS : va_S A s.heap s.heap [] := va_S.rf
  have hP : va_P (dC, dI) vwCl [(rg, .inr (2, [.ref qrd, .ref qrv, .int (nI rn)])), (qrd, .inl (cI, 20, .inl rd)), (qrv, .inl (cJ, 20, .inr (.inl rv)))] s.heap := hP
  have hl := lv_entry ([.ref rg]) (n := 7) (Nat.le_of_ble_eq_true rfl)
  rw [lg_entry_eq]
  generalize (lg_sl ([.ref rg]) ++ List.replicate (7 - (lg_sl ([.ref rg])).length) Slot.unset).toArray = ls at hl ⊢
  have hl : lv_has ls 7 [(0, .ref rg)] := hl
  refine lv_aload_n hx hb dD_foretellByFirstAndLast_0 rfl (lv_at hl 0 rfl) ?_
  refine va_get (D := (dC, dI)) (ci := 2) (v := .int (nI rn)) (C := R_D) (T := T_D) (N := 3) hx hb htw in_D hown hK hP 0 rfl rfl 2 (by decide) (htw _ m_98) (fun _ h9 => h9) rfl dD_foretellByFirstAndLast_1 ?_
  refine lv_iconst (v := nI 2) hx hb dD_foretellByFirstAndLast_4 (by decide) ?_
  refine lv_icmp_ge (tgt := 12) hx hb dD_foretellByFirstAndLast_5 (by decide) (fun hc5 => ?_) (fun hc5 => ?_)
  · -- 5 taken
    rw [nI_leI (by omega) (by omega)] at hc5
    refine lv_aload_n hx hb dD_foretellByFirstAndLast_12 rfl (lv_at hl 0 rfl) ?_
    refine va_get (D := (dC, dI)) (ci := 2) (v := .ref qrv) (C := R_D) (T := T_D) (N := 3) hx hb htw in_D hown hK hP 0 rfl rfl 1 (by decide) (htw _ m_96) (fun _ h9 => h9) rfl dD_foretellByFirstAndLast_13 ?_
    refine lv_iconst (v := nI 0) hx hb dD_foretellByFirstAndLast_16 (by decide) ?_
    refine xa_lald hx hb hK hP 2 1 rfl rfl (i := 0) (by omega) (by decide) dD_foretellByFirstAndLast_17 ?_
    refine lv_lstore_n (lv' := [(1, .long (rv 0)), (0, .ref rg)]) hx hb dD_foretellByFirstAndLast_18 rfl hl (by decide) rfl (fun ls hl => ?_)
    refine lv_aload_n hx hb dD_foretellByFirstAndLast_19 rfl (lv_at hl 1 rfl) ?_
    refine va_get (D := (dC, dI)) (ci := 2) (v := .ref qrv) (C := R_D) (T := T_D) (N := 3) hx hb htw in_D hown hK hP 0 rfl rfl 1 (by decide) (htw _ m_96) (fun _ h9 => h9) rfl dD_foretellByFirstAndLast_20 ?_
    refine lv_aload_n hx hb dD_foretellByFirstAndLast_23 rfl (lv_at hl 1 rfl) ?_
    refine va_get (D := (dC, dI)) (ci := 2) (v := .int (nI rn)) (C := R_D) (T := T_D) (N := 3) hx hb htw in_D hown hK hP 0 rfl rfl 2 (by decide) (htw _ m_98) (fun _ h9 => h9) rfl dD_foretellByFirstAndLast_24 ?_
    refine lv_iconst (v := nI 1) hx hb dD_foretellByFirstAndLast_27 (by decide) ?_
    refine lv_isub hx hb dD_foretellByFirstAndLast_28 ?_
    refine lv_topi (fun kv ekv => ?_)
    obtain rfl : kv = nI (rn - 1) := by rw [ekv]; exact pk_sub (by omega)
    refine xa_lald hx hb hK hP 2 1 rfl rfl (i := (rn - 1)) (by omega) (by decide) dD_foretellByFirstAndLast_29 ?_
    refine lv_lstore_n (lv' := [(3, .long (rv (rn - 1))), (1, .long (rv 0)), (0, .ref rg)]) hx hb dD_foretellByFirstAndLast_30 rfl hl (by decide) rfl (fun ls hl => ?_)
    refine lv_aload_n hx hb dD_foretellByFirstAndLast_31 rfl (lv_at hl 2 rfl) ?_
    refine va_get (D := (dC, dI)) (ci := 2) (v := .ref qrd) (C := R_D) (T := T_D) (N := 3) hx hb htw in_D hown hK hP 0 rfl rfl 0 (by decide) (htw _ m_94) (fun _ h9 => h9) rfl dD_foretellByFirstAndLast_32 ?_
    refine lv_aload_n hx hb dD_foretellByFirstAndLast_35 rfl (lv_at hl 2 rfl) ?_
    refine va_get (D := (dC, dI)) (ci := 2) (v := .int (nI rn)) (C := R_D) (T := T_D) (N := 3) hx hb htw in_D hown hK hP 0 rfl rfl 2 (by decide) (htw _ m_98) (fun _ h9 => h9) rfl dD_foretellByFirstAndLast_36 ?_
    refine lv_iconst (v := nI 1) hx hb dD_foretellByFirstAndLast_39 (by decide) ?_
    refine lv_isub hx hb dD_foretellByFirstAndLast_40 ?_
    refine lv_topi (fun kv ekv => ?_)
    obtain rfl : kv = nI (rn - 1) := by rw [ekv]; exact pk_sub (by omega)
    refine xa_iald hx hb hK hP 1 0 rfl rfl (i := (rn - 1)) (by omega) (by decide) dD_foretellByFirstAndLast_41 ?_
    refine lv_aload_n hx hb dD_foretellByFirstAndLast_42 rfl (lv_at hl 2 rfl) ?_
    refine va_get (D := (dC, dI)) (ci := 2) (v := .ref qrd) (C := R_D) (T := T_D) (N := 3) hx hb htw in_D hown hK hP 0 rfl rfl 0 (by decide) (htw _ m_94) (fun _ h9 => h9) rfl dD_foretellByFirstAndLast_43 ?_
    refine lv_iconst (v := nI 0) hx hb dD_foretellByFirstAndLast_46 (by decide) ?_
    refine xa_iald hx hb hK hP 1 0 rfl rfl (i := 0) (by omega) (by decide) dD_foretellByFirstAndLast_47 ?_
    refine lv_isub hx hb dD_foretellByFirstAndLast_48 ?_
    refine lv_i2l (v := ((rd (rn - 1)) - (rd 0)).toInt64) hx hb dD_foretellByFirstAndLast_49 rfl ?_
    refine lv_lstore (lv' := [(5, .long (((rd (rn - 1)) - (rd 0)).toInt64)), (3, .long (rv (rn - 1))), (1, .long (rv 0)), (0, .ref rg)]) hx hb dD_foretellByFirstAndLast_50 hl (by decide) rfl (fun ls hl => ?_)
    refine lv_lload_n hx hb dD_foretellByFirstAndLast_52 rfl (lv_at hl 2 rfl) ?_
    have hPc := hP.sub (ws' := []) [] rfl
    have hDc := hD.sub (ws' := []) [] (by decide) rfl
    have hFc := va_free (wc := []) hD hS hA [] rfl
    refine va_calli (va_runS (As := [.long (rv 0)]) (rest := []) ⟨hx, hb, hml, hown, htw⟩ (kD_tooGreat l dC dI cI cJ s.heap.size (rv 0)) (va_cwS 1 htw (ws_good m_323 m_324 m_4 m_325) rfl rfl rfl (by decide +kernel) ⟨Nat.le_of_ble_eq_true rfl, Nat.le_of_ble_eq_true rfl⟩) ⟨fun a U g mk q => by obtain ⟨q0, q1, qP, qK, qD⟩ := q; exact ⟨q0, q1, qP, va_K.moved (u := U) (U := U.calling g mk a) (Vm.Alike.refl U.vm) qK, qD⟩, fun U hU hW => ⟨rfl, by rw [hU], by rw [hU]; exact hPc, va_K.moved hW.alike hK, hDc.weaken (fun _ _ _ _ => trivial)⟩⟩ rfl rfl hl.1 rfl (lv_room (Nat.le_of_ble_eq_true rfl)) dD_foretellByFirstAndLast_53 ⟨Nat.le_of_ble_eq_true rfl, Nat.le_of_ble_eq_true rfl⟩) hS (fun q _ h => hFc q h) hFc (fun res_ u_ t H1 locs ht hvm hw hB hz1 hk1 hS => ?_)
    obtain ⟨hP1, hK1, hD1⟩ := hB
    rw [ht] at hP1
    obtain ⟨hP, hD⟩ := va_join (wr := [(rg, .inr (2, [.ref qrd, .ref qrv, .int (nI rn)])), (qrd, .inl (cI, 20, .inl rd)), (qrv, .inl (cJ, 20, .inr (.inl rv)))]) (w1 := []) hP hD [] [0, 1, 2] rfl rfl (by decide) (by decide) hk1 hFc hP1 hD1
    generalize H1 = H at hP hS ⊢
    have hP : va_P (dC, dI) vwCl [(rg, .inr (2, [.ref qrd, .ref qrv, .int (nI rn)])), (qrd, .inl (cI, 20, .inl rd)), (qrv, .inl (cJ, 20, .inr (.inl rv)))] H := hP
    have hD : va_D A [(rg, .inr (2, [.ref qrd, .ref qrv, .int (nI rn)])), (qrd, .inl (cI, 20, .inl rd)), (qrv, .inl (cJ, 20, .inr (.inl rv)))] := hD
    clear hPc hDc hFc hP1 hD1 hK1 hk1 hz1 hvm ht
    obtain rfl : kb (100000000 < (rv 0)) = res_ := hw.symm
    refine lv_if_ne (tgt := 73) hx hb dD_foretellByFirstAndLast_56 (by decide) (fun hc56 => ?_) (fun hc56 => ?_)
    · -- 56 taken
      rw [kb_eq0] at hc56
      refine lv_ldc2 (v := (-1)) hx hb hown (htw _ m_322) dD_foretellByFirstAndLast_73 ?_
      have hP : va_P (dC, dI) vwCl [(rg, .inr (2, [.ref qrd, .ref qrv, .int (nI rn)])), (qrd, .inl (cI, 20, .inl rd)), (qrv, .inl (cJ, 20, .inr (.inl rv)))] H := by first | exact hP | simpa only [] using hP
      have hD : va_D A [(rg, .inr (2, [.ref qrd, .ref qrv, .int (nI rn)])), (qrd, .inl (cI, 20, .inl rd)), (qrv, .inl (cJ, 20, .inr (.inl rv)))] := by first | exact hD | simpa only [] using hD
      exact W.lret (v := (-1)) hx hb hr (fun t ht hW => ⟨⟨(-1), (), rfl, by unfold k_f2; rw [if_neg (by omega), if_pos (by first | exact Or.inl (Classical.not_not.mp hc56) | exact Or.inr (Or.inl (Classical.not_not.mp hc63)) | exact Or.inr (Or.inr hc70))], by rw [ht]; exact hP, va_K.moved hW.alike hK, hD⟩, hS.F ht⟩) hS.2.2 dD_foretellByFirstAndLast_76
    · -- 56 not taken
      rw [kb_eq0] at hc56
      refine lv_lload_n hx hb dD_foretellByFirstAndLast_59 rfl (lv_at hl 1 rfl) ?_
      have hPc := hP.sub (ws' := []) [] rfl
      have hDc := hD.sub (ws' := []) [] (by decide) rfl
      have hFc := va_free (wc := []) hD hS hA [] rfl
      refine va_calli (va_runS (As := [.long (rv (rn - 1))]) (rest := []) ⟨hx, hb, hml, hown, htw⟩ (kD_tooGreat l dC dI cI cJ H.size (rv (rn - 1))) (va_cwS 1 htw (ws_good m_323 m_324 m_4 m_325) rfl rfl rfl (by decide +kernel) ⟨Nat.le_of_ble_eq_true rfl, Nat.le_of_ble_eq_true rfl⟩) ⟨fun a U g mk q => by obtain ⟨q0, q1, qP, qK, qD⟩ := q; exact ⟨q0, q1, qP, va_K.moved (u := U) (U := U.calling g mk a) (Vm.Alike.refl U.vm) qK, qD⟩, fun U hU hW => ⟨rfl, by rw [hU], by rw [hU]; exact hPc, va_K.moved hW.alike hK, hDc.weaken (fun _ _ _ _ => trivial)⟩⟩ rfl rfl hl.1 rfl (lv_room (Nat.le_of_ble_eq_true rfl)) dD_foretellByFirstAndLast_60 ⟨Nat.le_of_ble_eq_true rfl, Nat.le_of_ble_eq_true rfl⟩) hS (fun q _ h => hFc q h) hFc (fun res_ u_ t H1 locs ht hvm hw hB hz1 hk1 hS => ?_)
      obtain ⟨hP1, hK1, hD1⟩ := hB
      rw [ht] at hP1
      obtain ⟨hP, hD⟩ := va_join (wr := [(rg, .inr (2, [.ref qrd, .ref qrv, .int (nI rn)])), (qrd, .inl (cI, 20, .inl rd)), (qrv, .inl (cJ, 20, .inr (.inl rv)))]) (w1 := []) hP hD [] [0, 1, 2] rfl rfl (by decide) (by decide) hk1 hFc hP1 hD1
      generalize H1 = H at hP hS ⊢
      have hP : va_P (dC, dI) vwCl [(rg, .inr (2, [.ref qrd, .ref qrv, .int (nI rn)])), (qrd, .inl (cI, 20, .inl rd)), (qrv, .inl (cJ, 20, .inr (.inl rv)))] H := hP
      have hD : va_D A [(rg, .inr (2, [.ref qrd, .ref qrv, .int (nI rn)])), (qrd, .inl (cI, 20, .inl rd)), (qrv, .inl (cJ, 20, .inr (.inl rv)))] := hD
      clear hPc hDc hFc hP1 hD1 hK1 hk1 hz1 hvm ht
      obtain rfl : kb (100000000 < (rv (rn - 1))) = res_ := hw.symm
      refine lv_if_ne (tgt := 73) hx hb dD_foretellByFirstAndLast_63 (by decide) (fun hc63 => ?_) (fun hc63 => ?_)
      · -- 63 taken
        rw [kb_eq0] at hc63
        refine lv_ldc2 (v := (-1)) hx hb hown (htw _ m_322) dD_foretellByFirstAndLast_73 ?_
        have hP : va_P (dC, dI) vwCl [(rg, .inr (2, [.ref qrd, .ref qrv, .int (nI rn)])), (qrd, .inl (cI, 20, .inl rd)), (qrv, .inl (cJ, 20, .inr (.inl rv)))] H := by first | exact hP | simpa only [] using hP
        have hD : va_D A [(rg, .inr (2, [.ref qrd, .ref qrv, .int (nI rn)])), (qrd, .inl (cI, 20, .inl rd)), (qrv, .inl (cJ, 20, .inr (.inl rv)))] := by first | exact hD | simpa only [] using hD
        exact W.lret (v := (-1)) hx hb hr (fun t ht hW => ⟨⟨(-1), (), rfl, by unfold k_f2; rw [if_neg (by omega), if_pos (by first | exact Or.inl (Classical.not_not.mp hc56) | exact Or.inr (Or.inl (Classical.not_not.mp hc63)) | exact Or.inr (Or.inr hc70))], by rw [ht]; exact hP, va_K.moved hW.alike hK, hD⟩, hS.F ht⟩) hS.2.2 dD_foretellByFirstAndLast_76
      · -- 63 not taken
        rw [kb_eq0] at hc63
        refine lv_lload hx hb dD_foretellByFirstAndLast_66 (lv_at hl 0 rfl) ?_
        refine lv_lconst (v := 0) hx hb dD_foretellByFirstAndLast_68 (by decide) ?_
        refine W.lcmp hx hb dD_foretellByFirstAndLast_69 ?_
        refine lv_if_ne (tgt := 77) hx hb dD_foretellByFirstAndLast_70 (by decide) (fun hc70 => ?_) (fun hc70 => ?_)
        · -- 70 taken
          rw [lg_cmp_eq] at hc70
          refine lv_lload_n hx hb dD_foretellByFirstAndLast_77 rfl (lv_at hl 1 rfl) ?_
          refine lv_lload_n hx hb dD_foretellByFirstAndLast_78 rfl (lv_at hl 1 rfl) ?_
          refine lv_lload_n hx hb dD_foretellByFirstAndLast_79 rfl (lv_at hl 2 rfl) ?_
          refine lv_lsub hx hb dD_foretellByFirstAndLast_80 ?_
          refine lv_ldc2 (v := 100) hx hb hown (htw _ m_339) dD_foretellByFirstAndLast_81 ?_
          refine lv_lmul hx hb dD_foretellByFirstAndLast_84 ?_
          refine lv_lload hx hb dD_foretellByFirstAndLast_85 (lv_at hl 0 rfl) ?_
          refine lv_ldiv hx hb dD_foretellByFirstAndLast_87 hc70 ?_
          refine lv_ladd hx hb dD_foretellByFirstAndLast_88 ?_
          have hP : va_P (dC, dI) vwCl [(rg, .inr (2, [.ref qrd, .ref qrv, .int (nI rn)])), (qrd, .inl (cI, 20, .inl rd)), (qrv, .inl (cJ, 20, .inr (.inl rv)))] H := by first | exact hP | simpa only [] using hP
          have hD : va_D A [(rg, .inr (2, [.ref qrd, .ref qrv, .int (nI rn)])), (qrd, .inl (cI, 20, .inl rd)), (qrv, .inl (cJ, 20, .inr (.inl rv)))] := by first | exact hD | simpa only [] using hD
          exact W.lret (v := (rv (rn - 1)) + ((((rv (rn - 1)) - (rv 0)) * 100) / (((rd (rn - 1)) - (rd 0)).toInt64))) hx hb hr (fun t ht hW => ⟨⟨(rv (rn - 1)) + ((((rv (rn - 1)) - (rv 0)) * 100) / (((rd (rn - 1)) - (rd 0)).toInt64)), (), rfl, by unfold k_f2; rw [if_neg (by omega), if_neg (fun h => h.elim hc56 (fun h => h.elim hc63 hc70))], by rw [ht]; exact hP, va_K.moved hW.alike hK, hD⟩, hS.F ht⟩) hS.2.2 dD_foretellByFirstAndLast_89
        · -- 70 not taken
          rw [lg_cmp_eq] at hc70
          refine lv_ldc2 (v := (-1)) hx hb hown (htw _ m_322) dD_foretellByFirstAndLast_73 ?_
          have hP : va_P (dC, dI) vwCl [(rg, .inr (2, [.ref qrd, .ref qrv, .int (nI rn)])), (qrd, .inl (cI, 20, .inl rd)), (qrv, .inl (cJ, 20, .inr (.inl rv)))] H := by first | exact hP | simpa only [] using hP
          have hD : va_D A [(rg, .inr (2, [.ref qrd, .ref qrv, .int (nI rn)])), (qrd, .inl (cI, 20, .inl rd)), (qrv, .inl (cJ, 20, .inr (.inl rv)))] := by first | exact hD | simpa only [] using hD
          exact W.lret (v := (-1)) hx hb hr (fun t ht hW => ⟨⟨(-1), (), rfl, by unfold k_f2; rw [if_neg (by omega), if_pos (by first | exact Or.inl (Classical.not_not.mp hc56) | exact Or.inr (Or.inl (Classical.not_not.mp hc63)) | exact Or.inr (Or.inr hc70))], by rw [ht]; exact hP, va_K.moved hW.alike hK, hD⟩, hS.F ht⟩) hS.2.2 dD_foretellByFirstAndLast_76
  · -- 5 not taken
    rw [nI_leI (by omega) (by omega)] at hc5
    refine lv_ldc2 (v := (-1)) hx hb hown (htw _ m_322) dD_foretellByFirstAndLast_8 ?_
    have hP : va_P (dC, dI) vwCl [(rg, .inr (2, [.ref qrd, .ref qrv, .int (nI rn)])), (qrd, .inl (cI, 20, .inl rd)), (qrv, .inl (cJ, 20, .inr (.inl rv)))] s.heap := by first | exact hP | simpa only [] using hP
    have hD : va_D A [(rg, .inr (2, [.ref qrd, .ref qrv, .int (nI rn)])), (qrd, .inl (cI, 20, .inl rd)), (qrv, .inl (cJ, 20, .inr (.inl rv)))] := by first | exact hD | simpa only [] using hD
    exact W.lret (v := (-1)) hx hb hr (fun t ht hW => ⟨⟨(-1), (), rfl, by unfold k_f2; rw [if_pos (by omega)], by rw [ht]; exact hP, va_K.moved hW.alike hK, hD⟩, hS.F ht⟩) hS.2.2 dD_foretellByFirstAndLast_11
set_option maxHeartbeats 4000000 in
set_option maxRecDepth 100000 in
theorem kX_thousandths (l : Launch) (dC : Nat → ClassId) (dI : Nat → Nat → Nat) (cI cJ : ClassId) (sz : Nat) (u : Int64) (v : Int64) : Met l yX_thousandths wX_thousandths ({ frames := 0, cells := 0, slots := 0, locals := 0 }) (va_Pc [.long u, .long v] (fun U => U.heap.size = sz ∧ va_P (dC, dI) vwCl [] U.heap ∧ va_K (dC, dI) vwCl [(cI, .int), (cJ, .long)] U ∧ va_D (fun _ => True) [])) (va_Qi (fun res_ (_ : Unit) => res_ = k_th u v) (fun _ t => va_P (dC, dI) vwCl [] t.heap ∧ va_K (dC, dI) vwCl [(cI, .int), (cJ, .long)] t ∧ va_D (va_A [] sz) []) (va_A [] sz)) 0 0 (va_A [] sz) := by
  refine Met.ofW (cc := bX_thousandths) (maxL := 4) (ret := (some .int)) (by decide) rfl ?_
  intro p e s m args below meth c s₁ B hml hv
  obtain ⟨rfl, hsz, hP, hK, hD0⟩ := hv
  have hx := B.exec
  have hb := B.bytes
  have hr := B.returns
  have hts := atoms_spec (ws := wX_thousandths) B.pre
  have hown : s.vm.findClass R_X = some m.cls := findClass_of_methodNamed B.named
  have htw : ∀ w ∈ WA, w.before _ s = true := fun w h => hts w (List.mem_cons_of_mem _ h)
  clear hts
  have hlocks := B.notSynchronized
  subst hsz
  have hD := hD0.self (sz := s.heap.size)
  generalize hAe : va_A [] s.heap.size = A at hD ⊢
  have hA : ∀ q : Nat, s.heap.size ≤ q → A q := fun q h => by rw [← hAe]; exact Or.inr h
  clear hAe hD0
  have hS : va_S A s.heap s.heap [] := va_S.rf
  have hP : va_P (dC, dI) vwCl [] s.heap := hP
  have hl := lv_entry ([.long u, .long v]) (n := 4) (Nat.le_of_ble_eq_true rfl)
  rw [lg_entry_eq]
  generalize (lg_sl ([.long u, .long v]) ++ List.replicate (4 - (lg_sl ([.long u, .long v])).length) Slot.unset).toArray = ls at hl ⊢
  have hl : lv_has ls 4 [(0, .long u), (2, .long v)] := hl
  refine lv_lload_n hx hb dX_thousandths_0 rfl (lv_at hl 1 rfl) ?_
  refine lv_lconst (v := 0) hx hb dX_thousandths_1 (by decide) ?_
  refine W.lcmp hx hb dX_thousandths_2 ?_
  refine lv_if_ne (tgt := 12) hx hb dX_thousandths_3 (by decide) (fun hc3 => ?_) (fun hc3 => ?_)
  · -- 3 taken
    rw [lg_cmp_eq] at hc3
    have hret : (u * 1000 / v).toInt32 = k_th u v := (if_neg hc3).symm
    refine lv_lload_n hx hb dX_thousandths_12 rfl (lv_at hl 0 rfl) ?_
    refine lv_ldc2 (v := 1000) hx hb hown (htw _ m_244) dX_thousandths_13 ?_
    refine lv_lmul hx hb dX_thousandths_16 ?_
    refine lv_lload_n hx hb dX_thousandths_17 rfl (lv_at hl 1 rfl) ?_
    refine lv_ldiv hx hb dX_thousandths_18 hc3 ?_
    refine lv_l2i (v := ((u * 1000) / v).toInt32) hx hb dX_thousandths_19 rfl ?_
    have hP : va_P (dC, dI) vwCl [] s.heap := by first | exact hP | simpa only [] using hP
    have hD : va_D A [] := by first | exact hD | simpa only [] using hD
    exact W.iret (v := ((u * 1000) / v).toInt32) hx hb hr (fun t ht hW => ⟨⟨((u * 1000) / v).toInt32, (), rfl, hret, by rw [ht]; exact hP, va_K.moved hW.alike hK, hD⟩, hS.F ht⟩) hS.2.2 dX_thousandths_20
  · -- 3 not taken
    rw [lg_cmp_eq] at hc3
    have hret : nI 1000 = k_th u v := (if_pos hc3).symm
    refine lv_sipush (v := nI 1000) hx hb dX_thousandths_6 (by decide) ?_
    refine lv_goto (tgt := 20) hx hb dX_thousandths_9 (by decide) ?_
    have hP : va_P (dC, dI) vwCl [] s.heap := by first | exact hP | simpa only [] using hP
    have hD : va_D A [] := by first | exact hD | simpa only [] using hD
    exact W.iret (v := nI 1000) hx hb hr (fun t ht hW => ⟨⟨nI 1000, (), rfl, hret, by rw [ht]; exact hP, va_K.moved hW.alike hK, hD⟩, hS.F ht⟩) hS.2.2 dX_thousandths_20
