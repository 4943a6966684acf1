set_option maxHeartbeats 4000000 in
set_option maxRecDepth 100000 in
theorem kM_in (l : Launch) (dC : Nat → ClassId) (dI : Nat → Nat → Nat) (cI cJ : ClassId) (sz : Nat) (v1 : Int64) (v2 : Int64) (v3 : Int64) : Met l yM_in wM_in ({ frames := 0, cells := 0, slots := 0, locals := 0 }) (va_Pc [.long v1, .long v2, .long v3] (fun U => U.heap.size = sz ∧ va_P (dC, dI) vwCl [] U.heap ∧ va_K (dC, dI) vwCl [(cI, .int), (cJ, .long)] U ∧ va_D (fun _ => True) [])) (va_Qi (fun res_ (_ : Unit) => res_ = kb (v2 ≤ v1 ∧ v1 ≤ v3)) (fun _ t => va_P (dC, dI) vwCl [] t.heap ∧ va_K (dC, dI) vwCl [(cI, .int), (cJ, .long)] t ∧ va_D (va_A [] sz) []) (va_A [] sz)) 0 0 (va_A [] sz) := by
  refine Met.ofW (cc := bM_in) (maxL := 6) (ret := (some .boolean)) (by decide) rfl ?_
  intro p e s m args below meth c s₁ B hml hv
  obtain ⟨rfl, hsz, hP, hK, hD0⟩ := hv
  have hx := B.exec
  have hb := B.bytes
  have hr := B.returns
  have hts := atoms_spec (ws := wM_in) B.pre
  have hown : s.vm.findClass R_M = some m.cls := findClass_of_methodNamed B.named
  have htw : ∀ w ∈ WA, w.before _ s = true := fun w h => hts w (List.mem_cons_of_mem _ h)
  clear hts
  have hlocks := B.notSynchronized
  subst hsz
  have hD := hD0.self (sz := s.heap.size)
  generalize hAe : va_A [] s.heap.size = A at hD ⊢
  have hA : ∀ q : Nat, s.heap.size ≤ q → A q := fun q h => by rw [← hAe]; exact Or.inr h
  clear hAe hD0
  have hS : va_S A s.heap s.heap [] := va_S.rf
  have hP : va_P (dC, dI) vwCl [] s.heap := hP
  have hl := lv_entry ([.long v1, .long v2, .long v3]) (n := 6) (Nat.le_of_ble_eq_true rfl)
  rw [lg_entry_eq]
  generalize (lg_sl ([.long v1, .long v2, .long v3]) ++ List.replicate (6 - (lg_sl ([.long v1, .long v2, .long v3])).length) Slot.unset).toArray = ls at hl ⊢
  have hl : lv_has ls 6 [(0, .long v1), (2, .long v2), (4, .long v3)] := hl
  refine lv_lload_n hx hb dM_in_0 rfl (lv_at hl 0 rfl) ?_
  refine lv_lload_n hx hb dM_in_1 rfl (lv_at hl 1 rfl) ?_
  refine W.lcmp hx hb dM_in_2 ?_
  refine lv_if_lt (tgt := 17) hx hb dM_in_3 (by decide) (fun hc3 => ?_) (fun hc3 => ?_)
  · -- 3 taken
    rw [lg_cmp_lt] at hc3
    have hret := kb_f (P := v2 ≤ v1 ∧ v1 ≤ v3) (fun h => by have a0_ := hc3; have a1_ := h.1; simp only [Int64.lt_iff_toInt_lt, Int64.le_iff_toInt_le] at a0_ a1_; omega)
    refine lv_iconst (v := nI 0) hx hb dM_in_17 (by decide) ?_
    have hP : va_P (dC, dI) vwCl [] s.heap := by first | exact hP | simpa only [] using hP
    have hD : va_D A [] := by first | exact hD | simpa only [] using hD
    exact W.zret (v := nI 0) hx hb hr (by decide) (fun t ht hW => ⟨⟨nI 0, (), rfl, hret, by rw [ht]; exact hP, va_K.moved hW.alike hK, hD⟩, hS.F ht⟩) hS.2.2 dM_in_18
  · -- 3 not taken
    rw [lg_cmp_lt] at hc3
    refine lv_lload_n hx hb dM_in_6 rfl (lv_at hl 0 rfl) ?_
    refine lv_lload hx hb dM_in_7 (lv_at hl 2 rfl) ?_
    refine W.lcmp hx hb dM_in_9 ?_
    refine lv_if_gt (tgt := 17) hx hb dM_in_10 (by decide) (fun hc10 => ?_) (fun hc10 => ?_)
    · -- 10 taken
      rw [lg_cmp_gt] at hc10
      have hret := kb_f (P := v2 ≤ v1 ∧ v1 ≤ v3) (fun h => by have a0_ := hc10; have a1_ := h.2; simp only [Int64.lt_iff_toInt_lt, Int64.le_iff_toInt_le] at a0_ a1_; omega)
      refine lv_iconst (v := nI 0) hx hb dM_in_17 (by decide) ?_
      have hP : va_P (dC, dI) vwCl [] s.heap := by first | exact hP | simpa only [] using hP
      have hD : va_D A [] := by first | exact hD | simpa only [] using hD
      exact W.zret (v := nI 0) hx hb hr (by decide) (fun t ht hW => ⟨⟨nI 0, (), rfl, hret, by rw [ht]; exact hP, va_K.moved hW.alike hK, hD⟩, hS.F ht⟩) hS.2.2 dM_in_18
    · -- 10 not taken
      rw [lg_cmp_gt] at hc10
      have hret := kb_t (P := v2 ≤ v1 ∧ v1 ≤ v3) ⟨by rw [Int64.le_iff_toInt_le]; have a0_ := hc3; simp only [Int64.lt_iff_toInt_lt, Int64.le_iff_toInt_le] at a0_; omega, by rw [Int64.le_iff_toInt_le]; have a0_ := hc10; simp only [Int64.lt_iff_toInt_lt, Int64.le_iff_toInt_le] at a0_; omega⟩
      refine lv_iconst (v := nI 1) hx hb dM_in_13 (by decide) ?_
      refine lv_goto (tgt := 18) hx hb dM_in_14 (by decide) ?_
      have hP : va_P (dC, dI) vwCl [] s.heap := by first | exact hP | simpa only [] using hP
      have hD : va_D A [] := by first | exact hD | simpa only [] using hD
      exact W.zret (v := nI 1) hx hb hr (by decide) (fun t ht hW => ⟨⟨nI 1, (), rfl, hret, by rw [ht]; exact hP, va_K.moved hW.alike hK, hD⟩, hS.F ht⟩) hS.2.2 dM_in_18
set_option maxHeartbeats 4000000 in
set_option maxRecDepth 100000 in
theorem kM_sinking (l : Launch) (dC : Nat → ClassId) (dI : Nat → Nat → Nat) (cI cJ : ClassId) (mm qlo qlk qhd qsf qpr qpa qsk qld qlz qrd qrv qhi qfw qkp : Nat) (sz : Nat) (i : Nat) (u : Int64) (v : Int64) (ly : Nat) (ce : Nat) (co : Int64) (wo : Int64) (dy : Nat) (da : Int32) (db : Int32) (dr : Int32) (mn : Nat) (rn : Nat) (hd : Nat → Int32) (sf : Nat → Int32) (pa : Nat → Int64) (hi : i < 30) : Met l yM_sinking wM_sinking ({ frames := 0, cells := 0, slots := 0, locals := 0 }) (va_Pc [.ref mm, .int (nI i), .long u, .long v] (fun U => U.heap.size = sz ∧ va_P (dC, dI) vwCl [(mm, .inr (5, [.int (nI ly), .int (nI ce), .ref qlo, .ref qlk, .ref qhd, .ref qsf, .ref qpr, .ref qpa, .ref qsk, .long co, .long wo, .int (nI dy), .int da, .int db, .int dr, .int (nI mn), .ref qld, .ref qlz, .int (nI rn), .ref qrd, .ref qrv, .ref qhi, .ref qfw, .ref qkp])), (qhd, .inl (cI, 30, .inl hd)), (qsf, .inl (cI, 30, .inl sf)), (qpa, .inl (cJ, 30, .inr (.inl pa)))] U.heap ∧ va_K (dC, dI) vwCl [(cI, .int), (cJ, .long)] U ∧ va_D (fun _ => True) [(mm, .inr (5, [.int (nI ly), .int (nI ce), .ref qlo, .ref qlk, .ref qhd, .ref qsf, .ref qpr, .ref qpa, .ref qsk, .long co, .long wo, .int (nI dy), .int da, .int db, .int dr, .int (nI mn), .ref qld, .ref qlz, .int (nI rn), .ref qrd, .ref qrv, .ref qhi, .ref qfw, .ref qkp])), (qhd, .inl (cI, 30, .inl hd)), (qsf, .inl (cI, 30, .inl sf)), (qpa, .inl (cJ, 30, .inr (.inl pa)))])) (va_Ql (fun res_ (_ : Unit) => res_ = k_sk hd sf pa i u v) (fun _ t => va_P (dC, dI) vwCl [(mm, .inr (5, [.int (nI ly), .int (nI ce), .ref qlo, .ref qlk, .ref qhd, .ref qsf, .ref qpr, .ref qpa, .ref qsk, .long co, .long wo, .int (nI dy), .int da, .int db, .int dr, .int (nI mn), .ref qld, .ref qlz, .int (nI rn), .ref qrd, .ref qrv, .ref qhi, .ref qfw, .ref qkp])), (qhd, .inl (cI, 30, .inl hd)), (qsf, .inl (cI, 30, .inl sf)), (qpa, .inl (cJ, 30, .inr (.inl pa)))] t.heap ∧ va_K (dC, dI) vwCl [(cI, .int), (cJ, .long)] t ∧ va_D (va_A [(mm, .inr (5, [.int (nI ly), .int (nI ce), .ref qlo, .ref qlk, .ref qhd, .ref qsf, .ref qpr, .ref qpa, .ref qsk, .long co, .long wo, .int (nI dy), .int da, .int db, .int dr, .int (nI mn), .ref qld, .ref qlz, .int (nI rn), .ref qrd, .ref qrv, .ref qhi, .ref qfw, .ref qkp])), (qhd, .inl (cI, 30, .inl hd)), (qsf, .inl (cI, 30, .inl sf)), (qpa, .inl (cJ, 30, .inr (.inl pa)))] sz) [(mm, .inr (5, [.int (nI ly), .int (nI ce), .ref qlo, .ref qlk, .ref qhd, .ref qsf, .ref qpr, .ref qpa, .ref qsk, .long co, .long wo, .int (nI dy), .int da, .int db, .int dr, .int (nI mn), .ref qld, .ref qlz, .int (nI rn), .ref qrd, .ref qrv, .ref qhi, .ref qfw, .ref qkp])), (qhd, .inl (cI, 30, .inl hd)), (qsf, .inl (cI, 30, .inl sf)), (qpa, .inl (cJ, 30, .inr (.inl pa)))]) (va_A [(mm, .inr (5, [.int (nI ly), .int (nI ce), .ref qlo, .ref qlk, .ref qhd, .ref qsf, .ref qpr, .ref qpa, .ref qsk, .long co, .long wo, .int (nI dy), .int da, .int db, .int dr, .int (nI mn), .ref qld, .ref qlz, .int (nI rn), .ref qrd, .ref qrv, .ref qhi, .ref qfw, .ref qkp])), (qhd, .inl (cI, 30, .inl hd)), (qsf, .inl (cI, 30, .inl sf)), (qpa, .inl (cJ, 30, .inr (.inl pa)))] sz)) 0 0 (va_A [(mm, .inr (5, [.int (nI ly), .int (nI ce), .ref qlo, .ref qlk, .ref qhd, .ref qsf, .ref qpr, .ref qpa, .ref qsk, .long co, .long wo, .int (nI dy), .int da, .int db, .int dr, .int (nI mn), .ref qld, .ref qlz, .int (nI rn), .ref qrd, .ref qrv, .ref qhi, .ref qfw, .ref qkp])), (qhd, .inl (cI, 30, .inl hd)), (qsf, .inl (cI, 30, .inl sf)), (qpa, .inl (cJ, 30, .inr (.inl pa)))] sz) := by
  refine Met.ofW (cc := bM_sinking) (maxL := 8) (ret := (some .long)) (by decide) rfl ?_
  intro p e s m args below meth c s₁ B hml hv
  obtain ⟨rfl, hsz, hP, hK, hD0⟩ := hv
  have hx := B.exec
  have hb := B.bytes
  have hr := B.returns
  have hts := atoms_spec (ws := wM_sinking) B.pre
  have hown : s.vm.findClass R_M = some m.cls := findClass_of_methodNamed B.named
  have htw : ∀ w ∈ WA, w.before _ s = true := fun w h => hts w (List.mem_cons_of_mem _ h)
  clear hts
  have hlocks := B.notSynchronized
  subst hsz
  have hD := hD0.self (sz := s.heap.size)
  generalize hAe : va_A [(mm, .inr (5, [.int (nI ly), .int (nI ce), .ref qlo, .ref qlk, .ref qhd, .ref qsf, .ref qpr, .ref qpa, .ref qsk, .long co, .long wo, .int (nI dy), .int da, .int db, .int dr, .int (nI mn), .ref qld, .ref qlz, .int (nI rn), .ref qrd, .ref qrv, .ref qhi, .ref qfw, .ref qkp])), (qhd, .inl (cI, 30, .inl hd)), (qsf, .inl (cI, 30, .inl sf)), (qpa, .inl (cJ, 30, .inr (.inl pa)))] s.heap.size = A at hD ⊢
  have hA : ∀ q : Nat, s.heap.size ≤ q → A q := fun q h => by rw [← hAe]; exact Or.inr h
  clear hAe hD0
  have hS : va_S A s.heap s.heap [] := va_S.rf
  have hP : va_P (dC, dI) vwCl [(mm, .inr (5, [.int (nI ly), .int (nI ce), .ref qlo, .ref qlk, .ref qhd, .ref qsf, .ref qpr, .ref qpa, .ref qsk, .long co, .long wo, .int (nI dy), .int da, .int db, .int dr, .int (nI mn), .ref qld, .ref qlz, .int (nI rn), .ref qrd, .ref qrv, .ref qhi, .ref qfw, .ref qkp])), (qhd, .inl (cI, 30, .inl hd)), (qsf, .inl (cI, 30, .inl sf)), (qpa, .inl (cJ, 30, .inr (.inl pa)))] s.heap := hP
  have hl := lv_entry ([.ref mm, .int (nI i), .long u, .long v]) (n := 8) (Nat.le_of_ble_eq_true rfl)
  rw [lg_entry_eq]
  generalize (lg_sl ([.ref mm, .int (nI i), .long u, .long v]) ++ List.replicate (8 - (lg_sl ([.ref mm, .int (nI i), .long u, .long v])).length) Slot.unset).toArray = ls at hl ⊢
  have hl : lv_has ls 8 [(0, .ref mm), (1, .int (nI i)), (2, .long u), (4, .long v)] := hl
  refine lv_lload hx hb dM_sinking_0 (lv_at hl 3 rfl) ?_
  refine lv_lload_n hx hb dM_sinking_2 rfl (lv_at hl 2 rfl) ?_
  refine W.lcmp hx hb dM_sinking_3 ?_
  refine lv_if_ge (tgt := 20) hx hb dM_sinking_4 (by decide) (fun hc4 => ?_) (fun hc4 => ?_)
  · -- 4 taken
    rw [lg_cmp_ge] at hc4
    refine lv_aload_n hx hb dM_sinking_20 rfl (lv_at hl 0 rfl) ?_
    refine va_get (D := (dC, dI)) (ci := 5) (v := .ref qpa) (C := R_M) (T := T_M) (N := 24) hx hb htw in_M hown hK hP 0 rfl rfl 7 (by decide) (htw _ m_364) (fun _ h9 => h9) rfl dM_sinking_21 ?_
    refine lv_iload_n hx hb dM_sinking_24 rfl (lv_at hl 1 rfl) ?_
    refine xa_lald hx hb hK hP 3 1 rfl rfl (i := i) (by omega) (by decide) dM_sinking_25 ?_
    refine lv_lload hx hb dM_sinking_26 (lv_at hl 3 rfl) ?_
    refine W.lcmp hx hb dM_sinking_28 ?_
    refine lv_if_ge (tgt := 41) hx hb dM_sinking_29 (by decide) (fun hc29 => ?_) (fun hc29 => ?_)
    · -- 29 taken
      rw [lg_cmp_ge] at hc29
      refine lv_lload hx hb dM_sinking_41 (lv_at hl 3 rfl) ?_
      refine lv_lstore (lv' := [(6, .long v), (0, .ref mm), (1, .int (nI i)), (2, .long u), (4, .long v)]) hx hb dM_sinking_43 hl (by decide) rfl (fun ls hl => ?_)
      refine lv_aload_n hx hb dM_sinking_45 rfl (lv_at hl 1 rfl) ?_
      refine va_get (D := (dC, dI)) (ci := 5) (v := .ref qhd) (C := R_M) (T := T_M) (N := 24) hx hb htw in_M hown hK hP 0 rfl rfl 4 (by decide) (htw _ m_361) (fun _ h9 => h9) rfl dM_sinking_46 ?_
      refine lv_iload_n hx hb dM_sinking_49 rfl (lv_at hl 2 rfl) ?_
      refine xa_iald hx hb hK hP 1 0 rfl rfl (i := i) (by omega) (by decide) dM_sinking_50 ?_
      refine lv_i2l (v := (hd i).toInt64) hx hb dM_sinking_51 rfl ?_
      refine lv_lload hx hb dM_sinking_52 (lv_at hl 0 rfl) ?_
      refine lv_lload_n hx hb dM_sinking_54 rfl (lv_at hl 3 rfl) ?_
      refine lv_lsub hx hb dM_sinking_55 ?_
      refine lv_lmul hx hb dM_sinking_56 ?_
      refine lv_aload_n hx hb dM_sinking_57 rfl (lv_at hl 1 rfl) ?_
      refine va_get (D := (dC, dI)) (ci := 5) (v := .ref qsf) (C := R_M) (T := T_M) (N := 24) hx hb htw in_M hown hK hP 0 rfl rfl 5 (by decide) (htw _ m_362) (fun _ h9 => h9) rfl dM_sinking_58 ?_
      refine lv_iload_n hx hb dM_sinking_61 rfl (lv_at hl 2 rfl) ?_
      refine xa_iald hx hb hK hP 2 0 rfl rfl (i := i) (by omega) (by decide) dM_sinking_62 ?_
      refine lv_i2l (v := (sf i).toInt64) hx hb dM_sinking_63 rfl ?_
      refine lv_lload hx hb dM_sinking_64 (lv_at hl 4 rfl) ?_
      refine lv_lload hx hb dM_sinking_66 (lv_at hl 0 rfl) ?_
      refine lv_lsub hx hb dM_sinking_68 ?_
      refine lv_lmul hx hb dM_sinking_69 ?_
      refine lv_ladd hx hb dM_sinking_70 ?_
      have hP : va_P (dC, dI) vwCl [(mm, .inr (5, [.int (nI ly), .int (nI ce), .ref qlo, .ref qlk, .ref qhd, .ref qsf, .ref qpr, .ref qpa, .ref qsk, .long co, .long wo, .int (nI dy), .int da, .int db, .int dr, .int (nI mn), .ref qld, .ref qlz, .int (nI rn), .ref qrd, .ref qrv, .ref qhi, .ref qfw, .ref qkp])), (qhd, .inl (cI, 30, .inl hd)), (qsf, .inl (cI, 30, .inl sf)), (qpa, .inl (cJ, 30, .inr (.inl pa)))] s.heap := by first | exact hP | simpa only [] using hP
      have hD : va_D A [(mm, .inr (5, [.int (nI ly), .int (nI ce), .ref qlo, .ref qlk, .ref qhd, .ref qsf, .ref qpr, .ref qpa, .ref qsk, .long co, .long wo, .int (nI dy), .int da, .int db, .int dr, .int (nI mn), .ref qld, .ref qlz, .int (nI rn), .ref qrd, .ref qrv, .ref qhi, .ref qfw, .ref qkp])), (qhd, .inl (cI, 30, .inl hd)), (qsf, .inl (cI, 30, .inl sf)), (qpa, .inl (cJ, 30, .inr (.inl pa)))] := by first | exact hD | simpa only [] using hD
      exact W.lret (v := (((hd i).toInt64) * (v - u)) + (((sf i).toInt64) * (v - v))) hx hb hr (fun t ht hW => ⟨⟨(((hd i).toInt64) * (v - u)) + (((sf i).toInt64) * (v - v)), (), rfl, by unfold k_sk; rw [if_neg (Int64.not_lt.mpr hc4)]; first | rw [if_pos (Int64.not_le.mp hc29)] | rw [if_neg (Int64.not_lt.mpr hc29)], by rw [ht]; exact hP, va_K.moved hW.alike hK, hD⟩, hS.F ht⟩) hS.2.2 dM_sinking_71
    · -- 29 not taken
      rw [lg_cmp_ge] at hc29
      refine lv_aload_n hx hb dM_sinking_32 rfl (lv_at hl 0 rfl) ?_
      refine va_get (D := (dC, dI)) (ci := 5) (v := .ref qpa) (C := R_M) (T := T_M) (N := 24) hx hb htw in_M hown hK hP 0 rfl rfl 7 (by decide) (htw _ m_364) (fun _ h9 => h9) rfl dM_sinking_33 ?_
      refine lv_iload_n hx hb dM_sinking_36 rfl (lv_at hl 1 rfl) ?_
      refine xa_lald hx hb hK hP 3 1 rfl rfl (i := i) (by omega) (by decide) dM_sinking_37 ?_
      refine lv_goto (tgt := 43) hx hb dM_sinking_38 (by decide) ?_
      refine lv_lstore (lv' := [(6, .long (pa i)), (0, .ref mm), (1, .int (nI i)), (2, .long u), (4, .long v)]) hx hb dM_sinking_43 hl (by decide) rfl (fun ls hl => ?_)
      refine lv_aload_n hx hb dM_sinking_45 rfl (lv_at hl 1 rfl) ?_
      refine va_get (D := (dC, dI)) (ci := 5) (v := .ref qhd) (C := R_M) (T := T_M) (N := 24) hx hb htw in_M hown hK hP 0 rfl rfl 4 (by decide) (htw _ m_361) (fun _ h9 => h9) rfl dM_sinking_46 ?_
      refine lv_iload_n hx hb dM_sinking_49 rfl (lv_at hl 2 rfl) ?_
      refine xa_iald hx hb hK hP 1 0 rfl rfl (i := i) (by omega) (by decide) dM_sinking_50 ?_
      refine lv_i2l (v := (hd i).toInt64) hx hb dM_sinking_51 rfl ?_
      refine lv_lload hx hb dM_sinking_52 (lv_at hl 0 rfl) ?_
      refine lv_lload_n hx hb dM_sinking_54 rfl (lv_at hl 3 rfl) ?_
      refine lv_lsub hx hb dM_sinking_55 ?_
      refine lv_lmul hx hb dM_sinking_56 ?_
      refine lv_aload_n hx hb dM_sinking_57 rfl (lv_at hl 1 rfl) ?_
      refine va_get (D := (dC, dI)) (ci := 5) (v := .ref qsf) (C := R_M) (T := T_M) (N := 24) hx hb htw in_M hown hK hP 0 rfl rfl 5 (by decide) (htw _ m_362) (fun _ h9 => h9) rfl dM_sinking_58 ?_
      refine lv_iload_n hx hb dM_sinking_61 rfl (lv_at hl 2 rfl) ?_
      refine xa_iald hx hb hK hP 2 0 rfl rfl (i := i) (by omega) (by decide) dM_sinking_62 ?_
      refine lv_i2l (v := (sf i).toInt64) hx hb dM_sinking_63 rfl ?_
      refine lv_lload hx hb dM_sinking_64 (lv_at hl 4 rfl) ?_
      refine lv_lload hx hb dM_sinking_66 (lv_at hl 0 rfl) ?_
      refine lv_lsub hx hb dM_sinking_68 ?_
      refine lv_lmul hx hb dM_sinking_69 ?_
      refine lv_ladd hx hb dM_sinking_70 ?_
      have hP : va_P (dC, dI) vwCl [(mm, .inr (5, [.int (nI ly), .int (nI ce), .ref qlo, .ref qlk, .ref qhd, .ref qsf, .ref qpr, .ref qpa, .ref qsk, .long co, .long wo, .int (nI dy), .int da, .int db, .int dr, .int (nI mn), .ref qld, .ref qlz, .int (nI rn), .ref qrd, .ref qrv, .ref qhi, .ref qfw, .ref qkp])), (qhd, .inl (cI, 30, .inl hd)), (qsf, .inl (cI, 30, .inl sf)), (qpa, .inl (cJ, 30, .inr (.inl pa)))] s.heap := by first | exact hP | simpa only [] using hP
      have hD : va_D A [(mm, .inr (5, [.int (nI ly), .int (nI ce), .ref qlo, .ref qlk, .ref qhd, .ref qsf, .ref qpr, .ref qpa, .ref qsk, .long co, .long wo, .int (nI dy), .int da, .int db, .int dr, .int (nI mn), .ref qld, .ref qlz, .int (nI rn), .ref qrd, .ref qrv, .ref qhi, .ref qfw, .ref qkp])), (qhd, .inl (cI, 30, .inl hd)), (qsf, .inl (cI, 30, .inl sf)), (qpa, .inl (cJ, 30, .inr (.inl pa)))] := by first | exact hD | simpa only [] using hD
      exact W.lret (v := (((hd i).toInt64) * ((pa i) - u)) + (((sf i).toInt64) * (v - (pa i)))) hx hb hr (fun t ht hW => ⟨⟨(((hd i).toInt64) * ((pa i) - u)) + (((sf i).toInt64) * (v - (pa i))), (), rfl, by unfold k_sk; rw [if_neg (Int64.not_lt.mpr hc4)]; first | rw [if_pos (Int64.not_le.mp hc29)] | rw [if_neg (Int64.not_lt.mpr hc29)], by rw [ht]; exact hP, va_K.moved hW.alike hK, hD⟩, hS.F ht⟩) hS.2.2 dM_sinking_71
  · -- 4 not taken
    rw [lg_cmp_ge] at hc4
    refine lv_aload_n hx hb dM_sinking_7 rfl (lv_at hl 0 rfl) ?_
    refine va_get (D := (dC, dI)) (ci := 5) (v := .ref qhd) (C := R_M) (T := T_M) (N := 24) hx hb htw in_M hown hK hP 0 rfl rfl 4 (by decide) (htw _ m_361) (fun _ h9 => h9) rfl dM_sinking_8 ?_
    refine lv_iload_n hx hb dM_sinking_11 rfl (lv_at hl 1 rfl) ?_
    refine xa_iald hx hb hK hP 1 0 rfl rfl (i := i) (by omega) (by decide) dM_sinking_12 ?_
    refine lv_i2l (v := (hd i).toInt64) hx hb dM_sinking_13 rfl ?_
    refine lv_lload hx hb dM_sinking_14 (lv_at hl 3 rfl) ?_
    refine lv_lload_n hx hb dM_sinking_16 rfl (lv_at hl 2 rfl) ?_
    refine lv_lsub hx hb dM_sinking_17 ?_
    refine lv_lmul hx hb dM_sinking_18 ?_
    have hP : va_P (dC, dI) vwCl [(mm, .inr (5, [.int (nI ly), .int (nI ce), .ref qlo, .ref qlk, .ref qhd, .ref qsf, .ref qpr, .ref qpa, .ref qsk, .long co, .long wo, .int (nI dy), .int da, .int db, .int dr, .int (nI mn), .ref qld, .ref qlz, .int (nI rn), .ref qrd, .ref qrv, .ref qhi, .ref qfw, .ref qkp])), (qhd, .inl (cI, 30, .inl hd)), (qsf, .inl (cI, 30, .inl sf)), (qpa, .inl (cJ, 30, .inr (.inl pa)))] s.heap := by first | exact hP | simpa only [] using hP
    have hD : va_D A [(mm, .inr (5, [.int (nI ly), .int (nI ce), .ref qlo, .ref qlk, .ref qhd, .ref qsf, .ref qpr, .ref qpa, .ref qsk, .long co, .long wo, .int (nI dy), .int da, .int db, .int dr, .int (nI mn), .ref qld, .ref qlz, .int (nI rn), .ref qrd, .ref qrv, .ref qhi, .ref qfw, .ref qkp])), (qhd, .inl (cI, 30, .inl hd)), (qsf, .inl (cI, 30, .inl sf)), (qpa, .inl (cJ, 30, .inr (.inl pa)))] := by first | exact hD | simpa only [] using hD
    exact W.lret (v := ((hd i).toInt64) * (v - u)) hx hb hr (fun t ht hW => ⟨⟨((hd i).toInt64) * (v - u), (), rfl, by unfold k_sk; rw [if_pos (Int64.not_le.mp hc4)], by rw [ht]; exact hP, va_K.moved hW.alike hK, hD⟩, hS.F ht⟩) hS.2.2 dM_sinking_19
set_option maxHeartbeats 4000000 in
set_option maxRecDepth 100000 in
theorem kM_step (l : Launch) (dC : Nat → ClassId) (dI : Nat → Nat → Nat) (cI cJ : ClassId) (mm qlo qlk qhd qsf qpr qpa qsk qld qlz qrd qrv qhi qfw qkp : Nat) (sz : Nat) (ly : Nat) (ce : Nat) (co : Int64) (wo : Int64) (dy : Nat) (da : Int32) (db : Int32) (dr : Int32) (mn : Nat) (rn : Nat) (lk : Nat → Int32) (hd : Nat → Int32) (sf : Nat → Int32) (pr : Nat → Int64) (pa : Nat → Int64) (sk : Nat → Int64) (fw : Nat → Int64) (hce : ce ≤ 30) : Met l yM_step wM_step ({ frames := 1, cells := 0, slots := 0, locals := 27 }) (va_Pc [.ref mm] (fun U => U.heap.size = sz ∧ va_P (dC, dI) vwCl [(mm, .inr (5, [.int (nI ly), .int (nI ce), .ref qlo, .ref qlk, .ref qhd, .ref qsf, .ref qpr, .ref qpa, .ref qsk, .long co, .long wo, .int (nI dy), .int da, .int db, .int dr, .int (nI mn), .ref qld, .ref qlz, .int (nI rn), .ref qrd, .ref qrv, .ref qhi, .ref qfw, .ref qkp])), (qlk, .inl (cI, 30, .inl lk)), (qhd, .inl (cI, 30, .inl hd)), (qsf, .inl (cI, 30, .inl sf)), (qpr, .inl (cJ, 30, .inr (.inl pr))), (qpa, .inl (cJ, 30, .inr (.inl pa))), (qsk, .inl (cJ, 30, .inr (.inl sk))), (qfw, .inl (cJ, 31, .inr (.inl fw)))] U.heap ∧ va_K (dC, dI) vwCl [(cI, .int), (cJ, .long)] U ∧ va_D (fun _ => True) [(mm, .inr (5, [.int (nI ly), .int (nI ce), .ref qlo, .ref qlk, .ref qhd, .ref qsf, .ref qpr, .ref qpa, .ref qsk, .long co, .long wo, .int (nI dy), .int da, .int db, .int dr, .int (nI mn), .ref qld, .ref qlz, .int (nI rn), .ref qrd, .ref qrv, .ref qhi, .ref qfw, .ref qkp])), (qlk, .inl (cI, 30, .inl lk)), (qhd, .inl (cI, 30, .inl hd)), (qsf, .inl (cI, 30, .inl sf)), (qpr, .inl (cJ, 30, .inr (.inl pr))), (qpa, .inl (cJ, 30, .inr (.inl pa))), (qsk, .inl (cJ, 30, .inr (.inl sk))), (qfw, .inl (cJ, 31, .inr (.inl fw)))])) (va_Qv (fun (_ : Unit) => True) (fun _ t => ∃ (fw2 : Nat → Int64), va_P (dC, dI) vwCl [(mm, .inr (5, [.int (nI ly), .int (nI ce), .ref qlo, .ref qlk, .ref qhd, .ref qsf, .ref qpr, .ref qpa, .ref qsk, .long co, .long (k_ow lk (k_lm lk) ce da db dr pr wo ce + k_fl lk (k_lm lk) ce da db pr ce), .int (nI dy), .int da, .int db, .int dr, .int (nI mn), .ref qld, .ref qlz, .int (nI rn), .ref qrd, .ref qrv, .ref qhi, .ref qfw, .ref qkp])), (qlk, .inl (cI, 30, .inl lk)), (qhd, .inl (cI, 30, .inl hd)), (qsf, .inl (cI, 30, .inl sf)), (qpr, .inl (cJ, 30, .inr (.inl (k_np lk (k_lm lk) ce da db dr pr ce)))), (qpa, .inl (cJ, 30, .inr (.inl (k_rs co (k_np lk (k_lm lk) ce da db dr pr ce) pa ce)))), (qsk, .inl (cJ, 30, .inr (.inl (k_ss hd sf co pr (k_np lk (k_lm lk) ce da db dr pr ce) pa sk ce)))), (qfw, .inl (cJ, 31, .inr (.inl fw2)))] t.heap ∧ va_K (dC, dI) vwCl [(cI, .int), (cJ, .long)] t ∧ va_D (va_A [(mm, .inr (5, [.int (nI ly), .int (nI ce), .ref qlo, .ref qlk, .ref qhd, .ref qsf, .ref qpr, .ref qpa, .ref qsk, .long co, .long wo, .int (nI dy), .int da, .int db, .int dr, .int (nI mn), .ref qld, .ref qlz, .int (nI rn), .ref qrd, .ref qrv, .ref qhi, .ref qfw, .ref qkp])), (qlk, .inl (cI, 30, .inl lk)), (qhd, .inl (cI, 30, .inl hd)), (qsf, .inl (cI, 30, .inl sf)), (qpr, .inl (cJ, 30, .inr (.inl pr))), (qpa, .inl (cJ, 30, .inr (.inl pa))), (qsk, .inl (cJ, 30, .inr (.inl sk))), (qfw, .inl (cJ, 31, .inr (.inl fw)))] sz) [(mm, .inr (5, [.int (nI ly), .int (nI ce), .ref qlo, .ref qlk, .ref qhd, .ref qsf, .ref qpr, .ref qpa, .ref qsk, .long co, .long (k_ow lk (k_lm lk) ce da db dr pr wo ce + k_fl lk (k_lm lk) ce da db pr ce), .int (nI dy), .int da, .int db, .int dr, .int (nI mn), .ref qld, .ref qlz, .int (nI rn), .ref qrd, .ref qrv, .ref qhi, .ref qfw, .ref qkp])), (qlk, .inl (cI, 30, .inl lk)), (qhd, .inl (cI, 30, .inl hd)), (qsf, .inl (cI, 30, .inl sf)), (qpr, .inl (cJ, 30, .inr (.inl (k_np lk (k_lm lk) ce da db dr pr ce)))), (qpa, .inl (cJ, 30, .inr (.inl (k_rs co (k_np lk (k_lm lk) ce da db dr pr ce) pa ce)))), (qsk, .inl (cJ, 30, .inr (.inl (k_ss hd sf co pr (k_np lk (k_lm lk) ce da db dr pr ce) pa sk ce)))), (qfw, .inl (cJ, 31, .inr (.inl fw2)))]) (va_A [(mm, .inr (5, [.int (nI ly), .int (nI ce), .ref qlo, .ref qlk, .ref qhd, .ref qsf, .ref qpr, .ref qpa, .ref qsk, .long co, .long wo, .int (nI dy), .int da, .int db, .int dr, .int (nI mn), .ref qld, .ref qlz, .int (nI rn), .ref qrd, .ref qrv, .ref qhi, .ref qfw, .ref qkp])), (qlk, .inl (cI, 30, .inl lk)), (qhd, .inl (cI, 30, .inl hd)), (qsf, .inl (cI, 30, .inl sf)), (qpr, .inl (cJ, 30, .inr (.inl pr))), (qpa, .inl (cJ, 30, .inr (.inl pa))), (qsk, .inl (cJ, 30, .inr (.inl sk))), (qfw, .inl (cJ, 31, .inr (.inl fw)))] sz)) 0 0 (va_A [(mm, .inr (5, [.int (nI ly), .int (nI ce), .ref qlo, .ref qlk, .ref qhd, .ref qsf, .ref qpr, .ref qpa, .ref qsk, .long co, .long wo, .int (nI dy), .int da, .int db, .int dr, .int (nI mn), .ref qld, .ref qlz, .int (nI rn), .ref qrd, .ref qrv, .ref qhi, .ref qfw, .ref qkp])), (qlk, .inl (cI, 30, .inl lk)), (qhd, .inl (cI, 30, .inl hd)), (qsf, .inl (cI, 30, .inl sf)), (qpr, .inl (cJ, 30, .inr (.inl pr))), (qpa, .inl (cJ, 30, .inr (.inl pa))), (qsk, .inl (cJ, 30, .inr (.inl sk))), (qfw, .inl (cJ, 31, .inr (.inl fw)))] sz) := by
  refine Met.ofW (cc := bM_step) (maxL := 10) (ret := none) (by decide) rfl ?_
  intro p e s m args below meth c s₁ B hml hv
  obtain ⟨rfl, hsz, hP, hK, hD0⟩ := hv
  have hx := B.exec
  have hb := B.bytes
  have hr := B.returns
  have hts := atoms_spec (ws := wM_step) B.pre
  have hown : s.vm.findClass R_M = some m.cls := findClass_of_methodNamed B.named
  have htw : ∀ w ∈ WA, w.before _ s = true := fun w h => hts w (List.mem_cons_of_mem _ h)
  clear hts
  have hlocks := B.notSynchronized
  subst hsz
  have hD := hD0.self (sz := s.heap.size)
  generalize hAe : va_A [(mm, .inr (5, [.int (nI ly), .int (nI ce), .ref qlo, .ref qlk, .ref qhd, .ref qsf, .ref qpr, .ref qpa, .ref qsk, .long co, .long wo, .int (nI dy), .int da, .int db, .int dr, .int (nI mn), .ref qld, .ref qlz, .int (nI rn), .ref qrd, .ref qrv, .ref qhi, .ref qfw, .ref qkp])), (qlk, .inl (cI, 30, .inl lk)), (qhd, .inl (cI, 30, .inl hd)), (qsf, .inl (cI, 30, .inl sf)), (qpr, .inl (cJ, 30, .inr (.inl pr))), (qpa, .inl (cJ, 30, .inr (.inl pa))), (qsk, .inl (cJ, 30, .inr (.inl sk))), (qfw, .inl (cJ, 31, .inr (.inl fw)))] s.heap.size = A at hD ⊢
  have hA : ∀ q : Nat, s.heap.size ≤ q → A q := fun q h => by rw [← hAe]; exact Or.inr h
  clear hAe hD0
  have hS : va_S A s.heap s.heap [] := va_S.rf
  have hP : va_P (dC, dI) vwCl [(mm, .inr (5, [.int (nI ly), .int (nI ce), .ref qlo, .ref qlk, .ref qhd, .ref qsf, .ref qpr, .ref qpa, .ref qsk, .long co, .long wo, .int (nI dy), .int da, .int db, .int dr, .int (nI mn), .ref qld, .ref qlz, .int (nI rn), .ref qrd, .ref qrv, .ref qhi, .ref qfw, .ref qkp])), (qlk, .inl (cI, 30, .inl lk)), (qhd, .inl (cI, 30, .inl hd)), (qsf, .inl (cI, 30, .inl sf)), (qpr, .inl (cJ, 30, .inr (.inl pr))), (qpa, .inl (cJ, 30, .inr (.inl pa))), (qsk, .inl (cJ, 30, .inr (.inl sk))), (qfw, .inl (cJ, 31, .inr (.inl fw)))] s.heap := hP
  have hl := lv_entry ([.ref mm]) (n := 10) (Nat.le_of_ble_eq_true rfl)
  rw [lg_entry_eq]
  generalize (lg_sl ([.ref mm]) ++ List.replicate (10 - (lg_sl ([.ref mm])).length) Slot.unset).toArray = ls at hl ⊢
  have hl : lv_has ls 10 [(0, .ref mm)] := hl
  refine lv_iconst (v := nI 0) hx hb dM_step_0 (by decide) ?_
  refine lv_istore_n (lv' := [(1, .int (nI 0)), (0, .ref mm)]) hx hb dM_step_1 rfl hl (by decide) rfl (fun ls hl => ?_)
  -- the loop at 2
  have eq1 : (fw : Nat → Int64) = k_cp (k_fl lk (k_lm lk) ce da db pr) fw 0 := k_cp_0
  rw [eq1] at hP hD
  have hP : va_P (dC, dI) vwCl [(mm, .inr (5, [.int (nI ly), .int (nI ce), .ref qlo, .ref qlk, .ref qhd, .ref qsf, .ref qpr, .ref qpa, .ref qsk, .long co, .long wo, .int (nI dy), .int da, .int db, .int dr, .int (nI mn), .ref qld, .ref qlz, .int (nI rn), .ref qrd, .ref qrv, .ref qhi, .ref qfw, .ref qkp])), (qlk, .inl (cI, 30, .inl lk)), (qhd, .inl (cI, 30, .inl hd)), (qsf, .inl (cI, 30, .inl sf)), (qpr, .inl (cJ, 30, .inr (.inl pr))), (qpa, .inl (cJ, 30, .inr (.inl pa))), (qsk, .inl (cJ, 30, .inr (.inl sk))), (qfw, .inl (cJ, 31, .inr (.inl (k_cp (k_fl lk (k_lm lk) ce da db pr) fw 0))))] s.heap := by first | exact hP | simpa only [] using hP
  have hD : va_D A [(mm, .inr (5, [.int (nI ly), .int (nI ce), .ref qlo, .ref qlk, .ref qhd, .ref qsf, .ref qpr, .ref qpa, .ref qsk, .long co, .long wo, .int (nI dy), .int da, .int db, .int dr, .int (nI mn), .ref qld, .ref qlz, .int (nI rn), .ref qrd, .ref qrv, .ref qhi, .ref qfw, .ref qkp])), (qlk, .inl (cI, 30, .inl lk)), (qhd, .inl (cI, 30, .inl hd)), (qsf, .inl (cI, 30, .inl sf)), (qpr, .inl (cJ, 30, .inr (.inl pr))), (qpa, .inl (cJ, 30, .inr (.inl pa))), (qsk, .inl (cJ, 30, .inr (.inl sk))), (qfw, .inl (cJ, 31, .inr (.inl (k_cp (k_fl lk (k_lm lk) ce da db pr) fw 0))))] := by first | exact hD | simpa only [] using hD
  refine x_loop (N := ce + 1) (I := fun i H locs ls => va_P (dC, dI) vwCl [(mm, .inr (5, [.int (nI ly), .int (nI ce), .ref qlo, .ref qlk, .ref qhd, .ref qsf, .ref qpr, .ref qpa, .ref qsk, .long co, .long wo, .int (nI dy), .int da, .int db, .int dr, .int (nI mn), .ref qld, .ref qlz, .int (nI rn), .ref qrd, .ref qrv, .ref qhi, .ref qfw, .ref qkp])), (qlk, .inl (cI, 30, .inl lk)), (qhd, .inl (cI, 30, .inl hd)), (qsf, .inl (cI, 30, .inl sf)), (qpr, .inl (cJ, 30, .inr (.inl pr))), (qpa, .inl (cJ, 30, .inr (.inl pa))), (qsk, .inl (cJ, 30, .inr (.inl sk))), (qfw, .inl (cJ, 31, .inr (.inl (k_cp (k_fl lk (k_lm lk) ce da db pr) fw i))))] H ∧ va_D A [(mm, .inr (5, [.int (nI ly), .int (nI ce), .ref qlo, .ref qlk, .ref qhd, .ref qsf, .ref qpr, .ref qpa, .ref qsk, .long co, .long wo, .int (nI dy), .int da, .int db, .int dr, .int (nI mn), .ref qld, .ref qlz, .int (nI rn), .ref qrd, .ref qrv, .ref qhi, .ref qfw, .ref qkp])), (qlk, .inl (cI, 30, .inl lk)), (qhd, .inl (cI, 30, .inl hd)), (qsf, .inl (cI, 30, .inl sf)), (qpr, .inl (cJ, 30, .inr (.inl pr))), (qpa, .inl (cJ, 30, .inr (.inl pa))), (qsk, .inl (cJ, 30, .inr (.inl sk))), (qfw, .inl (cJ, 31, .inr (.inl (k_cp (k_fl lk (k_lm lk) ce da db pr) fw i))))] ∧ va_S A s.heap H locs ∧ lv_has ls 10 [(0, .ref mm), (1, .int (nI i))]) (i0 := 0) ?_ (Nat.zero_le _) ⟨hP, hD, hS, lv_sub hl [1, 0] rfl⟩
  intro i hi ih2 H locs ls hI
  obtain ⟨hP, hD, hS, hl⟩ := hI
  refine lv_iload_n hx hb dM_step_2 rfl (lv_at hl 1 rfl) ?_
  refine lv_aload_n hx hb dM_step_3 rfl (lv_at hl 0 rfl) ?_
  refine va_get (D := (dC, dI)) (ci := 5) (v := .int (nI ce)) (C := R_M) (T := T_M) (N := 24) hx hb htw in_M hown hK hP 0 rfl rfl 1 (by decide) (htw _ m_358) (fun _ h9 => h9) rfl dM_step_4 ?_
  refine lv_icmp_gt (tgt := 168) hx hb dM_step_7 (by decide) (fun hc7 => ?_) (fun hc7 => ?_)
  · -- 7 taken
    rw [nI_ltI (by omega) (by omega)] at hc7
    obtain rfl : i = ce + 1 := by omega
    refine lv_aload_n hx hb dM_step_168 rfl (lv_at hl 0 rfl) ?_
    refine lv_dup hx hb dM_step_169 rfl ?_
    refine va_get (D := (dC, dI)) (ci := 5) (v := .long wo) (C := R_M) (T := T_M) (N := 24) hx hb htw in_M hown hK hP 0 rfl rfl 10 (by decide) (htw _ m_367) (fun _ h9 => h9) rfl dM_step_170 ?_
    refine lv_aload_n hx hb dM_step_173 rfl (lv_at hl 0 rfl) ?_
    refine va_get (D := (dC, dI)) (ci := 5) (v := .ref qfw) (C := R_M) (T := T_M) (N := 24) hx hb htw in_M hown hK hP 0 rfl rfl 22 (by decide) (htw _ m_379) (fun _ h9 => h9) rfl dM_step_174 ?_
    refine lv_aload_n hx hb dM_step_177 rfl (lv_at hl 0 rfl) ?_
    refine va_get (D := (dC, dI)) (ci := 5) (v := .int (nI ce)) (C := R_M) (T := T_M) (N := 24) hx hb htw in_M hown hK hP 0 rfl rfl 1 (by decide) (htw _ m_358) (fun _ h9 => h9) rfl dM_step_178 ?_
    refine xa_lald hx hb hK hP 7 1 rfl rfl (i := ce) (by omega) (by decide) dM_step_181 ?_
    refine lv_topl (fun kv ekv => ?_)
    obtain rfl : k_fl lk (k_lm lk) ce da db pr ce = kv := (ekv.trans (if_pos (by omega))).symm
    refine lv_aload_n hx hb dM_step_182 rfl (lv_at hl 0 rfl) ?_
    refine va_get (D := (dC, dI)) (ci := 5) (v := .ref qfw) (C := R_M) (T := T_M) (N := 24) hx hb htw in_M hown hK hP 0 rfl rfl 22 (by decide) (htw _ m_379) (fun _ h9 => h9) rfl dM_step_183 ?_
    refine lv_iconst (v := nI 0) hx hb dM_step_186 (by decide) ?_
    refine xa_lald hx hb hK hP 7 1 rfl rfl (i := 0) (by omega) (by decide) dM_step_187 ?_
    refine lv_topl (fun kv ekv => ?_)
    obtain rfl : k_fl lk (k_lm lk) ce da db pr 0 = kv := (ekv.trans (if_pos (by omega))).symm
    refine lv_lsub hx hb dM_step_188 ?_
    refine lv_ladd hx hb dM_step_189 ?_
    refine va_put (D := (dC, dI)) (ci := 5) (v := .long (wo + ((k_fl lk (k_lm lk) ce da db pr ce) - (k_fl lk (k_lm lk) ce da db pr 0)))) (ty := .long) (C := R_M) (T := T_M) (N := 24) hx hb htw in_M ty_M tok_M nnm_M hown hK hP hD hS 0 rfl rfl 10 (by decide) (htw _ m_367) (fun _ h9 => h9) rfl (by decide +kernel) rfl rfl (Nat.le_of_ble_eq_true rfl) dM_step_190 (fun H locs hP hD hS => ?_)
    have hP : va_P (dC, dI) vwCl [(mm, .inr (5, [.int (nI ly), .int (nI ce), .ref qlo, .ref qlk, .ref qhd, .ref qsf, .ref qpr, .ref qpa, .ref qsk, .long co, .long (wo + ((k_fl lk (k_lm lk) ce da db pr ce) - (k_fl lk (k_lm lk) ce da db pr 0))), .int (nI dy), .int da, .int db, .int dr, .int (nI mn), .ref qld, .ref qlz, .int (nI rn), .ref qrd, .ref qrv, .ref qhi, .ref qfw, .ref qkp])), (qlk, .inl (cI, 30, .inl lk)), (qhd, .inl (cI, 30, .inl hd)), (qsf, .inl (cI, 30, .inl sf)), (qpr, .inl (cJ, 30, .inr (.inl pr))), (qpa, .inl (cJ, 30, .inr (.inl pa))), (qsk, .inl (cJ, 30, .inr (.inl sk))), (qfw, .inl (cJ, 31, .inr (.inl (k_cp (k_fl lk (k_lm lk) ce da db pr) fw (ce + 1)))))] H := hP
    have hD : va_D A [(mm, .inr (5, [.int (nI ly), .int (nI ce), .ref qlo, .ref qlk, .ref qhd, .ref qsf, .ref qpr, .ref qpa, .ref qsk, .long co, .long (wo + ((k_fl lk (k_lm lk) ce da db pr ce) - (k_fl lk (k_lm lk) ce da db pr 0))), .int (nI dy), .int da, .int db, .int dr, .int (nI mn), .ref qld, .ref qlz, .int (nI rn), .ref qrd, .ref qrv, .ref qhi, .ref qfw, .ref qkp])), (qlk, .inl (cI, 30, .inl lk)), (qhd, .inl (cI, 30, .inl hd)), (qsf, .inl (cI, 30, .inl sf)), (qpr, .inl (cJ, 30, .inr (.inl pr))), (qpa, .inl (cJ, 30, .inr (.inl pa))), (qsk, .inl (cJ, 30, .inr (.inl sk))), (qfw, .inl (cJ, 31, .inr (.inl (k_cp (k_fl lk (k_lm lk) ce da db pr) fw (ce + 1)))))] := hD
    refine lv_iconst (v := nI 0) hx hb dM_step_193 (by decide) ?_
    refine lv_istore_n (lv' := [(1, .int (nI 0)), (0, .ref mm)]) hx hb dM_step_194 rfl hl (by decide) rfl (fun ls hl => ?_)
    -- the loop at 195
    have eq2 : (wo + ((k_fl lk (k_lm lk) ce da db pr ce) - (k_fl lk (k_lm lk) ce da db pr 0)) : Int64) = wo + (k_fl lk (k_lm lk) ce da db pr ce - k_fl lk (k_lm lk) ce da db pr 0) + k_sum (k_dr dr pr) 0 := (by show _ = _ + 0; rw [Int64.add_zero])
    rw [eq2] at hP hD
    have eq3 : (pr : Nat → Int64) = k_np lk (k_lm lk) ce da db dr pr 0 := k_np_0
    rw [eq3] at hP hD
    have eq4 : (pa : Nat → Int64) = k_rs co (k_np lk (k_lm lk) ce da db dr pr ce) pa 0 := k_rs_0
    rw [eq4] at hP hD
    have eq5 : (sk : Nat → Int64) = k_ss hd sf co pr (k_np lk (k_lm lk) ce da db dr pr ce) pa sk 0 := k_ss_0
    rw [eq5] at hP hD
    have hP : va_P (dC, dI) vwCl [(mm, .inr (5, [.int (nI ly), .int (nI ce), .ref qlo, .ref qlk, .ref qhd, .ref qsf, .ref qpr, .ref qpa, .ref qsk, .long co, .long (wo + (k_fl lk (k_lm lk) ce da db pr ce - k_fl lk (k_lm lk) ce da db pr 0) + k_sum (k_dr dr pr) 0), .int (nI dy), .int da, .int db, .int dr, .int (nI mn), .ref qld, .ref qlz, .int (nI rn), .ref qrd, .ref qrv, .ref qhi, .ref qfw, .ref qkp])), (qlk, .inl (cI, 30, .inl lk)), (qhd, .inl (cI, 30, .inl hd)), (qsf, .inl (cI, 30, .inl sf)), (qpr, .inl (cJ, 30, .inr (.inl (k_np lk (k_lm lk) ce da db dr pr 0)))), (qpa, .inl (cJ, 30, .inr (.inl (k_rs co (k_np lk (k_lm lk) ce da db dr pr ce) pa 0)))), (qsk, .inl (cJ, 30, .inr (.inl (k_ss hd sf co pr (k_np lk (k_lm lk) ce da db dr pr ce) pa sk 0)))), (qfw, .inl (cJ, 31, .inr (.inl (k_cp (k_fl lk (k_lm lk) ce da db pr) fw (ce + 1)))))] H := by first | exact hP | simpa only [] using hP
    have hD : va_D A [(mm, .inr (5, [.int (nI ly), .int (nI ce), .ref qlo, .ref qlk, .ref qhd, .ref qsf, .ref qpr, .ref qpa, .ref qsk, .long co, .long (wo + (k_fl lk (k_lm lk) ce da db pr ce - k_fl lk (k_lm lk) ce da db pr 0) + k_sum (k_dr dr pr) 0), .int (nI dy), .int da, .int db, .int dr, .int (nI mn), .ref qld, .ref qlz, .int (nI rn), .ref qrd, .ref qrv, .ref qhi, .ref qfw, .ref qkp])), (qlk, .inl (cI, 30, .inl lk)), (qhd, .inl (cI, 30, .inl hd)), (qsf, .inl (cI, 30, .inl sf)), (qpr, .inl (cJ, 30, .inr (.inl (k_np lk (k_lm lk) ce da db dr pr 0)))), (qpa, .inl (cJ, 30, .inr (.inl (k_rs co (k_np lk (k_lm lk) ce da db dr pr ce) pa 0)))), (qsk, .inl (cJ, 30, .inr (.inl (k_ss hd sf co pr (k_np lk (k_lm lk) ce da db dr pr ce) pa sk 0)))), (qfw, .inl (cJ, 31, .inr (.inl (k_cp (k_fl lk (k_lm lk) ce da db pr) fw (ce + 1)))))] := by first | exact hD | simpa only [] using hD
    refine x_loop (N := ce) (I := fun i H locs ls => va_P (dC, dI) vwCl [(mm, .inr (5, [.int (nI ly), .int (nI ce), .ref qlo, .ref qlk, .ref qhd, .ref qsf, .ref qpr, .ref qpa, .ref qsk, .long co, .long (wo + (k_fl lk (k_lm lk) ce da db pr ce - k_fl lk (k_lm lk) ce da db pr 0) + k_sum (k_dr dr pr) i), .int (nI dy), .int da, .int db, .int dr, .int (nI mn), .ref qld, .ref qlz, .int (nI rn), .ref qrd, .ref qrv, .ref qhi, .ref qfw, .ref qkp])), (qlk, .inl (cI, 30, .inl lk)), (qhd, .inl (cI, 30, .inl hd)), (qsf, .inl (cI, 30, .inl sf)), (qpr, .inl (cJ, 30, .inr (.inl (k_np lk (k_lm lk) ce da db dr pr i)))), (qpa, .inl (cJ, 30, .inr (.inl (k_rs co (k_np lk (k_lm lk) ce da db dr pr ce) pa i)))), (qsk, .inl (cJ, 30, .inr (.inl (k_ss hd sf co pr (k_np lk (k_lm lk) ce da db dr pr ce) pa sk i)))), (qfw, .inl (cJ, 31, .inr (.inl (k_cp (k_fl lk (k_lm lk) ce da db pr) fw (ce + 1)))))] H ∧ va_D A [(mm, .inr (5, [.int (nI ly), .int (nI ce), .ref qlo, .ref qlk, .ref qhd, .ref qsf, .ref qpr, .ref qpa, .ref qsk, .long co, .long (wo + (k_fl lk (k_lm lk) ce da db pr ce - k_fl lk (k_lm lk) ce da db pr 0) + k_sum (k_dr dr pr) i), .int (nI dy), .int da, .int db, .int dr, .int (nI mn), .ref qld, .ref qlz, .int (nI rn), .ref qrd, .ref qrv, .ref qhi, .ref qfw, .ref qkp])), (qlk, .inl (cI, 30, .inl lk)), (qhd, .inl (cI, 30, .inl hd)), (qsf, .inl (cI, 30, .inl sf)), (qpr, .inl (cJ, 30, .inr (.inl (k_np lk (k_lm lk) ce da db dr pr i)))), (qpa, .inl (cJ, 30, .inr (.inl (k_rs co (k_np lk (k_lm lk) ce da db dr pr ce) pa i)))), (qsk, .inl (cJ, 30, .inr (.inl (k_ss hd sf co pr (k_np lk (k_lm lk) ce da db dr pr ce) pa sk i)))), (qfw, .inl (cJ, 31, .inr (.inl (k_cp (k_fl lk (k_lm lk) ce da db pr) fw (ce + 1)))))] ∧ va_S A s.heap H locs ∧ lv_has ls 10 [(0, .ref mm), (1, .int (nI i))]) (i0 := 0) ?_ (Nat.zero_le _) ⟨hP, hD, hS, lv_sub hl [1, 0] rfl⟩
    intro i hi ih195 H locs ls hI
    obtain ⟨hP, hD, hS, hl⟩ := hI
    refine lv_iload_n hx hb dM_step_195 rfl (lv_at hl 1 rfl) ?_
    refine lv_aload_n hx hb dM_step_196 rfl (lv_at hl 0 rfl) ?_
    refine va_get (D := (dC, dI)) (ci := 5) (v := .int (nI ce)) (C := R_M) (T := T_M) (N := 24) hx hb htw in_M hown hK hP 0 rfl rfl 1 (by decide) (htw _ m_358) (fun _ h9 => h9) rfl dM_step_197 ?_
    refine lv_icmp_ge (tgt := 339) hx hb dM_step_200 (by decide) (fun hc200 => ?_) (fun hc200 => ?_)
    · -- 200 taken
      rw [nI_leI (by omega) (by omega)] at hc200
      obtain rfl : ce = i := by omega
      have eq6 : (wo + (k_fl lk (k_lm lk) ce da db pr ce - k_fl lk (k_lm lk) ce da db pr 0) + k_sum (k_dr dr pr) ce : Int64) = k_ow lk (k_lm lk) ce da db dr pr wo ce + k_fl lk (k_lm lk) ce da db pr ce := k_gone
      rw [eq6] at hP hD
      have hP : va_P (dC, dI) vwCl [(mm, .inr (5, [.int (nI ly), .int (nI ce), .ref qlo, .ref qlk, .ref qhd, .ref qsf, .ref qpr, .ref qpa, .ref qsk, .long co, .long (k_ow lk (k_lm lk) ce da db dr pr wo ce + k_fl lk (k_lm lk) ce da db pr ce), .int (nI dy), .int da, .int db, .int dr, .int (nI mn), .ref qld, .ref qlz, .int (nI rn), .ref qrd, .ref qrv, .ref qhi, .ref qfw, .ref qkp])), (qlk, .inl (cI, 30, .inl lk)), (qhd, .inl (cI, 30, .inl hd)), (qsf, .inl (cI, 30, .inl sf)), (qpr, .inl (cJ, 30, .inr (.inl (k_np lk (k_lm lk) ce da db dr pr ce)))), (qpa, .inl (cJ, 30, .inr (.inl (k_rs co (k_np lk (k_lm lk) ce da db dr pr ce) pa ce)))), (qsk, .inl (cJ, 30, .inr (.inl (k_ss hd sf co pr (k_np lk (k_lm lk) ce da db dr pr ce) pa sk ce)))), (qfw, .inl (cJ, 31, .inr (.inl (k_cp (k_fl lk (k_lm lk) ce da db pr) fw (ce + 1)))))] H := by first | exact hP | simpa only [] using hP
      have hD : va_D A [(mm, .inr (5, [.int (nI ly), .int (nI ce), .ref qlo, .ref qlk, .ref qhd, .ref qsf, .ref qpr, .ref qpa, .ref qsk, .long co, .long (k_ow lk (k_lm lk) ce da db dr pr wo ce + k_fl lk (k_lm lk) ce da db pr ce), .int (nI dy), .int da, .int db, .int dr, .int (nI mn), .ref qld, .ref qlz, .int (nI rn), .ref qrd, .ref qrv, .ref qhi, .ref qfw, .ref qkp])), (qlk, .inl (cI, 30, .inl lk)), (qhd, .inl (cI, 30, .inl hd)), (qsf, .inl (cI, 30, .inl sf)), (qpr, .inl (cJ, 30, .inr (.inl (k_np lk (k_lm lk) ce da db dr pr ce)))), (qpa, .inl (cJ, 30, .inr (.inl (k_rs co (k_np lk (k_lm lk) ce da db dr pr ce) pa ce)))), (qsk, .inl (cJ, 30, .inr (.inl (k_ss hd sf co pr (k_np lk (k_lm lk) ce da db dr pr ce) pa sk ce)))), (qfw, .inl (cJ, 31, .inr (.inl (k_cp (k_fl lk (k_lm lk) ce da db pr) fw (ce + 1)))))] := by first | exact hD | simpa only [] using hD
      exact W.vret hx hb hr (fun t ht hW => ⟨⟨(), rfl, trivial, (k_cp (k_fl lk (k_lm lk) ce da db pr) fw (ce + 1)), by rw [ht]; exact hP, va_K.moved hW.alike hK, hD⟩, hS.F ht⟩) hS.2.2 dM_step_339
    · -- 200 not taken
      rw [nI_leI (by omega) (by omega)] at hc200
      refine lv_aload_n hx hb dM_step_203 rfl (lv_at hl 0 rfl) ?_
      refine va_get (D := (dC, dI)) (ci := 5) (v := .ref qpr) (C := R_M) (T := T_M) (N := 24) hx hb htw in_M hown hK hP 0 rfl rfl 6 (by decide) (htw _ m_363) (fun _ h9 => h9) rfl dM_step_204 ?_
      refine lv_iload_n hx hb dM_step_207 rfl (lv_at hl 1 rfl) ?_
      refine xa_lald hx hb hK hP 4 1 rfl rfl (i := i) (by omega) (by decide) dM_step_208 ?_
      refine lv_aload_n hx hb dM_step_209 rfl (lv_at hl 0 rfl) ?_
      refine va_get (D := (dC, dI)) (ci := 5) (v := .int dr) (C := R_M) (T := T_M) (N := 24) hx hb htw in_M hown hK hP 0 rfl rfl 14 (by decide) (htw _ m_371) (fun _ h9 => h9) rfl dM_step_210 ?_
      refine lv_i2l (v := dr.toInt64) hx hb dM_step_213 rfl ?_
      refine lv_lmul hx hb dM_step_214 ?_
      refine lv_ldc2 (v := 1000) hx hb hown (htw _ m_439) dM_step_215 ?_
      refine lv_ldiv hx hb dM_step_218 (by decide) ?_
      refine lv_topl (fun kv ekv => ?_)
      obtain rfl : k_dr dr pr i = kv := (ekv.trans (by rw [k_np_at (Nat.le_refl i)]; rfl)).symm
      refine lv_lstore_n (lv' := [(2, .long (k_dr dr pr i)), (0, .ref mm), (1, .int (nI i))]) hx hb dM_step_219 rfl hl (by decide) rfl (fun ls hl => ?_)
      refine lv_aload_n hx hb dM_step_220 rfl (lv_at hl 1 rfl) ?_
      refine va_get (D := (dC, dI)) (ci := 5) (v := .ref qpr) (C := R_M) (T := T_M) (N := 24) hx hb htw in_M hown hK hP 0 rfl rfl 6 (by decide) (htw _ m_363) (fun _ h9 => h9) rfl dM_step_221 ?_
      refine lv_iload_n hx hb dM_step_224 rfl (lv_at hl 2 rfl) ?_
      refine xa_lald hx hb hK hP 4 1 rfl rfl (i := i) (by omega) (by decide) dM_step_225 ?_
      refine lv_topl (fun kv ekv => ?_)
      obtain rfl : pr i = kv := (ekv.trans (k_np_at (Nat.le_refl i))).symm
      refine lv_aload_n hx hb dM_step_226 rfl (lv_at hl 1 rfl) ?_
      refine va_get (D := (dC, dI)) (ci := 5) (v := .ref qfw) (C := R_M) (T := T_M) (N := 24) hx hb htw in_M hown hK hP 0 rfl rfl 22 (by decide) (htw _ m_379) (fun _ h9 => h9) rfl dM_step_227 ?_
      refine lv_iload_n hx hb dM_step_230 rfl (lv_at hl 2 rfl) ?_
      refine xa_lald hx hb hK hP 7 1 rfl rfl (i := i) (by omega) (by decide) dM_step_231 ?_
      refine lv_topl (fun kv ekv => ?_)
      obtain rfl : k_fl lk (k_lm lk) ce da db pr i = kv := (ekv.trans (if_pos (by omega))).symm
      refine lv_ladd hx hb dM_step_232 ?_
      refine lv_aload_n hx hb dM_step_233 rfl (lv_at hl 1 rfl) ?_
      refine va_get (D := (dC, dI)) (ci := 5) (v := .ref qfw) (C := R_M) (T := T_M) (N := 24) hx hb htw in_M hown hK hP 0 rfl rfl 22 (by decide) (htw _ m_379) (fun _ h9 => h9) rfl dM_step_234 ?_
      refine lv_iload_n hx hb dM_step_237 rfl (lv_at hl 2 rfl) ?_
      refine lv_iconst (v := nI 1) hx hb dM_step_238 (by decide) ?_
      refine lv_iadd hx hb dM_step_239 ?_
      refine lv_topi (fun kv ekv => ?_)
      obtain rfl : kv = nI (i + 1) := by rw [ekv]; exact nI_add _ _
      refine xa_lald hx hb hK hP 7 1 rfl rfl (i := (i + 1)) (by omega) (by decide) dM_step_240 ?_
      refine lv_topl (fun kv ekv => ?_)
      obtain rfl : k_fl lk (k_lm lk) ce da db pr (i + 1) = kv := (ekv.trans (if_pos (by omega))).symm
      refine lv_lsub hx hb dM_step_241 ?_
      refine lv_lload_n hx hb dM_step_242 rfl (lv_at hl 0 rfl) ?_
      refine lv_lsub hx hb dM_step_243 ?_
      refine lv_topl (fun kv ekv => ?_)
      obtain rfl : (k_np lk (k_lm lk) ce da db dr pr ce) i = kv := (ekv.trans (k_now (by omega))).symm
      refine lv_lstore (lv' := [(4, .long ((k_np lk (k_lm lk) ce da db dr pr ce) i)), (2, .long (k_dr dr pr i)), (0, .ref mm), (1, .int (nI i))]) hx hb dM_step_244 hl (by decide) rfl (fun ls hl => ?_)
      refine lv_aload_n hx hb dM_step_246 rfl (lv_at hl 2 rfl) ?_
      refine va_get (D := (dC, dI)) (ci := 5) (v := .long co) (C := R_M) (T := T_M) (N := 24) hx hb htw in_M hown hK hP 0 rfl rfl 9 (by decide) (htw _ m_366) (fun _ h9 => h9) rfl dM_step_247 ?_
      refine lv_aload_n hx hb dM_step_250 rfl (lv_at hl 2 rfl) ?_
      refine va_get (D := (dC, dI)) (ci := 5) (v := .ref qpr) (C := R_M) (T := T_M) (N := 24) hx hb htw in_M hown hK hP 0 rfl rfl 6 (by decide) (htw _ m_363) (fun _ h9 => h9) rfl dM_step_251 ?_
      refine lv_iload_n hx hb dM_step_254 rfl (lv_at hl 3 rfl) ?_
      refine xa_lald hx hb hK hP 4 1 rfl rfl (i := i) (by omega) (by decide) dM_step_255 ?_
      refine lv_topl (fun kv ekv => ?_)
      obtain rfl : pr i = kv := (ekv.trans (k_np_at (Nat.le_refl i))).symm
      refine lv_lsub hx hb dM_step_256 ?_
      refine lv_lstore (lv' := [(6, .long (co - (pr i))), (4, .long ((k_np lk (k_lm lk) ce da db dr pr ce) i)), (2, .long (k_dr dr pr i)), (0, .ref mm), (1, .int (nI i))]) hx hb dM_step_257 hl (by decide) rfl (fun ls hl => ?_)
      refine lv_aload_n hx hb dM_step_259 rfl (lv_at hl 3 rfl) ?_
      refine va_get (D := (dC, dI)) (ci := 5) (v := .long co) (C := R_M) (T := T_M) (N := 24) hx hb htw in_M hown hK hP 0 rfl rfl 9 (by decide) (htw _ m_366) (fun _ h9 => h9) rfl dM_step_260 ?_
      refine lv_lload hx hb dM_step_263 (lv_at hl 1 rfl) ?_
      refine lv_lsub hx hb dM_step_265 ?_
      refine lv_lstore (lv' := [(8, .long (co - ((k_np lk (k_lm lk) ce da db dr pr ce) i))), (6, .long (co - (pr i))), (4, .long ((k_np lk (k_lm lk) ce da db dr pr ce) i)), (2, .long (k_dr dr pr i)), (0, .ref mm), (1, .int (nI i))]) hx hb dM_step_266 hl (by decide) rfl (fun ls hl => ?_)
      refine lv_aload_n hx hb dM_step_268 rfl (lv_at hl 4 rfl) ?_
      refine lv_dup hx hb dM_step_269 rfl ?_
      refine va_get (D := (dC, dI)) (ci := 5) (v := .long (wo + (k_fl lk (k_lm lk) ce da db pr ce - k_fl lk (k_lm lk) ce da db pr 0) + k_sum (k_dr dr pr) i)) (C := R_M) (T := T_M) (N := 24) hx hb htw in_M hown hK hP 0 rfl rfl 10 (by decide) (htw _ m_367) (fun _ h9 => h9) rfl dM_step_270 ?_
      refine lv_lload_n hx hb dM_step_273 rfl (lv_at hl 3 rfl) ?_
      refine lv_ladd hx hb dM_step_274 ?_
      refine va_put (D := (dC, dI)) (ci := 5) (v := .long ((wo + (k_fl lk (k_lm lk) ce da db pr ce - k_fl lk (k_lm lk) ce da db pr 0) + k_sum (k_dr dr pr) i) + (k_dr dr pr i))) (ty := .long) (C := R_M) (T := T_M) (N := 24) hx hb htw in_M ty_M tok_M nnm_M hown hK hP hD hS 0 rfl rfl 10 (by decide) (htw _ m_367) (fun _ h9 => h9) rfl (by decide +kernel) rfl rfl (Nat.le_of_ble_eq_true rfl) dM_step_275 (fun H locs hP hD hS => ?_)
      have hP : va_P (dC, dI) vwCl [(mm, .inr (5, [.int (nI ly), .int (nI ce), .ref qlo, .ref qlk, .ref qhd, .ref qsf, .ref qpr, .ref qpa, .ref qsk, .long co, .long ((wo + (k_fl lk (k_lm lk) ce da db pr ce - k_fl lk (k_lm lk) ce da db pr 0) + k_sum (k_dr dr pr) i) + (k_dr dr pr i)), .int (nI dy), .int da, .int db, .int dr, .int (nI mn), .ref qld, .ref qlz, .int (nI rn), .ref qrd, .ref qrv, .ref qhi, .ref qfw, .ref qkp])), (qlk, .inl (cI, 30, .inl lk)), (qhd, .inl (cI, 30, .inl hd)), (qsf, .inl (cI, 30, .inl sf)), (qpr, .inl (cJ, 30, .inr (.inl (k_np lk (k_lm lk) ce da db dr pr i)))), (qpa, .inl (cJ, 30, .inr (.inl (k_rs co (k_np lk (k_lm lk) ce da db dr pr ce) pa i)))), (qsk, .inl (cJ, 30, .inr (.inl (k_ss hd sf co pr (k_np lk (k_lm lk) ce da db dr pr ce) pa sk i)))), (qfw, .inl (cJ, 31, .inr (.inl (k_cp (k_fl lk (k_lm lk) ce da db pr) fw (ce + 1)))))] H := hP
      have hD : va_D A [(mm, .inr (5, [.int (nI ly), .int (nI ce), .ref qlo, .ref qlk, .ref qhd, .ref qsf, .ref qpr, .ref qpa, .ref qsk, .long co, .long ((wo + (k_fl lk (k_lm lk) ce da db pr ce - k_fl lk (k_lm lk) ce da db pr 0) + k_sum (k_dr dr pr) i) + (k_dr dr pr i)), .int (nI dy), .int da, .int db, .int dr, .int (nI mn), .ref qld, .ref qlz, .int (nI rn), .ref qrd, .ref qrv, .ref qhi, .ref qfw, .ref qkp])), (qlk, .inl (cI, 30, .inl lk)), (qhd, .inl (cI, 30, .inl hd)), (qsf, .inl (cI, 30, .inl sf)), (qpr, .inl (cJ, 30, .inr (.inl (k_np lk (k_lm lk) ce da db dr pr i)))), (qpa, .inl (cJ, 30, .inr (.inl (k_rs co (k_np lk (k_lm lk) ce da db dr pr ce) pa i)))), (qsk, .inl (cJ, 30, .inr (.inl (k_ss hd sf co pr (k_np lk (k_lm lk) ce da db dr pr ce) pa sk i)))), (qfw, .inl (cJ, 31, .inr (.inl (k_cp (k_fl lk (k_lm lk) ce da db pr) fw (ce + 1)))))] := hD
      refine lv_aload_n hx hb dM_step_278 rfl (lv_at hl 4 rfl) ?_
      refine va_get (D := (dC, dI)) (ci := 5) (v := .ref qsk) (C := R_M) (T := T_M) (N := 24) hx hb htw in_M hown hK hP 0 rfl rfl 8 (by decide) (htw _ m_365) (fun _ h9 => h9) rfl dM_step_279 ?_
      refine lv_iload_n hx hb dM_step_282 rfl (lv_at hl 5 rfl) ?_
      refine lv_dup2_11 hx hb dM_step_283 rfl rfl ?_
      refine xa_lald hx hb hK hP 6 1 rfl rfl (i := i) (by omega) (by decide) dM_step_284 ?_
      refine lv_aload_n hx hb dM_step_285 rfl (lv_at hl 4 rfl) ?_
      refine lv_iload_n hx hb dM_step_286 rfl (lv_at hl 5 rfl) ?_
      refine lv_lload hx hb dM_step_287 (lv_at hl 1 rfl) ?_
      refine lv_lload hx hb dM_step_289 (lv_at hl 0 rfl) ?_
      have hPc := hP.sub (ws' := [(mm, .inr (5, [.int (nI ly), .int (nI ce), .ref qlo, .ref qlk, .ref qhd, .ref qsf, .ref qpr, .ref qpa, .ref qsk, .long co, .long ((wo + (k_fl lk (k_lm lk) ce da db pr ce - k_fl lk (k_lm lk) ce da db pr 0) + k_sum (k_dr dr pr) i) + (k_dr dr pr i)), .int (nI dy), .int da, .int db, .int dr, .int (nI mn), .ref qld, .ref qlz, .int (nI rn), .ref qrd, .ref qrv, .ref qhi, .ref qfw, .ref qkp])), (qhd, .inl (cI, 30, .inl hd)), (qsf, .inl (cI, 30, .inl sf)), (qpa, .inl (cJ, 30, .inr (.inl (k_rs co (k_np lk (k_lm lk) ce da db dr pr ce) pa i))))]) [0, 2, 3, 5] rfl
      have hDc := hD.sub (ws' := [(mm, .inr (5, [.int (nI ly), .int (nI ce), .ref qlo, .ref qlk, .ref qhd, .ref qsf, .ref qpr, .ref qpa, .ref qsk, .long co, .long ((wo + (k_fl lk (k_lm lk) ce da db pr ce - k_fl lk (k_lm lk) ce da db pr 0) + k_sum (k_dr dr pr) i) + (k_dr dr pr i)), .int (nI dy), .int da, .int db, .int dr, .int (nI mn), .ref qld, .ref qlz, .int (nI rn), .ref qrd, .ref qrv, .ref qhi, .ref qfw, .ref qkp])), (qhd, .inl (cI, 30, .inl hd)), (qsf, .inl (cI, 30, .inl sf)), (qpa, .inl (cJ, 30, .inr (.inl (k_rs co (k_np lk (k_lm lk) ce da db dr pr ce) pa i))))]) [0, 2, 3, 5] (by decide) rfl
      have hFc := va_free (wc := [(mm, .inr (5, [.int (nI ly), .int (nI ce), .ref qlo, .ref qlk, .ref qhd, .ref qsf, .ref qpr, .ref qpa, .ref qsk, .long co, .long ((wo + (k_fl lk (k_lm lk) ce da db pr ce - k_fl lk (k_lm lk) ce da db pr 0) + k_sum (k_dr dr pr) i) + (k_dr dr pr i)), .int (nI dy), .int da, .int db, .int dr, .int (nI mn), .ref qld, .ref qlz, .int (nI rn), .ref qrd, .ref qrv, .ref qhi, .ref qfw, .ref qkp])), (qhd, .inl (cI, 30, .inl hd)), (qsf, .inl (cI, 30, .inl sf)), (qpa, .inl (cJ, 30, .inr (.inl (k_rs co (k_np lk (k_lm lk) ce da db dr pr ce) pa i))))]) hD hS hA [0, 2, 3, 5] rfl
      refine va_calll (va_runV (As := [.int (nI i), .long (co - (pr i)), .long (co - ((k_np lk (k_lm lk) ce da db dr pr ce) i))]) (rest := [.long ((k_ss hd sf co pr (k_np lk (k_lm lk) ce da db dr pr ce) pa sk i) i), .int (nI i), .ref qsk]) ⟨hx, hb, hml, hown, htw⟩ (kM_sinking l dC dI cI cJ mm qlo qlk qhd qsf qpr qpa qsk qld qlz qrd qrv qhi qfw qkp H.size i (co - (pr i)) (co - ((k_np lk (k_lm lk) ce da db dr pr ce) i)) ly ce co ((wo + (k_fl lk (k_lm lk) ce da db pr ce - k_fl lk (k_lm lk) ce da db pr 0) + k_sum (k_dr dr pr) i) + (k_dr dr pr i)) dy da db dr mn rn hd sf (k_rs co (k_np lk (k_lm lk) ce da db dr pr ce) pa i) (by first | assumption | omega | decide)) (cwV 3 htw (wv_good m_465 m_467 ms_7 m_6 m_468) rfl rfl rfl (by decide +kernel) ⟨Nat.le_of_ble_eq_true rfl, Nat.le_of_ble_eq_true rfl⟩) ⟨fun a U g mk q => by obtain ⟨q0, q1, qP, qK, qD⟩ := q; exact ⟨q0, q1, qP, va_K.moved (u := U) (U := U.calling g mk a) (Vm.Alike.refl U.vm) qK, qD⟩, va_recv hK hPc (ci := 5) (q0 := 0) rfl rfl, fun U hU hW => ⟨rfl, by rw [hU], by rw [hU]; exact hPc, va_K.moved hW.alike hK, hDc.weaken (fun _ _ _ _ => trivial)⟩⟩ rfl rfl hl.1 rfl (lv_room (Nat.le_of_ble_eq_true rfl)) dM_step_291 ⟨Nat.le_of_ble_eq_true rfl, Nat.le_of_ble_eq_true rfl⟩) hS (fun q _ h => hFc q h) hFc (fun res_ u_ t H1 locs ht hvm hw hB hz1 hk1 hS => ?_)
      obtain ⟨hP1, hK1, hD1⟩ := hB
      rw [ht] at hP1
      obtain ⟨hP, hD⟩ := va_join (wr := [(qlk, .inl (cI, 30, .inl lk)), (qpr, .inl (cJ, 30, .inr (.inl (k_np lk (k_lm lk) ce da db dr pr i)))), (qsk, .inl (cJ, 30, .inr (.inl (k_ss hd sf co pr (k_np lk (k_lm lk) ce da db dr pr ce) pa sk i)))), (qfw, .inl (cJ, 31, .inr (.inl (k_cp (k_fl lk (k_lm lk) ce da db pr) fw (ce + 1)))))]) (w1 := [(mm, .inr (5, [.int (nI ly), .int (nI ce), .ref qlo, .ref qlk, .ref qhd, .ref qsf, .ref qpr, .ref qpa, .ref qsk, .long co, .long ((wo + (k_fl lk (k_lm lk) ce da db pr ce - k_fl lk (k_lm lk) ce da db pr 0) + k_sum (k_dr dr pr) i) + (k_dr dr pr i)), .int (nI dy), .int da, .int db, .int dr, .int (nI mn), .ref qld, .ref qlz, .int (nI rn), .ref qrd, .ref qrv, .ref qhi, .ref qfw, .ref qkp])), (qhd, .inl (cI, 30, .inl hd)), (qsf, .inl (cI, 30, .inl sf)), (qpa, .inl (cJ, 30, .inr (.inl (k_rs co (k_np lk (k_lm lk) ce da db dr pr ce) pa i))))]) hP hD [0, 2, 3, 5] [1, 4, 6, 7] rfl rfl (by decide) (by decide) hk1 hFc hP1 hD1
      generalize H1 = H at hP hS ⊢
      have hP := hP.sub (ws' := [(mm, .inr (5, [.int (nI ly), .int (nI ce), .ref qlo, .ref qlk, .ref qhd, .ref qsf, .ref qpr, .ref qpa, .ref qsk, .long co, .long ((wo + (k_fl lk (k_lm lk) ce da db pr ce - k_fl lk (k_lm lk) ce da db pr 0) + k_sum (k_dr dr pr) i) + (k_dr dr pr i)), .int (nI dy), .int da, .int db, .int dr, .int (nI mn), .ref qld, .ref qlz, .int (nI rn), .ref qrd, .ref qrv, .ref qhi, .ref qfw, .ref qkp])), (qlk, .inl (cI, 30, .inl lk)), (qhd, .inl (cI, 30, .inl hd)), (qsf, .inl (cI, 30, .inl sf)), (qpr, .inl (cJ, 30, .inr (.inl (k_np lk (k_lm lk) ce da db dr pr i)))), (qpa, .inl (cJ, 30, .inr (.inl (k_rs co (k_np lk (k_lm lk) ce da db dr pr ce) pa i)))), (qsk, .inl (cJ, 30, .inr (.inl (k_ss hd sf co pr (k_np lk (k_lm lk) ce da db dr pr ce) pa sk i)))), (qfw, .inl (cJ, 31, .inr (.inl (k_cp (k_fl lk (k_lm lk) ce da db pr) fw (ce + 1)))))]) [4, 0, 5, 6, 1, 7, 2, 3] rfl
      have hD := hD.sub (ws' := [(mm, .inr (5, [.int (nI ly), .int (nI ce), .ref qlo, .ref qlk, .ref qhd, .ref qsf, .ref qpr, .ref qpa, .ref qsk, .long co, .long ((wo + (k_fl lk (k_lm lk) ce da db pr ce - k_fl lk (k_lm lk) ce da db pr 0) + k_sum (k_dr dr pr) i) + (k_dr dr pr i)), .int (nI dy), .int da, .int db, .int dr, .int (nI mn), .ref qld, .ref qlz, .int (nI rn), .ref qrd, .ref qrv, .ref qhi, .ref qfw, .ref qkp])), (qlk, .inl (cI, 30, .inl lk)), (qhd, .inl (cI, 30, .inl hd)), (qsf, .inl (cI, 30, .inl sf)), (qpr, .inl (cJ, 30, .inr (.inl (k_np lk (k_lm lk) ce da db dr pr i)))), (qpa, .inl (cJ, 30, .inr (.inl (k_rs co (k_np lk (k_lm lk) ce da db dr pr ce) pa i)))), (qsk, .inl (cJ, 30, .inr (.inl (k_ss hd sf co pr (k_np lk (k_lm lk) ce da db dr pr ce) pa sk i)))), (qfw, .inl (cJ, 31, .inr (.inl (k_cp (k_fl lk (k_lm lk) ce da db pr) fw (ce + 1)))))]) [4, 0, 5, 6, 1, 7, 2, 3] (by decide) rfl
      clear hPc hDc hFc hP1 hD1 hK1 hk1 hz1 hvm ht
      obtain rfl : k_sk hd sf (k_rs co (k_np lk (k_lm lk) ce da db dr pr ce) pa i) i (co - (pr i)) (co - ((k_np lk (k_lm lk) ce da db dr pr ce) i)) = res_ := hw.symm
      refine lv_topl (fun kv ekv => ?_)
      obtain rfl : k_sk hd sf pa i (co - pr i) (co - (k_np lk (k_lm lk) ce da db dr pr ce) i) = kv := (ekv.trans (k_sk_rs)).symm
      refine lv_ladd hx hb dM_step_294 ?_
      refine xa_last hx hb hK hP hD hS 6 1 rfl rfl (i := i) (by omega) (by decide) dM_step_295 (fun H locs hP hD hS => ?_)
      have hP : va_P (dC, dI) vwCl [(mm, .inr (5, [.int (nI ly), .int (nI ce), .ref qlo, .ref qlk, .ref qhd, .ref qsf, .ref qpr, .ref qpa, .ref qsk, .long co, .long ((wo + (k_fl lk (k_lm lk) ce da db pr ce - k_fl lk (k_lm lk) ce da db pr 0) + k_sum (k_dr dr pr) i) + (k_dr dr pr i)), .int (nI dy), .int da, .int db, .int dr, .int (nI mn), .ref qld, .ref qlz, .int (nI rn), .ref qrd, .ref qrv, .ref qhi, .ref qfw, .ref qkp])), (qlk, .inl (cI, 30, .inl lk)), (qhd, .inl (cI, 30, .inl hd)), (qsf, .inl (cI, 30, .inl sf)), (qpr, .inl (cJ, 30, .inr (.inl (k_np lk (k_lm lk) ce da db dr pr i)))), (qpa, .inl (cJ, 30, .inr (.inl (k_rs co (k_np lk (k_lm lk) ce da db dr pr ce) pa i)))), (qsk, .inl (cJ, 30, .inr (.inl (vp_updL (k_ss hd sf co pr (k_np lk (k_lm lk) ce da db dr pr ce) pa sk i) i (((k_ss hd sf co pr (k_np lk (k_lm lk) ce da db dr pr ce) pa sk i) i) + (k_sk hd sf pa i (co - pr i) (co - (k_np lk (k_lm lk) ce da db dr pr ce) i))))))), (qfw, .inl (cJ, 31, .inr (.inl (k_cp (k_fl lk (k_lm lk) ce da db pr) fw (ce + 1)))))] H := hP
      have hD : va_D A [(mm, .inr (5, [.int (nI ly), .int (nI ce), .ref qlo, .ref qlk, .ref qhd, .ref qsf, .ref qpr, .ref qpa, .ref qsk, .long co, .long ((wo + (k_fl lk (k_lm lk) ce da db pr ce - k_fl lk (k_lm lk) ce da db pr 0) + k_sum (k_dr dr pr) i) + (k_dr dr pr i)), .int (nI dy), .int da, .int db, .int dr, .int (nI mn), .ref qld, .ref qlz, .int (nI rn), .ref qrd, .ref qrv, .ref qhi, .ref qfw, .ref qkp])), (qlk, .inl (cI, 30, .inl lk)), (qhd, .inl (cI, 30, .inl hd)), (qsf, .inl (cI, 30, .inl sf)), (qpr, .inl (cJ, 30, .inr (.inl (k_np lk (k_lm lk) ce da db dr pr i)))), (qpa, .inl (cJ, 30, .inr (.inl (k_rs co (k_np lk (k_lm lk) ce da db dr pr ce) pa i)))), (qsk, .inl (cJ, 30, .inr (.inl (vp_updL (k_ss hd sf co pr (k_np lk (k_lm lk) ce da db dr pr ce) pa sk i) i (((k_ss hd sf co pr (k_np lk (k_lm lk) ce da db dr pr ce) pa sk i) i) + (k_sk hd sf pa i (co - pr i) (co - (k_np lk (k_lm lk) ce da db dr pr ce) i))))))), (qfw, .inl (cJ, 31, .inr (.inl (k_cp (k_fl lk (k_lm lk) ce da db pr) fw (ce + 1)))))] := hD
      refine lv_aload_n hx hb dM_step_296 rfl (lv_at hl 4 rfl) ?_
      refine va_get (D := (dC, dI)) (ci := 5) (v := .ref qpa) (C := R_M) (T := T_M) (N := 24) hx hb htw in_M hown hK hP 0 rfl rfl 7 (by decide) (htw _ m_364) (fun _ h9 => h9) rfl dM_step_297 ?_
      refine lv_iload_n hx hb dM_step_300 rfl (lv_at hl 5 rfl) ?_
      refine lv_lload hx hb dM_step_301 (lv_at hl 0 rfl) ?_
      refine lv_aload_n hx hb dM_step_303 rfl (lv_at hl 4 rfl) ?_
      refine va_get (D := (dC, dI)) (ci := 5) (v := .ref qpa) (C := R_M) (T := T_M) (N := 24) hx hb htw in_M hown hK hP 0 rfl rfl 7 (by decide) (htw _ m_364) (fun _ h9 => h9) rfl dM_step_304 ?_
      refine lv_iload_n hx hb dM_step_307 rfl (lv_at hl 5 rfl) ?_
      refine xa_lald hx hb hK hP 5 1 rfl rfl (i := i) (by omega) (by decide) dM_step_308 ?_
      refine lv_topl (fun kv ekv => ?_)
      obtain rfl : pa i = kv := (ekv.trans (if_neg (by omega))).symm
      refine W.lcmp hx hb dM_step_309 ?_
      refine lv_if_le (tgt := 318) hx hb dM_step_310 (by decide) (fun hc310 => ?_) (fun hc310 => ?_)
      · -- 310 taken
        rw [lg_cmp_le] at hc310
        refine lv_aload_n hx hb dM_step_318 rfl (lv_at hl 4 rfl) ?_
        refine va_get (D := (dC, dI)) (ci := 5) (v := .ref qpa) (C := R_M) (T := T_M) (N := 24) hx hb htw in_M hown hK hP 0 rfl rfl 7 (by decide) (htw _ m_364) (fun _ h9 => h9) rfl dM_step_319 ?_
        refine lv_iload_n hx hb dM_step_322 rfl (lv_at hl 5 rfl) ?_
        refine xa_lald hx hb hK hP 5 1 rfl rfl (i := i) (by omega) (by decide) dM_step_323 ?_
        refine lv_topl (fun kv ekv => ?_)
        obtain rfl : k_mx (pa i) (co - (k_np lk (k_lm lk) ce da db dr pr ce) i) = kv := (ekv.trans ((show k_rs _ _ pa i i = pa i from if_neg (by omega)).trans (k_mx2 hc310))).symm
        refine xa_last hx hb hK hP hD hS 5 1 rfl rfl (i := i) (by omega) (by decide) dM_step_324 (fun H locs hP hD hS => ?_)
        have hP : va_P (dC, dI) vwCl [(mm, .inr (5, [.int (nI ly), .int (nI ce), .ref qlo, .ref qlk, .ref qhd, .ref qsf, .ref qpr, .ref qpa, .ref qsk, .long co, .long ((wo + (k_fl lk (k_lm lk) ce da db pr ce - k_fl lk (k_lm lk) ce da db pr 0) + k_sum (k_dr dr pr) i) + (k_dr dr pr i)), .int (nI dy), .int da, .int db, .int dr, .int (nI mn), .ref qld, .ref qlz, .int (nI rn), .ref qrd, .ref qrv, .ref qhi, .ref qfw, .ref qkp])), (qlk, .inl (cI, 30, .inl lk)), (qhd, .inl (cI, 30, .inl hd)), (qsf, .inl (cI, 30, .inl sf)), (qpr, .inl (cJ, 30, .inr (.inl (k_np lk (k_lm lk) ce da db dr pr i)))), (qpa, .inl (cJ, 30, .inr (.inl (vp_updL (k_rs co (k_np lk (k_lm lk) ce da db dr pr ce) pa i) i (k_mx (pa i) (co - (k_np lk (k_lm lk) ce da db dr pr ce) i)))))), (qsk, .inl (cJ, 30, .inr (.inl (vp_updL (k_ss hd sf co pr (k_np lk (k_lm lk) ce da db dr pr ce) pa sk i) i (((k_ss hd sf co pr (k_np lk (k_lm lk) ce da db dr pr ce) pa sk i) i) + (k_sk hd sf pa i (co - pr i) (co - (k_np lk (k_lm lk) ce da db dr pr ce) i))))))), (qfw, .inl (cJ, 31, .inr (.inl (k_cp (k_fl lk (k_lm lk) ce da db pr) fw (ce + 1)))))] H := hP
        have hD : va_D A [(mm, .inr (5, [.int (nI ly), .int (nI ce), .ref qlo, .ref qlk, .ref qhd, .ref qsf, .ref qpr, .ref qpa, .ref qsk, .long co, .long ((wo + (k_fl lk (k_lm lk) ce da db pr ce - k_fl lk (k_lm lk) ce da db pr 0) + k_sum (k_dr dr pr) i) + (k_dr dr pr i)), .int (nI dy), .int da, .int db, .int dr, .int (nI mn), .ref qld, .ref qlz, .int (nI rn), .ref qrd, .ref qrv, .ref qhi, .ref qfw, .ref qkp])), (qlk, .inl (cI, 30, .inl lk)), (qhd, .inl (cI, 30, .inl hd)), (qsf, .inl (cI, 30, .inl sf)), (qpr, .inl (cJ, 30, .inr (.inl (k_np lk (k_lm lk) ce da db dr pr i)))), (qpa, .inl (cJ, 30, .inr (.inl (vp_updL (k_rs co (k_np lk (k_lm lk) ce da db dr pr ce) pa i) i (k_mx (pa i) (co - (k_np lk (k_lm lk) ce da db dr pr ce) i)))))), (qsk, .inl (cJ, 30, .inr (.inl (vp_updL (k_ss hd sf co pr (k_np lk (k_lm lk) ce da db dr pr ce) pa sk i) i (((k_ss hd sf co pr (k_np lk (k_lm lk) ce da db dr pr ce) pa sk i) i) + (k_sk hd sf pa i (co - pr i) (co - (k_np lk (k_lm lk) ce da db dr pr ce) i))))))), (qfw, .inl (cJ, 31, .inr (.inl (k_cp (k_fl lk (k_lm lk) ce da db pr) fw (ce + 1)))))] := hD
        refine lv_aload_n hx hb dM_step_325 rfl (lv_at hl 4 rfl) ?_
        refine va_get (D := (dC, dI)) (ci := 5) (v := .ref qpr) (C := R_M) (T := T_M) (N := 24) hx hb htw in_M hown hK hP 0 rfl rfl 6 (by decide) (htw _ m_363) (fun _ h9 => h9) rfl dM_step_326 ?_
        refine lv_iload_n hx hb dM_step_329 rfl (lv_at hl 5 rfl) ?_
        refine lv_lload hx hb dM_step_330 (lv_at hl 2 rfl) ?_
        refine xa_last hx hb hK hP hD hS 4 1 rfl rfl (i := i) (by omega) (by decide) dM_step_332 (fun H locs hP hD hS => ?_)
        have hP : va_P (dC, dI) vwCl [(mm, .inr (5, [.int (nI ly), .int (nI ce), .ref qlo, .ref qlk, .ref qhd, .ref qsf, .ref qpr, .ref qpa, .ref qsk, .long co, .long ((wo + (k_fl lk (k_lm lk) ce da db pr ce - k_fl lk (k_lm lk) ce da db pr 0) + k_sum (k_dr dr pr) i) + (k_dr dr pr i)), .int (nI dy), .int da, .int db, .int dr, .int (nI mn), .ref qld, .ref qlz, .int (nI rn), .ref qrd, .ref qrv, .ref qhi, .ref qfw, .ref qkp])), (qlk, .inl (cI, 30, .inl lk)), (qhd, .inl (cI, 30, .inl hd)), (qsf, .inl (cI, 30, .inl sf)), (qpr, .inl (cJ, 30, .inr (.inl (vp_updL (k_np lk (k_lm lk) ce da db dr pr i) i ((k_np lk (k_lm lk) ce da db dr pr ce) i))))), (qpa, .inl (cJ, 30, .inr (.inl (vp_updL (k_rs co (k_np lk (k_lm lk) ce da db dr pr ce) pa i) i (k_mx (pa i) (co - (k_np lk (k_lm lk) ce da db dr pr ce) i)))))), (qsk, .inl (cJ, 30, .inr (.inl (vp_updL (k_ss hd sf co pr (k_np lk (k_lm lk) ce da db dr pr ce) pa sk i) i (((k_ss hd sf co pr (k_np lk (k_lm lk) ce da db dr pr ce) pa sk i) i) + (k_sk hd sf pa i (co - pr i) (co - (k_np lk (k_lm lk) ce da db dr pr ce) i))))))), (qfw, .inl (cJ, 31, .inr (.inl (k_cp (k_fl lk (k_lm lk) ce da db pr) fw (ce + 1)))))] H := hP
        have hD : va_D A [(mm, .inr (5, [.int (nI ly), .int (nI ce), .ref qlo, .ref qlk, .ref qhd, .ref qsf, .ref qpr, .ref qpa, .ref qsk, .long co, .long ((wo + (k_fl lk (k_lm lk) ce da db pr ce - k_fl lk (k_lm lk) ce da db pr 0) + k_sum (k_dr dr pr) i) + (k_dr dr pr i)), .int (nI dy), .int da, .int db, .int dr, .int (nI mn), .ref qld, .ref qlz, .int (nI rn), .ref qrd, .ref qrv, .ref qhi, .ref qfw, .ref qkp])), (qlk, .inl (cI, 30, .inl lk)), (qhd, .inl (cI, 30, .inl hd)), (qsf, .inl (cI, 30, .inl sf)), (qpr, .inl (cJ, 30, .inr (.inl (vp_updL (k_np lk (k_lm lk) ce da db dr pr i) i ((k_np lk (k_lm lk) ce da db dr pr ce) i))))), (qpa, .inl (cJ, 30, .inr (.inl (vp_updL (k_rs co (k_np lk (k_lm lk) ce da db dr pr ce) pa i) i (k_mx (pa i) (co - (k_np lk (k_lm lk) ce da db dr pr ce) i)))))), (qsk, .inl (cJ, 30, .inr (.inl (vp_updL (k_ss hd sf co pr (k_np lk (k_lm lk) ce da db dr pr ce) pa sk i) i (((k_ss hd sf co pr (k_np lk (k_lm lk) ce da db dr pr ce) pa sk i) i) + (k_sk hd sf pa i (co - pr i) (co - (k_np lk (k_lm lk) ce da db dr pr ce) i))))))), (qfw, .inl (cJ, 31, .inr (.inl (k_cp (k_fl lk (k_lm lk) ce da db pr) fw (ce + 1)))))] := hD
        refine lv_iinc (v := nI (i + 1)) (lv' := [(1, .int (nI (i + 1))), (8, .long (co - ((k_np lk (k_lm lk) ce da db dr pr ce) i))), (6, .long (co - (pr i))), (4, .long ((k_np lk (k_lm lk) ce da db dr pr ce) i)), (2, .long (k_dr dr pr i)), (0, .ref mm)]) hx hb dM_step_333 hl (k := 5) rfl (nI_1 _) (by decide) rfl (fun ls hl => ?_)
        refine lv_goto (tgt := 195) hx hb dM_step_336 (by decide) ?_
        have eq8 : (((wo + (k_fl lk (k_lm lk) ce da db pr ce - k_fl lk (k_lm lk) ce da db pr 0) + k_sum (k_dr dr pr) i) + (k_dr dr pr i)) : Int64) = wo + (k_fl lk (k_lm lk) ce da db pr ce - k_fl lk (k_lm lk) ce da db pr 0) + k_sum (k_dr dr pr) (i + 1) := (by rw [Int64.add_assoc]; rfl)
        rw [eq8] at hP hD
        have eq9 : (vp_updL (k_np lk (k_lm lk) ce da db dr pr i) i ((k_np lk (k_lm lk) ce da db dr pr ce) i) : Nat → Int64) = k_np lk (k_lm lk) ce da db dr pr (i + 1) := k_np_t (by omega)
        rw [eq9] at hP hD
        have eq10 : (vp_updL (k_rs co (k_np lk (k_lm lk) ce da db dr pr ce) pa i) i (k_mx (pa i) (co - (k_np lk (k_lm lk) ce da db dr pr ce) i)) : Nat → Int64) = k_rs co (k_np lk (k_lm lk) ce da db dr pr ce) pa (i + 1) := k_rs_t
        rw [eq10] at hP hD
        have eq11 : (vp_updL (k_ss hd sf co pr (k_np lk (k_lm lk) ce da db dr pr ce) pa sk i) i (((k_ss hd sf co pr (k_np lk (k_lm lk) ce da db dr pr ce) pa sk i) i) + (k_sk hd sf pa i (co - pr i) (co - (k_np lk (k_lm lk) ce da db dr pr ce) i))) : Nat → Int64) = k_ss hd sf co pr (k_np lk (k_lm lk) ce da db dr pr ce) pa sk (i + 1) := k_ss_s
        rw [eq11] at hP hD
        have hP : va_P (dC, dI) vwCl [(mm, .inr (5, [.int (nI ly), .int (nI ce), .ref qlo, .ref qlk, .ref qhd, .ref qsf, .ref qpr, .ref qpa, .ref qsk, .long co, .long (wo + (k_fl lk (k_lm lk) ce da db pr ce - k_fl lk (k_lm lk) ce da db pr 0) + k_sum (k_dr dr pr) (i + 1)), .int (nI dy), .int da, .int db, .int dr, .int (nI mn), .ref qld, .ref qlz, .int (nI rn), .ref qrd, .ref qrv, .ref qhi, .ref qfw, .ref qkp])), (qlk, .inl (cI, 30, .inl lk)), (qhd, .inl (cI, 30, .inl hd)), (qsf, .inl (cI, 30, .inl sf)), (qpr, .inl (cJ, 30, .inr (.inl (k_np lk (k_lm lk) ce da db dr pr (i + 1))))), (qpa, .inl (cJ, 30, .inr (.inl (k_rs co (k_np lk (k_lm lk) ce da db dr pr ce) pa (i + 1))))), (qsk, .inl (cJ, 30, .inr (.inl (k_ss hd sf co pr (k_np lk (k_lm lk) ce da db dr pr ce) pa sk (i + 1))))), (qfw, .inl (cJ, 31, .inr (.inl (k_cp (k_fl lk (k_lm lk) ce da db pr) fw (ce + 1)))))] H := by first | exact hP | simpa only [] using hP
        have hD : va_D A [(mm, .inr (5, [.int (nI ly), .int (nI ce), .ref qlo, .ref qlk, .ref qhd, .ref qsf, .ref qpr, .ref qpa, .ref qsk, .long co, .long (wo + (k_fl lk (k_lm lk) ce da db pr ce - k_fl lk (k_lm lk) ce da db pr 0) + k_sum (k_dr dr pr) (i + 1)), .int (nI dy), .int da, .int db, .int dr, .int (nI mn), .ref qld, .ref qlz, .int (nI rn), .ref qrd, .ref qrv, .ref qhi, .ref qfw, .ref qkp])), (qlk, .inl (cI, 30, .inl lk)), (qhd, .inl (cI, 30, .inl hd)), (qsf, .inl (cI, 30, .inl sf)), (qpr, .inl (cJ, 30, .inr (.inl (k_np lk (k_lm lk) ce da db dr pr (i + 1))))), (qpa, .inl (cJ, 30, .inr (.inl (k_rs co (k_np lk (k_lm lk) ce da db dr pr ce) pa (i + 1))))), (qsk, .inl (cJ, 30, .inr (.inl (k_ss hd sf co pr (k_np lk (k_lm lk) ce da db dr pr ce) pa sk (i + 1))))), (qfw, .inl (cJ, 31, .inr (.inl (k_cp (k_fl lk (k_lm lk) ce da db pr) fw (ce + 1)))))] := by first | exact hD | simpa only [] using hD
        exact ih195 (by omega) _ _ _ ⟨hP, hD, hS, lv_sub hl [5, 0] rfl⟩
      · -- 310 not taken
        rw [lg_cmp_le] at hc310
        refine lv_lload hx hb dM_step_313 (lv_at hl 0 rfl) ?_
        refine lv_goto (tgt := 324) hx hb dM_step_315 (by decide) ?_
        refine lv_topl (fun kv ekv => ?_)
        obtain rfl : k_mx (pa i) (co - (k_np lk (k_lm lk) ce da db dr pr ce) i) = kv := (ekv.trans (k_mx1 hc310)).symm
        refine xa_last hx hb hK hP hD hS 5 1 rfl rfl (i := i) (by omega) (by decide) dM_step_324 (fun H locs hP hD hS => ?_)
        have hP : va_P (dC, dI) vwCl [(mm, .inr (5, [.int (nI ly), .int (nI ce), .ref qlo, .ref qlk, .ref qhd, .ref qsf, .ref qpr, .ref qpa, .ref qsk, .long co, .long ((wo + (k_fl lk (k_lm lk) ce da db pr ce - k_fl lk (k_lm lk) ce da db pr 0) + k_sum (k_dr dr pr) i) + (k_dr dr pr i)), .int (nI dy), .int da, .int db, .int dr, .int (nI mn), .ref qld, .ref qlz, .int (nI rn), .ref qrd, .ref qrv, .ref qhi, .ref qfw, .ref qkp])), (qlk, .inl (cI, 30, .inl lk)), (qhd, .inl (cI, 30, .inl hd)), (qsf, .inl (cI, 30, .inl sf)), (qpr, .inl (cJ, 30, .inr (.inl (k_np lk (k_lm lk) ce da db dr pr i)))), (qpa, .inl (cJ, 30, .inr (.inl (vp_updL (k_rs co (k_np lk (k_lm lk) ce da db dr pr ce) pa i) i (k_mx (pa i) (co - (k_np lk (k_lm lk) ce da db dr pr ce) i)))))), (qsk, .inl (cJ, 30, .inr (.inl (vp_updL (k_ss hd sf co pr (k_np lk (k_lm lk) ce da db dr pr ce) pa sk i) i (((k_ss hd sf co pr (k_np lk (k_lm lk) ce da db dr pr ce) pa sk i) i) + (k_sk hd sf pa i (co - pr i) (co - (k_np lk (k_lm lk) ce da db dr pr ce) i))))))), (qfw, .inl (cJ, 31, .inr (.inl (k_cp (k_fl lk (k_lm lk) ce da db pr) fw (ce + 1)))))] H := hP
        have hD : va_D A [(mm, .inr (5, [.int (nI ly), .int (nI ce), .ref qlo, .ref qlk, .ref qhd, .ref qsf, .ref qpr, .ref qpa, .ref qsk, .long co, .long ((wo + (k_fl lk (k_lm lk) ce da db pr ce - k_fl lk (k_lm lk) ce da db pr 0) + k_sum (k_dr dr pr) i) + (k_dr dr pr i)), .int (nI dy), .int da, .int db, .int dr, .int (nI mn), .ref qld, .ref qlz, .int (nI rn), .ref qrd, .ref qrv, .ref qhi, .ref qfw, .ref qkp])), (qlk, .inl (cI, 30, .inl lk)), (qhd, .inl (cI, 30, .inl hd)), (qsf, .inl (cI, 30, .inl sf)), (qpr, .inl (cJ, 30, .inr (.inl (k_np lk (k_lm lk) ce da db dr pr i)))), (qpa, .inl (cJ, 30, .inr (.inl (vp_updL (k_rs co (k_np lk (k_lm lk) ce da db dr pr ce) pa i) i (k_mx (pa i) (co - (k_np lk (k_lm lk) ce da db dr pr ce) i)))))), (qsk, .inl (cJ, 30, .inr (.inl (vp_updL (k_ss hd sf co pr (k_np lk (k_lm lk) ce da db dr pr ce) pa sk i) i (((k_ss hd sf co pr (k_np lk (k_lm lk) ce da db dr pr ce) pa sk i) i) + (k_sk hd sf pa i (co - pr i) (co - (k_np lk (k_lm lk) ce da db dr pr ce) i))))))), (qfw, .inl (cJ, 31, .inr (.inl (k_cp (k_fl lk (k_lm lk) ce da db pr) fw (ce + 1)))))] := hD
        refine lv_aload_n hx hb dM_step_325 rfl (lv_at hl 4 rfl) ?_
        refine va_get (D := (dC, dI)) (ci := 5) (v := .ref qpr) (C := R_M) (T := T_M) (N := 24) hx hb htw in_M hown hK hP 0 rfl rfl 6 (by decide) (htw _ m_363) (fun _ h9 => h9) rfl dM_step_326 ?_
        refine lv_iload_n hx hb dM_step_329 rfl (lv_at hl 5 rfl) ?_
        refine lv_lload hx hb dM_step_330 (lv_at hl 2 rfl) ?_
        refine xa_last hx hb hK hP hD hS 4 1 rfl rfl (i := i) (by omega) (by decide) dM_step_332 (fun H locs hP hD hS => ?_)
        have hP : va_P (dC, dI) vwCl [(mm, .inr (5, [.int (nI ly), .int (nI ce), .ref qlo, .ref qlk, .ref qhd, .ref qsf, .ref qpr, .ref qpa, .ref qsk, .long co, .long ((wo + (k_fl lk (k_lm lk) ce da db pr ce - k_fl lk (k_lm lk) ce da db pr 0) + k_sum (k_dr dr pr) i) + (k_dr dr pr i)), .int (nI dy), .int da, .int db, .int dr, .int (nI mn), .ref qld, .ref qlz, .int (nI rn), .ref qrd, .ref qrv, .ref qhi, .ref qfw, .ref qkp])), (qlk, .inl (cI, 30, .inl lk)), (qhd, .inl (cI, 30, .inl hd)), (qsf, .inl (cI, 30, .inl sf)), (qpr, .inl (cJ, 30, .inr (.inl (vp_updL (k_np lk (k_lm lk) ce da db dr pr i) i ((k_np lk (k_lm lk) ce da db dr pr ce) i))))), (qpa, .inl (cJ, 30, .inr (.inl (vp_updL (k_rs co (k_np lk (k_lm lk) ce da db dr pr ce) pa i) i (k_mx (pa i) (co - (k_np lk (k_lm lk) ce da db dr pr ce) i)))))), (qsk, .inl (cJ, 30, .inr (.inl (vp_updL (k_ss hd sf co pr (k_np lk (k_lm lk) ce da db dr pr ce) pa sk i) i (((k_ss hd sf co pr (k_np lk (k_lm lk) ce da db dr pr ce) pa sk i) i) + (k_sk hd sf pa i (co - pr i) (co - (k_np lk (k_lm lk) ce da db dr pr ce) i))))))), (qfw, .inl (cJ, 31, .inr (.inl (k_cp (k_fl lk (k_lm lk) ce da db pr) fw (ce + 1)))))] H := hP
        have hD : va_D A [(mm, .inr (5, [.int (nI ly), .int (nI ce), .ref qlo, .ref qlk, .ref qhd, .ref qsf, .ref qpr, .ref qpa, .ref qsk, .long co, .long ((wo + (k_fl lk (k_lm lk) ce da db pr ce - k_fl lk (k_lm lk) ce da db pr 0) + k_sum (k_dr dr pr) i) + (k_dr dr pr i)), .int (nI dy), .int da, .int db, .int dr, .int (nI mn), .ref qld, .ref qlz, .int (nI rn), .ref qrd, .ref qrv, .ref qhi, .ref qfw, .ref qkp])), (qlk, .inl (cI, 30, .inl lk)), (qhd, .inl (cI, 30, .inl hd)), (qsf, .inl (cI, 30, .inl sf)), (qpr, .inl (cJ, 30, .inr (.inl (vp_updL (k_np lk (k_lm lk) ce da db dr pr i) i ((k_np lk (k_lm lk) ce da db dr pr ce) i))))), (qpa, .inl (cJ, 30, .inr (.inl (vp_updL (k_rs co (k_np lk (k_lm lk) ce da db dr pr ce) pa i) i (k_mx (pa i) (co - (k_np lk (k_lm lk) ce da db dr pr ce) i)))))), (qsk, .inl (cJ, 30, .inr (.inl (vp_updL (k_ss hd sf co pr (k_np lk (k_lm lk) ce da db dr pr ce) pa sk i) i (((k_ss hd sf co pr (k_np lk (k_lm lk) ce da db dr pr ce) pa sk i) i) + (k_sk hd sf pa i (co - pr i) (co - (k_np lk (k_lm lk) ce da db dr pr ce) i))))))), (qfw, .inl (cJ, 31, .inr (.inl (k_cp (k_fl lk (k_lm lk) ce da db pr) fw (ce + 1)))))] := hD
        refine lv_iinc (v := nI (i + 1)) (lv' := [(1, .int (nI (i + 1))), (8, .long (co - ((k_np lk (k_lm lk) ce da db dr pr ce) i))), (6, .long (co - (pr i))), (4, .long ((k_np lk (k_lm lk) ce da db dr pr ce) i)), (2, .long (k_dr dr pr i)), (0, .ref mm)]) hx hb dM_step_333 hl (k := 5) rfl (nI_1 _) (by decide) rfl (fun ls hl => ?_)
        refine lv_goto (tgt := 195) hx hb dM_step_336 (by decide) ?_
        have eq12 : (((wo + (k_fl lk (k_lm lk) ce da db pr ce - k_fl lk (k_lm lk) ce da db pr 0) + k_sum (k_dr dr pr) i) + (k_dr dr pr i)) : Int64) = wo + (k_fl lk (k_lm lk) ce da db pr ce - k_fl lk (k_lm lk) ce da db pr 0) + k_sum (k_dr dr pr) (i + 1) := (by rw [Int64.add_assoc]; rfl)
        rw [eq12] at hP hD
        have eq13 : (vp_updL (k_np lk (k_lm lk) ce da db dr pr i) i ((k_np lk (k_lm lk) ce da db dr pr ce) i) : Nat → Int64) = k_np lk (k_lm lk) ce da db dr pr (i + 1) := k_np_t (by omega)
        rw [eq13] at hP hD
        have eq14 : (vp_updL (k_rs co (k_np lk (k_lm lk) ce da db dr pr ce) pa i) i (k_mx (pa i) (co - (k_np lk (k_lm lk) ce da db dr pr ce) i)) : Nat → Int64) = k_rs co (k_np lk (k_lm lk) ce da db dr pr ce) pa (i + 1) := k_rs_t
        rw [eq14] at hP hD
        have eq15 : (vp_updL (k_ss hd sf co pr (k_np lk (k_lm lk) ce da db dr pr ce) pa sk i) i (((k_ss hd sf co pr (k_np lk (k_lm lk) ce da db dr pr ce) pa sk i) i) + (k_sk hd sf pa i (co - pr i) (co - (k_np lk (k_lm lk) ce da db dr pr ce) i))) : Nat → Int64) = k_ss hd sf co pr (k_np lk (k_lm lk) ce da db dr pr ce) pa sk (i + 1) := k_ss_s
        rw [eq15] at hP hD
        have hP : va_P (dC, dI) vwCl [(mm, .inr (5, [.int (nI ly), .int (nI ce), .ref qlo, .ref qlk, .ref qhd, .ref qsf, .ref qpr, .ref qpa, .ref qsk, .long co, .long (wo + (k_fl lk (k_lm lk) ce da db pr ce - k_fl lk (k_lm lk) ce da db pr 0) + k_sum (k_dr dr pr) (i + 1)), .int (nI dy), .int da, .int db, .int dr, .int (nI mn), .ref qld, .ref qlz, .int (nI rn), .ref qrd, .ref qrv, .ref qhi, .ref qfw, .ref qkp])), (qlk, .inl (cI, 30, .inl lk)), (qhd, .inl (cI, 30, .inl hd)), (qsf, .inl (cI, 30, .inl sf)), (qpr, .inl (cJ, 30, .inr (.inl (k_np lk (k_lm lk) ce da db dr pr (i + 1))))), (qpa, .inl (cJ, 30, .inr (.inl (k_rs co (k_np lk (k_lm lk) ce da db dr pr ce) pa (i + 1))))), (qsk, .inl (cJ, 30, .inr (.inl (k_ss hd sf co pr (k_np lk (k_lm lk) ce da db dr pr ce) pa sk (i + 1))))), (qfw, .inl (cJ, 31, .inr (.inl (k_cp (k_fl lk (k_lm lk) ce da db pr) fw (ce + 1)))))] H := by first | exact hP | simpa only [] using hP
        have hD : va_D A [(mm, .inr (5, [.int (nI ly), .int (nI ce), .ref qlo, .ref qlk, .ref qhd, .ref qsf, .ref qpr, .ref qpa, .ref qsk, .long co, .long (wo + (k_fl lk (k_lm lk) ce da db pr ce - k_fl lk (k_lm lk) ce da db pr 0) + k_sum (k_dr dr pr) (i + 1)), .int (nI dy), .int da, .int db, .int dr, .int (nI mn), .ref qld, .ref qlz, .int (nI rn), .ref qrd, .ref qrv, .ref qhi, .ref qfw, .ref qkp])), (qlk, .inl (cI, 30, .inl lk)), (qhd, .inl (cI, 30, .inl hd)), (qsf, .inl (cI, 30, .inl sf)), (qpr, .inl (cJ, 30, .inr (.inl (k_np lk (k_lm lk) ce da db dr pr (i + 1))))), (qpa, .inl (cJ, 30, .inr (.inl (k_rs co (k_np lk (k_lm lk) ce da db dr pr ce) pa (i + 1))))), (qsk, .inl (cJ, 30, .inr (.inl (k_ss hd sf co pr (k_np lk (k_lm lk) ce da db dr pr ce) pa sk (i + 1))))), (qfw, .inl (cJ, 31, .inr (.inl (k_cp (k_fl lk (k_lm lk) ce da db pr) fw (ce + 1)))))] := by first | exact hD | simpa only [] using hD
        exact ih195 (by omega) _ _ _ ⟨hP, hD, hS, lv_sub hl [5, 0] rfl⟩
  · -- 7 not taken
    rw [nI_ltI (by omega) (by omega)] at hc7
    refine lv_lconst (v := 0) hx hb dM_step_10 (by decide) ?_
    refine lv_lstore_n (lv' := [(2, .long 0), (0, .ref mm), (1, .int (nI i))]) hx hb dM_step_11 rfl hl (by decide) rfl (fun ls hl => ?_)
    refine lv_iload_n hx hb dM_step_12 rfl (lv_at hl 2 rfl) ?_
    refine lv_if_ne (tgt := 50) hx hb dM_step_13 (by decide) (fun hc13 => ?_) (fun hc13 => ?_)
    · -- 13 taken
      rw [show (0 : Int32) = nI 0 from rfl, nI_eq (by omega) (by omega)] at hc13
      refine lv_iload_n hx hb dM_step_50 rfl (lv_at hl 2 rfl) ?_
      refine lv_aload_n hx hb dM_step_51 rfl (lv_at hl 1 rfl) ?_
      refine va_get (D := (dC, dI)) (ci := 5) (v := .int (nI ce)) (C := R_M) (T := T_M) (N := 24) hx hb htw in_M hown hK hP 0 rfl rfl 1 (by decide) (htw _ m_358) (fun _ h9 => h9) rfl dM_step_52 ?_
      refine lv_icmp_ne (tgt := 95) hx hb dM_step_55 (by decide) (fun hc55 => ?_) (fun hc55 => ?_)
      · -- 55 taken
        rw [nI_eq (by omega) (by omega)] at hc55
        refine lv_aload_n hx hb dM_step_95 rfl (lv_at hl 1 rfl) ?_
        refine va_get (D := (dC, dI)) (ci := 5) (v := .ref qlk) (C := R_M) (T := T_M) (N := 24) hx hb htw in_M hown hK hP 0 rfl rfl 3 (by decide) (htw _ m_360) (fun _ h9 => h9) rfl dM_step_96 ?_
        refine lv_iload_n hx hb dM_step_99 rfl (lv_at hl 2 rfl) ?_
        refine lv_iconst (v := nI 1) hx hb dM_step_100 (by decide) ?_
        refine lv_isub hx hb dM_step_101 ?_
        refine lv_topi (fun kv ekv => ?_)
        obtain rfl : kv = nI (i - 1) := by rw [ekv]; exact pk_sub (by omega)
        refine xa_iald hx hb hK hP 1 0 rfl rfl (i := (i - 1)) (by omega) (by decide) dM_step_102 ?_
        refine lv_aload_n hx hb dM_step_103 rfl (lv_at hl 1 rfl) ?_
        refine va_get (D := (dC, dI)) (ci := 5) (v := .ref qlk) (C := R_M) (T := T_M) (N := 24) hx hb htw in_M hown hK hP 0 rfl rfl 3 (by decide) (htw _ m_360) (fun _ h9 => h9) rfl dM_step_104 ?_
        refine lv_iload_n hx hb dM_step_107 rfl (lv_at hl 2 rfl) ?_
        refine xa_iald hx hb hK hP 1 0 rfl rfl (i := i) (by omega) (by decide) dM_step_108 ?_
        refine lv_icmp_ge (tgt := 123) hx hb dM_step_109 (by decide) (fun hc109 => ?_) (fun hc109 => ?_)
        · -- 109 taken
          refine lv_aload_n hx hb dM_step_123 rfl (lv_at hl 1 rfl) ?_
          refine va_get (D := (dC, dI)) (ci := 5) (v := .ref qlk) (C := R_M) (T := T_M) (N := 24) hx hb htw in_M hown hK hP 0 rfl rfl 3 (by decide) (htw _ m_360) (fun _ h9 => h9) rfl dM_step_124 ?_
          refine lv_iload_n hx hb dM_step_127 rfl (lv_at hl 2 rfl) ?_
          refine xa_iald hx hb hK hP 1 0 rfl rfl (i := i) (by omega) (by decide) dM_step_128 ?_
          refine lv_istore (lv' := [(4, .int (lk i)), (2, .long 0), (0, .ref mm), (1, .int (nI i))]) hx hb dM_step_129 hl (by decide) rfl (fun ls hl => ?_)
          refine lv_aload_n hx hb dM_step_131 rfl (lv_at hl 2 rfl) ?_
          refine va_get (D := (dC, dI)) (ci := 5) (v := .ref qpr) (C := R_M) (T := T_M) (N := 24) hx hb htw in_M hown hK hP 0 rfl rfl 6 (by decide) (htw _ m_363) (fun _ h9 => h9) rfl dM_step_132 ?_
          refine lv_iload_n hx hb dM_step_135 rfl (lv_at hl 3 rfl) ?_
          refine lv_iconst (v := nI 1) hx hb dM_step_136 (by decide) ?_
          refine lv_isub hx hb dM_step_137 ?_
          refine lv_topi (fun kv ekv => ?_)
          obtain rfl : kv = nI (i - 1) := by rw [ekv]; exact pk_sub (by omega)
          refine xa_lald hx hb hK hP 4 1 rfl rfl (i := (i - 1)) (by omega) (by decide) dM_step_138 ?_
          refine lv_aload_n hx hb dM_step_139 rfl (lv_at hl 2 rfl) ?_
          refine va_get (D := (dC, dI)) (ci := 5) (v := .ref qpr) (C := R_M) (T := T_M) (N := 24) hx hb htw in_M hown hK hP 0 rfl rfl 6 (by decide) (htw _ m_363) (fun _ h9 => h9) rfl dM_step_140 ?_
          refine lv_iload_n hx hb dM_step_143 rfl (lv_at hl 3 rfl) ?_
          refine xa_lald hx hb hK hP 4 1 rfl rfl (i := i) (by omega) (by decide) dM_step_144 ?_
          refine lv_lsub hx hb dM_step_145 ?_
          refine lv_iload hx hb dM_step_146 (lv_at hl 0 rfl) ?_
          refine lv_i2l (v := (lk i).toInt64) hx hb dM_step_148 rfl ?_
          refine lv_lmul hx hb dM_step_149 ?_
          refine lv_ldc2 (v := 1000) hx hb hown (htw _ m_439) dM_step_150 ?_
          refine lv_ldiv hx hb dM_step_153 (by decide) ?_
          refine lv_lstore_n (lv' := [(2, .long ((((pr (i - 1)) - (pr i)) * ((lk i).toInt64)) / 1000)), (4, .int (lk i)), (0, .ref mm), (1, .int (nI i))]) hx hb dM_step_154 rfl hl (by decide) rfl (fun ls hl => ?_)
          have eq16 : ((((pr (i - 1)) - (pr i)) * ((lk i).toInt64)) / 1000 : Int64) = k_fl lk (k_lm lk) ce da db pr i := k_fm2 hc13 (by omega) hc109
          rw [eq16] at hl
          refine lv_aload_n hx hb dM_step_155 rfl (lv_at hl 2 rfl) ?_
          refine va_get (D := (dC, dI)) (ci := 5) (v := .ref qfw) (C := R_M) (T := T_M) (N := 24) hx hb htw in_M hown hK hP 0 rfl rfl 22 (by decide) (htw _ m_379) (fun _ h9 => h9) rfl dM_step_156 ?_
          refine lv_iload_n hx hb dM_step_159 rfl (lv_at hl 3 rfl) ?_
          refine lv_lload_n hx hb dM_step_160 rfl (lv_at hl 0 rfl) ?_
          refine xa_last hx hb hK hP hD hS 7 1 rfl rfl (i := i) (by omega) (by decide) dM_step_161 (fun H locs hP hD hS => ?_)
          have hP : va_P (dC, dI) vwCl [(mm, .inr (5, [.int (nI ly), .int (nI ce), .ref qlo, .ref qlk, .ref qhd, .ref qsf, .ref qpr, .ref qpa, .ref qsk, .long co, .long wo, .int (nI dy), .int da, .int db, .int dr, .int (nI mn), .ref qld, .ref qlz, .int (nI rn), .ref qrd, .ref qrv, .ref qhi, .ref qfw, .ref qkp])), (qlk, .inl (cI, 30, .inl lk)), (qhd, .inl (cI, 30, .inl hd)), (qsf, .inl (cI, 30, .inl sf)), (qpr, .inl (cJ, 30, .inr (.inl pr))), (qpa, .inl (cJ, 30, .inr (.inl pa))), (qsk, .inl (cJ, 30, .inr (.inl sk))), (qfw, .inl (cJ, 31, .inr (.inl (vp_updL (k_cp (k_fl lk (k_lm lk) ce da db pr) fw i) i (k_fl lk (k_lm lk) ce da db pr i)))))] H := hP
          have hD : va_D A [(mm, .inr (5, [.int (nI ly), .int (nI ce), .ref qlo, .ref qlk, .ref qhd, .ref qsf, .ref qpr, .ref qpa, .ref qsk, .long co, .long wo, .int (nI dy), .int da, .int db, .int dr, .int (nI mn), .ref qld, .ref qlz, .int (nI rn), .ref qrd, .ref qrv, .ref qhi, .ref qfw, .ref qkp])), (qlk, .inl (cI, 30, .inl lk)), (qhd, .inl (cI, 30, .inl hd)), (qsf, .inl (cI, 30, .inl sf)), (qpr, .inl (cJ, 30, .inr (.inl pr))), (qpa, .inl (cJ, 30, .inr (.inl pa))), (qsk, .inl (cJ, 30, .inr (.inl sk))), (qfw, .inl (cJ, 31, .inr (.inl (vp_updL (k_cp (k_fl lk (k_lm lk) ce da db pr) fw i) i (k_fl lk (k_lm lk) ce da db pr i)))))] := hD
          refine lv_iinc (v := nI (i + 1)) (lv' := [(1, .int (nI (i + 1))), (2, .long (k_fl lk (k_lm lk) ce da db pr i)), (4, .int (lk i)), (0, .ref mm)]) hx hb dM_step_162 hl (k := 3) rfl (nI_1 _) (by decide) rfl (fun ls hl => ?_)
          refine lv_goto (tgt := 2) hx hb dM_step_165 (by decide) ?_
          have eq17 : (vp_updL (k_cp (k_fl lk (k_lm lk) ce da db pr) fw i) i (k_fl lk (k_lm lk) ce da db pr i) : Nat → Int64) = k_cp (k_fl lk (k_lm lk) ce da db pr) fw (i + 1) := k_cp_s
          rw [eq17] at hP hD
          have hP : va_P (dC, dI) vwCl [(mm, .inr (5, [.int (nI ly), .int (nI ce), .ref qlo, .ref qlk, .ref qhd, .ref qsf, .ref qpr, .ref qpa, .ref qsk, .long co, .long wo, .int (nI dy), .int da, .int db, .int dr, .int (nI mn), .ref qld, .ref qlz, .int (nI rn), .ref qrd, .ref qrv, .ref qhi, .ref qfw, .ref qkp])), (qlk, .inl (cI, 30, .inl lk)), (qhd, .inl (cI, 30, .inl hd)), (qsf, .inl (cI, 30, .inl sf)), (qpr, .inl (cJ, 30, .inr (.inl pr))), (qpa, .inl (cJ, 30, .inr (.inl pa))), (qsk, .inl (cJ, 30, .inr (.inl sk))), (qfw, .inl (cJ, 31, .inr (.inl (k_cp (k_fl lk (k_lm lk) ce da db pr) fw (i + 1)))))] H := by first | exact hP | simpa only [] using hP
          have hD : va_D A [(mm, .inr (5, [.int (nI ly), .int (nI ce), .ref qlo, .ref qlk, .ref qhd, .ref qsf, .ref qpr, .ref qpa, .ref qsk, .long co, .long wo, .int (nI dy), .int da, .int db, .int dr, .int (nI mn), .ref qld, .ref qlz, .int (nI rn), .ref qrd, .ref qrv, .ref qhi, .ref qfw, .ref qkp])), (qlk, .inl (cI, 30, .inl lk)), (qhd, .inl (cI, 30, .inl hd)), (qsf, .inl (cI, 30, .inl sf)), (qpr, .inl (cJ, 30, .inr (.inl pr))), (qpa, .inl (cJ, 30, .inr (.inl pa))), (qsk, .inl (cJ, 30, .inr (.inl sk))), (qfw, .inl (cJ, 31, .inr (.inl (k_cp (k_fl lk (k_lm lk) ce da db pr) fw (i + 1)))))] := by first | exact hD | simpa only [] using hD
          exact ih2 (by omega) _ _ _ ⟨hP, hD, hS, lv_sub hl [3, 0] rfl⟩
        · -- 109 not taken
          refine lv_aload_n hx hb dM_step_112 rfl (lv_at hl 1 rfl) ?_
          refine va_get (D := (dC, dI)) (ci := 5) (v := .ref qlk) (C := R_M) (T := T_M) (N := 24) hx hb htw in_M hown hK hP 0 rfl rfl 3 (by decide) (htw _ m_360) (fun _ h9 => h9) rfl dM_step_113 ?_
          refine lv_iload_n hx hb dM_step_116 rfl (lv_at hl 2 rfl) ?_
          refine lv_iconst (v := nI 1) hx hb dM_step_117 (by decide) ?_
          refine lv_isub hx hb dM_step_118 ?_
          refine lv_topi (fun kv ekv => ?_)
          obtain rfl : kv = nI (i - 1) := by rw [ekv]; exact pk_sub (by omega)
          refine xa_iald hx hb hK hP 1 0 rfl rfl (i := (i - 1)) (by omega) (by decide) dM_step_119 ?_
          refine lv_goto (tgt := 129) hx hb dM_step_120 (by decide) ?_
          refine lv_istore (lv' := [(4, .int (lk (i - 1))), (2, .long 0), (0, .ref mm), (1, .int (nI i))]) hx hb dM_step_129 hl (by decide) rfl (fun ls hl => ?_)
          refine lv_aload_n hx hb dM_step_131 rfl (lv_at hl 2 rfl) ?_
          refine va_get (D := (dC, dI)) (ci := 5) (v := .ref qpr) (C := R_M) (T := T_M) (N := 24) hx hb htw in_M hown hK hP 0 rfl rfl 6 (by decide) (htw _ m_363) (fun _ h9 => h9) rfl dM_step_132 ?_
          refine lv_iload_n hx hb dM_step_135 rfl (lv_at hl 3 rfl) ?_
          refine lv_iconst (v := nI 1) hx hb dM_step_136 (by decide) ?_
          refine lv_isub hx hb dM_step_137 ?_
          refine lv_topi (fun kv ekv => ?_)
          obtain rfl : kv = nI (i - 1) := by rw [ekv]; exact pk_sub (by omega)
          refine xa_lald hx hb hK hP 4 1 rfl rfl (i := (i - 1)) (by omega) (by decide) dM_step_138 ?_
          refine lv_aload_n hx hb dM_step_139 rfl (lv_at hl 2 rfl) ?_
          refine va_get (D := (dC, dI)) (ci := 5) (v := .ref qpr) (C := R_M) (T := T_M) (N := 24) hx hb htw in_M hown hK hP 0 rfl rfl 6 (by decide) (htw _ m_363) (fun _ h9 => h9) rfl dM_step_140 ?_
          refine lv_iload_n hx hb dM_step_143 rfl (lv_at hl 3 rfl) ?_
          refine xa_lald hx hb hK hP 4 1 rfl rfl (i := i) (by omega) (by decide) dM_step_144 ?_
          refine lv_lsub hx hb dM_step_145 ?_
          refine lv_iload hx hb dM_step_146 (lv_at hl 0 rfl) ?_
          refine lv_i2l (v := (lk (i - 1)).toInt64) hx hb dM_step_148 rfl ?_
          refine lv_lmul hx hb dM_step_149 ?_
          refine lv_ldc2 (v := 1000) hx hb hown (htw _ m_439) dM_step_150 ?_
          refine lv_ldiv hx hb dM_step_153 (by decide) ?_
          refine lv_lstore_n (lv' := [(2, .long ((((pr (i - 1)) - (pr i)) * ((lk (i - 1)).toInt64)) / 1000)), (4, .int (lk (i - 1))), (0, .ref mm), (1, .int (nI i))]) hx hb dM_step_154 rfl hl (by decide) rfl (fun ls hl => ?_)
          have eq18 : ((((pr (i - 1)) - (pr i)) * ((lk (i - 1)).toInt64)) / 1000 : Int64) = k_fl lk (k_lm lk) ce da db pr i := k_fm1 hc13 (by omega) hc109
          rw [eq18] at hl
          refine lv_aload_n hx hb dM_step_155 rfl (lv_at hl 2 rfl) ?_
          refine va_get (D := (dC, dI)) (ci := 5) (v := .ref qfw) (C := R_M) (T := T_M) (N := 24) hx hb htw in_M hown hK hP 0 rfl rfl 22 (by decide) (htw _ m_379) (fun _ h9 => h9) rfl dM_step_156 ?_
          refine lv_iload_n hx hb dM_step_159 rfl (lv_at hl 3 rfl) ?_
          refine lv_lload_n hx hb dM_step_160 rfl (lv_at hl 0 rfl) ?_
          refine xa_last hx hb hK hP hD hS 7 1 rfl rfl (i := i) (by omega) (by decide) dM_step_161 (fun H locs hP hD hS => ?_)
          have hP : va_P (dC, dI) vwCl [(mm, .inr (5, [.int (nI ly), .int (nI ce), .ref qlo, .ref qlk, .ref qhd, .ref qsf, .ref qpr, .ref qpa, .ref qsk, .long co, .long wo, .int (nI dy), .int da, .int db, .int dr, .int (nI mn), .ref qld, .ref qlz, .int (nI rn), .ref qrd, .ref qrv, .ref qhi, .ref qfw, .ref qkp])), (qlk, .inl (cI, 30, .inl lk)), (qhd, .inl (cI, 30, .inl hd)), (qsf, .inl (cI, 30, .inl sf)), (qpr, .inl (cJ, 30, .inr (.inl pr))), (qpa, .inl (cJ, 30, .inr (.inl pa))), (qsk, .inl (cJ, 30, .inr (.inl sk))), (qfw, .inl (cJ, 31, .inr (.inl (vp_updL (k_cp (k_fl lk (k_lm lk) ce da db pr) fw i) i (k_fl lk (k_lm lk) ce da db pr i)))))] H := hP
          have hD : va_D A [(mm, .inr (5, [.int (nI ly), .int (nI ce), .ref qlo, .ref qlk, .ref qhd, .ref qsf, .ref qpr, .ref qpa, .ref qsk, .long co, .long wo, .int (nI dy), .int da, .int db, .int dr, .int (nI mn), .ref qld, .ref qlz, .int (nI rn), .ref qrd, .ref qrv, .ref qhi, .ref qfw, .ref qkp])), (qlk, .inl (cI, 30, .inl lk)), (qhd, .inl (cI, 30, .inl hd)), (qsf, .inl (cI, 30, .inl sf)), (qpr, .inl (cJ, 30, .inr (.inl pr))), (qpa, .inl (cJ, 30, .inr (.inl pa))), (qsk, .inl (cJ, 30, .inr (.inl sk))), (qfw, .inl (cJ, 31, .inr (.inl (vp_updL (k_cp (k_fl lk (k_lm lk) ce da db pr) fw i) i (k_fl lk (k_lm lk) ce da db pr i)))))] := hD
          refine lv_iinc (v := nI (i + 1)) (lv' := [(1, .int (nI (i + 1))), (2, .long (k_fl lk (k_lm lk) ce da db pr i)), (4, .int (lk (i - 1))), (0, .ref mm)]) hx hb dM_step_162 hl (k := 3) rfl (nI_1 _) (by decide) rfl (fun ls hl => ?_)
          refine lv_goto (tgt := 2) hx hb dM_step_165 (by decide) ?_
          have eq19 : (vp_updL (k_cp (k_fl lk (k_lm lk) ce da db pr) fw i) i (k_fl lk (k_lm lk) ce da db pr i) : Nat → Int64) = k_cp (k_fl lk (k_lm lk) ce da db pr) fw (i + 1) := k_cp_s
          rw [eq19] at hP hD
          have hP : va_P (dC, dI) vwCl [(mm, .inr (5, [.int (nI ly), .int (nI ce), .ref qlo, .ref qlk, .ref qhd, .ref qsf, .ref qpr, .ref qpa, .ref qsk, .long co, .long wo, .int (nI dy), .int da, .int db, .int dr, .int (nI mn), .ref qld, .ref qlz, .int (nI rn), .ref qrd, .ref qrv, .ref qhi, .ref qfw, .ref qkp])), (qlk, .inl (cI, 30, .inl lk)), (qhd, .inl (cI, 30, .inl hd)), (qsf, .inl (cI, 30, .inl sf)), (qpr, .inl (cJ, 30, .inr (.inl pr))), (qpa, .inl (cJ, 30, .inr (.inl pa))), (qsk, .inl (cJ, 30, .inr (.inl sk))), (qfw, .inl (cJ, 31, .inr (.inl (k_cp (k_fl lk (k_lm lk) ce da db pr) fw (i + 1)))))] H := by first | exact hP | simpa only [] using hP
          have hD : va_D A [(mm, .inr (5, [.int (nI ly), .int (nI ce), .ref qlo, .ref qlk, .ref qhd, .ref qsf, .ref qpr, .ref qpa, .ref qsk, .long co, .long wo, .int (nI dy), .int da, .int db, .int dr, .int (nI mn), .ref qld, .ref qlz, .int (nI rn), .ref qrd, .ref qrv, .ref qhi, .ref qfw, .ref qkp])), (qlk, .inl (cI, 30, .inl lk)), (qhd, .inl (cI, 30, .inl hd)), (qsf, .inl (cI, 30, .inl sf)), (qpr, .inl (cJ, 30, .inr (.inl pr))), (qpa, .inl (cJ, 30, .inr (.inl pa))), (qsk, .inl (cJ, 30, .inr (.inl sk))), (qfw, .inl (cJ, 31, .inr (.inl (k_cp (k_fl lk (k_lm lk) ce da db pr) fw (i + 1)))))] := by first | exact hD | simpa only [] using hD
          exact ih2 (by omega) _ _ _ ⟨hP, hD, hS, lv_sub hl [3, 0] rfl⟩
      · -- 55 not taken
        rw [nI_eq (by omega) (by omega)] at hc55
        refine lv_aload_n hx hb dM_step_58 rfl (lv_at hl 1 rfl) ?_
        refine va_get (D := (dC, dI)) (ci := 5) (v := .int db) (C := R_M) (T := T_M) (N := 24) hx hb htw in_M hown hK hP 0 rfl rfl 13 (by decide) (htw _ m_370) (fun _ h9 => h9) rfl dM_step_59 ?_
        refine lv_if_eq (tgt := 90) hx hb dM_step_62 (by decide) (fun hc62 => ?_) (fun hc62 => ?_)
        · -- 62 taken
          refine lv_lconst (v := 0) hx hb dM_step_90 (by decide) ?_
          refine lv_lstore_n (lv' := [(2, .long 0), (0, .ref mm), (1, .int (nI i))]) hx hb dM_step_91 rfl hl (by decide) rfl (fun ls hl => ?_)
          refine lv_goto (tgt := 155) hx hb dM_step_92 (by decide) ?_
          have eq20 : (0 : Int64) = k_fl lk (k_lm lk) ce da db pr i := k_fb0 hc13 hc55 hc62
          rw [eq20] at hl
          refine lv_aload_n hx hb dM_step_155 rfl (lv_at hl 1 rfl) ?_
          refine va_get (D := (dC, dI)) (ci := 5) (v := .ref qfw) (C := R_M) (T := T_M) (N := 24) hx hb htw in_M hown hK hP 0 rfl rfl 22 (by decide) (htw _ m_379) (fun _ h9 => h9) rfl dM_step_156 ?_
          refine lv_iload_n hx hb dM_step_159 rfl (lv_at hl 2 rfl) ?_
          refine lv_lload_n hx hb dM_step_160 rfl (lv_at hl 0 rfl) ?_
          refine xa_last hx hb hK hP hD hS 7 1 rfl rfl (i := i) (by omega) (by decide) dM_step_161 (fun H locs hP hD hS => ?_)
          have hP : va_P (dC, dI) vwCl [(mm, .inr (5, [.int (nI ly), .int (nI ce), .ref qlo, .ref qlk, .ref qhd, .ref qsf, .ref qpr, .ref qpa, .ref qsk, .long co, .long wo, .int (nI dy), .int da, .int db, .int dr, .int (nI mn), .ref qld, .ref qlz, .int (nI rn), .ref qrd, .ref qrv, .ref qhi, .ref qfw, .ref qkp])), (qlk, .inl (cI, 30, .inl lk)), (qhd, .inl (cI, 30, .inl hd)), (qsf, .inl (cI, 30, .inl sf)), (qpr, .inl (cJ, 30, .inr (.inl pr))), (qpa, .inl (cJ, 30, .inr (.inl pa))), (qsk, .inl (cJ, 30, .inr (.inl sk))), (qfw, .inl (cJ, 31, .inr (.inl (vp_updL (k_cp (k_fl lk (k_lm lk) ce da db pr) fw i) i (k_fl lk (k_lm lk) ce da db pr i)))))] H := hP
          have hD : va_D A [(mm, .inr (5, [.int (nI ly), .int (nI ce), .ref qlo, .ref qlk, .ref qhd, .ref qsf, .ref qpr, .ref qpa, .ref qsk, .long co, .long wo, .int (nI dy), .int da, .int db, .int dr, .int (nI mn), .ref qld, .ref qlz, .int (nI rn), .ref qrd, .ref qrv, .ref qhi, .ref qfw, .ref qkp])), (qlk, .inl (cI, 30, .inl lk)), (qhd, .inl (cI, 30, .inl hd)), (qsf, .inl (cI, 30, .inl sf)), (qpr, .inl (cJ, 30, .inr (.inl pr))), (qpa, .inl (cJ, 30, .inr (.inl pa))), (qsk, .inl (cJ, 30, .inr (.inl sk))), (qfw, .inl (cJ, 31, .inr (.inl (vp_updL (k_cp (k_fl lk (k_lm lk) ce da db pr) fw i) i (k_fl lk (k_lm lk) ce da db pr i)))))] := hD
          refine lv_iinc (v := nI (i + 1)) (lv' := [(1, .int (nI (i + 1))), (2, .long (k_fl lk (k_lm lk) ce da db pr i)), (0, .ref mm)]) hx hb dM_step_162 hl (k := 2) rfl (nI_1 _) (by decide) rfl (fun ls hl => ?_)
          refine lv_goto (tgt := 2) hx hb dM_step_165 (by decide) ?_
          have eq21 : (vp_updL (k_cp (k_fl lk (k_lm lk) ce da db pr) fw i) i (k_fl lk (k_lm lk) ce da db pr i) : Nat → Int64) = k_cp (k_fl lk (k_lm lk) ce da db pr) fw (i + 1) := k_cp_s
          rw [eq21] at hP hD
          have hP : va_P (dC, dI) vwCl [(mm, .inr (5, [.int (nI ly), .int (nI ce), .ref qlo, .ref qlk, .ref qhd, .ref qsf, .ref qpr, .ref qpa, .ref qsk, .long co, .long wo, .int (nI dy), .int da, .int db, .int dr, .int (nI mn), .ref qld, .ref qlz, .int (nI rn), .ref qrd, .ref qrv, .ref qhi, .ref qfw, .ref qkp])), (qlk, .inl (cI, 30, .inl lk)), (qhd, .inl (cI, 30, .inl hd)), (qsf, .inl (cI, 30, .inl sf)), (qpr, .inl (cJ, 30, .inr (.inl pr))), (qpa, .inl (cJ, 30, .inr (.inl pa))), (qsk, .inl (cJ, 30, .inr (.inl sk))), (qfw, .inl (cJ, 31, .inr (.inl (k_cp (k_fl lk (k_lm lk) ce da db pr) fw (i + 1)))))] H := by first | exact hP | simpa only [] using hP
          have hD : va_D A [(mm, .inr (5, [.int (nI ly), .int (nI ce), .ref qlo, .ref qlk, .ref qhd, .ref qsf, .ref qpr, .ref qpa, .ref qsk, .long co, .long wo, .int (nI dy), .int da, .int db, .int dr, .int (nI mn), .ref qld, .ref qlz, .int (nI rn), .ref qrd, .ref qrv, .ref qhi, .ref qfw, .ref qkp])), (qlk, .inl (cI, 30, .inl lk)), (qhd, .inl (cI, 30, .inl hd)), (qsf, .inl (cI, 30, .inl sf)), (qpr, .inl (cJ, 30, .inr (.inl pr))), (qpa, .inl (cJ, 30, .inr (.inl pa))), (qsk, .inl (cJ, 30, .inr (.inl sk))), (qfw, .inl (cJ, 31, .inr (.inl (k_cp (k_fl lk (k_lm lk) ce da db pr) fw (i + 1)))))] := by first | exact hD | simpa only [] using hD
          exact ih2 (by omega) _ _ _ ⟨hP, hD, hS, lv_sub hl [2, 0] rfl⟩
        · -- 62 not taken
          refine lv_aload_n hx hb dM_step_65 rfl (lv_at hl 1 rfl) ?_
          refine va_get (D := (dC, dI)) (ci := 5) (v := .ref qpr) (C := R_M) (T := T_M) (N := 24) hx hb htw in_M hown hK hP 0 rfl rfl 6 (by decide) (htw _ m_363) (fun _ h9 => h9) rfl dM_step_66 ?_
          refine lv_iload_n hx hb dM_step_69 rfl (lv_at hl 2 rfl) ?_
          refine lv_iconst (v := nI 1) hx hb dM_step_70 (by decide) ?_
          refine lv_isub hx hb dM_step_71 ?_
          refine lv_topi (fun kv ekv => ?_)
          obtain rfl : kv = nI (i - 1) := by rw [ekv]; exact pk_sub (by omega)
          refine xa_lald hx hb hK hP 4 1 rfl rfl (i := (i - 1)) (by omega) (by decide) dM_step_72 ?_
          refine lv_aload_n hx hb dM_step_73 rfl (lv_at hl 1 rfl) ?_
          refine va_get (D := (dC, dI)) (ci := 5) (v := .ref qlk) (C := R_M) (T := T_M) (N := 24) hx hb htw in_M hown hK hP 0 rfl rfl 3 (by decide) (htw _ m_360) (fun _ h9 => h9) rfl dM_step_74 ?_
          refine lv_iload_n hx hb dM_step_77 rfl (lv_at hl 2 rfl) ?_
          refine lv_iconst (v := nI 1) hx hb dM_step_78 (by decide) ?_
          refine lv_isub hx hb dM_step_79 ?_
          refine lv_topi (fun kv ekv => ?_)
          obtain rfl : kv = nI (i - 1) := by rw [ekv]; exact pk_sub (by omega)
          refine xa_iald hx hb hK hP 1 0 rfl rfl (i := (i - 1)) (by omega) (by decide) dM_step_80 ?_
          refine lv_i2l (v := (lk (i - 1)).toInt64) hx hb dM_step_81 rfl ?_
          refine lv_lmul hx hb dM_step_82 ?_
          refine lv_ldc2 (v := 1000) hx hb hown (htw _ m_439) dM_step_83 ?_
          refine lv_ldiv hx hb dM_step_86 (by decide) ?_
          refine lv_goto (tgt := 91) hx hb dM_step_87 (by decide) ?_
          refine lv_lstore_n (lv' := [(2, .long (((pr (i - 1)) * ((lk (i - 1)).toInt64)) / 1000)), (0, .ref mm), (1, .int (nI i))]) hx hb dM_step_91 rfl hl (by decide) rfl (fun ls hl => ?_)
          refine lv_goto (tgt := 155) hx hb dM_step_92 (by decide) ?_
          have eq22 : (((pr (i - 1)) * ((lk (i - 1)).toInt64)) / 1000 : Int64) = k_fl lk (k_lm lk) ce da db pr i := k_fb1 hc13 hc55 hc62
          rw [eq22] at hl
          refine lv_aload_n hx hb dM_step_155 rfl (lv_at hl 1 rfl) ?_
          refine va_get (D := (dC, dI)) (ci := 5) (v := .ref qfw) (C := R_M) (T := T_M) (N := 24) hx hb htw in_M hown hK hP 0 rfl rfl 22 (by decide) (htw _ m_379) (fun _ h9 => h9) rfl dM_step_156 ?_
          refine lv_iload_n hx hb dM_step_159 rfl (lv_at hl 2 rfl) ?_
          refine lv_lload_n hx hb dM_step_160 rfl (lv_at hl 0 rfl) ?_
          refine xa_last hx hb hK hP hD hS 7 1 rfl rfl (i := i) (by omega) (by decide) dM_step_161 (fun H locs hP hD hS => ?_)
          have hP : va_P (dC, dI) vwCl [(mm, .inr (5, [.int (nI ly), .int (nI ce), .ref qlo, .ref qlk, .ref qhd, .ref qsf, .ref qpr, .ref qpa, .ref qsk, .long co, .long wo, .int (nI dy), .int da, .int db, .int dr, .int (nI mn), .ref qld, .ref qlz, .int (nI rn), .ref qrd, .ref qrv, .ref qhi, .ref qfw, .ref qkp])), (qlk, .inl (cI, 30, .inl lk)), (qhd, .inl (cI, 30, .inl hd)), (qsf, .inl (cI, 30, .inl sf)), (qpr, .inl (cJ, 30, .inr (.inl pr))), (qpa, .inl (cJ, 30, .inr (.inl pa))), (qsk, .inl (cJ, 30, .inr (.inl sk))), (qfw, .inl (cJ, 31, .inr (.inl (vp_updL (k_cp (k_fl lk (k_lm lk) ce da db pr) fw i) i (k_fl lk (k_lm lk) ce da db pr i)))))] H := hP
          have hD : va_D A [(mm, .inr (5, [.int (nI ly), .int (nI ce), .ref qlo, .ref qlk, .ref qhd, .ref qsf, .ref qpr, .ref qpa, .ref qsk, .long co, .long wo, .int (nI dy), .int da, .int db, .int dr, .int (nI mn), .ref qld, .ref qlz, .int (nI rn), .ref qrd, .ref qrv, .ref qhi, .ref qfw, .ref qkp])), (qlk, .inl (cI, 30, .inl lk)), (qhd, .inl (cI, 30, .inl hd)), (qsf, .inl (cI, 30, .inl sf)), (qpr, .inl (cJ, 30, .inr (.inl pr))), (qpa, .inl (cJ, 30, .inr (.inl pa))), (qsk, .inl (cJ, 30, .inr (.inl sk))), (qfw, .inl (cJ, 31, .inr (.inl (vp_updL (k_cp (k_fl lk (k_lm lk) ce da db pr) fw i) i (k_fl lk (k_lm lk) ce da db pr i)))))] := hD
          refine lv_iinc (v := nI (i + 1)) (lv' := [(1, .int (nI (i + 1))), (2, .long (k_fl lk (k_lm lk) ce da db pr i)), (0, .ref mm)]) hx hb dM_step_162 hl (k := 2) rfl (nI_1 _) (by decide) rfl (fun ls hl => ?_)
          refine lv_goto (tgt := 2) hx hb dM_step_165 (by decide) ?_
          have eq23 : (vp_updL (k_cp (k_fl lk (k_lm lk) ce da db pr) fw i) i (k_fl lk (k_lm lk) ce da db pr i) : Nat → Int64) = k_cp (k_fl lk (k_lm lk) ce da db pr) fw (i + 1) := k_cp_s
          rw [eq23] at hP hD
          have hP : va_P (dC, dI) vwCl [(mm, .inr (5, [.int (nI ly), .int (nI ce), .ref qlo, .ref qlk, .ref qhd, .ref qsf, .ref qpr, .ref qpa, .ref qsk, .long co, .long wo, .int (nI dy), .int da, .int db, .int dr, .int (nI mn), .ref qld, .ref qlz, .int (nI rn), .ref qrd, .ref qrv, .ref qhi, .ref qfw, .ref qkp])), (qlk, .inl (cI, 30, .inl lk)), (qhd, .inl (cI, 30, .inl hd)), (qsf, .inl (cI, 30, .inl sf)), (qpr, .inl (cJ, 30, .inr (.inl pr))), (qpa, .inl (cJ, 30, .inr (.inl pa))), (qsk, .inl (cJ, 30, .inr (.inl sk))), (qfw, .inl (cJ, 31, .inr (.inl (k_cp (k_fl lk (k_lm lk) ce da db pr) fw (i + 1)))))] H := by first | exact hP | simpa only [] using hP
          have hD : va_D A [(mm, .inr (5, [.int (nI ly), .int (nI ce), .ref qlo, .ref qlk, .ref qhd, .ref qsf, .ref qpr, .ref qpa, .ref qsk, .long co, .long wo, .int (nI dy), .int da, .int db, .int dr, .int (nI mn), .ref qld, .ref qlz, .int (nI rn), .ref qrd, .ref qrv, .ref qhi, .ref qfw, .ref qkp])), (qlk, .inl (cI, 30, .inl lk)), (qhd, .inl (cI, 30, .inl hd)), (qsf, .inl (cI, 30, .inl sf)), (qpr, .inl (cJ, 30, .inr (.inl pr))), (qpa, .inl (cJ, 30, .inr (.inl pa))), (qsk, .inl (cJ, 30, .inr (.inl sk))), (qfw, .inl (cJ, 31, .inr (.inl (k_cp (k_fl lk (k_lm lk) ce da db pr) fw (i + 1)))))] := by first | exact hD | simpa only [] using hD
          exact ih2 (by omega) _ _ _ ⟨hP, hD, hS, lv_sub hl [2, 0] rfl⟩
    · -- 13 not taken
      rw [show (0 : Int32) = nI 0 from rfl, nI_eq (by omega) (by omega)] at hc13
      refine lv_aload_n hx hb dM_step_16 rfl (lv_at hl 1 rfl) ?_
      refine va_get (D := (dC, dI)) (ci := 5) (v := .int da) (C := R_M) (T := T_M) (N := 24) hx hb htw in_M hown hK hP 0 rfl rfl 12 (by decide) (htw _ m_369) (fun _ h9 => h9) rfl dM_step_17 ?_
      refine lv_if_eq (tgt := 45) hx hb dM_step_20 (by decide) (fun hc20 => ?_) (fun hc20 => ?_)
      · -- 20 taken
        refine lv_lconst (v := 0) hx hb dM_step_45 (by decide) ?_
        refine lv_lstore_n (lv' := [(2, .long 0), (0, .ref mm), (1, .int (nI i))]) hx hb dM_step_46 rfl hl (by decide) rfl (fun ls hl => ?_)
        refine lv_goto (tgt := 155) hx hb dM_step_47 (by decide) ?_
        have eq24 : (0 : Int64) = k_fl lk (k_lm lk) ce da db pr i := k_fa0 hc13 hc20
        rw [eq24] at hl
        refine lv_aload_n hx hb dM_step_155 rfl (lv_at hl 1 rfl) ?_
        refine va_get (D := (dC, dI)) (ci := 5) (v := .ref qfw) (C := R_M) (T := T_M) (N := 24) hx hb htw in_M hown hK hP 0 rfl rfl 22 (by decide) (htw _ m_379) (fun _ h9 => h9) rfl dM_step_156 ?_
        refine lv_iload_n hx hb dM_step_159 rfl (lv_at hl 2 rfl) ?_
        refine lv_lload_n hx hb dM_step_160 rfl (lv_at hl 0 rfl) ?_
        refine xa_last hx hb hK hP hD hS 7 1 rfl rfl (i := i) (by omega) (by decide) dM_step_161 (fun H locs hP hD hS => ?_)
        have hP : va_P (dC, dI) vwCl [(mm, .inr (5, [.int (nI ly), .int (nI ce), .ref qlo, .ref qlk, .ref qhd, .ref qsf, .ref qpr, .ref qpa, .ref qsk, .long co, .long wo, .int (nI dy), .int da, .int db, .int dr, .int (nI mn), .ref qld, .ref qlz, .int (nI rn), .ref qrd, .ref qrv, .ref qhi, .ref qfw, .ref qkp])), (qlk, .inl (cI, 30, .inl lk)), (qhd, .inl (cI, 30, .inl hd)), (qsf, .inl (cI, 30, .inl sf)), (qpr, .inl (cJ, 30, .inr (.inl pr))), (qpa, .inl (cJ, 30, .inr (.inl pa))), (qsk, .inl (cJ, 30, .inr (.inl sk))), (qfw, .inl (cJ, 31, .inr (.inl (vp_updL (k_cp (k_fl lk (k_lm lk) ce da db pr) fw i) i (k_fl lk (k_lm lk) ce da db pr i)))))] H := hP
        have hD : va_D A [(mm, .inr (5, [.int (nI ly), .int (nI ce), .ref qlo, .ref qlk, .ref qhd, .ref qsf, .ref qpr, .ref qpa, .ref qsk, .long co, .long wo, .int (nI dy), .int da, .int db, .int dr, .int (nI mn), .ref qld, .ref qlz, .int (nI rn), .ref qrd, .ref qrv, .ref qhi, .ref qfw, .ref qkp])), (qlk, .inl (cI, 30, .inl lk)), (qhd, .inl (cI, 30, .inl hd)), (qsf, .inl (cI, 30, .inl sf)), (qpr, .inl (cJ, 30, .inr (.inl pr))), (qpa, .inl (cJ, 30, .inr (.inl pa))), (qsk, .inl (cJ, 30, .inr (.inl sk))), (qfw, .inl (cJ, 31, .inr (.inl (vp_updL (k_cp (k_fl lk (k_lm lk) ce da db pr) fw i) i (k_fl lk (k_lm lk) ce da db pr i)))))] := hD
        refine lv_iinc (v := nI (i + 1)) (lv' := [(1, .int (nI (i + 1))), (2, .long (k_fl lk (k_lm lk) ce da db pr i)), (0, .ref mm)]) hx hb dM_step_162 hl (k := 2) rfl (nI_1 _) (by decide) rfl (fun ls hl => ?_)
        refine lv_goto (tgt := 2) hx hb dM_step_165 (by decide) ?_
        have eq25 : (vp_updL (k_cp (k_fl lk (k_lm lk) ce da db pr) fw i) i (k_fl lk (k_lm lk) ce da db pr i) : Nat → Int64) = k_cp (k_fl lk (k_lm lk) ce da db pr) fw (i + 1) := k_cp_s
        rw [eq25] at hP hD
        have hP : va_P (dC, dI) vwCl [(mm, .inr (5, [.int (nI ly), .int (nI ce), .ref qlo, .ref qlk, .ref qhd, .ref qsf, .ref qpr, .ref qpa, .ref qsk, .long co, .long wo, .int (nI dy), .int da, .int db, .int dr, .int (nI mn), .ref qld, .ref qlz, .int (nI rn), .ref qrd, .ref qrv, .ref qhi, .ref qfw, .ref qkp])), (qlk, .inl (cI, 30, .inl lk)), (qhd, .inl (cI, 30, .inl hd)), (qsf, .inl (cI, 30, .inl sf)), (qpr, .inl (cJ, 30, .inr (.inl pr))), (qpa, .inl (cJ, 30, .inr (.inl pa))), (qsk, .inl (cJ, 30, .inr (.inl sk))), (qfw, .inl (cJ, 31, .inr (.inl (k_cp (k_fl lk (k_lm lk) ce da db pr) fw (i + 1)))))] H := by first | exact hP | simpa only [] using hP
        have hD : va_D A [(mm, .inr (5, [.int (nI ly), .int (nI ce), .ref qlo, .ref qlk, .ref qhd, .ref qsf, .ref qpr, .ref qpa, .ref qsk, .long co, .long wo, .int (nI dy), .int da, .int db, .int dr, .int (nI mn), .ref qld, .ref qlz, .int (nI rn), .ref qrd, .ref qrv, .ref qhi, .ref qfw, .ref qkp])), (qlk, .inl (cI, 30, .inl lk)), (qhd, .inl (cI, 30, .inl hd)), (qsf, .inl (cI, 30, .inl sf)), (qpr, .inl (cJ, 30, .inr (.inl pr))), (qpa, .inl (cJ, 30, .inr (.inl pa))), (qsk, .inl (cJ, 30, .inr (.inl sk))), (qfw, .inl (cJ, 31, .inr (.inl (k_cp (k_fl lk (k_lm lk) ce da db pr) fw (i + 1)))))] := by first | exact hD | simpa only [] using hD
        exact ih2 (by omega) _ _ _ ⟨hP, hD, hS, lv_sub hl [2, 0] rfl⟩
      · -- 20 not taken
        refine lv_aload_n hx hb dM_step_23 rfl (lv_at hl 1 rfl) ?_
        refine va_get (D := (dC, dI)) (ci := 5) (v := .ref qpr) (C := R_M) (T := T_M) (N := 24) hx hb htw in_M hown hK hP 0 rfl rfl 6 (by decide) (htw _ m_363) (fun _ h9 => h9) rfl dM_step_24 ?_
        refine lv_iconst (v := nI 0) hx hb dM_step_27 (by decide) ?_
        refine xa_lald hx hb hK hP 4 1 rfl rfl (i := 0) (by omega) (by decide) dM_step_28 ?_
        refine lv_aload_n hx hb dM_step_29 rfl (lv_at hl 1 rfl) ?_
        refine va_get (D := (dC, dI)) (ci := 5) (v := .ref qlk) (C := R_M) (T := T_M) (N := 24) hx hb htw in_M hown hK hP 0 rfl rfl 3 (by decide) (htw _ m_360) (fun _ h9 => h9) rfl dM_step_30 ?_
        refine lv_iconst (v := nI 0) hx hb dM_step_33 (by decide) ?_
        refine xa_iald hx hb hK hP 1 0 rfl rfl (i := 0) (by omega) (by decide) dM_step_34 ?_
        refine lv_i2l (v := (lk 0).toInt64) hx hb dM_step_35 rfl ?_
        refine lv_lmul hx hb dM_step_36 ?_
        refine lv_ldc2 (v := 1000) hx hb hown (htw _ m_439) dM_step_37 ?_
        refine lv_ldiv hx hb dM_step_40 (by decide) ?_
        refine lv_lneg hx hb dM_step_41 ?_
        refine lv_goto (tgt := 46) hx hb dM_step_42 (by decide) ?_
        refine lv_lstore_n (lv' := [(2, .long (-(((pr 0) * ((lk 0).toInt64)) / 1000))), (0, .ref mm), (1, .int (nI i))]) hx hb dM_step_46 rfl hl (by decide) rfl (fun ls hl => ?_)
        refine lv_goto (tgt := 155) hx hb dM_step_47 (by decide) ?_
        have eq26 : (-(((pr 0) * ((lk 0).toInt64)) / 1000) : Int64) = k_fl lk (k_lm lk) ce da db pr i := k_fa1 hc13 hc20
        rw [eq26] at hl
        refine lv_aload_n hx hb dM_step_155 rfl (lv_at hl 1 rfl) ?_
        refine va_get (D := (dC, dI)) (ci := 5) (v := .ref qfw) (C := R_M) (T := T_M) (N := 24) hx hb htw in_M hown hK hP 0 rfl rfl 22 (by decide) (htw _ m_379) (fun _ h9 => h9) rfl dM_step_156 ?_
        refine lv_iload_n hx hb dM_step_159 rfl (lv_at hl 2 rfl) ?_
        refine lv_lload_n hx hb dM_step_160 rfl (lv_at hl 0 rfl) ?_
        refine xa_last hx hb hK hP hD hS 7 1 rfl rfl (i := i) (by omega) (by decide) dM_step_161 (fun H locs hP hD hS => ?_)
        have hP : va_P (dC, dI) vwCl [(mm, .inr (5, [.int (nI ly), .int (nI ce), .ref qlo, .ref qlk, .ref qhd, .ref qsf, .ref qpr, .ref qpa, .ref qsk, .long co, .long wo, .int (nI dy), .int da, .int db, .int dr, .int (nI mn), .ref qld, .ref qlz, .int (nI rn), .ref qrd, .ref qrv, .ref qhi, .ref qfw, .ref qkp])), (qlk, .inl (cI, 30, .inl lk)), (qhd, .inl (cI, 30, .inl hd)), (qsf, .inl (cI, 30, .inl sf)), (qpr, .inl (cJ, 30, .inr (.inl pr))), (qpa, .inl (cJ, 30, .inr (.inl pa))), (qsk, .inl (cJ, 30, .inr (.inl sk))), (qfw, .inl (cJ, 31, .inr (.inl (vp_updL (k_cp (k_fl lk (k_lm lk) ce da db pr) fw i) i (k_fl lk (k_lm lk) ce da db pr i)))))] H := hP
        have hD : va_D A [(mm, .inr (5, [.int (nI ly), .int (nI ce), .ref qlo, .ref qlk, .ref qhd, .ref qsf, .ref qpr, .ref qpa, .ref qsk, .long co, .long wo, .int (nI dy), .int da, .int db, .int dr, .int (nI mn), .ref qld, .ref qlz, .int (nI rn), .ref qrd, .ref qrv, .ref qhi, .ref qfw, .ref qkp])), (qlk, .inl (cI, 30, .inl lk)), (qhd, .inl (cI, 30, .inl hd)), (qsf, .inl (cI, 30, .inl sf)), (qpr, .inl (cJ, 30, .inr (.inl pr))), (qpa, .inl (cJ, 30, .inr (.inl pa))), (qsk, .inl (cJ, 30, .inr (.inl sk))), (qfw, .inl (cJ, 31, .inr (.inl (vp_updL (k_cp (k_fl lk (k_lm lk) ce da db pr) fw i) i (k_fl lk (k_lm lk) ce da db pr i)))))] := hD
        refine lv_iinc (v := nI (i + 1)) (lv' := [(1, .int (nI (i + 1))), (2, .long (k_fl lk (k_lm lk) ce da db pr i)), (0, .ref mm)]) hx hb dM_step_162 hl (k := 2) rfl (nI_1 _) (by decide) rfl (fun ls hl => ?_)
        refine lv_goto (tgt := 2) hx hb dM_step_165 (by decide) ?_
        have eq27 : (vp_updL (k_cp (k_fl lk (k_lm lk) ce da db pr) fw i) i (k_fl lk (k_lm lk) ce da db pr i) : Nat → Int64) = k_cp (k_fl lk (k_lm lk) ce da db pr) fw (i + 1) := k_cp_s
        rw [eq27] at hP hD
        have hP : va_P (dC, dI) vwCl [(mm, .inr (5, [.int (nI ly), .int (nI ce), .ref qlo, .ref qlk, .ref qhd, .ref qsf, .ref qpr, .ref qpa, .ref qsk, .long co, .long wo, .int (nI dy), .int da, .int db, .int dr, .int (nI mn), .ref qld, .ref qlz, .int (nI rn), .ref qrd, .ref qrv, .ref qhi, .ref qfw, .ref qkp])), (qlk, .inl (cI, 30, .inl lk)), (qhd, .inl (cI, 30, .inl hd)), (qsf, .inl (cI, 30, .inl sf)), (qpr, .inl (cJ, 30, .inr (.inl pr))), (qpa, .inl (cJ, 30, .inr (.inl pa))), (qsk, .inl (cJ, 30, .inr (.inl sk))), (qfw, .inl (cJ, 31, .inr (.inl (k_cp (k_fl lk (k_lm lk) ce da db pr) fw (i + 1)))))] H := by first | exact hP | simpa only [] using hP
        have hD : va_D A [(mm, .inr (5, [.int (nI ly), .int (nI ce), .ref qlo, .ref qlk, .ref qhd, .ref qsf, .ref qpr, .ref qpa, .ref qsk, .long co, .long wo, .int (nI dy), .int da, .int db, .int dr, .int (nI mn), .ref qld, .ref qlz, .int (nI rn), .ref qrd, .ref qrv, .ref qhi, .ref qfw, .ref qkp])), (qlk, .inl (cI, 30, .inl lk)), (qhd, .inl (cI, 30, .inl hd)), (qsf, .inl (cI, 30, .inl sf)), (qpr, .inl (cJ, 30, .inr (.inl pr))), (qpa, .inl (cJ, 30, .inr (.inl pa))), (qsk, .inl (cJ, 30, .inr (.inl sk))), (qfw, .inl (cJ, 31, .inr (.inl (k_cp (k_fl lk (k_lm lk) ce da db pr) fw (i + 1)))))] := by first | exact hD | simpa only [] using hD
        exact ih2 (by omega) _ _ _ ⟨hP, hD, hS, lv_sub hl [2, 0] rfl⟩
set_option maxHeartbeats 4000000 in
set_option maxRecDepth 100000 in
theorem kM_goDay (l : Launch) (dC : Nat → ClassId) (dI : Nat → Nat → Nat) (cI cJ : ClassId) (mm qlo qlk qhd qsf qpr qpa qsk qld qlz qrd qrv qhi qfw qkp : Nat) (sz : Nat) (x : Int32) (u : Int64) (ly : Nat) (ce : Nat) (co : Int64) (wo : Int64) (dy : Nat) (da : Int32) (db : Int32) (dr : Int32) (mn : Nat) (rn : Nat) (lk : Nat → Int32) (hd : Nat → Int32) (sf : Nat → Int32) (pr : Nat → Int64) (pa : Nat → Int64) (sk : Nat → Int64) (ld : Nat → Int32) (lz : Nat → Int32) (fw : Nat → Int64) (U : Int64) (hce : ce ≤ 30) (hmn : mn ≤ 12) (hU : u + k_come ld lz x mn = U) : Met l yM_goDay wM_goDay ({ frames := 2, cells := 0, slots := 0, locals := 56 }) (va_Pc [.ref mm, .int x, .long u] (fun U => U.heap.size = sz ∧ va_P (dC, dI) vwCl [(mm, .inr (5, [.int (nI ly), .int (nI ce), .ref qlo, .ref qlk, .ref qhd, .ref qsf, .ref qpr, .ref qpa, .ref qsk, .long co, .long wo, .int (nI dy), .int da, .int db, .int dr, .int (nI mn), .ref qld, .ref qlz, .int (nI rn), .ref qrd, .ref qrv, .ref qhi, .ref qfw, .ref qkp])), (qlk, .inl (cI, 30, .inl lk)), (qhd, .inl (cI, 30, .inl hd)), (qsf, .inl (cI, 30, .inl sf)), (qpr, .inl (cJ, 30, .inr (.inl pr))), (qpa, .inl (cJ, 30, .inr (.inl pa))), (qsk, .inl (cJ, 30, .inr (.inl sk))), (qld, .inl (cI, 12, .inl ld)), (qlz, .inl (cI, 12, .inl lz)), (qfw, .inl (cJ, 31, .inr (.inl fw)))] U.heap ∧ va_K (dC, dI) vwCl [(cI, .int), (cJ, .long)] U ∧ va_D (fun _ => True) [(mm, .inr (5, [.int (nI ly), .int (nI ce), .ref qlo, .ref qlk, .ref qhd, .ref qsf, .ref qpr, .ref qpa, .ref qsk, .long co, .long wo, .int (nI dy), .int da, .int db, .int dr, .int (nI mn), .ref qld, .ref qlz, .int (nI rn), .ref qrd, .ref qrv, .ref qhi, .ref qfw, .ref qkp])), (qlk, .inl (cI, 30, .inl lk)), (qhd, .inl (cI, 30, .inl hd)), (qsf, .inl (cI, 30, .inl sf)), (qpr, .inl (cJ, 30, .inr (.inl pr))), (qpa, .inl (cJ, 30, .inr (.inl pa))), (qsk, .inl (cJ, 30, .inr (.inl sk))), (qld, .inl (cI, 12, .inl ld)), (qlz, .inl (cI, 12, .inl lz)), (qfw, .inl (cJ, 31, .inr (.inl fw)))])) (va_Qv (fun (_ : Unit) => True) (fun _ t => ∃ (fw2 : Nat → Int64), va_P (dC, dI) vwCl [(mm, .inr (5, [.int (nI ly), .int (nI ce), .ref qlo, .ref qlk, .ref qhd, .ref qsf, .ref qpr, .ref qpa, .ref qsk, .long (co + U), .long (k_w lk (k_lm lk) ce da db dr (k_lay pr ce U) wo 24), .int (nI dy), .int da, .int db, .int dr, .int (nI mn), .ref qld, .ref qlz, .int (nI rn), .ref qrd, .ref qrv, .ref qhi, .ref qfw, .ref qkp])), (qlk, .inl (cI, 30, .inl lk)), (qhd, .inl (cI, 30, .inl hd)), (qsf, .inl (cI, 30, .inl sf)), (qpr, .inl (cJ, 30, .inr (.inl (k_p lk (k_lm lk) ce da db dr (k_lay pr ce U) 24)))), (qpa, .inl (cJ, 30, .inr (.inl (k_a lk (k_lm lk) ce da db dr (co + U) (k_lay pr ce U) pa 24)))), (qsk, .inl (cJ, 30, .inr (.inl (k_s hd sf lk (k_lm lk) ce da db dr (co + U) (k_lay pr ce U) pa sk 24)))), (qld, .inl (cI, 12, .inl ld)), (qlz, .inl (cI, 12, .inl lz)), (qfw, .inl (cJ, 31, .inr (.inl fw2)))] t.heap ∧ va_K (dC, dI) vwCl [(cI, .int), (cJ, .long)] t ∧ va_D (va_A [(mm, .inr (5, [.int (nI ly), .int (nI ce), .ref qlo, .ref qlk, .ref qhd, .ref qsf, .ref qpr, .ref qpa, .ref qsk, .long co, .long wo, .int (nI dy), .int da, .int db, .int dr, .int (nI mn), .ref qld, .ref qlz, .int (nI rn), .ref qrd, .ref qrv, .ref qhi, .ref qfw, .ref qkp])), (qlk, .inl (cI, 30, .inl lk)), (qhd, .inl (cI, 30, .inl hd)), (qsf, .inl (cI, 30, .inl sf)), (qpr, .inl (cJ, 30, .inr (.inl pr))), (qpa, .inl (cJ, 30, .inr (.inl pa))), (qsk, .inl (cJ, 30, .inr (.inl sk))), (qld, .inl (cI, 12, .inl ld)), (qlz, .inl (cI, 12, .inl lz)), (qfw, .inl (cJ, 31, .inr (.inl fw)))] sz) [(mm, .inr (5, [.int (nI ly), .int (nI ce), .ref qlo, .ref qlk, .ref qhd, .ref qsf, .ref qpr, .ref qpa, .ref qsk, .long (co + U), .long (k_w lk (k_lm lk) ce da db dr (k_lay pr ce U) wo 24), .int (nI dy), .int da, .int db, .int dr, .int (nI mn), .ref qld, .ref qlz, .int (nI rn), .ref qrd, .ref qrv, .ref qhi, .ref qfw, .ref qkp])), (qlk, .inl (cI, 30, .inl lk)), (qhd, .inl (cI, 30, .inl hd)), (qsf, .inl (cI, 30, .inl sf)), (qpr, .inl (cJ, 30, .inr (.inl (k_p lk (k_lm lk) ce da db dr (k_lay pr ce U) 24)))), (qpa, .inl (cJ, 30, .inr (.inl (k_a lk (k_lm lk) ce da db dr (co + U) (k_lay pr ce U) pa 24)))), (qsk, .inl (cJ, 30, .inr (.inl (k_s hd sf lk (k_lm lk) ce da db dr (co + U) (k_lay pr ce U) pa sk 24)))), (qld, .inl (cI, 12, .inl ld)), (qlz, .inl (cI, 12, .inl lz)), (qfw, .inl (cJ, 31, .inr (.inl fw2)))]) (va_A [(mm, .inr (5, [.int (nI ly), .int (nI ce), .ref qlo, .ref qlk, .ref qhd, .ref qsf, .ref qpr, .ref qpa, .ref qsk, .long co, .long wo, .int (nI dy), .int da, .int db, .int dr, .int (nI mn), .ref qld, .ref qlz, .int (nI rn), .ref qrd, .ref qrv, .ref qhi, .ref qfw, .ref qkp])), (qlk, .inl (cI, 30, .inl lk)), (qhd, .inl (cI, 30, .inl hd)), (qsf, .inl (cI, 30, .inl sf)), (qpr, .inl (cJ, 30, .inr (.inl pr))), (qpa, .inl (cJ, 30, .inr (.inl pa))), (qsk, .inl (cJ, 30, .inr (.inl sk))), (qld, .inl (cI, 12, .inl ld)), (qlz, .inl (cI, 12, .inl lz)), (qfw, .inl (cJ, 31, .inr (.inl fw)))] sz)) 0 0 (va_A [(mm, .inr (5, [.int (nI ly), .int (nI ce), .ref qlo, .ref qlk, .ref qhd, .ref qsf, .ref qpr, .ref qpa, .ref qsk, .long co, .long wo, .int (nI dy), .int da, .int db, .int dr, .int (nI mn), .ref qld, .ref qlz, .int (nI rn), .ref qrd, .ref qrv, .ref qhi, .ref qfw, .ref qkp])), (qlk, .inl (cI, 30, .inl lk)), (qhd, .inl (cI, 30, .inl hd)), (qsf, .inl (cI, 30, .inl sf)), (qpr, .inl (cJ, 30, .inr (.inl pr))), (qpa, .inl (cJ, 30, .inr (.inl pa))), (qsk, .inl (cJ, 30, .inr (.inl sk))), (qld, .inl (cI, 12, .inl ld)), (qlz, .inl (cI, 12, .inl lz)), (qfw, .inl (cJ, 31, .inr (.inl fw)))] sz) := by
  refine Met.ofW (cc := bM_goDay) (maxL := 7) (ret := none) (by decide) rfl ?_
  intro p e s m args below meth c s₁ B hml hv
  obtain ⟨rfl, hsz, hP, hK, hD0⟩ := hv
  have hx := B.exec
  have hb := B.bytes
  have hr := B.returns
  have hts := atoms_spec (ws := wM_goDay) B.pre
  have hown : s.vm.findClass R_M = some m.cls := findClass_of_methodNamed B.named
  have htw : ∀ w ∈ WA, w.before _ s = true := fun w h => hts w (List.mem_cons_of_mem _ h)
  clear hts
  have hlocks := B.notSynchronized
  subst hsz
  have hD := hD0.self (sz := s.heap.size)
  generalize hAe : va_A [(mm, .inr (5, [.int (nI ly), .int (nI ce), .ref qlo, .ref qlk, .ref qhd, .ref qsf, .ref qpr, .ref qpa, .ref qsk, .long co, .long wo, .int (nI dy), .int da, .int db, .int dr, .int (nI mn), .ref qld, .ref qlz, .int (nI rn), .ref qrd, .ref qrv, .ref qhi, .ref qfw, .ref qkp])), (qlk, .inl (cI, 30, .inl lk)), (qhd, .inl (cI, 30, .inl hd)), (qsf, .inl (cI, 30, .inl sf)), (qpr, .inl (cJ, 30, .inr (.inl pr))), (qpa, .inl (cJ, 30, .inr (.inl pa))), (qsk, .inl (cJ, 30, .inr (.inl sk))), (qld, .inl (cI, 12, .inl ld)), (qlz, .inl (cI, 12, .inl lz)), (qfw, .inl (cJ, 31, .inr (.inl fw)))] s.heap.size = A at hD ⊢
  have hA : ∀ q : Nat, s.heap.size ≤ q → A q := fun q h => by rw [← hAe]; exact Or.inr h
  clear hAe hD0
  have hS : va_S A s.heap s.heap [] := va_S.rf
  have hP : va_P (dC, dI) vwCl [(mm, .inr (5, [.int (nI ly), .int (nI ce), .ref qlo, .ref qlk, .ref qhd, .ref qsf, .ref qpr, .ref qpa, .ref qsk, .long co, .long wo, .int (nI dy), .int da, .int db, .int dr, .int (nI mn), .ref qld, .ref qlz, .int (nI rn), .ref qrd, .ref qrv, .ref qhi, .ref qfw, .ref qkp])), (qlk, .inl (cI, 30, .inl lk)), (qhd, .inl (cI, 30, .inl hd)), (qsf, .inl (cI, 30, .inl sf)), (qpr, .inl (cJ, 30, .inr (.inl pr))), (qpa, .inl (cJ, 30, .inr (.inl pa))), (qsk, .inl (cJ, 30, .inr (.inl sk))), (qld, .inl (cI, 12, .inl ld)), (qlz, .inl (cI, 12, .inl lz)), (qfw, .inl (cJ, 31, .inr (.inl fw)))] s.heap := hP
  have hl := lv_entry ([.ref mm, .int x, .long u]) (n := 7) (Nat.le_of_ble_eq_true rfl)
  rw [lg_entry_eq]
  generalize (lg_sl ([.ref mm, .int x, .long u]) ++ List.replicate (7 - (lg_sl ([.ref mm, .int x, .long u])).length) Slot.unset).toArray = ls at hl ⊢
  have hl : lv_has ls 7 [(0, .ref mm), (1, .int x), (2, .long u)] := hl
  refine lv_lload_n hx hb dM_goDay_0 rfl (lv_at hl 2 rfl) ?_
  refine lv_lstore (lv' := [(4, .long u), (0, .ref mm), (1, .int x), (2, .long u)]) hx hb dM_goDay_1 hl (by decide) rfl (fun ls hl => ?_)
  refine lv_iconst (v := nI 0) hx hb dM_goDay_3 (by decide) ?_
  refine lv_istore (lv' := [(6, .int (nI 0)), (4, .long u), (0, .ref mm), (1, .int x), (2, .long u)]) hx hb dM_goDay_4 hl (by decide) rfl (fun ls hl => ?_)
  -- the loop at 6
  have hP : va_P (dC, dI) vwCl [(mm, .inr (5, [.int (nI ly), .int (nI ce), .ref qlo, .ref qlk, .ref qhd, .ref qsf, .ref qpr, .ref qpa, .ref qsk, .long co, .long wo, .int (nI dy), .int da, .int db, .int dr, .int (nI mn), .ref qld, .ref qlz, .int (nI rn), .ref qrd, .ref qrv, .ref qhi, .ref qfw, .ref qkp])), (qlk, .inl (cI, 30, .inl lk)), (qhd, .inl (cI, 30, .inl hd)), (qsf, .inl (cI, 30, .inl sf)), (qpr, .inl (cJ, 30, .inr (.inl pr))), (qpa, .inl (cJ, 30, .inr (.inl pa))), (qsk, .inl (cJ, 30, .inr (.inl sk))), (qld, .inl (cI, 12, .inl ld)), (qlz, .inl (cI, 12, .inl lz)), (qfw, .inl (cJ, 31, .inr (.inl fw)))] s.heap := by first | exact hP | simpa only [] using hP
  have hD : va_D A [(mm, .inr (5, [.int (nI ly), .int (nI ce), .ref qlo, .ref qlk, .ref qhd, .ref qsf, .ref qpr, .ref qpa, .ref qsk, .long co, .long wo, .int (nI dy), .int da, .int db, .int dr, .int (nI mn), .ref qld, .ref qlz, .int (nI rn), .ref qrd, .ref qrv, .ref qhi, .ref qfw, .ref qkp])), (qlk, .inl (cI, 30, .inl lk)), (qhd, .inl (cI, 30, .inl hd)), (qsf, .inl (cI, 30, .inl sf)), (qpr, .inl (cJ, 30, .inr (.inl pr))), (qpa, .inl (cJ, 30, .inr (.inl pa))), (qsk, .inl (cJ, 30, .inr (.inl sk))), (qld, .inl (cI, 12, .inl ld)), (qlz, .inl (cI, 12, .inl lz)), (qfw, .inl (cJ, 31, .inr (.inl fw)))] := by first | exact hD | simpa only [] using hD
  have eq1 : u = u + k_come ld lz x 0 := (Int64.add_zero u).symm
  rw [eq1] at hl
  refine x_loop (N := mn) (I := fun i H locs ls => va_P (dC, dI) vwCl [(mm, .inr (5, [.int (nI ly), .int (nI ce), .ref qlo, .ref qlk, .ref qhd, .ref qsf, .ref qpr, .ref qpa, .ref qsk, .long co, .long wo, .int (nI dy), .int da, .int db, .int dr, .int (nI mn), .ref qld, .ref qlz, .int (nI rn), .ref qrd, .ref qrv, .ref qhi, .ref qfw, .ref qkp])), (qlk, .inl (cI, 30, .inl lk)), (qhd, .inl (cI, 30, .inl hd)), (qsf, .inl (cI, 30, .inl sf)), (qpr, .inl (cJ, 30, .inr (.inl pr))), (qpa, .inl (cJ, 30, .inr (.inl pa))), (qsk, .inl (cJ, 30, .inr (.inl sk))), (qld, .inl (cI, 12, .inl ld)), (qlz, .inl (cI, 12, .inl lz)), (qfw, .inl (cJ, 31, .inr (.inl fw)))] H ∧ va_D A [(mm, .inr (5, [.int (nI ly), .int (nI ce), .ref qlo, .ref qlk, .ref qhd, .ref qsf, .ref qpr, .ref qpa, .ref qsk, .long co, .long wo, .int (nI dy), .int da, .int db, .int dr, .int (nI mn), .ref qld, .ref qlz, .int (nI rn), .ref qrd, .ref qrv, .ref qhi, .ref qfw, .ref qkp])), (qlk, .inl (cI, 30, .inl lk)), (qhd, .inl (cI, 30, .inl hd)), (qsf, .inl (cI, 30, .inl sf)), (qpr, .inl (cJ, 30, .inr (.inl pr))), (qpa, .inl (cJ, 30, .inr (.inl pa))), (qsk, .inl (cJ, 30, .inr (.inl sk))), (qld, .inl (cI, 12, .inl ld)), (qlz, .inl (cI, 12, .inl lz)), (qfw, .inl (cJ, 31, .inr (.inl fw)))] ∧ va_S A s.heap H locs ∧ lv_has ls 7 [(0, .ref mm), (1, .int x), (4, .long (u + k_come ld lz x i)), (6, .int (nI i))]) (i0 := 0) ?_ (Nat.zero_le _) ⟨hP, hD, hS, lv_sub hl [2, 3, 1, 0] rfl⟩
  intro i hi ih6 H locs ls hI
  obtain ⟨hP, hD, hS, hl⟩ := hI
  refine lv_iload hx hb dM_goDay_6 (lv_at hl 3 rfl) ?_
  refine lv_aload_n hx hb dM_goDay_8 rfl (lv_at hl 0 rfl) ?_
  refine va_get (D := (dC, dI)) (ci := 5) (v := .int (nI mn)) (C := R_M) (T := T_M) (N := 24) hx hb htw in_M hown hK hP 0 rfl rfl 15 (by decide) (htw _ m_372) (fun _ h9 => h9) rfl dM_goDay_9 ?_
  refine lv_icmp_ge (tgt := 49) hx hb dM_goDay_12 (by decide) (fun hc12 => ?_) (fun hc12 => ?_)
  · -- 12 taken
    rw [nI_leI (by omega) (by omega)] at hc12
    obtain rfl : mn = i := by omega
    have eq2 : (u + k_come ld lz x mn : Int64) = U := hU
    rw [eq2] at hl
    refine lv_aload_n hx hb dM_goDay_49 rfl (lv_at hl 0 rfl) ?_
    refine lv_dup hx hb dM_goDay_50 rfl ?_
    refine va_get (D := (dC, dI)) (ci := 5) (v := .long co) (C := R_M) (T := T_M) (N := 24) hx hb htw in_M hown hK hP 0 rfl rfl 9 (by decide) (htw _ m_366) (fun _ h9 => h9) rfl dM_goDay_51 ?_
    refine lv_lload hx hb dM_goDay_54 (lv_at hl 2 rfl) ?_
    refine lv_ladd hx hb dM_goDay_56 ?_
    refine va_put (D := (dC, dI)) (ci := 5) (v := .long (co + U)) (ty := .long) (C := R_M) (T := T_M) (N := 24) hx hb htw in_M ty_M tok_M nnm_M hown hK hP hD hS 0 rfl rfl 9 (by decide) (htw _ m_366) (fun _ h9 => h9) rfl (by decide +kernel) rfl rfl (Nat.le_of_ble_eq_true rfl) dM_goDay_57 (fun H locs hP hD hS => ?_)
    have hP : va_P (dC, dI) vwCl [(mm, .inr (5, [.int (nI ly), .int (nI ce), .ref qlo, .ref qlk, .ref qhd, .ref qsf, .ref qpr, .ref qpa, .ref qsk, .long (co + U), .long wo, .int (nI dy), .int da, .int db, .int dr, .int (nI mn), .ref qld, .ref qlz, .int (nI rn), .ref qrd, .ref qrv, .ref qhi, .ref qfw, .ref qkp])), (qlk, .inl (cI, 30, .inl lk)), (qhd, .inl (cI, 30, .inl hd)), (qsf, .inl (cI, 30, .inl sf)), (qpr, .inl (cJ, 30, .inr (.inl pr))), (qpa, .inl (cJ, 30, .inr (.inl pa))), (qsk, .inl (cJ, 30, .inr (.inl sk))), (qld, .inl (cI, 12, .inl ld)), (qlz, .inl (cI, 12, .inl lz)), (qfw, .inl (cJ, 31, .inr (.inl fw)))] H := hP
    have hD : va_D A [(mm, .inr (5, [.int (nI ly), .int (nI ce), .ref qlo, .ref qlk, .ref qhd, .ref qsf, .ref qpr, .ref qpa, .ref qsk, .long (co + U), .long wo, .int (nI dy), .int da, .int db, .int dr, .int (nI mn), .ref qld, .ref qlz, .int (nI rn), .ref qrd, .ref qrv, .ref qhi, .ref qfw, .ref qkp])), (qlk, .inl (cI, 30, .inl lk)), (qhd, .inl (cI, 30, .inl hd)), (qsf, .inl (cI, 30, .inl sf)), (qpr, .inl (cJ, 30, .inr (.inl pr))), (qpa, .inl (cJ, 30, .inr (.inl pa))), (qsk, .inl (cJ, 30, .inr (.inl sk))), (qld, .inl (cI, 12, .inl ld)), (qlz, .inl (cI, 12, .inl lz)), (qfw, .inl (cJ, 31, .inr (.inl fw)))] := hD
    refine lv_iconst (v := nI 0) hx hb dM_goDay_60 (by decide) ?_
    refine lv_istore (lv' := [(6, .int (nI 0)), (0, .ref mm), (1, .int x), (4, .long U)]) hx hb dM_goDay_61 hl (by decide) rfl (fun ls hl => ?_)
    -- the loop at 63
    have eq3 : (pr : Nat → Int64) = k_lay pr 0 U := k_lay_0
    rw [eq3] at hP hD
    have hP : va_P (dC, dI) vwCl [(mm, .inr (5, [.int (nI ly), .int (nI ce), .ref qlo, .ref qlk, .ref qhd, .ref qsf, .ref qpr, .ref qpa, .ref qsk, .long (co + U), .long wo, .int (nI dy), .int da, .int db, .int dr, .int (nI mn), .ref qld, .ref qlz, .int (nI rn), .ref qrd, .ref qrv, .ref qhi, .ref qfw, .ref qkp])), (qlk, .inl (cI, 30, .inl lk)), (qhd, .inl (cI, 30, .inl hd)), (qsf, .inl (cI, 30, .inl sf)), (qpr, .inl (cJ, 30, .inr (.inl (k_lay pr 0 U)))), (qpa, .inl (cJ, 30, .inr (.inl pa))), (qsk, .inl (cJ, 30, .inr (.inl sk))), (qld, .inl (cI, 12, .inl ld)), (qlz, .inl (cI, 12, .inl lz)), (qfw, .inl (cJ, 31, .inr (.inl fw)))] H := by first | exact hP | simpa only [] using hP
    have hD : va_D A [(mm, .inr (5, [.int (nI ly), .int (nI ce), .ref qlo, .ref qlk, .ref qhd, .ref qsf, .ref qpr, .ref qpa, .ref qsk, .long (co + U), .long wo, .int (nI dy), .int da, .int db, .int dr, .int (nI mn), .ref qld, .ref qlz, .int (nI rn), .ref qrd, .ref qrv, .ref qhi, .ref qfw, .ref qkp])), (qlk, .inl (cI, 30, .inl lk)), (qhd, .inl (cI, 30, .inl hd)), (qsf, .inl (cI, 30, .inl sf)), (qpr, .inl (cJ, 30, .inr (.inl (k_lay pr 0 U)))), (qpa, .inl (cJ, 30, .inr (.inl pa))), (qsk, .inl (cJ, 30, .inr (.inl sk))), (qld, .inl (cI, 12, .inl ld)), (qlz, .inl (cI, 12, .inl lz)), (qfw, .inl (cJ, 31, .inr (.inl fw)))] := by first | exact hD | simpa only [] using hD
    refine x_loop (N := ce) (I := fun i H locs ls => va_P (dC, dI) vwCl [(mm, .inr (5, [.int (nI ly), .int (nI ce), .ref qlo, .ref qlk, .ref qhd, .ref qsf, .ref qpr, .ref qpa, .ref qsk, .long (co + U), .long wo, .int (nI dy), .int da, .int db, .int dr, .int (nI mn), .ref qld, .ref qlz, .int (nI rn), .ref qrd, .ref qrv, .ref qhi, .ref qfw, .ref qkp])), (qlk, .inl (cI, 30, .inl lk)), (qhd, .inl (cI, 30, .inl hd)), (qsf, .inl (cI, 30, .inl sf)), (qpr, .inl (cJ, 30, .inr (.inl (k_lay pr i U)))), (qpa, .inl (cJ, 30, .inr (.inl pa))), (qsk, .inl (cJ, 30, .inr (.inl sk))), (qld, .inl (cI, 12, .inl ld)), (qlz, .inl (cI, 12, .inl lz)), (qfw, .inl (cJ, 31, .inr (.inl fw)))] H ∧ va_D A [(mm, .inr (5, [.int (nI ly), .int (nI ce), .ref qlo, .ref qlk, .ref qhd, .ref qsf, .ref qpr, .ref qpa, .ref qsk, .long (co + U), .long wo, .int (nI dy), .int da, .int db, .int dr, .int (nI mn), .ref qld, .ref qlz, .int (nI rn), .ref qrd, .ref qrv, .ref qhi, .ref qfw, .ref qkp])), (qlk, .inl (cI, 30, .inl lk)), (qhd, .inl (cI, 30, .inl hd)), (qsf, .inl (cI, 30, .inl sf)), (qpr, .inl (cJ, 30, .inr (.inl (k_lay pr i U)))), (qpa, .inl (cJ, 30, .inr (.inl pa))), (qsk, .inl (cJ, 30, .inr (.inl sk))), (qld, .inl (cI, 12, .inl ld)), (qlz, .inl (cI, 12, .inl lz)), (qfw, .inl (cJ, 31, .inr (.inl fw)))] ∧ va_S A s.heap H locs ∧ lv_has ls 7 [(0, .ref mm), (4, .long U), (6, .int (nI i))]) (i0 := 0) ?_ (Nat.zero_le _) ⟨hP, hD, hS, lv_sub hl [1, 3, 0] rfl⟩
    intro i hi ih63 H locs ls hI
    obtain ⟨hP, hD, hS, hl⟩ := hI
    refine lv_iload hx hb dM_goDay_63 (lv_at hl 2 rfl) ?_
    refine lv_aload_n hx hb dM_goDay_65 rfl (lv_at hl 0 rfl) ?_
    refine va_get (D := (dC, dI)) (ci := 5) (v := .int (nI ce)) (C := R_M) (T := T_M) (N := 24) hx hb htw in_M hown hK hP 0 rfl rfl 1 (by decide) (htw _ m_358) (fun _ h9 => h9) rfl dM_goDay_66 ?_
    refine lv_icmp_ge (tgt := 90) hx hb dM_goDay_69 (by decide) (fun hc69 => ?_) (fun hc69 => ?_)
    · -- 69 taken
      rw [nI_leI (by omega) (by omega)] at hc69
      obtain rfl : ce = i := by omega
      refine lv_iconst (v := nI 0) hx hb dM_goDay_90 (by decide) ?_
      refine lv_istore (lv' := [(6, .int (nI 0)), (0, .ref mm), (4, .long U)]) hx hb dM_goDay_91 hl (by decide) rfl (fun ls hl => ?_)
      -- the loop at 93
      have hP : va_P (dC, dI) vwCl [(mm, .inr (5, [.int (nI ly), .int (nI ce), .ref qlo, .ref qlk, .ref qhd, .ref qsf, .ref qpr, .ref qpa, .ref qsk, .long (co + U), .long (k_w lk (k_lm lk) ce da db dr (k_lay pr ce U) wo 0), .int (nI dy), .int da, .int db, .int dr, .int (nI mn), .ref qld, .ref qlz, .int (nI rn), .ref qrd, .ref qrv, .ref qhi, .ref qfw, .ref qkp])), (qlk, .inl (cI, 30, .inl lk)), (qhd, .inl (cI, 30, .inl hd)), (qsf, .inl (cI, 30, .inl sf)), (qpr, .inl (cJ, 30, .inr (.inl (k_p lk (k_lm lk) ce da db dr (k_lay pr ce U) 0)))), (qpa, .inl (cJ, 30, .inr (.inl (k_a lk (k_lm lk) ce da db dr (co + U) (k_lay pr ce U) pa 0)))), (qsk, .inl (cJ, 30, .inr (.inl (k_s hd sf lk (k_lm lk) ce da db dr (co + U) (k_lay pr ce U) pa sk 0)))), (qld, .inl (cI, 12, .inl ld)), (qlz, .inl (cI, 12, .inl lz)), (qfw, .inl (cJ, 31, .inr (.inl fw)))] H := by first | exact hP | simpa only [] using hP
      have hD : va_D A [(mm, .inr (5, [.int (nI ly), .int (nI ce), .ref qlo, .ref qlk, .ref qhd, .ref qsf, .ref qpr, .ref qpa, .ref qsk, .long (co + U), .long (k_w lk (k_lm lk) ce da db dr (k_lay pr ce U) wo 0), .int (nI dy), .int da, .int db, .int dr, .int (nI mn), .ref qld, .ref qlz, .int (nI rn), .ref qrd, .ref qrv, .ref qhi, .ref qfw, .ref qkp])), (qlk, .inl (cI, 30, .inl lk)), (qhd, .inl (cI, 30, .inl hd)), (qsf, .inl (cI, 30, .inl sf)), (qpr, .inl (cJ, 30, .inr (.inl (k_p lk (k_lm lk) ce da db dr (k_lay pr ce U) 0)))), (qpa, .inl (cJ, 30, .inr (.inl (k_a lk (k_lm lk) ce da db dr (co + U) (k_lay pr ce U) pa 0)))), (qsk, .inl (cJ, 30, .inr (.inl (k_s hd sf lk (k_lm lk) ce da db dr (co + U) (k_lay pr ce U) pa sk 0)))), (qld, .inl (cI, 12, .inl ld)), (qlz, .inl (cI, 12, .inl lz)), (qfw, .inl (cJ, 31, .inr (.inl fw)))] := by first | exact hD | simpa only [] using hD
      refine x_loop (N := 24) (I := fun i H locs ls => ∃ (fw3 : Nat → Int64), va_P (dC, dI) vwCl [(mm, .inr (5, [.int (nI ly), .int (nI ce), .ref qlo, .ref qlk, .ref qhd, .ref qsf, .ref qpr, .ref qpa, .ref qsk, .long (co + U), .long (k_w lk (k_lm lk) ce da db dr (k_lay pr ce U) wo i), .int (nI dy), .int da, .int db, .int dr, .int (nI mn), .ref qld, .ref qlz, .int (nI rn), .ref qrd, .ref qrv, .ref qhi, .ref qfw, .ref qkp])), (qlk, .inl (cI, 30, .inl lk)), (qhd, .inl (cI, 30, .inl hd)), (qsf, .inl (cI, 30, .inl sf)), (qpr, .inl (cJ, 30, .inr (.inl (k_p lk (k_lm lk) ce da db dr (k_lay pr ce U) i)))), (qpa, .inl (cJ, 30, .inr (.inl (k_a lk (k_lm lk) ce da db dr (co + U) (k_lay pr ce U) pa i)))), (qsk, .inl (cJ, 30, .inr (.inl (k_s hd sf lk (k_lm lk) ce da db dr (co + U) (k_lay pr ce U) pa sk i)))), (qld, .inl (cI, 12, .inl ld)), (qlz, .inl (cI, 12, .inl lz)), (qfw, .inl (cJ, 31, .inr (.inl fw3)))] H ∧ va_D A [(mm, .inr (5, [.int (nI ly), .int (nI ce), .ref qlo, .ref qlk, .ref qhd, .ref qsf, .ref qpr, .ref qpa, .ref qsk, .long (co + U), .long (k_w lk (k_lm lk) ce da db dr (k_lay pr ce U) wo i), .int (nI dy), .int da, .int db, .int dr, .int (nI mn), .ref qld, .ref qlz, .int (nI rn), .ref qrd, .ref qrv, .ref qhi, .ref qfw, .ref qkp])), (qlk, .inl (cI, 30, .inl lk)), (qhd, .inl (cI, 30, .inl hd)), (qsf, .inl (cI, 30, .inl sf)), (qpr, .inl (cJ, 30, .inr (.inl (k_p lk (k_lm lk) ce da db dr (k_lay pr ce U) i)))), (qpa, .inl (cJ, 30, .inr (.inl (k_a lk (k_lm lk) ce da db dr (co + U) (k_lay pr ce U) pa i)))), (qsk, .inl (cJ, 30, .inr (.inl (k_s hd sf lk (k_lm lk) ce da db dr (co + U) (k_lay pr ce U) pa sk i)))), (qld, .inl (cI, 12, .inl ld)), (qlz, .inl (cI, 12, .inl lz)), (qfw, .inl (cJ, 31, .inr (.inl fw3)))] ∧ va_S A s.heap H locs ∧ lv_has ls 7 [(0, .ref mm), (6, .int (nI i))]) (i0 := 0) ?_ (Nat.zero_le _) ⟨fw, hP, hD, hS, lv_sub hl [1, 0] rfl⟩
      intro i hi ih93 H locs ls hI
      obtain ⟨fw3, hP, hD, hS, hl⟩ := hI
      refine lv_iload hx hb dM_goDay_93 (lv_at hl 1 rfl) ?_
      refine lv_bipush (v := nI 24) hx hb dM_goDay_95 (by decide) ?_
      refine lv_icmp_ge (tgt := 110) hx hb dM_goDay_97 (by decide) (fun hc97 => ?_) (fun hc97 => ?_)
      · -- 97 taken
        rw [nI_leI (by omega) (by omega)] at hc97
        obtain rfl : i = 24 := by omega
        have hP : va_P (dC, dI) vwCl [(mm, .inr (5, [.int (nI ly), .int (nI ce), .ref qlo, .ref qlk, .ref qhd, .ref qsf, .ref qpr, .ref qpa, .ref qsk, .long (co + U), .long (k_w lk (k_lm lk) ce da db dr (k_lay pr ce U) wo 24), .int (nI dy), .int da, .int db, .int dr, .int (nI mn), .ref qld, .ref qlz, .int (nI rn), .ref qrd, .ref qrv, .ref qhi, .ref qfw, .ref qkp])), (qlk, .inl (cI, 30, .inl lk)), (qhd, .inl (cI, 30, .inl hd)), (qsf, .inl (cI, 30, .inl sf)), (qpr, .inl (cJ, 30, .inr (.inl (k_p lk (k_lm lk) ce da db dr (k_lay pr ce U) 24)))), (qpa, .inl (cJ, 30, .inr (.inl (k_a lk (k_lm lk) ce da db dr (co + U) (k_lay pr ce U) pa 24)))), (qsk, .inl (cJ, 30, .inr (.inl (k_s hd sf lk (k_lm lk) ce da db dr (co + U) (k_lay pr ce U) pa sk 24)))), (qld, .inl (cI, 12, .inl ld)), (qlz, .inl (cI, 12, .inl lz)), (qfw, .inl (cJ, 31, .inr (.inl fw3)))] H := by first | exact hP | simpa only [] using hP
        have hD : va_D A [(mm, .inr (5, [.int (nI ly), .int (nI ce), .ref qlo, .ref qlk, .ref qhd, .ref qsf, .ref qpr, .ref qpa, .ref qsk, .long (co + U), .long (k_w lk (k_lm lk) ce da db dr (k_lay pr ce U) wo 24), .int (nI dy), .int da, .int db, .int dr, .int (nI mn), .ref qld, .ref qlz, .int (nI rn), .ref qrd, .ref qrv, .ref qhi, .ref qfw, .ref qkp])), (qlk, .inl (cI, 30, .inl lk)), (qhd, .inl (cI, 30, .inl hd)), (qsf, .inl (cI, 30, .inl sf)), (qpr, .inl (cJ, 30, .inr (.inl (k_p lk (k_lm lk) ce da db dr (k_lay pr ce U) 24)))), (qpa, .inl (cJ, 30, .inr (.inl (k_a lk (k_lm lk) ce da db dr (co + U) (k_lay pr ce U) pa 24)))), (qsk, .inl (cJ, 30, .inr (.inl (k_s hd sf lk (k_lm lk) ce da db dr (co + U) (k_lay pr ce U) pa sk 24)))), (qld, .inl (cI, 12, .inl ld)), (qlz, .inl (cI, 12, .inl lz)), (qfw, .inl (cJ, 31, .inr (.inl fw3)))] := by first | exact hD | simpa only [] using hD
        exact W.vret hx hb hr (fun t ht hW => ⟨⟨(), rfl, trivial, fw3, by rw [ht]; exact hP, va_K.moved hW.alike hK, hD⟩, hS.F ht⟩) hS.2.2 dM_goDay_110
      · -- 97 not taken
        rw [nI_leI (by omega) (by omega)] at hc97
        refine lv_aload_n hx hb dM_goDay_100 rfl (lv_at hl 0 rfl) ?_
        have hPc := hP.sub (ws' := [(mm, .inr (5, [.int (nI ly), .int (nI ce), .ref qlo, .ref qlk, .ref qhd, .ref qsf, .ref qpr, .ref qpa, .ref qsk, .long (co + U), .long (k_w lk (k_lm lk) ce da db dr (k_lay pr ce U) wo i), .int (nI dy), .int da, .int db, .int dr, .int (nI mn), .ref qld, .ref qlz, .int (nI rn), .ref qrd, .ref qrv, .ref qhi, .ref qfw, .ref qkp])), (qlk, .inl (cI, 30, .inl lk)), (qhd, .inl (cI, 30, .inl hd)), (qsf, .inl (cI, 30, .inl sf)), (qpr, .inl (cJ, 30, .inr (.inl (k_p lk (k_lm lk) ce da db dr (k_lay pr ce U) i)))), (qpa, .inl (cJ, 30, .inr (.inl (k_a lk (k_lm lk) ce da db dr (co + U) (k_lay pr ce U) pa i)))), (qsk, .inl (cJ, 30, .inr (.inl (k_s hd sf lk (k_lm lk) ce da db dr (co + U) (k_lay pr ce U) pa sk i)))), (qfw, .inl (cJ, 31, .inr (.inl fw3)))]) [0, 1, 2, 3, 4, 5, 6, 9] rfl
        have hDc := hD.sub (ws' := [(mm, .inr (5, [.int (nI ly), .int (nI ce), .ref qlo, .ref qlk, .ref qhd, .ref qsf, .ref qpr, .ref qpa, .ref qsk, .long (co + U), .long (k_w lk (k_lm lk) ce da db dr (k_lay pr ce U) wo i), .int (nI dy), .int da, .int db, .int dr, .int (nI mn), .ref qld, .ref qlz, .int (nI rn), .ref qrd, .ref qrv, .ref qhi, .ref qfw, .ref qkp])), (qlk, .inl (cI, 30, .inl lk)), (qhd, .inl (cI, 30, .inl hd)), (qsf, .inl (cI, 30, .inl sf)), (qpr, .inl (cJ, 30, .inr (.inl (k_p lk (k_lm lk) ce da db dr (k_lay pr ce U) i)))), (qpa, .inl (cJ, 30, .inr (.inl (k_a lk (k_lm lk) ce da db dr (co + U) (k_lay pr ce U) pa i)))), (qsk, .inl (cJ, 30, .inr (.inl (k_s hd sf lk (k_lm lk) ce da db dr (co + U) (k_lay pr ce U) pa sk i)))), (qfw, .inl (cJ, 31, .inr (.inl fw3)))]) [0, 1, 2, 3, 4, 5, 6, 9] (by decide) rfl
        have hFc := va_free (wc := [(mm, .inr (5, [.int (nI ly), .int (nI ce), .ref qlo, .ref qlk, .ref qhd, .ref qsf, .ref qpr, .ref qpa, .ref qsk, .long (co + U), .long (k_w lk (k_lm lk) ce da db dr (k_lay pr ce U) wo i), .int (nI dy), .int da, .int db, .int dr, .int (nI mn), .ref qld, .ref qlz, .int (nI rn), .ref qrd, .ref qrv, .ref qhi, .ref qfw, .ref qkp])), (qlk, .inl (cI, 30, .inl lk)), (qhd, .inl (cI, 30, .inl hd)), (qsf, .inl (cI, 30, .inl sf)), (qpr, .inl (cJ, 30, .inr (.inl (k_p lk (k_lm lk) ce da db dr (k_lay pr ce U) i)))), (qpa, .inl (cJ, 30, .inr (.inl (k_a lk (k_lm lk) ce da db dr (co + U) (k_lay pr ce U) pa i)))), (qsk, .inl (cJ, 30, .inr (.inl (k_s hd sf lk (k_lm lk) ce da db dr (co + U) (k_lay pr ce U) pa sk i)))), (qfw, .inl (cJ, 31, .inr (.inl fw3)))]) hD hS hA [0, 1, 2, 3, 4, 5, 6, 9] rfl
        refine va_callv (va_runV (As := []) (rest := []) ⟨hx, hb, hml, hown, htw⟩ (kM_step l dC dI cI cJ mm qlo qlk qhd qsf qpr qpa qsk qld qlz qrd qrv qhi qfw qkp H.size ly ce (co + U) (k_w lk (k_lm lk) ce da db dr (k_lay pr ce U) wo i) dy da db dr mn rn lk hd sf (k_p lk (k_lm lk) ce da db dr (k_lay pr ce U) i) (k_a lk (k_lm lk) ce da db dr (co + U) (k_lay pr ce U) pa i) (k_s hd sf lk (k_lm lk) ce da db dr (co + U) (k_lay pr ce U) pa sk i) fw3 (by first | assumption | omega | decide)) (cwV 0 htw (wv_good m_461 m_463 ms_6 m_6 m_464) rfl rfl rfl (by decide +kernel) ⟨Nat.le_of_ble_eq_true rfl, Nat.le_of_ble_eq_true rfl⟩) ⟨fun a U g mk q => by obtain ⟨q0, q1, qP, qK, qD⟩ := q; exact ⟨q0, q1, qP, va_K.moved (u := U) (U := U.calling g mk a) (Vm.Alike.refl U.vm) qK, qD⟩, va_recv hK hPc (ci := 5) (q0 := 0) rfl rfl, fun U hU hW => ⟨rfl, by rw [hU], by rw [hU]; exact hPc, va_K.moved hW.alike hK, hDc.weaken (fun _ _ _ _ => trivial)⟩⟩ rfl rfl hl.1 rfl (lv_room (Nat.le_of_ble_eq_true rfl)) dM_goDay_101 ⟨Nat.le_of_ble_eq_true rfl, Nat.le_of_ble_eq_true rfl⟩) hS (fun q _ h => hFc q h) hFc (fun u_ t H1 locs ht hvm hw hB hz1 hk1 hS => ?_)
        obtain ⟨fw2_8, hP1, hK1, hD1⟩ := hB
        rw [ht] at hP1
        obtain ⟨hP, hD⟩ := va_join (wr := [(qld, .inl (cI, 12, .inl ld)), (qlz, .inl (cI, 12, .inl lz))]) (w1 := [(mm, .inr (5, [.int (nI ly), .int (nI ce), .ref qlo, .ref qlk, .ref qhd, .ref qsf, .ref qpr, .ref qpa, .ref qsk, .long (co + U), .long (k_ow lk (k_lm lk) ce da db dr (k_p lk (k_lm lk) ce da db dr (k_lay pr ce U) i) (k_w lk (k_lm lk) ce da db dr (k_lay pr ce U) wo i) ce + k_fl lk (k_lm lk) ce da db (k_p lk (k_lm lk) ce da db dr (k_lay pr ce U) i) ce), .int (nI dy), .int da, .int db, .int dr, .int (nI mn), .ref qld, .ref qlz, .int (nI rn), .ref qrd, .ref qrv, .ref qhi, .ref qfw, .ref qkp])), (qlk, .inl (cI, 30, .inl lk)), (qhd, .inl (cI, 30, .inl hd)), (qsf, .inl (cI, 30, .inl sf)), (qpr, .inl (cJ, 30, .inr (.inl (k_np lk (k_lm lk) ce da db dr (k_p lk (k_lm lk) ce da db dr (k_lay pr ce U) i) ce)))), (qpa, .inl (cJ, 30, .inr (.inl (k_rs (co + U) (k_np lk (k_lm lk) ce da db dr (k_p lk (k_lm lk) ce da db dr (k_lay pr ce U) i) ce) (k_a lk (k_lm lk) ce da db dr (co + U) (k_lay pr ce U) pa i) ce)))), (qsk, .inl (cJ, 30, .inr (.inl (k_ss hd sf (co + U) (k_p lk (k_lm lk) ce da db dr (k_lay pr ce U) i) (k_np lk (k_lm lk) ce da db dr (k_p lk (k_lm lk) ce da db dr (k_lay pr ce U) i) ce) (k_a lk (k_lm lk) ce da db dr (co + U) (k_lay pr ce U) pa i) (k_s hd sf lk (k_lm lk) ce da db dr (co + U) (k_lay pr ce U) pa sk i) ce)))), (qfw, .inl (cJ, 31, .inr (.inl fw2_8)))]) hP hD [0, 1, 2, 3, 4, 5, 6, 9] [7, 8] rfl rfl (by decide) (by decide) hk1 hFc hP1 hD1
        generalize H1 = H at hP hS ⊢
        have hP := hP.sub (ws' := [(mm, .inr (5, [.int (nI ly), .int (nI ce), .ref qlo, .ref qlk, .ref qhd, .ref qsf, .ref qpr, .ref qpa, .ref qsk, .long (co + U), .long (k_ow lk (k_lm lk) ce da db dr (k_p lk (k_lm lk) ce da db dr (k_lay pr ce U) i) (k_w lk (k_lm lk) ce da db dr (k_lay pr ce U) wo i) ce + k_fl lk (k_lm lk) ce da db (k_p lk (k_lm lk) ce da db dr (k_lay pr ce U) i) ce), .int (nI dy), .int da, .int db, .int dr, .int (nI mn), .ref qld, .ref qlz, .int (nI rn), .ref qrd, .ref qrv, .ref qhi, .ref qfw, .ref qkp])), (qlk, .inl (cI, 30, .inl lk)), (qhd, .inl (cI, 30, .inl hd)), (qsf, .inl (cI, 30, .inl sf)), (qpr, .inl (cJ, 30, .inr (.inl (k_np lk (k_lm lk) ce da db dr (k_p lk (k_lm lk) ce da db dr (k_lay pr ce U) i) ce)))), (qpa, .inl (cJ, 30, .inr (.inl (k_rs (co + U) (k_np lk (k_lm lk) ce da db dr (k_p lk (k_lm lk) ce da db dr (k_lay pr ce U) i) ce) (k_a lk (k_lm lk) ce da db dr (co + U) (k_lay pr ce U) pa i) ce)))), (qsk, .inl (cJ, 30, .inr (.inl (k_ss hd sf (co + U) (k_p lk (k_lm lk) ce da db dr (k_lay pr ce U) i) (k_np lk (k_lm lk) ce da db dr (k_p lk (k_lm lk) ce da db dr (k_lay pr ce U) i) ce) (k_a lk (k_lm lk) ce da db dr (co + U) (k_lay pr ce U) pa i) (k_s hd sf lk (k_lm lk) ce da db dr (co + U) (k_lay pr ce U) pa sk i) ce)))), (qld, .inl (cI, 12, .inl ld)), (qlz, .inl (cI, 12, .inl lz)), (qfw, .inl (cJ, 31, .inr (.inl fw2_8)))]) [2, 3, 4, 5, 6, 7, 8, 0, 1, 9] rfl
        have hD := hD.sub (ws' := [(mm, .inr (5, [.int (nI ly), .int (nI ce), .ref qlo, .ref qlk, .ref qhd, .ref qsf, .ref qpr, .ref qpa, .ref qsk, .long (co + U), .long (k_ow lk (k_lm lk) ce da db dr (k_p lk (k_lm lk) ce da db dr (k_lay pr ce U) i) (k_w lk (k_lm lk) ce da db dr (k_lay pr ce U) wo i) ce + k_fl lk (k_lm lk) ce da db (k_p lk (k_lm lk) ce da db dr (k_lay pr ce U) i) ce), .int (nI dy), .int da, .int db, .int dr, .int (nI mn), .ref qld, .ref qlz, .int (nI rn), .ref qrd, .ref qrv, .ref qhi, .ref qfw, .ref qkp])), (qlk, .inl (cI, 30, .inl lk)), (qhd, .inl (cI, 30, .inl hd)), (qsf, .inl (cI, 30, .inl sf)), (qpr, .inl (cJ, 30, .inr (.inl (k_np lk (k_lm lk) ce da db dr (k_p lk (k_lm lk) ce da db dr (k_lay pr ce U) i) ce)))), (qpa, .inl (cJ, 30, .inr (.inl (k_rs (co + U) (k_np lk (k_lm lk) ce da db dr (k_p lk (k_lm lk) ce da db dr (k_lay pr ce U) i) ce) (k_a lk (k_lm lk) ce da db dr (co + U) (k_lay pr ce U) pa i) ce)))), (qsk, .inl (cJ, 30, .inr (.inl (k_ss hd sf (co + U) (k_p lk (k_lm lk) ce da db dr (k_lay pr ce U) i) (k_np lk (k_lm lk) ce da db dr (k_p lk (k_lm lk) ce da db dr (k_lay pr ce U) i) ce) (k_a lk (k_lm lk) ce da db dr (co + U) (k_lay pr ce U) pa i) (k_s hd sf lk (k_lm lk) ce da db dr (co + U) (k_lay pr ce U) pa sk i) ce)))), (qld, .inl (cI, 12, .inl ld)), (qlz, .inl (cI, 12, .inl lz)), (qfw, .inl (cJ, 31, .inr (.inl fw2_8)))]) [2, 3, 4, 5, 6, 7, 8, 0, 1, 9] (by decide) rfl
        clear hPc hDc hFc hP1 hD1 hK1 hk1 hz1 hvm ht
        refine lv_iinc (v := nI (i + 1)) (lv' := [(6, .int (nI (i + 1))), (0, .ref mm)]) hx hb dM_goDay_104 hl (k := 1) rfl (nI_1 _) (by decide) rfl (fun ls hl => ?_)
        refine lv_goto (tgt := 93) hx hb dM_goDay_107 (by decide) ?_
        have hP : va_P (dC, dI) vwCl [(mm, .inr (5, [.int (nI ly), .int (nI ce), .ref qlo, .ref qlk, .ref qhd, .ref qsf, .ref qpr, .ref qpa, .ref qsk, .long (co + U), .long (k_w lk (k_lm lk) ce da db dr (k_lay pr ce U) wo (i + 1)), .int (nI dy), .int da, .int db, .int dr, .int (nI mn), .ref qld, .ref qlz, .int (nI rn), .ref qrd, .ref qrv, .ref qhi, .ref qfw, .ref qkp])), (qlk, .inl (cI, 30, .inl lk)), (qhd, .inl (cI, 30, .inl hd)), (qsf, .inl (cI, 30, .inl sf)), (qpr, .inl (cJ, 30, .inr (.inl (k_p lk (k_lm lk) ce da db dr (k_lay pr ce U) (i + 1))))), (qpa, .inl (cJ, 30, .inr (.inl (k_a lk (k_lm lk) ce da db dr (co + U) (k_lay pr ce U) pa (i + 1))))), (qsk, .inl (cJ, 30, .inr (.inl (k_s hd sf lk (k_lm lk) ce da db dr (co + U) (k_lay pr ce U) pa sk (i + 1))))), (qld, .inl (cI, 12, .inl ld)), (qlz, .inl (cI, 12, .inl lz)), (qfw, .inl (cJ, 31, .inr (.inl fw2_8)))] H := by first | exact hP | simpa only [] using hP
        have hD : va_D A [(mm, .inr (5, [.int (nI ly), .int (nI ce), .ref qlo, .ref qlk, .ref qhd, .ref qsf, .ref qpr, .ref qpa, .ref qsk, .long (co + U), .long (k_w lk (k_lm lk) ce da db dr (k_lay pr ce U) wo (i + 1)), .int (nI dy), .int da, .int db, .int dr, .int (nI mn), .ref qld, .ref qlz, .int (nI rn), .ref qrd, .ref qrv, .ref qhi, .ref qfw, .ref qkp])), (qlk, .inl (cI, 30, .inl lk)), (qhd, .inl (cI, 30, .inl hd)), (qsf, .inl (cI, 30, .inl sf)), (qpr, .inl (cJ, 30, .inr (.inl (k_p lk (k_lm lk) ce da db dr (k_lay pr ce U) (i + 1))))), (qpa, .inl (cJ, 30, .inr (.inl (k_a lk (k_lm lk) ce da db dr (co + U) (k_lay pr ce U) pa (i + 1))))), (qsk, .inl (cJ, 30, .inr (.inl (k_s hd sf lk (k_lm lk) ce da db dr (co + U) (k_lay pr ce U) pa sk (i + 1))))), (qld, .inl (cI, 12, .inl ld)), (qlz, .inl (cI, 12, .inl lz)), (qfw, .inl (cJ, 31, .inr (.inl fw2_8)))] := by first | exact hD | simpa only [] using hD
        exact ih93 (by omega) _ _ _ ⟨fw2_8, hP, hD, hS, lv_sub hl [1, 0] rfl⟩
    · -- 69 not taken
      rw [nI_leI (by omega) (by omega)] at hc69
      refine lv_aload_n hx hb dM_goDay_72 rfl (lv_at hl 0 rfl) ?_
      refine va_get (D := (dC, dI)) (ci := 5) (v := .ref qpr) (C := R_M) (T := T_M) (N := 24) hx hb htw in_M hown hK hP 0 rfl rfl 6 (by decide) (htw _ m_363) (fun _ h9 => h9) rfl dM_goDay_73 ?_
      refine lv_iload hx hb dM_goDay_76 (lv_at hl 2 rfl) ?_
      refine lv_dup2_11 hx hb dM_goDay_78 rfl rfl ?_
      refine xa_lald hx hb hK hP 4 1 rfl rfl (i := i) (by omega) (by decide) dM_goDay_79 ?_
      refine lv_lload hx hb dM_goDay_80 (lv_at hl 1 rfl) ?_
      refine lv_ladd hx hb dM_goDay_82 ?_
      refine xa_last hx hb hK hP hD hS 4 1 rfl rfl (i := i) (by omega) (by decide) dM_goDay_83 (fun H locs hP hD hS => ?_)
      have hP : va_P (dC, dI) vwCl [(mm, .inr (5, [.int (nI ly), .int (nI ce), .ref qlo, .ref qlk, .ref qhd, .ref qsf, .ref qpr, .ref qpa, .ref qsk, .long (co + U), .long wo, .int (nI dy), .int da, .int db, .int dr, .int (nI mn), .ref qld, .ref qlz, .int (nI rn), .ref qrd, .ref qrv, .ref qhi, .ref qfw, .ref qkp])), (qlk, .inl (cI, 30, .inl lk)), (qhd, .inl (cI, 30, .inl hd)), (qsf, .inl (cI, 30, .inl sf)), (qpr, .inl (cJ, 30, .inr (.inl (vp_updL (k_lay pr i U) i (((k_lay pr i U) i) + U))))), (qpa, .inl (cJ, 30, .inr (.inl pa))), (qsk, .inl (cJ, 30, .inr (.inl sk))), (qld, .inl (cI, 12, .inl ld)), (qlz, .inl (cI, 12, .inl lz)), (qfw, .inl (cJ, 31, .inr (.inl fw)))] H := hP
      have hD : va_D A [(mm, .inr (5, [.int (nI ly), .int (nI ce), .ref qlo, .ref qlk, .ref qhd, .ref qsf, .ref qpr, .ref qpa, .ref qsk, .long (co + U), .long wo, .int (nI dy), .int da, .int db, .int dr, .int (nI mn), .ref qld, .ref qlz, .int (nI rn), .ref qrd, .ref qrv, .ref qhi, .ref qfw, .ref qkp])), (qlk, .inl (cI, 30, .inl lk)), (qhd, .inl (cI, 30, .inl hd)), (qsf, .inl (cI, 30, .inl sf)), (qpr, .inl (cJ, 30, .inr (.inl (vp_updL (k_lay pr i U) i (((k_lay pr i U) i) + U))))), (qpa, .inl (cJ, 30, .inr (.inl pa))), (qsk, .inl (cJ, 30, .inr (.inl sk))), (qld, .inl (cI, 12, .inl ld)), (qlz, .inl (cI, 12, .inl lz)), (qfw, .inl (cJ, 31, .inr (.inl fw)))] := hD
      refine lv_iinc (v := nI (i + 1)) (lv' := [(6, .int (nI (i + 1))), (0, .ref mm), (4, .long U)]) hx hb dM_goDay_84 hl (k := 2) rfl (nI_1 _) (by decide) rfl (fun ls hl => ?_)
      refine lv_goto (tgt := 63) hx hb dM_goDay_87 (by decide) ?_
      have eq14 : (vp_updL (k_lay pr i U) i (((k_lay pr i U) i) + U) : Nat → Int64) = k_lay pr (i + 1) U := k_lay_s
      rw [eq14] at hP hD
      have hP : va_P (dC, dI) vwCl [(mm, .inr (5, [.int (nI ly), .int (nI ce), .ref qlo, .ref qlk, .ref qhd, .ref qsf, .ref qpr, .ref qpa, .ref qsk, .long (co + U), .long wo, .int (nI dy), .int da, .int db, .int dr, .int (nI mn), .ref qld, .ref qlz, .int (nI rn), .ref qrd, .ref qrv, .ref qhi, .ref qfw, .ref qkp])), (qlk, .inl (cI, 30, .inl lk)), (qhd, .inl (cI, 30, .inl hd)), (qsf, .inl (cI, 30, .inl sf)), (qpr, .inl (cJ, 30, .inr (.inl (k_lay pr (i + 1) U)))), (qpa, .inl (cJ, 30, .inr (.inl pa))), (qsk, .inl (cJ, 30, .inr (.inl sk))), (qld, .inl (cI, 12, .inl ld)), (qlz, .inl (cI, 12, .inl lz)), (qfw, .inl (cJ, 31, .inr (.inl fw)))] H := by first | exact hP | simpa only [] using hP
      have hD : va_D A [(mm, .inr (5, [.int (nI ly), .int (nI ce), .ref qlo, .ref qlk, .ref qhd, .ref qsf, .ref qpr, .ref qpa, .ref qsk, .long (co + U), .long wo, .int (nI dy), .int da, .int db, .int dr, .int (nI mn), .ref qld, .ref qlz, .int (nI rn), .ref qrd, .ref qrv, .ref qhi, .ref qfw, .ref qkp])), (qlk, .inl (cI, 30, .inl lk)), (qhd, .inl (cI, 30, .inl hd)), (qsf, .inl (cI, 30, .inl sf)), (qpr, .inl (cJ, 30, .inr (.inl (k_lay pr (i + 1) U)))), (qpa, .inl (cJ, 30, .inr (.inl pa))), (qsk, .inl (cJ, 30, .inr (.inl sk))), (qld, .inl (cI, 12, .inl ld)), (qlz, .inl (cI, 12, .inl lz)), (qfw, .inl (cJ, 31, .inr (.inl fw)))] := by first | exact hD | simpa only [] using hD
      exact ih63 (by omega) _ _ _ ⟨hP, hD, hS, lv_sub hl [1, 2, 0] rfl⟩
  · -- 12 not taken
    rw [nI_leI (by omega) (by omega)] at hc12
    refine lv_lload hx hb dM_goDay_15 (lv_at hl 2 rfl) ?_
    refine lv_aload_n hx hb dM_goDay_17 rfl (lv_at hl 0 rfl) ?_
    refine va_get (D := (dC, dI)) (ci := 5) (v := .ref qld) (C := R_M) (T := T_M) (N := 24) hx hb htw in_M hown hK hP 0 rfl rfl 16 (by decide) (htw _ m_373) (fun _ h9 => h9) rfl dM_goDay_18 ?_
    refine lv_iload hx hb dM_goDay_21 (lv_at hl 3 rfl) ?_
    refine xa_iald hx hb hK hP 7 0 rfl rfl (i := i) (by omega) (by decide) dM_goDay_23 ?_
    refine lv_iload_n hx hb dM_goDay_24 rfl (lv_at hl 1 rfl) ?_
    refine lv_icmp_ne (tgt := 39) hx hb dM_goDay_25 (by decide) (fun hc25 => ?_) (fun hc25 => ?_)
    · -- 25 taken
      refine lv_lconst (v := 0) hx hb dM_goDay_39 (by decide) ?_
      refine lv_ladd hx hb dM_goDay_40 ?_
      refine lv_lstore (lv' := [(4, .long ((u + k_come ld lz x i) + 0)), (0, .ref mm), (1, .int x), (6, .int (nI i))]) hx hb dM_goDay_41 hl (by decide) rfl (fun ls hl => ?_)
      refine lv_iinc (v := nI (i + 1)) (lv' := [(6, .int (nI (i + 1))), (4, .long ((u + k_come ld lz x i) + 0)), (0, .ref mm), (1, .int x)]) hx hb dM_goDay_43 hl (k := 3) rfl (nI_1 _) (by decide) rfl (fun ls hl => ?_)
      refine lv_goto (tgt := 6) hx hb dM_goDay_46 (by decide) ?_
      have hP : va_P (dC, dI) vwCl [(mm, .inr (5, [.int (nI ly), .int (nI ce), .ref qlo, .ref qlk, .ref qhd, .ref qsf, .ref qpr, .ref qpa, .ref qsk, .long co, .long wo, .int (nI dy), .int da, .int db, .int dr, .int (nI mn), .ref qld, .ref qlz, .int (nI rn), .ref qrd, .ref qrv, .ref qhi, .ref qfw, .ref qkp])), (qlk, .inl (cI, 30, .inl lk)), (qhd, .inl (cI, 30, .inl hd)), (qsf, .inl (cI, 30, .inl sf)), (qpr, .inl (cJ, 30, .inr (.inl pr))), (qpa, .inl (cJ, 30, .inr (.inl pa))), (qsk, .inl (cJ, 30, .inr (.inl sk))), (qld, .inl (cI, 12, .inl ld)), (qlz, .inl (cI, 12, .inl lz)), (qfw, .inl (cJ, 31, .inr (.inl fw)))] H := by first | exact hP | simpa only [] using hP
      have hD : va_D A [(mm, .inr (5, [.int (nI ly), .int (nI ce), .ref qlo, .ref qlk, .ref qhd, .ref qsf, .ref qpr, .ref qpa, .ref qsk, .long co, .long wo, .int (nI dy), .int da, .int db, .int dr, .int (nI mn), .ref qld, .ref qlz, .int (nI rn), .ref qrd, .ref qrv, .ref qhi, .ref qfw, .ref qkp])), (qlk, .inl (cI, 30, .inl lk)), (qhd, .inl (cI, 30, .inl hd)), (qsf, .inl (cI, 30, .inl sf)), (qpr, .inl (cJ, 30, .inr (.inl pr))), (qpa, .inl (cJ, 30, .inr (.inl pa))), (qsk, .inl (cJ, 30, .inr (.inl sk))), (qld, .inl (cI, 12, .inl ld)), (qlz, .inl (cI, 12, .inl lz)), (qfw, .inl (cJ, 31, .inr (.inl fw)))] := by first | exact hD | simpa only [] using hD
      have eq15 : ((u + k_come ld lz x i) + 0) = u + k_come ld lz x (i + 1) := k_more_f hc25
      rw [eq15] at hl
      exact ih6 (by omega) _ _ _ ⟨hP, hD, hS, lv_sub hl [2, 3, 1, 0] rfl⟩
    · -- 25 not taken
      refine lv_aload_n hx hb dM_goDay_28 rfl (lv_at hl 0 rfl) ?_
      refine va_get (D := (dC, dI)) (ci := 5) (v := .ref qlz) (C := R_M) (T := T_M) (N := 24) hx hb htw in_M hown hK hP 0 rfl rfl 17 (by decide) (htw _ m_374) (fun _ h9 => h9) rfl dM_goDay_29 ?_
      refine lv_iload hx hb dM_goDay_32 (lv_at hl 3 rfl) ?_
      refine xa_iald hx hb hK hP 8 0 rfl rfl (i := i) (by omega) (by decide) dM_goDay_34 ?_
      refine lv_i2l (v := (lz i).toInt64) hx hb dM_goDay_35 rfl ?_
      refine lv_goto (tgt := 40) hx hb dM_goDay_36 (by decide) ?_
      refine lv_ladd hx hb dM_goDay_40 ?_
      refine lv_lstore (lv' := [(4, .long ((u + k_come ld lz x i) + ((lz i).toInt64))), (0, .ref mm), (1, .int x), (6, .int (nI i))]) hx hb dM_goDay_41 hl (by decide) rfl (fun ls hl => ?_)
      refine lv_iinc (v := nI (i + 1)) (lv' := [(6, .int (nI (i + 1))), (4, .long ((u + k_come ld lz x i) + ((lz i).toInt64))), (0, .ref mm), (1, .int x)]) hx hb dM_goDay_43 hl (k := 3) rfl (nI_1 _) (by decide) rfl (fun ls hl => ?_)
      refine lv_goto (tgt := 6) hx hb dM_goDay_46 (by decide) ?_
      have hP : va_P (dC, dI) vwCl [(mm, .inr (5, [.int (nI ly), .int (nI ce), .ref qlo, .ref qlk, .ref qhd, .ref qsf, .ref qpr, .ref qpa, .ref qsk, .long co, .long wo, .int (nI dy), .int da, .int db, .int dr, .int (nI mn), .ref qld, .ref qlz, .int (nI rn), .ref qrd, .ref qrv, .ref qhi, .ref qfw, .ref qkp])), (qlk, .inl (cI, 30, .inl lk)), (qhd, .inl (cI, 30, .inl hd)), (qsf, .inl (cI, 30, .inl sf)), (qpr, .inl (cJ, 30, .inr (.inl pr))), (qpa, .inl (cJ, 30, .inr (.inl pa))), (qsk, .inl (cJ, 30, .inr (.inl sk))), (qld, .inl (cI, 12, .inl ld)), (qlz, .inl (cI, 12, .inl lz)), (qfw, .inl (cJ, 31, .inr (.inl fw)))] H := by first | exact hP | simpa only [] using hP
      have hD : va_D A [(mm, .inr (5, [.int (nI ly), .int (nI ce), .ref qlo, .ref qlk, .ref qhd, .ref qsf, .ref qpr, .ref qpa, .ref qsk, .long co, .long wo, .int (nI dy), .int da, .int db, .int dr, .int (nI mn), .ref qld, .ref qlz, .int (nI rn), .ref qrd, .ref qrv, .ref qhi, .ref qfw, .ref qkp])), (qlk, .inl (cI, 30, .inl lk)), (qhd, .inl (cI, 30, .inl hd)), (qsf, .inl (cI, 30, .inl sf)), (qpr, .inl (cJ, 30, .inr (.inl pr))), (qpa, .inl (cJ, 30, .inr (.inl pa))), (qsk, .inl (cJ, 30, .inr (.inl sk))), (qld, .inl (cI, 12, .inl ld)), (qlz, .inl (cI, 12, .inl lz)), (qfw, .inl (cJ, 31, .inr (.inl fw)))] := by first | exact hD | simpa only [] using hD
      have eq16 : ((u + k_come ld lz x i) + ((lz i).toInt64)) = u + k_come ld lz x (i + 1) := k_more_t hc25
      rw [eq16] at hl
      exact ih6 (by omega) _ _ _ ⟨hP, hD, hS, lv_sub hl [2, 3, 1, 0] rfl⟩
